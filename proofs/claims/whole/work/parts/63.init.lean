-- printed by wip/whole/src/walk.py: words for making things
set_option maxRecDepth 20000 in
theorem w_oiI : Cond.instanceMethod Lib.objectInit ∈ AW := aw_in (tb_1 (List.mem_of_getElem? (i := 17) rfl)) rfl
set_option maxRecDepth 20000 in
theorem w_oiC : Cond.code Lib.objectInit ⟨#[0xb1]⟩ 1 none ∈ AW := aw_in (tb_1 (List.mem_of_getElem? (i := 18) rfl)) rfl
set_option maxRecDepth 20000 in
theorem w_ac_int : Cond.arrayClass .int ∈ AW := aw_in (tb_1 (List.mem_of_getElem? (i := 89) rfl)) rfl
set_option maxRecDepth 20000 in
theorem w_ac_byte : Cond.arrayClass .byte ∈ AW := aw_in (tb_3 (List.mem_of_getElem? (i := 219) rfl)) rfl
set_option maxRecDepth 20000 in
theorem w_ac_boolean : Cond.arrayClass .boolean ∈ AW := aw_in (tb_1 (List.mem_of_getElem? (i := 117) rfl)) rfl
set_option maxRecDepth 20000 in
theorem w_in_X : Cond.instantiable R_X 9 ∈ AW := aw_in (tb_1 (List.mem_of_getElem? (i := 12) rfl)) rfl
set_option maxRecDepth 20000 in
theorem w_ii_X : Cond.initialized R_X ∈ AW := aw_in (tb_1 (List.mem_of_getElem? (i := 1) rfl)) rfl
set_option maxRecDepth 20000 in
theorem w_in_XL : Cond.instantiable R_XL 15 ∈ AW := aw_in (tb_1 (List.mem_of_getElem? (i := 20) rfl)) rfl
set_option maxRecDepth 20000 in
theorem w_ii_XL : Cond.initialized R_XL ∈ AW := aw_in (tb_1 (List.mem_of_getElem? (i := 2) rfl)) rfl
set_option maxRecDepth 20000 in
theorem w_in_XP : Cond.instantiable R_XP 9 ∈ AW := aw_in (tb_1 (List.mem_of_getElem? (i := 91) rfl)) rfl
set_option maxRecDepth 20000 in
theorem w_ii_XP : Cond.initialized R_XP ∈ AW := aw_in (tb_1 (List.mem_of_getElem? (i := 3) rfl)) rfl
set_option maxRecDepth 20000 in
theorem w_in_XC : Cond.instantiable R_XC 3 ∈ AW := aw_in (tb_1 (List.mem_of_getElem? (i := 98) rfl)) rfl
set_option maxRecDepth 20000 in
theorem w_ii_XC : Cond.initialized R_XC ∈ AW := aw_in (tb_1 (List.mem_of_getElem? (i := 4) rfl)) rfl
set_option maxRecDepth 20000 in
theorem w_in_XV : Cond.instantiable R_XV 2 ∈ AW := aw_in (tb_1 (List.mem_of_getElem? (i := 153) rfl)) rfl
set_option maxRecDepth 20000 in
theorem w_ii_XV : Cond.initialized R_XV ∈ AW := aw_in (tb_1 (List.mem_of_getElem? (i := 5) rfl)) rfl
set_option maxRecDepth 20000 in
theorem w_in_XR : Cond.instantiable R_XR 6 ∈ AW := aw_in (tb_1 (List.mem_of_getElem? (i := 169) rfl)) rfl
set_option maxRecDepth 20000 in
theorem w_ii_XR : Cond.initialized R_XR ∈ AW := aw_in (tb_1 (List.mem_of_getElem? (i := 6) rfl)) rfl
set_option maxRecDepth 20000 in
theorem w_in_XT : Cond.instantiable R_XT 9 ∈ AW := aw_in (tb_1 (List.mem_of_getElem? (i := 230) rfl)) rfl
set_option maxRecDepth 20000 in
theorem w_ii_XT : Cond.initialized R_XT ∈ AW := aw_in (tb_1 (List.mem_of_getElem? (i := 8) rfl)) rfl
set_option maxRecDepth 20000 in
theorem w_in_M : Cond.instantiable R_M 37 ∈ AW := aw_in (tb_3 (List.mem_of_getElem? (i := 102) rfl)) rfl
set_option maxRecDepth 20000 in
theorem w_ii_M : Cond.initialized R_M ∈ AW := aw_in (tb_1 (List.mem_of_getElem? (i := 7) rfl)) rfl
set_option maxRecDepth 20000 in
theorem w_ol_X : Cond.methodLink R_X 3 Lib.objectInit ∈ AW := aw_in (tb_1 (List.mem_of_getElem? (i := 16) rfl)) rfl
set_option maxRecDepth 20000 in
theorem w_cl_X_9 : Cond.classLink R_X 9 R_XL ∈ AW := aw_in (tb_1 (List.mem_of_getElem? (i := 19) rfl)) rfl
set_option maxRecDepth 20000 in
theorem w_fl_X_12 : Cond.fieldLink R_X 12 R_X (F_X 0).2.1 (F_X 0).2.2.1 ∈ AW := aw_in (tb_1 (List.mem_of_getElem? (i := 194) rfl)) rfl
set_option maxRecDepth 20000 in
theorem w_cl_X_16 : Cond.classLink R_X 16 R_XP ∈ AW := aw_in (tb_1 (List.mem_of_getElem? (i := 90) rfl)) rfl
set_option maxRecDepth 20000 in
theorem w_fl_X_21 : Cond.fieldLink R_X 21 R_X (F_X 1).2.1 (F_X 1).2.2.1 ∈ AW := aw_in (tb_1 (List.mem_of_getElem? (i := 195) rfl)) rfl
set_option maxRecDepth 20000 in
theorem w_cl_X_25 : Cond.classLink R_X 25 R_XV ∈ AW := aw_in (tb_1 (List.mem_of_getElem? (i := 152) rfl)) rfl
set_option maxRecDepth 20000 in
theorem w_fl_X_28 : Cond.fieldLink R_X 28 R_X (F_X 2).2.1 (F_X 2).2.2.1 ∈ AW := aw_in (tb_1 (List.mem_of_getElem? (i := 196) rfl)) rfl
set_option maxRecDepth 20000 in
theorem w_cl_X_32 : Cond.classLink R_X 32 R_XR ∈ AW := aw_in (tb_1 (List.mem_of_getElem? (i := 168) rfl)) rfl
set_option maxRecDepth 20000 in
theorem w_fl_X_37 : Cond.fieldLink R_X 37 R_X (F_X 3).2.1 (F_X 3).2.2.1 ∈ AW := aw_in (tb_1 (List.mem_of_getElem? (i := 197) rfl)) rfl
set_option maxRecDepth 20000 in
theorem w_cl_X_41 : Cond.classLink R_X 41 R_XT ∈ AW := aw_in (tb_1 (List.mem_of_getElem? (i := 193) rfl)) rfl
set_option maxRecDepth 20000 in
theorem w_fl_X_43 : Cond.fieldLink R_X 43 R_X (F_X 4).2.1 (F_X 4).2.2.1 ∈ AW := aw_in (tb_1 (List.mem_of_getElem? (i := 198) rfl)) rfl
set_option maxRecDepth 20000 in
theorem w_ol_M : Cond.methodLink R_M 1 Lib.objectInit ∈ AW := aw_in (tb_3 (List.mem_of_getElem? (i := 106) rfl)) rfl
set_option maxRecDepth 20000 in
theorem w_fl_M_7 : Cond.fieldLink R_M 7 R_M (F_M 2).2.1 (F_M 2).2.2.1 ∈ AW := aw_in (tb_3 (List.mem_of_getElem? (i := 109) rfl)) rfl
set_option maxRecDepth 20000 in
theorem w_fl_M_13 : Cond.fieldLink R_M 13 R_M (F_M 3).2.1 (F_M 3).2.2.1 ∈ AW := aw_in (tb_3 (List.mem_of_getElem? (i := 110) rfl)) rfl
set_option maxRecDepth 20000 in
theorem w_fl_M_16 : Cond.fieldLink R_M 16 R_M (F_M 4).2.1 (F_M 4).2.2.1 ∈ AW := aw_in (tb_3 (List.mem_of_getElem? (i := 111) rfl)) rfl
set_option maxRecDepth 20000 in
theorem w_fl_M_19 : Cond.fieldLink R_M 19 R_M (F_M 5).2.1 (F_M 5).2.2.1 ∈ AW := aw_in (tb_3 (List.mem_of_getElem? (i := 112) rfl)) rfl
set_option maxRecDepth 20000 in
theorem w_fl_M_22 : Cond.fieldLink R_M 22 R_M (F_M 6).2.1 (F_M 6).2.2.1 ∈ AW := aw_in (tb_3 (List.mem_of_getElem? (i := 113) rfl)) rfl
set_option maxRecDepth 20000 in
theorem w_fl_M_25 : Cond.fieldLink R_M 25 R_M (F_M 7).2.1 (F_M 7).2.2.1 ∈ AW := aw_in (tb_3 (List.mem_of_getElem? (i := 114) rfl)) rfl
set_option maxRecDepth 20000 in
theorem w_fl_M_28 : Cond.fieldLink R_M 28 R_M (F_M 8).2.1 (F_M 8).2.2.1 ∈ AW := aw_in (tb_3 (List.mem_of_getElem? (i := 115) rfl)) rfl
set_option maxRecDepth 20000 in
theorem w_fl_M_31 : Cond.fieldLink R_M 31 R_M (F_M 9).2.1 (F_M 9).2.2.1 ∈ AW := aw_in (tb_3 (List.mem_of_getElem? (i := 116) rfl)) rfl
set_option maxRecDepth 20000 in
theorem w_fl_M_34 : Cond.fieldLink R_M 34 R_M (F_M 10).2.1 (F_M 10).2.2.1 ∈ AW := aw_in (tb_3 (List.mem_of_getElem? (i := 117) rfl)) rfl
set_option maxRecDepth 20000 in
theorem w_fl_M_37 : Cond.fieldLink R_M 37 R_M (F_M 11).2.1 (F_M 11).2.2.1 ∈ AW := aw_in (tb_3 (List.mem_of_getElem? (i := 118) rfl)) rfl
set_option maxRecDepth 20000 in
theorem w_fl_M_40 : Cond.fieldLink R_M 40 R_M (F_M 12).2.1 (F_M 12).2.2.1 ∈ AW := aw_in (tb_3 (List.mem_of_getElem? (i := 119) rfl)) rfl
set_option maxRecDepth 20000 in
theorem w_fl_M_43 : Cond.fieldLink R_M 43 R_M (F_M 13).2.1 (F_M 13).2.2.1 ∈ AW := aw_in (tb_3 (List.mem_of_getElem? (i := 120) rfl)) rfl
set_option maxRecDepth 20000 in
theorem w_fl_M_46 : Cond.fieldLink R_M 46 R_M (F_M 14).2.1 (F_M 14).2.2.1 ∈ AW := aw_in (tb_3 (List.mem_of_getElem? (i := 121) rfl)) rfl
set_option maxRecDepth 20000 in
theorem w_fl_M_49 : Cond.fieldLink R_M 49 R_M (F_M 15).2.1 (F_M 15).2.2.1 ∈ AW := aw_in (tb_3 (List.mem_of_getElem? (i := 122) rfl)) rfl
set_option maxRecDepth 20000 in
theorem w_fl_M_52 : Cond.fieldLink R_M 52 R_M (F_M 16).2.1 (F_M 16).2.2.1 ∈ AW := aw_in (tb_3 (List.mem_of_getElem? (i := 123) rfl)) rfl
set_option maxRecDepth 20000 in
theorem w_fl_M_55 : Cond.fieldLink R_M 55 R_M (F_M 17).2.1 (F_M 17).2.2.1 ∈ AW := aw_in (tb_3 (List.mem_of_getElem? (i := 124) rfl)) rfl
set_option maxRecDepth 20000 in
theorem w_fl_M_58 : Cond.fieldLink R_M 58 R_M (F_M 18).2.1 (F_M 18).2.2.1 ∈ AW := aw_in (tb_3 (List.mem_of_getElem? (i := 125) rfl)) rfl
set_option maxRecDepth 20000 in
theorem w_fl_M_61 : Cond.fieldLink R_M 61 R_M (F_M 23).2.1 (F_M 23).2.2.1 ∈ AW := aw_in (tb_3 (List.mem_of_getElem? (i := 130) rfl)) rfl
set_option maxRecDepth 20000 in
theorem w_fl_M_64 : Cond.fieldLink R_M 64 R_M (F_M 24).2.1 (F_M 24).2.2.1 ∈ AW := aw_in (tb_3 (List.mem_of_getElem? (i := 131) rfl)) rfl
set_option maxRecDepth 20000 in
theorem w_fl_M_67 : Cond.fieldLink R_M 67 R_M (F_M 25).2.1 (F_M 25).2.2.1 ∈ AW := aw_in (tb_3 (List.mem_of_getElem? (i := 132) rfl)) rfl
set_option maxRecDepth 20000 in
theorem w_fl_M_70 : Cond.fieldLink R_M 70 R_M (F_M 26).2.1 (F_M 26).2.2.1 ∈ AW := aw_in (tb_3 (List.mem_of_getElem? (i := 133) rfl)) rfl
set_option maxRecDepth 20000 in
theorem w_fl_M_73 : Cond.fieldLink R_M 73 R_M (F_M 27).2.1 (F_M 27).2.2.1 ∈ AW := aw_in (tb_3 (List.mem_of_getElem? (i := 134) rfl)) rfl
set_option maxRecDepth 20000 in
theorem w_fl_M_76 : Cond.fieldLink R_M 76 R_M (F_M 28).2.1 (F_M 28).2.2.1 ∈ AW := aw_in (tb_3 (List.mem_of_getElem? (i := 135) rfl)) rfl
set_option maxRecDepth 20000 in
theorem w_fl_M_79 : Cond.fieldLink R_M 79 R_M (F_M 29).2.1 (F_M 29).2.2.1 ∈ AW := aw_in (tb_3 (List.mem_of_getElem? (i := 136) rfl)) rfl
set_option maxRecDepth 20000 in
theorem w_fl_M_82 : Cond.fieldLink R_M 82 R_M (F_M 30).2.1 (F_M 30).2.2.1 ∈ AW := aw_in (tb_3 (List.mem_of_getElem? (i := 137) rfl)) rfl
set_option maxRecDepth 20000 in
theorem w_fl_M_86 : Cond.fieldLink R_M 86 R_M (F_M 31).2.1 (F_M 31).2.2.1 ∈ AW := aw_in (tb_3 (List.mem_of_getElem? (i := 138) rfl)) rfl
set_option maxRecDepth 20000 in
theorem w_fl_M_90 : Cond.fieldLink R_M 90 R_M (F_M 36).2.1 (F_M 36).2.2.1 ∈ AW := aw_in (tb_3 (List.mem_of_getElem? (i := 143) rfl)) rfl
set_option maxRecDepth 20000 in
theorem w_ol_XC : Cond.methodLink R_XC 3 Lib.objectInit ∈ AW := aw_in (tb_1 (List.mem_of_getElem? (i := 102) rfl)) rfl
set_option maxRecDepth 20000 in
theorem w_fl_XC_9 : Cond.fieldLink R_XC 9 R_XC (F_XC 0).2.1 (F_XC 0).2.2.1 ∈ AW := aw_in (tb_1 (List.mem_of_getElem? (i := 103) rfl)) rfl
set_option maxRecDepth 20000 in
theorem w_fl_XC_15 : Cond.fieldLink R_XC 15 R_XC (F_XC 1).2.1 (F_XC 1).2.2.1 ∈ AW := aw_in (tb_1 (List.mem_of_getElem? (i := 105) rfl)) rfl
set_option maxRecDepth 20000 in
theorem w_ol_XV : Cond.methodLink R_XV 3 Lib.objectInit ∈ AW := aw_in (tb_1 (List.mem_of_getElem? (i := 157) rfl)) rfl
set_option maxRecDepth 20000 in
theorem w_cl_XV_9 : Cond.classLink R_XV 9 R_XT ∈ AW := aw_in (tb_1 (List.mem_of_getElem? (i := 158) rfl)) rfl
set_option maxRecDepth 20000 in
theorem w_fl_XV_11 : Cond.fieldLink R_XV 11 R_XV (F_XV 0).2.1 (F_XV 0).2.2.1 ∈ AW := aw_in (tb_1 (List.mem_of_getElem? (i := 161) rfl)) rfl
set_option maxRecDepth 20000 in
theorem w_cl_XV_17 : Cond.classLink R_XV 17 "[[I" ∈ AW := aw_in (tb_1 (List.mem_of_getElem? (i := 160) rfl)) rfl
set_option maxRecDepth 20000 in
theorem w_fl_XV_19 : Cond.fieldLink R_XV 19 R_XV (F_XV 1).2.1 (F_XV 1).2.2.1 ∈ AW := aw_in (tb_1 (List.mem_of_getElem? (i := 162) rfl)) rfl
set_option maxRecDepth 20000 in
theorem w_ol_XL : Cond.methodLink R_XL 3 Lib.objectInit ∈ AW := aw_in (tb_1 (List.mem_of_getElem? (i := 24) rfl)) rfl
set_option maxRecDepth 20000 in
theorem w_fl_XL_9 : Cond.fieldLink R_XL 9 R_XL (F_XL 0).2.1 (F_XL 0).2.2.1 ∈ AW := aw_in (tb_1 (List.mem_of_getElem? (i := 27) rfl)) rfl
set_option maxRecDepth 20000 in
theorem w_fl_XL_15 : Cond.fieldLink R_XL 15 R_XL (F_XL 1).2.1 (F_XL 1).2.2.1 ∈ AW := aw_in (tb_1 (List.mem_of_getElem? (i := 28) rfl)) rfl
set_option maxRecDepth 20000 in
theorem w_fl_XL_18 : Cond.fieldLink R_XL 18 R_XL (F_XL 2).2.1 (F_XL 2).2.2.1 ∈ AW := aw_in (tb_1 (List.mem_of_getElem? (i := 30) rfl)) rfl
set_option maxRecDepth 20000 in
theorem w_fl_XL_21 : Cond.fieldLink R_XL 21 R_XL (F_XL 3).2.1 (F_XL 3).2.2.1 ∈ AW := aw_in (tb_1 (List.mem_of_getElem? (i := 33) rfl)) rfl
set_option maxRecDepth 20000 in
theorem w_fl_XL_24 : Cond.fieldLink R_XL 24 R_XL (F_XL 4).2.1 (F_XL 4).2.2.1 ∈ AW := aw_in (tb_1 (List.mem_of_getElem? (i := 34) rfl)) rfl
set_option maxRecDepth 20000 in
theorem w_fl_XL_27 : Cond.fieldLink R_XL 27 R_XL (F_XL 5).2.1 (F_XL 5).2.2.1 ∈ AW := aw_in (tb_1 (List.mem_of_getElem? (i := 35) rfl)) rfl
set_option maxRecDepth 20000 in
theorem w_fl_XL_30 : Cond.fieldLink R_XL 30 R_XL (F_XL 6).2.1 (F_XL 6).2.2.1 ∈ AW := aw_in (tb_1 (List.mem_of_getElem? (i := 37) rfl)) rfl
set_option maxRecDepth 20000 in
theorem w_fl_XL_33 : Cond.fieldLink R_XL 33 R_XL (F_XL 7).2.1 (F_XL 7).2.2.1 ∈ AW := aw_in (tb_1 (List.mem_of_getElem? (i := 39) rfl)) rfl
set_option maxRecDepth 20000 in
theorem w_fl_XL_36 : Cond.fieldLink R_XL 36 R_XL (F_XL 8).2.1 (F_XL 8).2.2.1 ∈ AW := aw_in (tb_1 (List.mem_of_getElem? (i := 40) rfl)) rfl
set_option maxRecDepth 20000 in
theorem w_fl_XL_39 : Cond.fieldLink R_XL 39 R_XL (F_XL 9).2.1 (F_XL 9).2.2.1 ∈ AW := aw_in (tb_1 (List.mem_of_getElem? (i := 43) rfl)) rfl
set_option maxRecDepth 20000 in
theorem w_cl_XL_42 : Cond.classLink R_XL 42 "[[I" ∈ AW := aw_in (tb_1 (List.mem_of_getElem? (i := 25) rfl)) rfl
set_option maxRecDepth 20000 in
theorem w_fl_XL_44 : Cond.fieldLink R_XL 44 R_XL (F_XL 10).2.1 (F_XL 10).2.2.1 ∈ AW := aw_in (tb_1 (List.mem_of_getElem? (i := 45) rfl)) rfl
set_option maxRecDepth 20000 in
theorem w_ol_XP : Cond.methodLink R_XP 3 Lib.objectInit ∈ AW := aw_in (tb_1 (List.mem_of_getElem? (i := 95) rfl)) rfl
set_option maxRecDepth 20000 in
theorem w_cl_XP_9 : Cond.classLink R_XP 9 R_XC ∈ AW := aw_in (tb_1 (List.mem_of_getElem? (i := 96) rfl)) rfl
set_option maxRecDepth 20000 in
theorem w_fl_XP_11 : Cond.fieldLink R_XP 11 R_XP (F_XP 1).2.1 (F_XP 1).2.2.1 ∈ AW := aw_in (tb_1 (List.mem_of_getElem? (i := 119) rfl)) rfl
set_option maxRecDepth 20000 in
theorem w_fl_XP_17 : Cond.fieldLink R_XP 17 R_XP (F_XP 2).2.1 (F_XP 2).2.2.1 ∈ AW := aw_in (tb_1 (List.mem_of_getElem? (i := 121) rfl)) rfl
set_option maxRecDepth 20000 in
theorem w_fl_XP_20 : Cond.fieldLink R_XP 20 R_XP (F_XP 3).2.1 (F_XP 3).2.2.1 ∈ AW := aw_in (tb_1 (List.mem_of_getElem? (i := 123) rfl)) rfl
set_option maxRecDepth 20000 in
theorem w_fl_XP_24 : Cond.fieldLink R_XP 24 R_XP (F_XP 4).2.1 (F_XP 4).2.2.1 ∈ AW := aw_in (tb_1 (List.mem_of_getElem? (i := 125) rfl)) rfl
set_option maxRecDepth 20000 in
theorem w_fl_XP_28 : Cond.fieldLink R_XP 28 R_XP (F_XP 5).2.1 (F_XP 5).2.2.1 ∈ AW := aw_in (tb_1 (List.mem_of_getElem? (i := 127) rfl)) rfl
set_option maxRecDepth 20000 in
theorem w_fl_XP_31 : Cond.fieldLink R_XP 31 R_XP (F_XP 0).2.1 (F_XP 0).2.2.1 ∈ AW := aw_in (tb_1 (List.mem_of_getElem? (i := 118) rfl)) rfl
set_option maxRecDepth 20000 in
theorem w_ol_XR : Cond.methodLink R_XR 3 Lib.objectInit ∈ AW := aw_in (tb_1 (List.mem_of_getElem? (i := 173) rfl)) rfl
set_option maxRecDepth 20000 in
theorem w_fl_XR_9 : Cond.fieldLink R_XR 9 R_XR (F_XR 2).2.1 (F_XR 2).2.2.1 ∈ AW := aw_in (tb_1 (List.mem_of_getElem? (i := 176) rfl)) rfl
set_option maxRecDepth 20000 in
theorem w_fl_XR_15 : Cond.fieldLink R_XR 15 R_XR (F_XR 0).2.1 (F_XR 0).2.2.1 ∈ AW := aw_in (tb_1 (List.mem_of_getElem? (i := 174) rfl)) rfl
set_option maxRecDepth 20000 in
theorem w_fl_XR_19 : Cond.fieldLink R_XR 19 R_XR (F_XR 1).2.1 (F_XR 1).2.2.1 ∈ AW := aw_in (tb_1 (List.mem_of_getElem? (i := 175) rfl)) rfl
set_option maxRecDepth 20000 in
theorem w_ol_XT : Cond.methodLink R_XT 3 Lib.objectInit ∈ AW := aw_in (tb_1 (List.mem_of_getElem? (i := 234) rfl)) rfl
set_option maxRecDepth 20000 in
theorem w_fl_XT_9 : Cond.fieldLink R_XT 9 R_XT (F_XT 0).2.1 (F_XT 0).2.2.1 ∈ AW := aw_in (tb_1 (List.mem_of_getElem? (i := 235) rfl)) rfl
set_option maxRecDepth 20000 in
theorem w_fl_XT_15 : Cond.fieldLink R_XT 15 R_XT (F_XT 1).2.1 (F_XT 1).2.2.1 ∈ AW := aw_in (tb_1 (List.mem_of_getElem? (i := 238) rfl)) rfl
set_option maxRecDepth 20000 in
theorem w_cl_L_7 : Cond.classLink R_L 7 R_X ∈ AW := aw_in (tb_1 (List.mem_of_getElem? (i := 11) rfl)) rfl
set_option maxRecDepth 20000 in
theorem w_cl_L_10 : Cond.classLink R_L 10 R_M ∈ AW := aw_in (tb_3 (List.mem_of_getElem? (i := 101) rfl)) rfl

-- ===== the constructors =====
def TN (_ _ : Int) : Option Int := none
def mnr (σ : Hp) (v N : Int) : Hp := fun a b => if a = v ∧ 0 ≤ b ∧ b < N then v + 1 + b else σ a b
theorem mnr_lt {σ : Hp} {v N a : Int} (h : a < v) : mnr σ v N a = σ a := by
  funext b
  simp only [mnr]
  rw [if_neg (by omega)]
theorem mnr_gt {σ : Hp} {v N a i : Int} (h : v < a) : mnr σ v N a i = σ a i := by
  simp only [mnr]
  rw [if_neg (by omega)]
theorem mnr_in {σ : Hp} {v N i : Int} (h1 : 0 ≤ i) (h2 : i < N) : mnr σ v N v i = v + 1 + i := if_pos ⟨rfl, h1, h2⟩
theorem mnr_ge {σ : Hp} {v N i : Int} (h : N ≤ i) : mnr σ v N v i = σ v i := by
  simp only [mnr]
  rw [if_neg (by omega)]
theorem nfA {t : FieldType} {ad : Int → Nat} {x : Int} : narrow (.array t) (cv ad (.inr x)) = cv ad (.inr x) ∧ fits (.array t) (cv ad (.inr x)) = true := by
  simp only [cv]
  split <;> exact ⟨rfl, rfl⟩
theorem nfO {t : String} {ad : Int → Nat} {x : Int} : narrow (.object t) (cv ad (.inr x)) = cv ad (.inr x) ∧ fits (.object t) (cv ad (.inr x)) = true := by
  simp only [cv]
  split <;> exact ⟨rfl, rfl⟩
section XN2
variable {Ly : Int → LK} {T : Int → Int → Option Int} {K : XK} {n : Nat} {σ : Hp} {bc bs pc nL d mc ms : Nat} {lv : List (Option AV)} {st : List AV} {cc : ByteArray} {own : String}
theorem x_putFI (C : Cx K cc nL own d mc ms) (hin : Nmi K) {ci idx j N : Nat} {cn : String} {F : u_T} {ts : List Nat} {ty : Nat → FieldType} {v x : Int} (ji : Int) (hji : (j : Int) = ji) (hnb : (n : Int) ≤ 2147483647) (cf : CF ci cn F N ts ty) (fl : Cond.fieldLink own idx cn (F j).2.1 (F j).2.2.1 ∈ AW) (hd : decode cc pc = .ok (.putfield idx, 3)) (hj : ts[j]? = some 0) (ht : ty j = .int) (hfin : (F j).2.2.2 = true) (hown : own = cn) (hT : T v ji = none) (hL : Ly v = .inl (ci, ts)) (h1 : 1 ≤ v) (h2 : v ≤ (n : Int)) (k : XW Ly T K n (st2 σ v ji x) bc bs (pc + 3) lv st) : XW Ly T K n σ bc bs pc lv (.inl x :: .inr v :: st) :=
  x_putF (t := 0) C hin ji hji hnb cf fl hd hj (Or.inl ⟨ht, rfl⟩) hfin hown hT hL h1 h2 k
theorem x_putFR (C : Cx K cc nL own d mc ms) (hin : Nmi K) {ci idx j N : Nat} {cn : String} {F : u_T} {ts : List Nat} {ty : Nat → FieldType} {v x : Int} (ji : Int) (hji : (j : Int) = ji) (hnb : (n : Int) ≤ 2147483647) (cf : CF ci cn F N ts ty) (fl : Cond.fieldLink own idx cn (F j).2.1 (F j).2.2.1 ∈ AW) (hd : decode cc pc = .ok (.putfield idx, 3)) (hj : ts[j]? = some 2) (ht : ∀ ad : Int → Nat, narrow (ty j) (cv ad (.inr x)) = cv ad (.inr x) ∧ fits (ty j) (cv ad (.inr x)) = true) (hfin : (F j).2.2.2 = true) (hown : own = cn) (hT : T v ji = none) (hL : Ly v = .inl (ci, ts)) (h1 : 1 ≤ v) (h2 : v ≤ (n : Int)) (k : XW Ly T K n (st2 σ v ji x) bc bs (pc + 3) lv st) : XW Ly T K n σ bc bs pc lv (.inr x :: .inr v :: st) :=
  x_putF (t := 2) C hin ji hji hnb cf fl hd hj (Or.inr ⟨rfl, ht⟩) hfin hown hT hL h1 h2 k
theorem x_getR (C : Cx K cc nL own d mc ms) {ci idx j N : Nat} {cn : String} {F : u_T} {ts : List Nat} {ty : Nat → FieldType} {v : Int} (ji u : Int) (cf : CF ci cn F N ts ty) (fl : FLk own idx cn F j) (hd : decode cc pc = .ok (.getfield idx, 3)) (hj : ts[j]? = some 2) (hji : (j : Int) = ji) (hL : Ly v = .inl (ci, ts)) (h1 : 1 ≤ v) (h2 : v ≤ (n : Int)) (hu : σ v ji = u) (k : XW Ly T K n σ bc bs (pc + 3) lv (.inr u :: st)) : XW Ly T K n σ bc bs pc lv (.inr v :: st) := by
  subst hji
  refine x_getf C cf fl hd hj hL h1 h2 (fun h hf => ?_)
  have e : fav 2 (σ v (j : Int)) = .inr (σ v (j : Int)) := if_pos rfl
  rw [e, hu]
  exact k
theorem x_cast {n' bc' bs' : Nat} {σ' : Hp} (h : XW Ly T K n' σ' bc' bs' pc lv st) (e1 : n = n') (e2 : bc = bc') (e3 : bs = bs') (e4 : σ = σ') : XW Ly T K n σ bc bs pc lv st := by
  subst e1; subst e2; subst e3; subst e4; exact h
end XN2
def i_CL (s : Hp) (v x : Int) : Hp := fun a b => if a = v + 1 ∧ 0 ≤ b ∧ b < x then -1 else s a b
def i_C0 (σ : Hp) (v : Int) : Hp := st2 (st2 σ v 0 (v + 1)) v 1 (v + 2)
def i_C (σ : Hp) (v : Int) : Hp := i_CL (i_C0 σ v) v 4
theorem i_CL_0 (s : Hp) (v : Int) : i_CL s v 0 = s := by
  funext a b
  simp only [i_CL]
  rw [if_neg (by omega)]
theorem i_CL_st {s : Hp} {v x : Int} (h : 0 ≤ x) : st2 (i_CL s v x) (v + 1) x (-1) = i_CL s v (x + 1) := by
  funext a b
  simp only [i_CL, st2]
  grind
theorem i_C_ne {σ : Hp} {v a : Int} (h1 : a ≠ v) (h2 : a ≠ v + 1) : i_C σ v a = σ a := by
  funext b
  simp [i_C, i_CL, i_C0, st2, h1, h2]
theorem c_XC_init {n : Nat} {σ : Hp} {v : Int} (hv : (n : Int) = v) (v0 : 40 ≤ v) (v1 : v < 76) (v2 : (v - 40) % 3 = 0) (hz1 : ∀ i : Int, σ (v + 1) i = 0) (hz2 : ∀ i : Int, σ (v + 2) i = 0) : Ok LyX TN y_XC_init b_XC_init 2 none 1 2 8 [.inr v] n σ (pV (n + 2) (i_C σ v)) := by
  refine ok_mkI (by decide) (Nat.le_of_ble_eq_true rfl) rfl (fun K C hin rt ha hok hfx => ?_)
  show XW LyX TN K n σ 0 0 0 [some (.inr v), none] []
  have L : ∀ (q x : Nat), x + q = 4 → XW LyX TN K (n + 2) (i_CL (i_C0 σ v) v x) 2 8 20 [some (.inr v), some (.inl (x : Int))] [] := by
    intro q
    induction q with
    | zero =>
      intro x hx
      refine x_iload_n C d_XC_init_20 rfl rfl ?_
      refine x_iconst C d_XC_init_21 (by decide) ?_
      refine x_icmp_ge (tgt := 38) C d_XC_init_22 rfl (fun h22 => ?_) (fun h22 => ?_)
      · exact x_vret rt d_XC_init_38 (by omega) (by omega) ⟨rfl, rfl, by rw [show (x : Int) = 4 by omega]; rfl⟩
      · exact absurd h22 (by omega)
    | succ q ih =>
      intro x hx
      refine x_iload_n C d_XC_init_20 rfl rfl ?_
      refine x_iconst C d_XC_init_21 (by decide) ?_
      refine x_icmp_ge (tgt := 38) C d_XC_init_22 rfl (fun h22 => ?_) (fun h22 => ?_)
      · exact absurd h22 (by omega)
      · refine x_aload_n C d_XC_init_25 rfl rfl ?_
        refine x_getR C 0 (v + 1) cf_XC fl_XC_9 d_XC_init_26 rfl rfl (by first | rfl | exact lx_T (by omega) | exact lx_C (by omega) (by omega) (by omega)) (by omega) (by omega) (by simp [i_CL, i_C0, st2]; omega) ?_
        refine x_iload_n C d_XC_init_29 rfl rfl ?_
        refine x_iconst C d_XC_init_30 (by decide) ?_
        refine x_iast C d_XC_init_31 (by first | rfl | exact lx_A (by omega) (by omega) (by omega) | exact lx_H (by omega) (by omega) | exact lx_K (by omega) (by omega)) (by first | rfl | exact tx_T (by omega) | exact tx_A (by omega) (by omega) (by omega) | exact tx_HR (by omega) (by omega) | exact tx_KR (by omega) (by omega) | exact tx_L (by omega) (by omega)) (by omega) (by omega) (by omega) (by omega) ?_
        refine x_iinc C d_XC_init_32 (by decide) rfl ⟨by omega, by omega⟩ ?_
        refine x_goto (tgt := 20) C d_XC_init_35 rfl ?_
        exact x_cast (ih (x + 1) (by omega)) rfl rfl rfl (i_CL_st (by omega))
  refine x_aload_n C d_XC_init_0 rfl rfl ?_
  refine x_objInit C w_ol_XC w_oiI w_oiC d_XC_init_1 (by omega) (by decide) (Nat.le_of_ble_eq_true rfl) ?_
  refine x_aload_n C d_XC_init_4 rfl rfl ?_
  refine x_iconst C d_XC_init_5 (by decide) ?_
  refine x_newa (len := 4) C (n + 1) (v + 1) (_) (by first | rfl | omega) (by first | rfl | omega) (Or.inl ⟨rfl, rfl⟩) w_ac_int d_XC_init_6 (by first | rfl | exact lx_T (by omega) | exact lx_C (by omega) (by omega) (by omega) | exact lx_A (by omega) (by omega) (by omega)) rfl (by decide) (fun _ _ => rfl) (fun i => hz1 i) (fun _ _ h => by cases h) (by omega) (by omega) ?_
  refine x_putFR C hin 0 rfl (by omega) cf_XC w_fl_XC_9 d_XC_init_8 rfl (fun _ => nfA) rfl rfl rfl (by first | rfl | exact lx_T (by omega) | exact lx_C (by omega) (by omega) (by omega)) (by omega) (by omega) ?_
  refine x_aload_n C d_XC_init_11 rfl rfl ?_
  refine x_iconst C d_XC_init_12 (by decide) ?_
  refine x_newa (len := 4) C (n + 2) (v + 2) (_) (by first | rfl | omega) (by first | rfl | omega) (Or.inl ⟨rfl, rfl⟩) w_ac_int d_XC_init_13 (by first | rfl | exact lx_T (by omega) | exact lx_C (by omega) (by omega) (by omega) | exact lx_A (by omega) (by omega) (by omega)) rfl (by decide) (fun _ _ => rfl) (fun i => by rw [st2_ne (by omega)]; exact hz2 i) (fun _ _ h => by cases h) (by omega) (by omega) ?_
  refine x_putFR C hin 1 rfl (by omega) cf_XC w_fl_XC_15 d_XC_init_15 rfl (fun _ => nfA) rfl rfl rfl (by first | rfl | exact lx_T (by omega) | exact lx_C (by omega) (by omega) (by omega)) (by omega) (by omega) ?_
  refine x_iconst C d_XC_init_18 (by decide) ?_
  refine x_istore_n C d_XC_init_19 rfl (by decide) ?_
  exact x_cast (L 4 0 rfl) rfl rfl rfl (i_CL_0 _ _).symm
def i_L (σ : Hp) : Hp := st2 (mnr (st2 (st2 (st2 (st2 (st2 (st2 (st2 (st2 (st2 (st2 σ 2 0 3) 2 1 4) 2 2 5) 2 3 6) 2 4 7) 2 5 8) 2 6 9) 2 7 10) 2 8 11) 2 9 12) 13 20) 2 10 13
theorem i_L_gt {σ : Hp} {a : Int} (h : 13 < a) : i_L σ a = σ a := by
  unfold i_L
  rw [st2_ne (by omega)]
  funext i
  rw [mnr_gt h]
  repeat rw [st2_ne (by omega)]
theorem c_XL_init {σ : Hp} (hz : ∀ a i : Int, 2 < a → σ a i = 0) : Ok LyX TN y_XL_init b_XL_init 1 none 1 31 1829 [.inr 2] 2 σ (pV 33 (i_L σ)) := by
  refine ok_mkI (by decide) (Nat.le_of_ble_eq_true rfl) rfl (fun K C hin rt ha hok hfx => ?_)
  show XW LyX TN K 2 σ 0 0 0 [some (.inr 2)] []
  refine x_aload_n C d_XL_init_0 rfl rfl ?_
  refine x_objInit C w_ol_XL w_oiI w_oiC d_XL_init_1 (by omega) (by decide) (Nat.le_of_ble_eq_true rfl) ?_
  refine x_aload_n C d_XL_init_4 rfl rfl ?_
  refine x_sipush C d_XL_init_5 (by decide) (by decide) ?_
  refine x_newa (len := 201) C (3) (3) (_) (by first | rfl | omega) (by first | rfl | omega) (Or.inl ⟨rfl, rfl⟩) w_ac_int d_XL_init_8 (by first | rfl | exact lx_T (by omega) | exact lx_C (by omega) (by omega) (by omega) | exact lx_A (by omega) (by omega) (by omega)) rfl (by decide) (fun _ _ => rfl) (fun i => by simp [st2, hz]) (fun _ _ h => by cases h) (by omega) (by omega) ?_
  refine x_putFR C hin 0 rfl (by omega) cf_XL w_fl_XL_9 d_XL_init_10 rfl (fun _ => nfA) rfl rfl rfl rfl (by omega) (by omega) ?_
  refine x_aload_n C d_XL_init_13 rfl rfl ?_
  refine x_sipush C d_XL_init_14 (by decide) (by decide) ?_
  refine x_newa (len := 201) C (4) (4) (_) (by first | rfl | omega) (by first | rfl | omega) (Or.inl ⟨rfl, rfl⟩) w_ac_int d_XL_init_17 (by first | rfl | exact lx_T (by omega) | exact lx_C (by omega) (by omega) (by omega) | exact lx_A (by omega) (by omega) (by omega)) rfl (by decide) (fun _ _ => rfl) (fun i => by simp [st2, hz]) (fun _ _ h => by cases h) (by omega) (by omega) ?_
  refine x_putFR C hin 1 rfl (by omega) cf_XL w_fl_XL_15 d_XL_init_19 rfl (fun _ => nfA) rfl rfl rfl rfl (by omega) (by omega) ?_
  refine x_aload_n C d_XL_init_22 rfl rfl ?_
  refine x_sipush C d_XL_init_23 (by decide) (by decide) ?_
  refine x_newa (len := 201) C (5) (5) (_) (by first | rfl | omega) (by first | rfl | omega) (Or.inl ⟨rfl, rfl⟩) w_ac_int d_XL_init_26 (by first | rfl | exact lx_T (by omega) | exact lx_C (by omega) (by omega) (by omega) | exact lx_A (by omega) (by omega) (by omega)) rfl (by decide) (fun _ _ => rfl) (fun i => by simp [st2, hz]) (fun _ _ h => by cases h) (by omega) (by omega) ?_
  refine x_putFR C hin 2 rfl (by omega) cf_XL w_fl_XL_18 d_XL_init_28 rfl (fun _ => nfA) rfl rfl rfl rfl (by omega) (by omega) ?_
  refine x_aload_n C d_XL_init_31 rfl rfl ?_
  refine x_sipush C d_XL_init_32 (by decide) (by decide) ?_
  refine x_newa (len := 201) C (6) (6) (_) (by first | rfl | omega) (by first | rfl | omega) (Or.inl ⟨rfl, rfl⟩) w_ac_int d_XL_init_35 (by first | rfl | exact lx_T (by omega) | exact lx_C (by omega) (by omega) (by omega) | exact lx_A (by omega) (by omega) (by omega)) rfl (by decide) (fun _ _ => rfl) (fun i => by simp [st2, hz]) (fun _ _ h => by cases h) (by omega) (by omega) ?_
  refine x_putFR C hin 3 rfl (by omega) cf_XL w_fl_XL_21 d_XL_init_37 rfl (fun _ => nfA) rfl rfl rfl rfl (by omega) (by omega) ?_
  refine x_aload_n C d_XL_init_40 rfl rfl ?_
  refine x_sipush C d_XL_init_41 (by decide) (by decide) ?_
  refine x_newa (len := 201) C (7) (7) (_) (by first | rfl | omega) (by first | rfl | omega) (Or.inl ⟨rfl, rfl⟩) w_ac_int d_XL_init_44 (by first | rfl | exact lx_T (by omega) | exact lx_C (by omega) (by omega) (by omega) | exact lx_A (by omega) (by omega) (by omega)) rfl (by decide) (fun _ _ => rfl) (fun i => by simp [st2, hz]) (fun _ _ h => by cases h) (by omega) (by omega) ?_
  refine x_putFR C hin 4 rfl (by omega) cf_XL w_fl_XL_24 d_XL_init_46 rfl (fun _ => nfA) rfl rfl rfl rfl (by omega) (by omega) ?_
  refine x_aload_n C d_XL_init_49 rfl rfl ?_
  refine x_sipush C d_XL_init_50 (by decide) (by decide) ?_
  refine x_newa (len := 201) C (8) (8) (_) (by first | rfl | omega) (by first | rfl | omega) (Or.inl ⟨rfl, rfl⟩) w_ac_int d_XL_init_53 (by first | rfl | exact lx_T (by omega) | exact lx_C (by omega) (by omega) (by omega) | exact lx_A (by omega) (by omega) (by omega)) rfl (by decide) (fun _ _ => rfl) (fun i => by simp [st2, hz]) (fun _ _ h => by cases h) (by omega) (by omega) ?_
  refine x_putFR C hin 5 rfl (by omega) cf_XL w_fl_XL_27 d_XL_init_55 rfl (fun _ => nfA) rfl rfl rfl rfl (by omega) (by omega) ?_
  refine x_aload_n C d_XL_init_58 rfl rfl ?_
  refine x_sipush C d_XL_init_59 (by decide) (by decide) ?_
  refine x_newa (len := 201) C (9) (9) (_) (by first | rfl | omega) (by first | rfl | omega) (Or.inl ⟨rfl, rfl⟩) w_ac_int d_XL_init_62 (by first | rfl | exact lx_T (by omega) | exact lx_C (by omega) (by omega) (by omega) | exact lx_A (by omega) (by omega) (by omega)) rfl (by decide) (fun _ _ => rfl) (fun i => by simp [st2, hz]) (fun _ _ h => by cases h) (by omega) (by omega) ?_
  refine x_putFR C hin 6 rfl (by omega) cf_XL w_fl_XL_30 d_XL_init_64 rfl (fun _ => nfA) rfl rfl rfl rfl (by omega) (by omega) ?_
  refine x_aload_n C d_XL_init_67 rfl rfl ?_
  refine x_sipush C d_XL_init_68 (by decide) (by decide) ?_
  refine x_newa (len := 201) C (10) (10) (_) (by first | rfl | omega) (by first | rfl | omega) (Or.inl ⟨rfl, rfl⟩) w_ac_int d_XL_init_71 (by first | rfl | exact lx_T (by omega) | exact lx_C (by omega) (by omega) (by omega) | exact lx_A (by omega) (by omega) (by omega)) rfl (by decide) (fun _ _ => rfl) (fun i => by simp [st2, hz]) (fun _ _ h => by cases h) (by omega) (by omega) ?_
  refine x_putFR C hin 7 rfl (by omega) cf_XL w_fl_XL_33 d_XL_init_73 rfl (fun _ => nfA) rfl rfl rfl rfl (by omega) (by omega) ?_
  refine x_aload_n C d_XL_init_76 rfl rfl ?_
  refine x_bipush C d_XL_init_77 (by decide) (by decide) ?_
  refine x_newa (len := 61) C (11) (11) (_) (by first | rfl | omega) (by first | rfl | omega) (Or.inl ⟨rfl, rfl⟩) w_ac_int d_XL_init_79 (by first | rfl | exact lx_T (by omega) | exact lx_C (by omega) (by omega) (by omega) | exact lx_A (by omega) (by omega) (by omega)) rfl (by decide) (fun _ _ => rfl) (fun i => by simp [st2, hz]) (fun _ _ h => by cases h) (by omega) (by omega) ?_
  refine x_putFR C hin 8 rfl (by omega) cf_XL w_fl_XL_36 d_XL_init_81 rfl (fun _ => nfA) rfl rfl rfl rfl (by omega) (by omega) ?_
  refine x_aload_n C d_XL_init_84 rfl rfl ?_
  refine x_bipush C d_XL_init_85 (by decide) (by decide) ?_
  refine x_newa (len := 20) C (12) (12) (_) (by first | rfl | omega) (by first | rfl | omega) (Or.inl ⟨rfl, rfl⟩) w_ac_int d_XL_init_87 (by first | rfl | exact lx_T (by omega) | exact lx_C (by omega) (by omega) (by omega) | exact lx_A (by omega) (by omega) (by omega)) rfl (by decide) (fun _ _ => rfl) (fun i => by simp [st2, hz]) (fun _ _ h => by cases h) (by omega) (by omega) ?_
  refine x_putFR C hin 9 rfl (by omega) cf_XL w_fl_XL_39 d_XL_init_89 rfl (fun _ => nfA) rfl rfl rfl rfl (by omega) (by omega) ?_
  refine x_aload_n C d_XL_init_92 rfl rfl ?_
  refine x_bipush C d_XL_init_93 (by decide) (by decide) ?_
  refine x_bipush C d_XL_init_95 (by decide) (by decide) ?_
  refine x_mna (N := 20) (M := 6) C (33) (13) (mnr _ 13 20) (by first | rfl | omega) (by first | rfl | omega) w_cl_XL_42 w_ac_int d_XL_init_97 rfl (fun j h1 h2 => by rw [show (13 : Int) + 1 + j = 14 + j by omega]; exact lx_K h1 h2) rfl rfl (by decide) (by decide) (by decide) (fun a h => mnr_lt h) (fun i h1 h2 => mnr_in h1 h2) (fun i h => (mnr_ge h).trans (by simp [st2, hz])) (fun a i h1 h2 => by rw [mnr_gt h1]; (have e : ¬ a = 2 := by omega); simp [st2, e, hz a i (by omega)]) (fun _ _ _ _ => rfl) (by omega) (by omega) ?_
  refine x_putFR C hin 10 rfl (by omega) cf_XL w_fl_XL_44 d_XL_init_101 rfl (fun _ => nfA) rfl rfl rfl rfl (by omega) (by omega) ?_
  exact x_vret rt d_XL_init_104 (by omega) (by omega) ⟨rfl, rfl, rfl⟩
def i_V (σ : Hp) : Hp := st2 (mnr (st2 σ 76 0 77) 78 4) 76 1 78
theorem i_V_gt {σ : Hp} {a : Int} (h : 78 < a) : i_V σ a = σ a := by
  unfold i_V
  rw [st2_ne (by omega)]
  funext i
  rw [mnr_gt h, st2_ne (by omega)]
theorem c_XV_init {σ : Hp} (hz : ∀ a i : Int, 76 < a → σ a i = 0) : Ok LyX TN y_XV_init b_XV_init 1 none 1 6 408 [.inr 76] 76 σ (pV 82 (i_V σ)) := by
  refine ok_mkI (by decide) (Nat.le_of_ble_eq_true rfl) rfl (fun K C hin rt ha hok hfx => ?_)
  show XW LyX TN K 76 σ 0 0 0 [some (.inr 76)] []
  refine x_aload_n C d_XV_init_0 rfl rfl ?_
  refine x_objInit C w_ol_XV w_oiI w_oiC d_XV_init_1 (by omega) (by decide) (Nat.le_of_ble_eq_true rfl) ?_
  refine x_aload_n C d_XV_init_4 rfl rfl ?_
  refine x_iconst C d_XV_init_5 (by decide) ?_
  refine x_anew (len := 4) C (77) (77) (_) (by first | rfl | omega) (by first | rfl | omega) (Or.inl ⟨rfl, rfl⟩) w_cl_XV_9 d_XV_init_6 (by first | rfl | exact lx_T (by omega) | exact lx_C (by omega) (by omega) (by omega) | exact lx_A (by omega) (by omega) (by omega)) rfl (by decide) (fun _ _ => rfl) (fun i => by simp [st2, hz]) (fun _ _ h => by cases h) (by omega) (by omega) ?_
  refine x_putFR C hin 0 rfl (by omega) cf_XV w_fl_XV_11 d_XV_init_9 rfl (fun _ => nfA) rfl rfl rfl rfl (by omega) (by omega) ?_
  refine x_aload_n C d_XV_init_12 rfl rfl ?_
  refine x_iconst C d_XV_init_13 (by decide) ?_
  refine x_bipush C d_XV_init_14 (by decide) (by decide) ?_
  refine x_mna (N := 4) (M := 100) C (82) (78) (mnr _ 78 4) (by first | rfl | omega) (by first | rfl | omega) w_cl_XV_17 w_ac_int d_XV_init_16 rfl (fun j h1 h2 => by rw [show (78 : Int) + 1 + j = 79 + j by omega]; exact lx_H h1 h2) rfl rfl (by decide) (by decide) (by decide) (fun a h => mnr_lt h) (fun i h1 h2 => mnr_in h1 h2) (fun i h => (mnr_ge h).trans (by simp [st2, hz])) (fun a i h1 h2 => by rw [mnr_gt h1]; (have e : ¬ a = 76 := by omega); simp [st2, e, hz a i (by omega)]) (fun _ _ _ _ => rfl) (by omega) (by omega) ?_
  refine x_putFR C hin 1 rfl (by omega) cf_XV w_fl_XV_19 d_XV_init_20 rfl (fun _ => nfA) rfl rfl rfl rfl (by omega) (by omega) ?_
  exact x_vret rt d_XV_init_23 (by omega) (by omega) ⟨rfl, rfl, rfl⟩
def i_R (σ : Hp) : Hp := st2 (st2 (st2 σ 83 2 84) 83 0 2) 83 1 34
theorem c_XR_init {σ : Hp} (hz : ∀ a i : Int, 83 < a → σ a i = 0) : Ok LyX TN y_XR_init b_XR_init 3 none 1 1 6 [.inr 83, .inr 2, .inr 34] 83 σ (pV 84 (i_R σ)) := by
  refine ok_mkI (by decide) (Nat.le_of_ble_eq_true rfl) rfl (fun K C hin rt ha hok hfx => ?_)
  show XW LyX TN K 83 σ 0 0 0 [some (.inr 83), some (.inr 2), some (.inr 34)] []
  refine x_aload_n C d_XR_init_0 rfl rfl ?_
  refine x_objInit C w_ol_XR w_oiI w_oiC d_XR_init_1 (by omega) (by decide) (Nat.le_of_ble_eq_true rfl) ?_
  refine x_aload_n C d_XR_init_4 rfl rfl ?_
  refine x_bipush C d_XR_init_5 (by decide) (by decide) ?_
  refine x_newa (len := 6) C (84) (84) (_) (by first | rfl | omega) (by first | rfl | omega) (Or.inl ⟨rfl, rfl⟩) w_ac_int d_XR_init_7 (by first | rfl | exact lx_T (by omega) | exact lx_C (by omega) (by omega) (by omega) | exact lx_A (by omega) (by omega) (by omega)) rfl (by decide) (fun _ _ => rfl) (fun i => by exact hz 84 i (by decide)) (fun _ _ h => by cases h) (by omega) (by omega) ?_
  refine x_putFR C hin 2 rfl (by omega) cf_XR w_fl_XR_9 d_XR_init_9 rfl (fun _ => nfA) rfl rfl rfl rfl (by omega) (by omega) ?_
  refine x_aload_n C d_XR_init_12 rfl rfl ?_
  refine x_aload_n C d_XR_init_13 rfl rfl ?_
  refine x_putFR C hin 0 rfl (by omega) cf_XR w_fl_XR_15 d_XR_init_14 rfl (fun _ => nfO) rfl rfl rfl rfl (by omega) (by omega) ?_
  refine x_aload_n C d_XR_init_17 rfl rfl ?_
  refine x_aload_n C d_XR_init_18 rfl rfl ?_
  refine x_putFR C hin 1 rfl (by omega) cf_XR w_fl_XR_19 d_XR_init_19 rfl (fun _ => nfO) rfl rfl rfl rfl (by omega) (by omega) ?_
  exact x_vret rt d_XR_init_22 (by omega) (by omega) ⟨rfl, rfl, rfl⟩
def i_PL (s : Hp) : Nat → Hp
  | 0 => s
  | p + 1 => st2 (i_C (st2 (i_C (i_PL s p) (40 + 6 * (p : Int))) 35 (p : Int) (40 + 6 * (p : Int))) (43 + 6 * (p : Int))) 36 (p : Int) (43 + 6 * (p : Int))
def i_P0 (σ : Hp) : Hp := st2 (st2 (st2 (st2 (st2 (st2 σ 34 1 35) 34 2 36) 34 3 37) 34 4 38) 34 5 39) 34 0 2
def i_P (σ : Hp) : Hp := i_PL (i_P0 σ) 6
theorem i_PL_fr (s : Hp) {a : Int} : ∀ p : Nat, a < 35 ∨ 40 + 6 * (p : Int) ≤ a → i_PL s p a = s a
  | 0, _ => rfl
  | p + 1, h => by
    unfold i_PL
    rw [st2_ne (by omega), i_C_ne (by omega) (by omega), st2_ne (by omega), i_C_ne (by omega) (by omega), i_PL_fr s p (by omega)]
theorem i_P_gt {σ : Hp} {a : Int} (h : 76 ≤ a) : i_P σ a = σ a := by
  unfold i_P
  rw [i_PL_fr _ 6 (by omega)]
  unfold i_P0
  repeat rw [st2_ne (by omega)]
theorem i_P0_gt {σ : Hp} {a : Int} (h : 34 < a) : i_P0 σ a = σ a := by
  unfold i_P0
  repeat rw [st2_ne (by omega)]
theorem i_P0_1 {σ : Hp} : i_P0 σ 34 1 = 35 := by simp [i_P0, st2]
theorem i_P0_2 {σ : Hp} : i_P0 σ 34 2 = 36 := by simp [i_P0, st2]
theorem c_XP_init {σ : Hp} (hz : ∀ a i : Int, 34 < a → σ a i = 0) : Ok LyX TN y_XP_init b_XP_init 3 none 2 41 162 [.inr 34, .inr 2] 34 σ (pV 75 (i_P σ)) := by
  refine ok_mkI (by decide) (Nat.le_of_ble_eq_true rfl) rfl (fun K C hin rt ha hok hfx => ?_)
  show XW LyX TN K 34 σ 0 0 0 [some (.inr 34), some (.inr 2), none] []
  have L : ∀ (q p : Nat), p + q = 6 → XW LyX TN K (39 + 6 * p) (i_PL (i_P0 σ) p) (5 + 6 * p) (30 + 22 * p) 53 [some (.inr 34), some (.inr 2), some (.inl (p : Int))] [] := by
    intro q
    induction q with
    | zero =>
      intro p hp
      refine x_iload_n C d_XP_init_53 rfl rfl ?_
      refine x_bipush C d_XP_init_54 (by decide) (by decide) ?_
      refine x_icmp_ge (tgt := 91) C d_XP_init_56 rfl (fun h56 => ?_) (fun h56 => ?_)
      · exact x_vret rt d_XP_init_91 (by omega) (by omega) ⟨rfl, by omega, by rw [show p = 6 by omega]; rfl⟩
      · exact absurd h56 (by omega)
    | succ q ih =>
      intro p hp
      refine x_iload_n C d_XP_init_53 rfl rfl ?_
      refine x_bipush C d_XP_init_54 (by decide) (by decide) ?_
      refine x_icmp_ge (tgt := 91) C d_XP_init_56 rfl (fun h56 => ?_) (fun h56 => ?_)
      · exact absurd h56 (by omega)
      · refine x_aload_n C d_XP_init_59 rfl rfl ?_
        refine x_getR C 1 (35) cf_XP fl_XP_11 d_XP_init_60 rfl rfl rfl (by omega) (by omega) (by rw [i_PL_fr _ p (by omega)]; exact i_P0_1) ?_
        refine x_iload_n C d_XP_init_63 rfl rfl ?_
        refine x_new C (39 + 6 * p + 1) (40 + 6 * (p : Int)) (_) (by first | rfl | omega) (by first | rfl | omega) cf_XC w_cl_XP_9 w_in_XC w_ii_XC d_XP_init_64 (by first | rfl | exact lx_T (by omega) | exact lx_C (by omega) (by omega) (by omega) | exact lx_A (by omega) (by omega) (by omega)) (by decide) (fun _ _ => rfl) (fun i => by rw [i_PL_fr _ p (by omega), i_P0_gt (by omega)]; exact hz _ i (by omega)) (fun _ _ h => by cases h) (by omega) (by omega) ?_
        refine x_dup C d_XP_init_67 ?_
        refine x_callI C cl_XP_35 cb_XC_init cs_XC_init rfl d_XP_init_68 (c_XC_init (by omega) (by omega) (by omega) (by omega) (fun i => by rw [i_PL_fr _ p (by omega), i_P0_gt (by omega)]; exact hz _ i (by omega)) (fun i => by rw [i_PL_fr _ p (by omega), i_P0_gt (by omega)]; exact hz _ i (by omega))) rfl rfl (by omega) (by omega) (by decide) (by decide) (Nat.le_of_ble_eq_true rfl) (by omega) (by omega) ?_
        rintro _ _ _ ⟨rfl, rfl, rfl⟩ -
        refine x_aast C d_XP_init_71 (by omega) rfl (by decide) rfl (by omega) (by omega) (by omega) (by omega) (Or.inr ⟨by omega, by omega, Or.inr ⟨rfl, lx_C (by omega) (by omega) (by omega)⟩⟩) ?_
        refine x_aload_n C d_XP_init_72 rfl rfl ?_
        refine x_getR C 2 (36) cf_XP fl_XP_17 d_XP_init_73 rfl rfl rfl (by omega) (by omega) (by rw [st2_ne (by omega), i_C_ne (by omega) (by omega), i_PL_fr _ p (by omega)]; exact i_P0_2) ?_
        refine x_iload_n C d_XP_init_76 rfl rfl ?_
        refine x_new C (39 + 6 * p + 1 + 2 + 1) (43 + 6 * (p : Int)) (_) (by first | rfl | omega) (by first | rfl | omega) cf_XC w_cl_XP_9 w_in_XC w_ii_XC d_XP_init_77 (by first | rfl | exact lx_T (by omega) | exact lx_C (by omega) (by omega) (by omega) | exact lx_A (by omega) (by omega) (by omega)) (by decide) (fun _ _ => rfl) (fun i => by rw [st2_ne (by omega), i_C_ne (by omega) (by omega), i_PL_fr _ p (by omega), i_P0_gt (by omega)]; exact hz _ i (by omega)) (fun _ _ h => by cases h) (by omega) (by omega) ?_
        refine x_dup C d_XP_init_80 ?_
        refine x_callI C cl_XP_35 cb_XC_init cs_XC_init rfl d_XP_init_81 (c_XC_init (by omega) (by omega) (by omega) (by omega) (fun i => by rw [st2_ne (by omega), i_C_ne (by omega) (by omega), i_PL_fr _ p (by omega), i_P0_gt (by omega)]; exact hz _ i (by omega)) (fun i => by rw [st2_ne (by omega), i_C_ne (by omega) (by omega), i_PL_fr _ p (by omega), i_P0_gt (by omega)]; exact hz _ i (by omega))) rfl rfl (by omega) (by omega) (by decide) (by decide) (Nat.le_of_ble_eq_true rfl) (by omega) (by omega) ?_
        rintro _ _ _ ⟨rfl, rfl, rfl⟩ -
        refine x_aast C d_XP_init_84 (by omega) rfl (by decide) rfl (by omega) (by omega) (by omega) (by omega) (Or.inr ⟨by omega, by omega, Or.inr ⟨rfl, lx_C (by omega) (by omega) (by omega)⟩⟩) ?_
        refine x_iinc C d_XP_init_85 (by decide) rfl ⟨by omega, by omega⟩ ?_
        refine x_goto (tgt := 53) C d_XP_init_88 rfl ?_
        exact x_cast (ih (p + 1) (by omega)) (by omega) (by omega) (by omega) rfl
  refine x_aload_n C d_XP_init_0 rfl rfl ?_
  refine x_objInit C w_ol_XP w_oiI w_oiC d_XP_init_1 (by omega) (by decide) (Nat.le_of_ble_eq_true rfl) ?_
  refine x_aload_n C d_XP_init_4 rfl rfl ?_
  refine x_bipush C d_XP_init_5 (by decide) (by decide) ?_
  refine x_anew (len := 6) C (35) (35) (_) (by first | rfl | omega) (by first | rfl | omega) (Or.inr ⟨rfl, rfl⟩) w_cl_XP_9 d_XP_init_7 (by first | rfl | exact lx_T (by omega) | exact lx_C (by omega) (by omega) (by omega) | exact lx_A (by omega) (by omega) (by omega)) rfl (by decide) (fun _ _ => rfl) (fun i => by simp [st2, hz]) (fun _ _ h => by cases h) (by omega) (by omega) ?_
  refine x_putFR C hin 1 rfl (by omega) cf_XP w_fl_XP_11 d_XP_init_10 rfl (fun _ => nfA) rfl rfl rfl rfl (by omega) (by omega) ?_
  refine x_aload_n C d_XP_init_13 rfl rfl ?_
  refine x_bipush C d_XP_init_14 (by decide) (by decide) ?_
  refine x_anew (len := 6) C (36) (36) (_) (by first | rfl | omega) (by first | rfl | omega) (Or.inr ⟨rfl, rfl⟩) w_cl_XP_9 d_XP_init_16 (by first | rfl | exact lx_T (by omega) | exact lx_C (by omega) (by omega) (by omega) | exact lx_A (by omega) (by omega) (by omega)) rfl (by decide) (fun _ _ => rfl) (fun i => by simp [st2, hz]) (fun _ _ h => by cases h) (by omega) (by omega) ?_
  refine x_putFR C hin 2 rfl (by omega) cf_XP w_fl_XP_17 d_XP_init_19 rfl (fun _ => nfA) rfl rfl rfl rfl (by omega) (by omega) ?_
  refine x_aload_n C d_XP_init_22 rfl rfl ?_
  refine x_bipush C d_XP_init_23 (by decide) (by decide) ?_
  refine x_newa (len := 6) C (37) (37) (_) (by first | rfl | omega) (by first | rfl | omega) (Or.inr (Or.inr ⟨rfl, rfl⟩)) w_ac_boolean d_XP_init_25 (by first | rfl | exact lx_T (by omega) | exact lx_C (by omega) (by omega) (by omega) | exact lx_A (by omega) (by omega) (by omega)) rfl (by decide) (fun _ _ => rfl) (fun i => by simp [st2, hz]) (fun _ _ h => by cases h) (by omega) (by omega) ?_
  refine x_putFR C hin 3 rfl (by omega) cf_XP w_fl_XP_20 d_XP_init_27 rfl (fun _ => nfA) rfl rfl rfl rfl (by omega) (by omega) ?_
  refine x_aload_n C d_XP_init_30 rfl rfl ?_
  refine x_bipush C d_XP_init_31 (by decide) (by decide) ?_
  refine x_newa (len := 6) C (38) (38) (_) (by first | rfl | omega) (by first | rfl | omega) (Or.inl ⟨rfl, rfl⟩) w_ac_int d_XP_init_33 (by first | rfl | exact lx_T (by omega) | exact lx_C (by omega) (by omega) (by omega) | exact lx_A (by omega) (by omega) (by omega)) rfl (by decide) (fun _ _ => rfl) (fun i => by simp [st2, hz]) (fun _ _ h => by cases h) (by omega) (by omega) ?_
  refine x_putFR C hin 4 rfl (by omega) cf_XP w_fl_XP_24 d_XP_init_35 rfl (fun _ => nfA) rfl rfl rfl rfl (by omega) (by omega) ?_
  refine x_aload_n C d_XP_init_38 rfl rfl ?_
  refine x_bipush C d_XP_init_39 (by decide) (by decide) ?_
  refine x_newa (len := 6) C (39) (39) (_) (by first | rfl | omega) (by first | rfl | omega) (Or.inl ⟨rfl, rfl⟩) w_ac_int d_XP_init_41 (by first | rfl | exact lx_T (by omega) | exact lx_C (by omega) (by omega) (by omega) | exact lx_A (by omega) (by omega) (by omega)) rfl (by decide) (fun _ _ => rfl) (fun i => by simp [st2, hz]) (fun _ _ h => by cases h) (by omega) (by omega) ?_
  refine x_putFR C hin 5 rfl (by omega) cf_XP w_fl_XP_28 d_XP_init_43 rfl (fun _ => nfA) rfl rfl rfl rfl (by omega) (by omega) ?_
  refine x_aload_n C d_XP_init_46 rfl rfl ?_
  refine x_aload_n C d_XP_init_47 rfl rfl ?_
  refine x_putFR C hin 0 rfl (by omega) cf_XP w_fl_XP_31 d_XP_init_48 rfl (fun _ => nfO) rfl rfl rfl rfl (by omega) (by omega) ?_
  refine x_iconst C d_XP_init_51 (by decide) ?_
  refine x_istore_n C d_XP_init_52 rfl (by decide) ?_
  exact x_cast (L 6 0 rfl) rfl rfl rfl rfl
def i_X (σ : Hp) : Hp := st2 (st2 (st2 (i_R (st2 (i_V (st2 (i_P (st2 (i_L σ) 1 0 2)) 1 1 34)) 1 2 76)) 1 3 83) 1 4 85) 1 8 1
theorem c_X_init {σ : Hp} (hz : ∀ a i : Int, 1 < a → σ a i = 0) : Ok LyX TN y_X_init b_X_init 1 none 3 84 2498 [.inr 1] 1 σ (pV 85 (i_X σ)) := by
  have z1 : ∀ a i : Int, 33 < a → st2 (i_L σ) 1 0 2 a i = 0 := fun a i h => by rw [st2_ne (by omega), i_L_gt (by omega)]; exact hz a i (by omega)
  have z2 : ∀ a i : Int, 75 < a → st2 (i_P (st2 (i_L σ) 1 0 2)) 1 1 34 a i = 0 := fun a i h => by rw [st2_ne (by omega), i_P_gt (by omega)]; exact z1 a i (by omega)
  have z3 : ∀ a i : Int, 82 < a → st2 (i_V (st2 (i_P (st2 (i_L σ) 1 0 2)) 1 1 34)) 1 2 76 a i = 0 := fun a i h => by rw [st2_ne (by omega), i_V_gt (by omega)]; exact z2 a i (by omega)
  have z4 : ∀ i : Int, st2 (i_R (st2 (i_V (st2 (i_P (st2 (i_L σ) 1 0 2)) 1 1 34)) 1 2 76)) 1 3 83 85 i = 0 := fun i => by
    rw [st2_ne (by omega)]
    unfold i_R
    rw [st2_ne (by omega), st2_ne (by omega), st2_ne (by omega)]
    exact z3 85 i (by omega)
  refine ok_mkI (by decide) (Nat.le_of_ble_eq_true rfl) rfl (fun K C hin rt ha hok hfx => ?_)
  show XW LyX TN K 1 σ 0 0 0 [some (.inr 1)] []
  refine x_aload_n C d_X_init_0 rfl rfl ?_
  refine x_objInit C w_ol_X w_oiI w_oiC d_X_init_1 (by omega) (by decide) (Nat.le_of_ble_eq_true rfl) ?_
  refine x_aload_n C d_X_init_4 rfl rfl ?_
  refine x_new C (2) (2) (_) (by first | rfl | omega) (by first | rfl | omega) cf_XL w_cl_X_9 w_in_XL w_ii_XL d_X_init_5 (by first | rfl | exact lx_T (by omega) | exact lx_C (by omega) (by omega) (by omega) | exact lx_A (by omega) (by omega) (by omega)) (by decide) (fun _ _ => rfl) (fun i => hz 2 i (by decide)) (fun _ _ h => by cases h) (by omega) (by omega) ?_
  refine x_dup C d_X_init_8 ?_
  refine x_callI C cl_X_11 cb_XL_init cs_XL_init rfl d_X_init_9 (c_XL_init (fun a i h => hz a i (by omega))) rfl rfl (by omega) (by omega) (by decide) (by decide) (Nat.le_of_ble_eq_true rfl) (by omega) (by omega) ?_
  rintro _ _ _ ⟨rfl, rfl, rfl⟩ -
  refine x_putFR C hin 0 rfl (by omega) cf_X w_fl_X_12 d_X_init_12 rfl (fun _ => nfO) rfl rfl rfl rfl (by omega) (by omega) ?_
  refine x_aload_n C d_X_init_15 rfl rfl ?_
  refine x_new C (34) (34) (_) (by first | rfl | omega) (by first | rfl | omega) cf_XP w_cl_X_16 w_in_XP w_ii_XP d_X_init_16 (by first | rfl | exact lx_T (by omega) | exact lx_C (by omega) (by omega) (by omega) | exact lx_A (by omega) (by omega) (by omega)) (by decide) (fun _ _ => rfl) (fun i => z1 34 i (by decide)) (fun _ _ h => by cases h) (by omega) (by omega) ?_
  refine x_dup C d_X_init_19 ?_
  refine x_aload_n C d_X_init_20 rfl rfl ?_
  refine x_getR C 0 (2) cf_X fl_X_12 d_X_init_21 rfl rfl rfl (by omega) (by omega) (st2_eq) ?_
  refine x_callI C cl_X_18 cb_XP_init cs_XP_init rfl d_X_init_24 (c_XP_init (fun a i h => z1 a i (by omega))) rfl rfl (by omega) (by omega) (by decide) (by decide) (Nat.le_of_ble_eq_true rfl) (by omega) (by omega) ?_
  rintro _ _ _ ⟨rfl, rfl, rfl⟩ -
  refine x_putFR C hin 1 rfl (by omega) cf_X w_fl_X_21 d_X_init_27 rfl (fun _ => nfO) rfl rfl rfl rfl (by omega) (by omega) ?_
  refine x_aload_n C d_X_init_30 rfl rfl ?_
  refine x_new C (76) (76) (_) (by first | rfl | omega) (by first | rfl | omega) cf_XV w_cl_X_25 w_in_XV w_ii_XV d_X_init_31 (by first | rfl | exact lx_T (by omega) | exact lx_C (by omega) (by omega) (by omega) | exact lx_A (by omega) (by omega) (by omega)) (by decide) (fun _ _ => rfl) (fun i => z2 76 i (by decide)) (fun _ _ h => by cases h) (by omega) (by omega) ?_
  refine x_dup C d_X_init_34 ?_
  refine x_callI C cl_X_27 cb_XV_init cs_XV_init rfl d_X_init_35 (c_XV_init (fun a i h => z2 a i (by omega))) rfl rfl (by omega) (by omega) (by decide) (by decide) (Nat.le_of_ble_eq_true rfl) (by omega) (by omega) ?_
  rintro _ _ _ ⟨rfl, rfl, rfl⟩ -
  refine x_putFR C hin 2 rfl (by omega) cf_X w_fl_X_28 d_X_init_38 rfl (fun _ => nfO) rfl rfl rfl rfl (by omega) (by omega) ?_
  refine x_aload_n C d_X_init_41 rfl rfl ?_
  refine x_new C (83) (83) (_) (by first | rfl | omega) (by first | rfl | omega) cf_XR w_cl_X_32 w_in_XR w_ii_XR d_X_init_42 (by first | rfl | exact lx_T (by omega) | exact lx_C (by omega) (by omega) (by omega) | exact lx_A (by omega) (by omega) (by omega)) (by decide) (fun _ _ => rfl) (fun i => z3 83 i (by decide)) (fun _ _ h => by cases h) (by omega) (by omega) ?_
  refine x_dup C d_X_init_45 ?_
  refine x_aload_n C d_X_init_46 rfl rfl ?_
  refine x_getR C 0 (2) cf_X fl_X_12 d_X_init_47 rfl rfl rfl (by omega) (by omega) (by rw [st2_ii (by decide)]; unfold i_V; rw [st2_ne (by decide), mnr_lt (by decide), st2_ne (by decide), st2_ii (by decide)]; unfold i_P; rw [i_PL_fr _ 6 (by decide)]; unfold i_P0; (repeat rw [st2_ne (by decide)]); exact st2_eq) ?_
  refine x_aload_n C d_X_init_50 rfl rfl ?_
  refine x_getR C 1 (34) cf_X fl_X_21 d_X_init_51 rfl rfl rfl (by omega) (by omega) (by rw [st2_ii (by decide)]; unfold i_V; rw [st2_ne (by decide), mnr_lt (by decide), st2_ne (by decide)]; exact st2_eq) ?_
  refine x_callI C cl_X_34 cb_XR_init cs_XR_init rfl d_X_init_54 (c_XR_init (fun a i h => z3 a i (by omega))) rfl rfl (by omega) (by omega) (by decide) (by decide) (Nat.le_of_ble_eq_true rfl) (by omega) (by omega) ?_
  rintro _ _ _ ⟨rfl, rfl, rfl⟩ -
  refine x_putFR C hin 3 rfl (by omega) cf_X w_fl_X_37 d_X_init_57 rfl (fun _ => nfO) rfl rfl rfl rfl (by omega) (by omega) ?_
  refine x_aload_n C d_X_init_60 rfl rfl ?_
  refine x_bipush C d_X_init_61 (by decide) (by decide) ?_
  refine x_anew (len := 61) C (85) (85) (_) (by first | rfl | omega) (by first | rfl | omega) (Or.inl ⟨rfl, rfl⟩) w_cl_X_41 d_X_init_63 (by first | rfl | exact lx_T (by omega) | exact lx_C (by omega) (by omega) (by omega) | exact lx_A (by omega) (by omega) (by omega)) rfl (by decide) (fun _ _ => rfl) (fun i => z4 i) (fun _ _ h => by cases h) (by omega) (by omega) ?_
  refine x_putFR C hin 4 rfl (by omega) cf_X w_fl_X_43 d_X_init_66 rfl (fun _ => nfA) rfl rfl rfl rfl (by omega) (by omega) ?_
  refine x_aload_n C d_X_init_69 rfl rfl ?_
  refine x_iconst C d_X_init_70 (by decide) ?_
  refine x_putI C 8 rfl cf_X fl_X_47 d_X_init_71 rfl (Or.inr ⟨rfl, rfl, by omega, by omega⟩) rfl rfl rfl (by omega) (by omega) ?_
  exact x_vret rt d_X_init_74 (by omega) (by omega) ⟨rfl, rfl, rfl⟩

