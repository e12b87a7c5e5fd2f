-- printed by wip/whole/src/walk.py: what the tables say of classes, fields, methods, calls
theorem tb_1 {w : Cond} (h : w ∈ tables_1_1) : w ∈ lw_tbl := List.mem_append_right _ (List.mem_append_left _ h)
theorem tb_2 {w : Cond} (h : w ∈ tables_1_2) : w ∈ lw_tbl := List.mem_append_right _ (List.mem_append_right _ (List.mem_append_left _ h))
theorem tb_3 {w : Cond} (h : w ∈ tables_1_3) : w ∈ lw_tbl := List.mem_append_right _ (List.mem_append_right _ (List.mem_append_right _ (List.mem_append_left _ h)))
theorem tb_4 {w : Cond} (h : w ∈ tables_1_4) : w ∈ lw_tbl := List.mem_append_right _ (List.mem_append_right _ (List.mem_append_right _ (List.mem_append_right _ h)))
set_option maxRecDepth 20000 in
theorem cw_X : ∀ w ∈ u_ws R_X F_X 9, w ∈ AW := fun w h => List.mem_filter.mpr (by
  have := List.all_eq_true.mp (show (u_ws R_X F_X 9).all (fun w => decide (w ∈ lw_tbl) && goodWord w) = true by decide +kernel) w h
  simpa using this)
set_option maxRecDepth 20000 in
theorem cf_X : CF 0 R_X F_X 9 k_X t_X := ⟨rfl, cw_X, rfl, by decide +kernel, by decide +kernel, by decide +kernel⟩
set_option maxRecDepth 20000 in
theorem cw_XL : ∀ w ∈ u_ws R_XL F_XL 15, w ∈ AW := fun w h => List.mem_filter.mpr (by
  have := List.all_eq_true.mp (show (u_ws R_XL F_XL 15).all (fun w => decide (w ∈ lw_tbl) && goodWord w) = true by decide +kernel) w h
  simpa using this)
set_option maxRecDepth 20000 in
theorem cf_XL : CF 1 R_XL F_XL 15 k_XL t_XL := ⟨rfl, cw_XL, rfl, by decide +kernel, by decide +kernel, by decide +kernel⟩
set_option maxRecDepth 20000 in
theorem cw_XP : ∀ w ∈ u_ws R_XP F_XP 9, w ∈ AW := fun w h => List.mem_filter.mpr (by
  have := List.all_eq_true.mp (show (u_ws R_XP F_XP 9).all (fun w => decide (w ∈ lw_tbl) && goodWord w) = true by decide +kernel) w h
  simpa using this)
set_option maxRecDepth 20000 in
theorem cf_XP : CF 2 R_XP F_XP 9 k_XP t_XP := ⟨rfl, cw_XP, rfl, by decide +kernel, by decide +kernel, by decide +kernel⟩
set_option maxRecDepth 20000 in
theorem cw_XC : ∀ w ∈ u_ws R_XC F_XC 3, w ∈ AW := fun w h => List.mem_filter.mpr (by
  have := List.all_eq_true.mp (show (u_ws R_XC F_XC 3).all (fun w => decide (w ∈ lw_tbl) && goodWord w) = true by decide +kernel) w h
  simpa using this)
set_option maxRecDepth 20000 in
theorem cf_XC : CF 3 R_XC F_XC 3 k_XC t_XC := ⟨rfl, cw_XC, rfl, by decide +kernel, by decide +kernel, by decide +kernel⟩
set_option maxRecDepth 20000 in
theorem cw_XV : ∀ w ∈ u_ws R_XV F_XV 2, w ∈ AW := fun w h => List.mem_filter.mpr (by
  have := List.all_eq_true.mp (show (u_ws R_XV F_XV 2).all (fun w => decide (w ∈ lw_tbl) && goodWord w) = true by decide +kernel) w h
  simpa using this)
set_option maxRecDepth 20000 in
theorem cf_XV : CF 4 R_XV F_XV 2 k_XV t_XV := ⟨rfl, cw_XV, rfl, by decide +kernel, by decide +kernel, by decide +kernel⟩
set_option maxRecDepth 20000 in
theorem cw_XR : ∀ w ∈ u_ws R_XR F_XR 6, w ∈ AW := fun w h => List.mem_filter.mpr (by
  have := List.all_eq_true.mp (show (u_ws R_XR F_XR 6).all (fun w => decide (w ∈ lw_tbl) && goodWord w) = true by decide +kernel) w h
  simpa using this)
set_option maxRecDepth 20000 in
theorem cf_XR : CF 5 R_XR F_XR 6 k_XR t_XR := ⟨rfl, cw_XR, rfl, by decide +kernel, by decide +kernel, by decide +kernel⟩
set_option maxRecDepth 20000 in
theorem cw_XT : ∀ w ∈ u_ws R_XT F_XT 9, w ∈ AW := fun w h => List.mem_filter.mpr (by
  have := List.all_eq_true.mp (show (u_ws R_XT F_XT 9).all (fun w => decide (w ∈ lw_tbl) && goodWord w) = true by decide +kernel) w h
  simpa using this)
set_option maxRecDepth 20000 in
theorem cf_XT : CF 6 R_XT F_XT 9 k_XT t_XT := ⟨rfl, cw_XT, rfl, by decide +kernel, by decide +kernel, by decide +kernel⟩
set_option maxRecDepth 20000 in
theorem cw_M : ∀ w ∈ u_ws R_M F_M 37, w ∈ AW := fun w h => List.mem_filter.mpr (by
  have := List.all_eq_true.mp (show (u_ws R_M F_M 37).all (fun w => decide (w ∈ lw_tbl) && goodWord w) = true by decide +kernel) w h
  simpa using this)
set_option maxRecDepth 20000 in
theorem cf_M : CF 7 R_M F_M 37 k_M t_M := ⟨rfl, cw_M, rfl, by decide +kernel, by decide +kernel, by decide +kernel⟩
set_option maxRecDepth 20000 in
theorem cl_X_11 : CLk R_X 11 y_XL_init := Or.inr ⟨"LogStore", nw_in (tb_1 (List.mem_of_getElem? (i := 21) rfl)) rfl⟩
set_option maxRecDepth 20000 in
theorem fl_X_12 : FLk R_X 12 R_X F_X 0 := Or.inl (aw_in (tb_1 (List.mem_of_getElem? (i := 194) rfl)) rfl)
set_option maxRecDepth 20000 in
theorem cl_X_18 : CLk R_X 18 y_XP_init := Or.inr ⟨"LogStore", nw_in (tb_1 (List.mem_of_getElem? (i := 92) rfl)) rfl⟩
set_option maxRecDepth 20000 in
theorem fl_X_21 : FLk R_X 21 R_X F_X 1 := Or.inl (aw_in (tb_1 (List.mem_of_getElem? (i := 195) rfl)) rfl)
set_option maxRecDepth 20000 in
theorem cl_X_27 : CLk R_X 27 y_XV_init := Or.inr ⟨"LogStore", nw_in (tb_1 (List.mem_of_getElem? (i := 154) rfl)) rfl⟩
set_option maxRecDepth 20000 in
theorem fl_X_28 : FLk R_X 28 R_X F_X 2 := Or.inl (aw_in (tb_1 (List.mem_of_getElem? (i := 196) rfl)) rfl)
set_option maxRecDepth 20000 in
theorem cl_X_34 : CLk R_X 34 y_XR_init := Or.inr ⟨"LogStore", nw_in (tb_1 (List.mem_of_getElem? (i := 170) rfl)) rfl⟩
set_option maxRecDepth 20000 in
theorem fl_X_37 : FLk R_X 37 R_X F_X 3 := Or.inl (aw_in (tb_1 (List.mem_of_getElem? (i := 197) rfl)) rfl)
set_option maxRecDepth 20000 in
theorem fl_X_43 : FLk R_X 43 R_X F_X 4 := Or.inl (aw_in (tb_1 (List.mem_of_getElem? (i := 198) rfl)) rfl)
set_option maxRecDepth 20000 in
theorem fl_X_47 : FLk R_X 47 R_X F_X 8 := Or.inl (aw_in (tb_1 (List.mem_of_getElem? (i := 202) rfl)) rfl)
set_option maxRecDepth 20000 in
theorem cl_X_51 : CLk R_X 51 y_XV_freeSeat := Or.inr ⟨"LogStore", nw_in (tb_1 (List.mem_of_getElem? (i := 226) rfl)) rfl⟩
set_option maxRecDepth 20000 in
theorem fl_X_55 : FLk R_X 55 R_X F_X 5 := Or.inl (aw_in (tb_1 (List.mem_of_getElem? (i := 199) rfl)) rfl)
set_option maxRecDepth 20000 in
theorem cl_X_59 : CLk R_X 59 y_XT_init := Or.inr ⟨"LogStore", nw_in (tb_1 (List.mem_of_getElem? (i := 231) rfl)) rfl⟩
set_option maxRecDepth 20000 in
theorem cl_X_62 : CLk R_X 62 y_XV_enter := Or.inr ⟨"LogStore", nw_in (tb_2 (List.mem_of_getElem? (i := 35) rfl)) rfl⟩
set_option maxRecDepth 20000 in
theorem cl_X_66 : CLk R_X 66 y_X_settle := Or.inl (aw_in (tb_2 (List.mem_of_getElem? (i := 39) rfl)) rfl)
set_option maxRecDepth 20000 in
theorem cl_X_69 : CLk R_X 69 y_X_request := Or.inl (aw_in (tb_2 (List.mem_of_getElem? (i := 142) rfl)) rfl)
set_option maxRecDepth 20000 in
theorem cl_X_73 : CLk R_X 73 y_X_find := Or.inl (aw_in (tb_2 (List.mem_of_getElem? (i := 146) rfl)) rfl)
set_option maxRecDepth 20000 in
theorem fl_X_77 : FLk R_X 77 R_XT F_XT 2 := Or.inr ⟨"LogStore", nw_in (tb_2 (List.mem_of_getElem? (i := 2) rfl)) rfl⟩
set_option maxRecDepth 20000 in
theorem cl_X_80 : CLk R_X 80 y_XL_addCommit := Or.inr ⟨"LogStore", nw_in (tb_2 (List.mem_of_getElem? (i := 192) rfl)) rfl⟩
set_option maxRecDepth 20000 in
theorem cl_X_84 : CLk R_X 84 y_X_rollBack := Or.inl (aw_in (tb_2 (List.mem_of_getElem? (i := 166) rfl)) rfl)
set_option maxRecDepth 20000 in
theorem fl_X_87 : FLk R_X 87 R_XL F_XL 11 := Or.inr ⟨"LogStore", nw_in (tb_1 (List.mem_of_getElem? (i := 49) rfl)) rfl⟩
set_option maxRecDepth 20000 in
theorem cl_X_90 : CLk R_X 90 y_XL_makeStable := Or.inr ⟨"LogStore", nw_in (tb_2 (List.mem_of_getElem? (i := 204) rfl)) rfl⟩
set_option maxRecDepth 20000 in
theorem fl_X_93 : FLk R_X 93 R_XL F_XL 14 := Or.inr ⟨"LogStore", nw_in (tb_1 (List.mem_of_getElem? (i := 57) rfl)) rfl⟩
set_option maxRecDepth 20000 in
theorem fl_X_96 : FLk R_X 96 R_XP F_XP 4 := Or.inr ⟨"LogStore", nw_in (tb_1 (List.mem_of_getElem? (i := 126) rfl)) rfl⟩
set_option maxRecDepth 20000 in
theorem cl_X_100 : CLk R_X 100 y_XL_addCheckpoint := Or.inr ⟨"LogStore", nw_in (tb_2 (List.mem_of_getElem? (i := 209) rfl)) rfl⟩
set_option maxRecDepth 20000 in
theorem cl_X_104 : CLk R_X 104 y_X_isPage := Or.inl (aw_in (tb_2 (List.mem_of_getElem? (i := 220) rfl)) rfl)
set_option maxRecDepth 20000 in
theorem cl_X_108 : CLk R_X 108 y_XP_isDirty := Or.inr ⟨"LogStore", nw_in (tb_2 (List.mem_of_getElem? (i := 223) rfl)) rfl⟩
set_option maxRecDepth 20000 in
theorem cl_X_111 : CLk R_X 111 y_XP_writeOut := Or.inr ⟨"LogStore", nw_in (tb_2 (List.mem_of_getElem? (i := 224) rfl)) rfl⟩
set_option maxRecDepth 20000 in
theorem fl_X_114 : FLk R_X 114 R_X F_X 7 := Or.inl (aw_in (tb_1 (List.mem_of_getElem? (i := 201) rfl)) rfl)
set_option maxRecDepth 20000 in
theorem fl_X_117 : FLk R_X 117 R_XL F_XL 12 := Or.inr ⟨"LogStore", nw_in (tb_1 (List.mem_of_getElem? (i := 51) rfl)) rfl⟩
set_option maxRecDepth 20000 in
theorem cl_X_126 : CLk R_X 126 y_XL_loseUnstable := Or.inr ⟨"LogStore", nw_in (tb_2 (List.mem_of_getElem? (i := 232) rfl)) rfl⟩
set_option maxRecDepth 20000 in
theorem cl_X_129 : CLk R_X 129 y_XP_empty := Or.inr ⟨"LogStore", nw_in (tb_3 (List.mem_of_getElem? (i := 0) rfl)) rfl⟩
set_option maxRecDepth 20000 in
theorem cl_X_132 : CLk R_X 132 y_XV_leaveAllInDoubt := Or.inr ⟨"LogStore", nw_in (tb_3 (List.mem_of_getElem? (i := 4) rfl)) rfl⟩
set_option maxRecDepth 20000 in
theorem cl_X_135 : CLk R_X 135 y_XR_startAnew := Or.inr ⟨"LogStore", nw_in (tb_3 (List.mem_of_getElem? (i := 9) rfl)) rfl⟩
set_option maxRecDepth 20000 in
theorem cl_X_138 : CLk R_X 138 y_XR_makeUnit := Or.inr ⟨"LogStore", nw_in (tb_3 (List.mem_of_getElem? (i := 17) rfl)) rfl⟩
set_option maxRecDepth 20000 in
theorem cl_X_141 : CLk R_X 141 y_XR_isFinished := Or.inr ⟨"LogStore", nw_in (tb_3 (List.mem_of_getElem? (i := 52) rfl)) rfl⟩
set_option maxRecDepth 20000 in
theorem cl_X_145 : CLk R_X 145 y_X_comeUp := Or.inl (aw_in (tb_3 (List.mem_of_getElem? (i := 56) rfl)) rfl)
set_option maxRecDepth 20000 in
theorem fl_X_148 : FLk R_X 148 R_XT F_XT 3 := Or.inr ⟨"LogStore", nw_in (tb_2 (List.mem_of_getElem? (i := 4) rfl)) rfl⟩
set_option maxRecDepth 20000 in
theorem fl_X_151 : FLk R_X 151 R_XT F_XT 4 := Or.inr ⟨"LogStore", nw_in (tb_2 (List.mem_of_getElem? (i := 5) rfl)) rfl⟩
set_option maxRecDepth 20000 in
theorem cl_X_154 : CLk R_X 154 y_X_place := Or.inl (aw_in (tb_3 (List.mem_of_getElem? (i := 80) rfl)) rfl)
set_option maxRecDepth 20000 in
theorem cl_X_158 : CLk R_X 158 y_XP_valueAt := Or.inr ⟨"LogStore", nw_in (tb_2 (List.mem_of_getElem? (i := 117) rfl)) rfl⟩
set_option maxRecDepth 20000 in
theorem cl_X_161 : CLk R_X 161 y_X_isKey := Or.inl (aw_in (tb_2 (List.mem_of_getElem? (i := 150) rfl)) rfl)
set_option maxRecDepth 20000 in
theorem cl_X_164 : CLk R_X 164 y_XP_placeOf := Or.inr ⟨"LogStore", nw_in (tb_2 (List.mem_of_getElem? (i := 81) rfl)) rfl⟩
set_option maxRecDepth 20000 in
theorem cl_X_167 : CLk R_X 167 y_XP_leastKeyAbove := Or.inr ⟨"LogStore", nw_in (tb_3 (List.mem_of_getElem? (i := 89) rfl)) rfl⟩
set_option maxRecDepth 20000 in
theorem fl_X_170 : FLk R_X 170 R_XP F_XP 7 := Or.inr ⟨"LogStore", nw_in (tb_1 (List.mem_of_getElem? (i := 130) rfl)) rfl⟩
set_option maxRecDepth 20000 in
theorem fl_X_173 : FLk R_X 173 R_XP F_XP 8 := Or.inr ⟨"LogStore", nw_in (tb_1 (List.mem_of_getElem? (i := 132) rfl)) rfl⟩
set_option maxRecDepth 20000 in
theorem fl_X_176 : FLk R_X 176 R_XP F_XP 3 := Or.inr ⟨"LogStore", nw_in (tb_1 (List.mem_of_getElem? (i := 124) rfl)) rfl⟩
set_option maxRecDepth 20000 in
theorem fl_X_180 : FLk R_X 180 R_XP F_XP 2 := Or.inr ⟨"LogStore", nw_in (tb_1 (List.mem_of_getElem? (i := 122) rfl)) rfl⟩
set_option maxRecDepth 20000 in
theorem fl_X_184 : FLk R_X 184 R_XC F_XC 2 := Or.inr ⟨"LogStore", nw_in (tb_1 (List.mem_of_getElem? (i := 109) rfl)) rfl⟩
set_option maxRecDepth 20000 in
theorem fl_X_189 : FLk R_X 189 R_XP F_XP 1 := Or.inr ⟨"LogStore", nw_in (tb_1 (List.mem_of_getElem? (i := 120) rfl)) rfl⟩
set_option maxRecDepth 20000 in
theorem fl_X_192 : FLk R_X 192 R_X F_X 6 := Or.inl (aw_in (tb_1 (List.mem_of_getElem? (i := 200) rfl)) rfl)
set_option maxRecDepth 20000 in
theorem cl_X_195 : CLk R_X 195 y_XT_ask := Or.inr ⟨"LogStore", nw_in (tb_2 (List.mem_of_getElem? (i := 153) rfl)) rfl⟩
set_option maxRecDepth 20000 in
theorem cl_X_199 : CLk R_X 199 y_XV_isFit := Or.inr ⟨"LogStore", nw_in (tb_2 (List.mem_of_getElem? (i := 157) rfl)) rfl⟩
set_option maxRecDepth 20000 in
theorem cl_X_203 : CLk R_X 203 y_X_grant := Or.inl (aw_in (tb_2 (List.mem_of_getElem? (i := 66) rfl)) rfl)
set_option maxRecDepth 20000 in
theorem cl_X_206 : CLk R_X 206 y_XV_waitsForItself := Or.inr ⟨"LogStore", nw_in (tb_2 (List.mem_of_getElem? (i := 158) rfl)) rfl⟩
set_option maxRecDepth 20000 in
theorem cl_X_209 : CLk R_X 209 y_XV_hold := Or.inr ⟨"LogStore", nw_in (tb_2 (List.mem_of_getElem? (i := 70) rfl)) rfl⟩
set_option maxRecDepth 20000 in
theorem fl_X_212 : FLk R_X 212 R_XT F_XT 7 := Or.inr ⟨"LogStore", nw_in (tb_2 (List.mem_of_getElem? (i := 13) rfl)) rfl⟩
set_option maxRecDepth 20000 in
theorem cl_X_215 : CLk R_X 215 y_X_readFor := Or.inl (aw_in (tb_2 (List.mem_of_getElem? (i := 77) rfl)) rfl)
set_option maxRecDepth 20000 in
theorem cl_X_218 : CLk R_X 218 y_X_writeFor := Or.inl (aw_in (tb_2 (List.mem_of_getElem? (i := 121) rfl)) rfl)
set_option maxRecDepth 20000 in
theorem fl_X_221 : FLk R_X 221 R_XT F_XT 6 := Or.inr ⟨"LogStore", nw_in (tb_2 (List.mem_of_getElem? (i := 10) rfl)) rfl⟩
set_option maxRecDepth 20000 in
theorem cl_X_224 : CLk R_X 224 y_XP_fetch := Or.inr ⟨"LogStore", nw_in (tb_2 (List.mem_of_getElem? (i := 93) rfl)) rfl⟩
set_option maxRecDepth 20000 in
theorem fl_X_227 : FLk R_X 227 R_XL F_XL 13 := Or.inr ⟨"LogStore", nw_in (tb_1 (List.mem_of_getElem? (i := 54) rfl)) rfl⟩
set_option maxRecDepth 20000 in
theorem fl_X_230 : FLk R_X 230 R_XT F_XT 0 := Or.inr ⟨"LogStore", nw_in (tb_1 (List.mem_of_getElem? (i := 237) rfl)) rfl⟩
set_option maxRecDepth 20000 in
theorem cl_X_233 : CLk R_X 233 y_XP_keyAt := Or.inr ⟨"LogStore", nw_in (tb_2 (List.mem_of_getElem? (i := 125) rfl)) rfl⟩
set_option maxRecDepth 20000 in
theorem fl_X_236 : FLk R_X 236 R_XT F_XT 8 := Or.inr ⟨"LogStore", nw_in (tb_2 (List.mem_of_getElem? (i := 15) rfl)) rfl⟩
set_option maxRecDepth 20000 in
theorem cl_X_239 : CLk R_X 239 y_XL_addUpdate := Or.inr ⟨"LogStore", nw_in (tb_2 (List.mem_of_getElem? (i := 126) rfl)) rfl⟩
set_option maxRecDepth 20000 in
theorem cl_X_243 : CLk R_X 243 y_XP_apply := Or.inr ⟨"LogStore", nw_in (tb_2 (List.mem_of_getElem? (i := 134) rfl)) rfl⟩
set_option maxRecDepth 20000 in
theorem fl_X_246 : FLk R_X 246 R_XL F_XL 1 := Or.inr ⟨"LogStore", nw_in (tb_1 (List.mem_of_getElem? (i := 29) rfl)) rfl⟩
set_option maxRecDepth 20000 in
theorem cl_X_249 : CLk R_X 249 y_XL_isOpen := Or.inr ⟨"LogStore", nw_in (tb_2 (List.mem_of_getElem? (i := 170) rfl)) rfl⟩
set_option maxRecDepth 20000 in
theorem cl_X_252 : CLk R_X 252 y_XP_takeBack := Or.inr ⟨"LogStore", nw_in (tb_2 (List.mem_of_getElem? (i := 174) rfl)) rfl⟩
set_option maxRecDepth 20000 in
theorem cl_X_255 : CLk R_X 255 y_XV_leave := Or.inr ⟨"LogStore", nw_in (tb_2 (List.mem_of_getElem? (i := 47) rfl)) rfl⟩
set_option maxRecDepth 20000 in
theorem cl_X_259 : CLk R_X 259 y_XV_leastStableCommit := Or.inr ⟨"LogStore", nw_in (tb_2 (List.mem_of_getElem? (i := 43) rfl)) rfl⟩
set_option maxRecDepth 20000 in
theorem cl_X_263 : CLk R_X 263 y_XV_firstFitWaiting := Or.inr ⟨"LogStore", nw_in (tb_2 (List.mem_of_getElem? (i := 51) rfl)) rfl⟩
set_option maxRecDepth 20000 in
theorem fl_X_267 : FLk R_X 267 R_XL F_XL 8 := Or.inr ⟨"LogStore", nw_in (tb_1 (List.mem_of_getElem? (i := 42) rfl)) rfl⟩
set_option maxRecDepth 20000 in
theorem fl_M_7 : FLk R_M 7 R_M F_M 2 := Or.inl (aw_in (tb_3 (List.mem_of_getElem? (i := 109) rfl)) rfl)
set_option maxRecDepth 20000 in
theorem fl_M_13 : FLk R_M 13 R_M F_M 3 := Or.inl (aw_in (tb_3 (List.mem_of_getElem? (i := 110) rfl)) rfl)
set_option maxRecDepth 20000 in
theorem fl_M_16 : FLk R_M 16 R_M F_M 4 := Or.inl (aw_in (tb_3 (List.mem_of_getElem? (i := 111) rfl)) rfl)
set_option maxRecDepth 20000 in
theorem fl_M_19 : FLk R_M 19 R_M F_M 5 := Or.inl (aw_in (tb_3 (List.mem_of_getElem? (i := 112) rfl)) rfl)
set_option maxRecDepth 20000 in
theorem fl_M_22 : FLk R_M 22 R_M F_M 6 := Or.inl (aw_in (tb_3 (List.mem_of_getElem? (i := 113) rfl)) rfl)
set_option maxRecDepth 20000 in
theorem fl_M_25 : FLk R_M 25 R_M F_M 7 := Or.inl (aw_in (tb_3 (List.mem_of_getElem? (i := 114) rfl)) rfl)
set_option maxRecDepth 20000 in
theorem fl_M_28 : FLk R_M 28 R_M F_M 8 := Or.inl (aw_in (tb_3 (List.mem_of_getElem? (i := 115) rfl)) rfl)
set_option maxRecDepth 20000 in
theorem fl_M_31 : FLk R_M 31 R_M F_M 9 := Or.inl (aw_in (tb_3 (List.mem_of_getElem? (i := 116) rfl)) rfl)
set_option maxRecDepth 20000 in
theorem fl_M_34 : FLk R_M 34 R_M F_M 10 := Or.inl (aw_in (tb_3 (List.mem_of_getElem? (i := 117) rfl)) rfl)
set_option maxRecDepth 20000 in
theorem fl_M_37 : FLk R_M 37 R_M F_M 11 := Or.inl (aw_in (tb_3 (List.mem_of_getElem? (i := 118) rfl)) rfl)
set_option maxRecDepth 20000 in
theorem fl_M_40 : FLk R_M 40 R_M F_M 12 := Or.inl (aw_in (tb_3 (List.mem_of_getElem? (i := 119) rfl)) rfl)
set_option maxRecDepth 20000 in
theorem fl_M_43 : FLk R_M 43 R_M F_M 13 := Or.inl (aw_in (tb_3 (List.mem_of_getElem? (i := 120) rfl)) rfl)
set_option maxRecDepth 20000 in
theorem fl_M_46 : FLk R_M 46 R_M F_M 14 := Or.inl (aw_in (tb_3 (List.mem_of_getElem? (i := 121) rfl)) rfl)
set_option maxRecDepth 20000 in
theorem fl_M_49 : FLk R_M 49 R_M F_M 15 := Or.inl (aw_in (tb_3 (List.mem_of_getElem? (i := 122) rfl)) rfl)
set_option maxRecDepth 20000 in
theorem fl_M_52 : FLk R_M 52 R_M F_M 16 := Or.inl (aw_in (tb_3 (List.mem_of_getElem? (i := 123) rfl)) rfl)
set_option maxRecDepth 20000 in
theorem fl_M_55 : FLk R_M 55 R_M F_M 17 := Or.inl (aw_in (tb_3 (List.mem_of_getElem? (i := 124) rfl)) rfl)
set_option maxRecDepth 20000 in
theorem fl_M_58 : FLk R_M 58 R_M F_M 18 := Or.inl (aw_in (tb_3 (List.mem_of_getElem? (i := 125) rfl)) rfl)
set_option maxRecDepth 20000 in
theorem fl_M_61 : FLk R_M 61 R_M F_M 23 := Or.inl (aw_in (tb_3 (List.mem_of_getElem? (i := 130) rfl)) rfl)
set_option maxRecDepth 20000 in
theorem fl_M_64 : FLk R_M 64 R_M F_M 24 := Or.inl (aw_in (tb_3 (List.mem_of_getElem? (i := 131) rfl)) rfl)
set_option maxRecDepth 20000 in
theorem fl_M_67 : FLk R_M 67 R_M F_M 25 := Or.inl (aw_in (tb_3 (List.mem_of_getElem? (i := 132) rfl)) rfl)
set_option maxRecDepth 20000 in
theorem fl_M_70 : FLk R_M 70 R_M F_M 26 := Or.inl (aw_in (tb_3 (List.mem_of_getElem? (i := 133) rfl)) rfl)
set_option maxRecDepth 20000 in
theorem fl_M_73 : FLk R_M 73 R_M F_M 27 := Or.inl (aw_in (tb_3 (List.mem_of_getElem? (i := 134) rfl)) rfl)
set_option maxRecDepth 20000 in
theorem fl_M_76 : FLk R_M 76 R_M F_M 28 := Or.inl (aw_in (tb_3 (List.mem_of_getElem? (i := 135) rfl)) rfl)
set_option maxRecDepth 20000 in
theorem fl_M_79 : FLk R_M 79 R_M F_M 29 := Or.inl (aw_in (tb_3 (List.mem_of_getElem? (i := 136) rfl)) rfl)
set_option maxRecDepth 20000 in
theorem fl_M_82 : FLk R_M 82 R_M F_M 30 := Or.inl (aw_in (tb_3 (List.mem_of_getElem? (i := 137) rfl)) rfl)
set_option maxRecDepth 20000 in
theorem fl_M_86 : FLk R_M 86 R_M F_M 31 := Or.inl (aw_in (tb_3 (List.mem_of_getElem? (i := 138) rfl)) rfl)
set_option maxRecDepth 20000 in
theorem fl_M_90 : FLk R_M 90 R_M F_M 36 := Or.inl (aw_in (tb_3 (List.mem_of_getElem? (i := 143) rfl)) rfl)
set_option maxRecDepth 20000 in
theorem cl_M_93 : CLk R_M 93 y_M_keyAt := Or.inl (aw_in (tb_4 (List.mem_of_getElem? (i := 20) rfl)) rfl)
set_option maxRecDepth 20000 in
theorem fl_M_97 : FLk R_M 97 R_M F_M 1 := Or.inl (aw_in (tb_3 (List.mem_of_getElem? (i := 108) rfl)) rfl)
set_option maxRecDepth 20000 in
theorem fl_M_101 : FLk R_M 101 R_M F_M 21 := Or.inl (aw_in (tb_3 (List.mem_of_getElem? (i := 128) rfl)) rfl)
set_option maxRecDepth 20000 in
theorem fl_M_104 : FLk R_M 104 R_M F_M 19 := Or.inl (aw_in (tb_3 (List.mem_of_getElem? (i := 126) rfl)) rfl)
set_option maxRecDepth 20000 in
theorem cl_M_107 : CLk R_M 107 y_M_spill := Or.inl (aw_in (tb_4 (List.mem_of_getElem? (i := 28) rfl)) rfl)
set_option maxRecDepth 20000 in
theorem fl_M_111 : FLk R_M 111 R_M F_M 20 := Or.inl (aw_in (tb_3 (List.mem_of_getElem? (i := 127) rfl)) rfl)
set_option maxRecDepth 20000 in
theorem fl_M_114 : FLk R_M 114 R_M F_M 0 := Or.inl (aw_in (tb_3 (List.mem_of_getElem? (i := 107) rfl)) rfl)
set_option maxRecDepth 20000 in
theorem cl_M_117 : CLk R_M 117 y_M_committed := Or.inl (aw_in (tb_4 (List.mem_of_getElem? (i := 60) rfl)) rfl)
set_option maxRecDepth 20000 in
theorem cl_M_121 : CLk R_M 121 y_M_fetch := Or.inl (aw_in (tb_4 (List.mem_of_getElem? (i := 24) rfl)) rfl)
set_option maxRecDepth 20000 in
theorem cl_M_124 : CLk R_M 124 y_M_put := Or.inl (aw_in (tb_4 (List.mem_of_getElem? (i := 36) rfl)) rfl)
set_option maxRecDepth 20000 in
theorem cl_M_128 : CLk R_M 128 y_M_apply := Or.inl (aw_in (tb_4 (List.mem_of_getElem? (i := 40) rfl)) rfl)
set_option maxRecDepth 20000 in
theorem cl_M_131 : CLk R_M 131 y_M_conflicts := Or.inl (aw_in (tb_4 (List.mem_of_getElem? (i := 4) rfl)) rfl)
set_option maxRecDepth 20000 in
theorem cl_M_135 : CLk R_M 135 y_M_ahead := Or.inl (aw_in (tb_4 (List.mem_of_getElem? (i := 8) rfl)) rfl)
set_option maxRecDepth 20000 in
theorem fl_M_138 : FLk R_M 138 R_M F_M 22 := Or.inl (aw_in (tb_3 (List.mem_of_getElem? (i := 129) rfl)) rfl)
set_option maxRecDepth 20000 in
theorem cl_M_141 : CLk R_M 141 y_M_waitsFor := Or.inl (aw_in (tb_4 (List.mem_of_getElem? (i := 48) rfl)) rfl)
set_option maxRecDepth 20000 in
theorem cl_M_144 : CLk R_M 144 y_M_find := Or.inl (aw_in (tb_4 (List.mem_of_getElem? (i := 16) rfl)) rfl)
set_option maxRecDepth 20000 in
theorem cl_M_147 : CLk R_M 147 y_M_countOf := Or.inl (aw_in (tb_4 (List.mem_of_getElem? (i := 32) rfl)) rfl)
set_option maxRecDepth 20000 in
theorem cl_M_150 : CLk R_M 150 y_M_open := Or.inl (aw_in (tb_4 (List.mem_of_getElem? (i := 56) rfl)) rfl)
set_option maxRecDepth 20000 in
theorem cl_M_153 : CLk R_M 153 y_M_takeBack := Or.inl (aw_in (tb_4 (List.mem_of_getElem? (i := 64) rfl)) rfl)
set_option maxRecDepth 20000 in
theorem cl_M_156 : CLk R_M 156 y_M_unlock := Or.inl (aw_in (tb_4 (List.mem_of_getElem? (i := 68) rfl)) rfl)
set_option maxRecDepth 20000 in
theorem cl_M_159 : CLk R_M 159 y_M_fit := Or.inl (aw_in (tb_4 (List.mem_of_getElem? (i := 0) rfl)) rfl)
set_option maxRecDepth 20000 in
theorem cl_M_162 : CLk R_M 162 y_M_firm := Or.inl (aw_in (tb_4 (List.mem_of_getElem? (i := 76) rfl)) rfl)
set_option maxRecDepth 20000 in
theorem cl_M_166 : CLk R_M 166 y_M_firstFit := Or.inl (aw_in (tb_4 (List.mem_of_getElem? (i := 80) rfl)) rfl)
set_option maxRecDepth 20000 in
theorem cl_M_169 : CLk R_M 169 y_M_grant := Or.inl (aw_in (tb_4 (List.mem_of_getElem? (i := 12) rfl)) rfl)
set_option maxRecDepth 20000 in
theorem fl_M_172 : FLk R_M 172 R_M F_M 32 := Or.inl (aw_in (tb_3 (List.mem_of_getElem? (i := 139) rfl)) rfl)
set_option maxRecDepth 20000 in
theorem cl_M_176 : CLk R_M 176 y_M_live := Or.inl (aw_in (tb_3 (List.mem_of_getElem? (i := 224) rfl)) rfl)
set_option maxRecDepth 20000 in
theorem cl_M_179 : CLk R_M 179 y_M_isIn := Or.inl (aw_in (tb_3 (List.mem_of_getElem? (i := 236) rfl)) rfl)
set_option maxRecDepth 20000 in
theorem cl_M_182 : CLk R_M 182 y_M_ring := Or.inl (aw_in (tb_4 (List.mem_of_getElem? (i := 44) rfl)) rfl)
set_option maxRecDepth 20000 in
theorem cl_M_185 : CLk R_M 185 y_M_drop := Or.inl (aw_in (tb_4 (List.mem_of_getElem? (i := 52) rfl)) rfl)
set_option maxRecDepth 20000 in
theorem cl_M_188 : CLk R_M 188 y_M_settle := Or.inl (aw_in (tb_4 (List.mem_of_getElem? (i := 72) rfl)) rfl)
set_option maxRecDepth 20000 in
theorem cl_M_191 : CLk R_M 191 y_M_request := Or.inl (aw_in (tb_3 (List.mem_of_getElem? (i := 232) rfl)) rfl)
set_option maxRecDepth 20000 in
theorem fl_M_195 : FLk R_M 195 R_M F_M 33 := Or.inl (aw_in (tb_3 (List.mem_of_getElem? (i := 140) rfl)) rfl)
set_option maxRecDepth 20000 in
theorem fl_M_198 : FLk R_M 198 R_M F_M 34 := Or.inl (aw_in (tb_3 (List.mem_of_getElem? (i := 141) rfl)) rfl)
set_option maxRecDepth 20000 in
theorem fl_M_201 : FLk R_M 201 R_M F_M 35 := Or.inl (aw_in (tb_3 (List.mem_of_getElem? (i := 142) rfl)) rfl)
set_option maxRecDepth 20000 in
theorem cl_M_204 : CLk R_M 204 y_M_analyse := Or.inl (aw_in (tb_4 (List.mem_of_getElem? (i := 120) rfl)) rfl)
set_option maxRecDepth 20000 in
theorem cl_M_207 : CLk R_M 207 y_M_redo := Or.inl (aw_in (tb_4 (List.mem_of_getElem? (i := 124) rfl)) rfl)
set_option maxRecDepth 20000 in
theorem cl_M_210 : CLk R_M 210 y_M_finish := Or.inl (aw_in (tb_4 (List.mem_of_getElem? (i := 128) rfl)) rfl)
set_option maxRecDepth 20000 in
theorem cl_M_213 : CLk R_M 213 y_M_unit := Or.inl (aw_in (tb_4 (List.mem_of_getElem? (i := 116) rfl)) rfl)
set_option maxRecDepth 20000 in
theorem cl_M_216 : CLk R_M 216 y_M_known := Or.inl (aw_in (tb_4 (List.mem_of_getElem? (i := 140) rfl)) rfl)
set_option maxRecDepth 20000 in
theorem cl_M_219 : CLk R_M 219 y_M_place := Or.inl (aw_in (tb_4 (List.mem_of_getElem? (i := 156) rfl)) rfl)
set_option maxRecDepth 20000 in
theorem cl_M_222 : CLk R_M 222 y_M_valueAt := Or.inl (aw_in (tb_4 (List.mem_of_getElem? (i := 160) rfl)) rfl)
set_option maxRecDepth 20000 in
theorem fl_XC_9 : FLk R_XC 9 R_XC F_XC 0 := Or.inl (aw_in (tb_1 (List.mem_of_getElem? (i := 103) rfl)) rfl)
set_option maxRecDepth 20000 in
theorem fl_XC_15 : FLk R_XC 15 R_XC F_XC 1 := Or.inl (aw_in (tb_1 (List.mem_of_getElem? (i := 105) rfl)) rfl)
set_option maxRecDepth 20000 in
theorem fl_XC_18 : FLk R_XC 18 R_XC F_XC 2 := Or.inl (aw_in (tb_1 (List.mem_of_getElem? (i := 107) rfl)) rfl)
set_option maxRecDepth 20000 in
theorem fl_XV_11 : FLk R_XV 11 R_XV F_XV 0 := Or.inl (aw_in (tb_1 (List.mem_of_getElem? (i := 161) rfl)) rfl)
set_option maxRecDepth 20000 in
theorem fl_XV_19 : FLk R_XV 19 R_XV F_XV 1 := Or.inl (aw_in (tb_1 (List.mem_of_getElem? (i := 162) rfl)) rfl)
set_option maxRecDepth 20000 in
theorem fl_XV_22 : FLk R_XV 22 R_XT F_XT 1 := Or.inr ⟨"LogStore", nw_in (tb_1 (List.mem_of_getElem? (i := 239) rfl)) rfl⟩
set_option maxRecDepth 20000 in
theorem fl_XV_26 : FLk R_XV 26 R_XT F_XT 2 := Or.inr ⟨"LogStore", nw_in (tb_2 (List.mem_of_getElem? (i := 1) rfl)) rfl⟩
set_option maxRecDepth 20000 in
theorem cl_XV_29 : CLk R_XV 29 y_XV_leave := Or.inl (aw_in (tb_3 (List.mem_of_getElem? (i := 8) rfl)) rfl)
set_option maxRecDepth 20000 in
theorem fl_XV_33 : FLk R_XV 33 R_XT F_XT 6 := Or.inr ⟨"LogStore", nw_in (tb_2 (List.mem_of_getElem? (i := 9) rfl)) rfl⟩
set_option maxRecDepth 20000 in
theorem fl_XV_36 : FLk R_XV 36 R_XT F_XT 7 := Or.inr ⟨"LogStore", nw_in (tb_2 (List.mem_of_getElem? (i := 12) rfl)) rfl⟩
set_option maxRecDepth 20000 in
theorem cl_XV_45 : CLk R_XV 45 y_XV_obstacles := Or.inl (aw_in (tb_2 (List.mem_of_getElem? (i := 59) rfl)) rfl)
set_option maxRecDepth 20000 in
theorem fl_XV_49 : FLk R_XV 49 R_XT F_XT 5 := Or.inr ⟨"LogStore", nw_in (tb_2 (List.mem_of_getElem? (i := 7) rfl)) rfl⟩
set_option maxRecDepth 20000 in
theorem cl_XV_52 : CLk R_XV 52 y_XV_conflicts := Or.inl (aw_in (tb_2 (List.mem_of_getElem? (i := 63) rfl)) rfl)
set_option maxRecDepth 20000 in
theorem cl_XV_56 : CLk R_XV 56 y_XV_stepFrom := Or.inl (aw_in (tb_2 (List.mem_of_getElem? (i := 162) rfl)) rfl)
set_option maxRecDepth 20000 in
theorem fl_XV_60 : FLk R_XV 60 R_XL F_XL 8 := Or.inr ⟨"LogStore", nw_in (tb_1 (List.mem_of_getElem? (i := 41) rfl)) rfl⟩
set_option maxRecDepth 20000 in
theorem fl_XV_66 : FLk R_XV 66 R_XT F_XT 0 := Or.inr ⟨"LogStore", nw_in (tb_1 (List.mem_of_getElem? (i := 236) rfl)) rfl⟩
set_option maxRecDepth 20000 in
theorem fl_XV_69 : FLk R_XV 69 R_XL F_XL 12 := Or.inr ⟨"LogStore", nw_in (tb_1 (List.mem_of_getElem? (i := 52) rfl)) rfl⟩
set_option maxRecDepth 20000 in
theorem cl_XV_72 : CLk R_XV 72 y_XV_isFit := Or.inl (aw_in (tb_2 (List.mem_of_getElem? (i := 55) rfl)) rfl)
set_option maxRecDepth 20000 in
theorem fl_XL_9 : FLk R_XL 9 R_XL F_XL 0 := Or.inl (aw_in (tb_1 (List.mem_of_getElem? (i := 27) rfl)) rfl)
set_option maxRecDepth 20000 in
theorem fl_XL_15 : FLk R_XL 15 R_XL F_XL 1 := Or.inl (aw_in (tb_1 (List.mem_of_getElem? (i := 28) rfl)) rfl)
set_option maxRecDepth 20000 in
theorem fl_XL_18 : FLk R_XL 18 R_XL F_XL 2 := Or.inl (aw_in (tb_1 (List.mem_of_getElem? (i := 30) rfl)) rfl)
set_option maxRecDepth 20000 in
theorem fl_XL_21 : FLk R_XL 21 R_XL F_XL 3 := Or.inl (aw_in (tb_1 (List.mem_of_getElem? (i := 33) rfl)) rfl)
set_option maxRecDepth 20000 in
theorem fl_XL_24 : FLk R_XL 24 R_XL F_XL 4 := Or.inl (aw_in (tb_1 (List.mem_of_getElem? (i := 34) rfl)) rfl)
set_option maxRecDepth 20000 in
theorem fl_XL_27 : FLk R_XL 27 R_XL F_XL 5 := Or.inl (aw_in (tb_1 (List.mem_of_getElem? (i := 35) rfl)) rfl)
set_option maxRecDepth 20000 in
theorem fl_XL_30 : FLk R_XL 30 R_XL F_XL 6 := Or.inl (aw_in (tb_1 (List.mem_of_getElem? (i := 37) rfl)) rfl)
set_option maxRecDepth 20000 in
theorem fl_XL_33 : FLk R_XL 33 R_XL F_XL 7 := Or.inl (aw_in (tb_1 (List.mem_of_getElem? (i := 39) rfl)) rfl)
set_option maxRecDepth 20000 in
theorem fl_XL_36 : FLk R_XL 36 R_XL F_XL 8 := Or.inl (aw_in (tb_1 (List.mem_of_getElem? (i := 40) rfl)) rfl)
set_option maxRecDepth 20000 in
theorem fl_XL_39 : FLk R_XL 39 R_XL F_XL 9 := Or.inl (aw_in (tb_1 (List.mem_of_getElem? (i := 43) rfl)) rfl)
set_option maxRecDepth 20000 in
theorem fl_XL_44 : FLk R_XL 44 R_XL F_XL 10 := Or.inl (aw_in (tb_1 (List.mem_of_getElem? (i := 45) rfl)) rfl)
set_option maxRecDepth 20000 in
theorem fl_XL_47 : FLk R_XL 47 R_XL F_XL 11 := Or.inl (aw_in (tb_1 (List.mem_of_getElem? (i := 47) rfl)) rfl)
set_option maxRecDepth 20000 in
theorem cl_XL_51 : CLk R_XL 51 y_XL_append := Or.inl (aw_in (tb_2 (List.mem_of_getElem? (i := 130) rfl)) rfl)
set_option maxRecDepth 20000 in
theorem fl_XL_55 : FLk R_XL 55 R_XL F_XL 13 := Or.inl (aw_in (tb_1 (List.mem_of_getElem? (i := 53) rfl)) rfl)
set_option maxRecDepth 20000 in
theorem fl_XL_58 : FLk R_XL 58 R_XL F_XL 14 := Or.inl (aw_in (tb_1 (List.mem_of_getElem? (i := 56) rfl)) rfl)
set_option maxRecDepth 20000 in
theorem cl_XL_67 : CLk R_XL 67 y_XL_isOpen := Or.inl (aw_in (tb_3 (List.mem_of_getElem? (i := 50) rfl)) rfl)
set_option maxRecDepth 20000 in
theorem fl_XL_71 : FLk R_XL 71 R_XL F_XL 12 := Or.inl (aw_in (tb_1 (List.mem_of_getElem? (i := 50) rfl)) rfl)
set_option maxRecDepth 20000 in
theorem cl_XL_74 : CLk R_XL 74 y_XL_forget := Or.inl (aw_in (tb_2 (List.mem_of_getElem? (i := 236) rfl)) rfl)
set_option maxRecDepth 20000 in
theorem fl_XP_11 : FLk R_XP 11 R_XP F_XP 1 := Or.inl (aw_in (tb_1 (List.mem_of_getElem? (i := 119) rfl)) rfl)
set_option maxRecDepth 20000 in
theorem fl_XP_17 : FLk R_XP 17 R_XP F_XP 2 := Or.inl (aw_in (tb_1 (List.mem_of_getElem? (i := 121) rfl)) rfl)
set_option maxRecDepth 20000 in
theorem fl_XP_20 : FLk R_XP 20 R_XP F_XP 3 := Or.inl (aw_in (tb_1 (List.mem_of_getElem? (i := 123) rfl)) rfl)
set_option maxRecDepth 20000 in
theorem fl_XP_24 : FLk R_XP 24 R_XP F_XP 4 := Or.inl (aw_in (tb_1 (List.mem_of_getElem? (i := 125) rfl)) rfl)
set_option maxRecDepth 20000 in
theorem fl_XP_28 : FLk R_XP 28 R_XP F_XP 5 := Or.inl (aw_in (tb_1 (List.mem_of_getElem? (i := 127) rfl)) rfl)
set_option maxRecDepth 20000 in
theorem fl_XP_31 : FLk R_XP 31 R_XP F_XP 0 := Or.inl (aw_in (tb_1 (List.mem_of_getElem? (i := 118) rfl)) rfl)
set_option maxRecDepth 20000 in
theorem cl_XP_35 : CLk R_XP 35 y_XC_init := Or.inr ⟨"LogStore", nw_in (tb_1 (List.mem_of_getElem? (i := 99) rfl)) rfl⟩
set_option maxRecDepth 20000 in
theorem fl_XP_36 : FLk R_XP 36 R_XC F_XC 2 := Or.inr ⟨"LogStore", nw_in (tb_1 (List.mem_of_getElem? (i := 108) rfl)) rfl⟩
set_option maxRecDepth 20000 in
theorem cl_XP_40 : CLk R_XP 40 y_XL_makeStable := Or.inr ⟨"LogStore", nw_in (tb_2 (List.mem_of_getElem? (i := 109) rfl)) rfl⟩
set_option maxRecDepth 20000 in
theorem cl_XP_46 : CLk R_XP 46 y_XC_copy := Or.inr ⟨"LogStore", nw_in (tb_2 (List.mem_of_getElem? (i := 113) rfl)) rfl⟩
set_option maxRecDepth 20000 in
theorem fl_XP_50 : FLk R_XP 50 R_XP F_XP 8 := Or.inl (aw_in (tb_1 (List.mem_of_getElem? (i := 131) rfl)) rfl)
set_option maxRecDepth 20000 in
theorem cl_XP_53 : CLk R_XP 53 y_XP_pageToLeave := Or.inl (aw_in (tb_2 (List.mem_of_getElem? (i := 97) rfl)) rfl)
set_option maxRecDepth 20000 in
theorem cl_XP_57 : CLk R_XP 57 y_XP_isDirty := Or.inl (aw_in (tb_2 (List.mem_of_getElem? (i := 101) rfl)) rfl)
set_option maxRecDepth 20000 in
theorem cl_XP_61 : CLk R_XP 61 y_XP_writeOut := Or.inl (aw_in (tb_2 (List.mem_of_getElem? (i := 105) rfl)) rfl)
set_option maxRecDepth 20000 in
theorem fl_XP_64 : FLk R_XP 64 R_XP F_XP 7 := Or.inl (aw_in (tb_1 (List.mem_of_getElem? (i := 129) rfl)) rfl)
set_option maxRecDepth 20000 in
theorem fl_XP_67 : FLk R_XP 67 R_XP F_XP 6 := Or.inl (aw_in (tb_1 (List.mem_of_getElem? (i := 128) rfl)) rfl)
set_option maxRecDepth 20000 in
theorem cl_XP_70 : CLk R_XP 70 y_XP_seen := Or.inl (aw_in (tb_2 (List.mem_of_getElem? (i := 89) rfl)) rfl)
set_option maxRecDepth 20000 in
theorem fl_XP_74 : FLk R_XP 74 R_XC F_XC 0 := Or.inr ⟨"LogStore", nw_in (tb_1 (List.mem_of_getElem? (i := 104) rfl)) rfl⟩
set_option maxRecDepth 20000 in
theorem fl_XP_77 : FLk R_XP 77 R_XC F_XC 1 := Or.inr ⟨"LogStore", nw_in (tb_1 (List.mem_of_getElem? (i := 106) rfl)) rfl⟩
set_option maxRecDepth 20000 in
theorem cl_XP_80 : CLk R_XP 80 y_XP_keyAt := Or.inl (aw_in (tb_2 (List.mem_of_getElem? (i := 85) rfl)) rfl)
set_option maxRecDepth 20000 in
theorem fl_XP_84 : FLk R_XP 84 R_XL F_XL 2 := Or.inr ⟨"LogStore", nw_in (tb_1 (List.mem_of_getElem? (i := 32) rfl)) rfl⟩
set_option maxRecDepth 20000 in
theorem cl_XP_87 : CLk R_XP 87 y_XP_fetch := Or.inl (aw_in (tb_2 (List.mem_of_getElem? (i := 178) rfl)) rfl)
set_option maxRecDepth 20000 in
theorem cl_XP_90 : CLk R_XP 90 y_XL_addClr := Or.inr ⟨"LogStore", nw_in (tb_2 (List.mem_of_getElem? (i := 179) rfl)) rfl⟩
set_option maxRecDepth 20000 in
theorem cl_XP_93 : CLk R_XP 93 y_XP_apply := Or.inl (aw_in (tb_2 (List.mem_of_getElem? (i := 183) rfl)) rfl)
set_option maxRecDepth 20000 in
theorem fl_XP_96 : FLk R_XP 96 R_XL F_XL 5 := Or.inr ⟨"LogStore", nw_in (tb_1 (List.mem_of_getElem? (i := 36) rfl)) rfl⟩
set_option maxRecDepth 20000 in
theorem fl_XP_99 : FLk R_XP 99 R_XL F_XL 6 := Or.inr ⟨"LogStore", nw_in (tb_1 (List.mem_of_getElem? (i := 38) rfl)) rfl⟩
set_option maxRecDepth 20000 in
theorem fl_XR_9 : FLk R_XR 9 R_XR F_XR 2 := Or.inl (aw_in (tb_1 (List.mem_of_getElem? (i := 176) rfl)) rfl)
set_option maxRecDepth 20000 in
theorem fl_XR_15 : FLk R_XR 15 R_XR F_XR 0 := Or.inl (aw_in (tb_1 (List.mem_of_getElem? (i := 174) rfl)) rfl)
set_option maxRecDepth 20000 in
theorem fl_XR_19 : FLk R_XR 19 R_XR F_XR 1 := Or.inl (aw_in (tb_1 (List.mem_of_getElem? (i := 175) rfl)) rfl)
set_option maxRecDepth 20000 in
theorem fl_XR_23 : FLk R_XR 23 R_XR F_XR 3 := Or.inl (aw_in (tb_1 (List.mem_of_getElem? (i := 177) rfl)) rfl)
set_option maxRecDepth 20000 in
theorem fl_XR_27 : FLk R_XR 27 R_XR F_XR 4 := Or.inl (aw_in (tb_1 (List.mem_of_getElem? (i := 178) rfl)) rfl)
set_option maxRecDepth 20000 in
theorem fl_XR_31 : FLk R_XR 31 R_XR F_XR 5 := Or.inl (aw_in (tb_1 (List.mem_of_getElem? (i := 179) rfl)) rfl)
set_option maxRecDepth 20000 in
theorem cl_XR_34 : CLk R_XR 34 y_XL_greatestOpen := Or.inr ⟨"LogStore", nw_in (tb_3 (List.mem_of_getElem? (i := 46) rfl)) rfl⟩
set_option maxRecDepth 20000 in
theorem cl_XR_40 : CLk R_XR 40 y_XR_analyse := Or.inl (aw_in (tb_3 (List.mem_of_getElem? (i := 21) rfl)) rfl)
set_option maxRecDepth 20000 in
theorem cl_XR_43 : CLk R_XR 43 y_XR_repeatNext := Or.inl (aw_in (tb_3 (List.mem_of_getElem? (i := 34) rfl)) rfl)
set_option maxRecDepth 20000 in
theorem cl_XR_46 : CLk R_XR 46 y_XR_takeBackNext := Or.inl (aw_in (tb_3 (List.mem_of_getElem? (i := 42) rfl)) rfl)
set_option maxRecDepth 20000 in
theorem cl_XR_49 : CLk R_XR 49 y_XR_fillTable := Or.inl (aw_in (tb_3 (List.mem_of_getElem? (i := 25) rfl)) rfl)
set_option maxRecDepth 20000 in
theorem fl_XR_52 : FLk R_XR 52 R_XL F_XL 11 := Or.inr ⟨"LogStore", nw_in (tb_1 (List.mem_of_getElem? (i := 48) rfl)) rfl⟩
set_option maxRecDepth 20000 in
theorem fl_XR_61 : FLk R_XR 61 R_XL F_XL 14 := Or.inr ⟨"LogStore", nw_in (tb_1 (List.mem_of_getElem? (i := 55) rfl)) rfl⟩
set_option maxRecDepth 20000 in
theorem fl_XR_64 : FLk R_XR 64 R_XL F_XL 10 := Or.inr ⟨"LogStore", nw_in (tb_1 (List.mem_of_getElem? (i := 46) rfl)) rfl⟩
set_option maxRecDepth 20000 in
theorem fl_XR_68 : FLk R_XR 68 R_XL F_XL 9 := Or.inr ⟨"LogStore", nw_in (tb_1 (List.mem_of_getElem? (i := 44) rfl)) rfl⟩
set_option maxRecDepth 20000 in
theorem fl_XR_71 : FLk R_XR 71 R_XL F_XL 2 := Or.inr ⟨"LogStore", nw_in (tb_1 (List.mem_of_getElem? (i := 31) rfl)) rfl⟩
set_option maxRecDepth 20000 in
theorem cl_XR_74 : CLk R_XR 74 y_XL_isChange := Or.inr ⟨"LogStore", nw_in (tb_3 (List.mem_of_getElem? (i := 29) rfl)) rfl⟩
set_option maxRecDepth 20000 in
theorem cl_XR_78 : CLk R_XR 78 y_XP_redo := Or.inr ⟨"LogStore", nw_in (tb_3 (List.mem_of_getElem? (i := 38) rfl)) rfl⟩
set_option maxRecDepth 20000 in
theorem cl_XR_84 : CLk R_XR 84 y_XP_takeBack := Or.inr ⟨"LogStore", nw_in (tb_3 (List.mem_of_getElem? (i := 51) rfl)) rfl⟩
set_option maxRecDepth 20000 in
theorem fl_XT_9 : FLk R_XT 9 R_XT F_XT 0 := Or.inl (aw_in (tb_1 (List.mem_of_getElem? (i := 235) rfl)) rfl)
set_option maxRecDepth 20000 in
theorem fl_XT_15 : FLk R_XT 15 R_XT F_XT 1 := Or.inl (aw_in (tb_1 (List.mem_of_getElem? (i := 238) rfl)) rfl)
set_option maxRecDepth 20000 in
theorem fl_XT_18 : FLk R_XT 18 R_XT F_XT 2 := Or.inl (aw_in (tb_2 (List.mem_of_getElem? (i := 0) rfl)) rfl)
set_option maxRecDepth 20000 in
theorem fl_XT_21 : FLk R_XT 21 R_XT F_XT 3 := Or.inl (aw_in (tb_2 (List.mem_of_getElem? (i := 3) rfl)) rfl)
set_option maxRecDepth 20000 in
theorem fl_XT_24 : FLk R_XT 24 R_XT F_XT 5 := Or.inl (aw_in (tb_2 (List.mem_of_getElem? (i := 6) rfl)) rfl)
set_option maxRecDepth 20000 in
theorem fl_XT_27 : FLk R_XT 27 R_XT F_XT 6 := Or.inl (aw_in (tb_2 (List.mem_of_getElem? (i := 8) rfl)) rfl)
set_option maxRecDepth 20000 in
theorem fl_XT_30 : FLk R_XT 30 R_XT F_XT 7 := Or.inl (aw_in (tb_2 (List.mem_of_getElem? (i := 11) rfl)) rfl)
set_option maxRecDepth 20000 in
theorem fl_XT_33 : FLk R_XT 33 R_XT F_XT 8 := Or.inl (aw_in (tb_2 (List.mem_of_getElem? (i := 14) rfl)) rfl)
set_option maxRecDepth 20000 in
theorem cb_X_init : CSb y_X_init b_X_init 1 none 0 := ⟨aw_in (tb_1 (List.mem_of_getElem? (i := 1) rfl)) rfl, aw_in (tb_1 (List.mem_of_getElem? (i := 15) rfl)) rfl, by decide, by decide, by decide +kernel⟩
set_option maxRecDepth 20000 in
theorem cs_X_init : Cond.instanceMethod y_X_init ∈ AW := aw_in (tb_1 (List.mem_of_getElem? (i := 14) rfl)) rfl
set_option maxRecDepth 20000 in
theorem cb_X_begin : CSb y_X_begin b_X_begin 2 (some .int) 0 := ⟨aw_in (tb_1 (List.mem_of_getElem? (i := 1) rfl)) rfl, aw_in (tb_1 (List.mem_of_getElem? (i := 225) rfl)) rfl, by decide, by decide, by decide +kernel⟩
set_option maxRecDepth 20000 in
theorem cs_X_begin : CSv y_X_begin := ⟨aw_in (tb_1 (List.mem_of_getElem? (i := 223) rfl)) rfl, aw_in (tb_1 (List.mem_of_getElem? (i := 224) rfl)) rfl⟩
set_option maxRecDepth 20000 in
theorem cb_X_read : CSb y_X_read b_X_read 4 (some .int) 2 := ⟨aw_in (tb_1 (List.mem_of_getElem? (i := 1) rfl)) rfl, aw_in (tb_2 (List.mem_of_getElem? (i := 141) rfl)) rfl, by decide, by decide, by decide +kernel⟩
set_option maxRecDepth 20000 in
theorem cs_X_read : CSv y_X_read := ⟨aw_in (tb_2 (List.mem_of_getElem? (i := 139) rfl)) rfl, aw_in (tb_2 (List.mem_of_getElem? (i := 140) rfl)) rfl⟩
set_option maxRecDepth 20000 in
theorem cb_X_write : CSb y_X_write b_X_write 5 (some .int) 3 := ⟨aw_in (tb_1 (List.mem_of_getElem? (i := 1) rfl)) rfl, aw_in (tb_2 (List.mem_of_getElem? (i := 187) rfl)) rfl, by decide, by decide, by decide +kernel⟩
set_option maxRecDepth 20000 in
theorem cs_X_write : CSv y_X_write := ⟨aw_in (tb_2 (List.mem_of_getElem? (i := 185) rfl)) rfl, aw_in (tb_2 (List.mem_of_getElem? (i := 186) rfl)) rfl⟩
set_option maxRecDepth 20000 in
theorem cb_X_commit : CSb y_X_commit b_X_commit 3 (some .boolean) 1 := ⟨aw_in (tb_1 (List.mem_of_getElem? (i := 1) rfl)) rfl, aw_in (tb_2 (List.mem_of_getElem? (i := 191) rfl)) rfl, by decide, by decide, by decide +kernel⟩
set_option maxRecDepth 20000 in
theorem cs_X_commit : CSv y_X_commit := ⟨aw_in (tb_2 (List.mem_of_getElem? (i := 189) rfl)) rfl, aw_in (tb_2 (List.mem_of_getElem? (i := 190) rfl)) rfl⟩
set_option maxRecDepth 20000 in
theorem cb_X_abort : CSb y_X_abort b_X_abort 3 (some .boolean) 1 := ⟨aw_in (tb_1 (List.mem_of_getElem? (i := 1) rfl)) rfl, aw_in (tb_2 (List.mem_of_getElem? (i := 199) rfl)) rfl, by decide, by decide, by decide +kernel⟩
set_option maxRecDepth 20000 in
theorem cs_X_abort : CSv y_X_abort := ⟨aw_in (tb_2 (List.mem_of_getElem? (i := 197) rfl)) rfl, aw_in (tb_2 (List.mem_of_getElem? (i := 198) rfl)) rfl⟩
set_option maxRecDepth 20000 in
theorem cb_X_force : CSb y_X_force b_X_force 1 (some .boolean) 0 := ⟨aw_in (tb_1 (List.mem_of_getElem? (i := 1) rfl)) rfl, aw_in (tb_2 (List.mem_of_getElem? (i := 203) rfl)) rfl, by decide, by decide, by decide +kernel⟩
set_option maxRecDepth 20000 in
theorem cs_X_force : CSv y_X_force := ⟨aw_in (tb_2 (List.mem_of_getElem? (i := 201) rfl)) rfl, aw_in (tb_2 (List.mem_of_getElem? (i := 202) rfl)) rfl⟩
set_option maxRecDepth 20000 in
theorem cb_X_checkpoint : CSb y_X_checkpoint b_X_checkpoint 2 (some .int) 0 := ⟨aw_in (tb_1 (List.mem_of_getElem? (i := 1) rfl)) rfl, aw_in (tb_2 (List.mem_of_getElem? (i := 208) rfl)) rfl, by decide, by decide, by decide +kernel⟩
set_option maxRecDepth 20000 in
theorem cs_X_checkpoint : CSv y_X_checkpoint := ⟨aw_in (tb_2 (List.mem_of_getElem? (i := 206) rfl)) rfl, aw_in (tb_2 (List.mem_of_getElem? (i := 207) rfl)) rfl⟩
set_option maxRecDepth 20000 in
theorem cb_X_flush : CSb y_X_flush b_X_flush 2 (some .boolean) 1 := ⟨aw_in (tb_1 (List.mem_of_getElem? (i := 1) rfl)) rfl, aw_in (tb_2 (List.mem_of_getElem? (i := 219) rfl)) rfl, by decide, by decide, by decide +kernel⟩
set_option maxRecDepth 20000 in
theorem cs_X_flush : CSv y_X_flush := ⟨aw_in (tb_2 (List.mem_of_getElem? (i := 217) rfl)) rfl, aw_in (tb_2 (List.mem_of_getElem? (i := 218) rfl)) rfl⟩
set_option maxRecDepth 20000 in
theorem cb_X_crash : CSb y_X_crash b_X_crash 2 (some .int) 1 := ⟨aw_in (tb_1 (List.mem_of_getElem? (i := 1) rfl)) rfl, aw_in (tb_2 (List.mem_of_getElem? (i := 228) rfl)) rfl, by decide, by decide, by decide +kernel⟩
set_option maxRecDepth 20000 in
theorem cs_X_crash : CSv y_X_crash := ⟨aw_in (tb_2 (List.mem_of_getElem? (i := 226) rfl)) rfl, aw_in (tb_2 (List.mem_of_getElem? (i := 227) rfl)) rfl⟩
set_option maxRecDepth 20000 in
theorem cb_X_restart : CSb y_X_restart b_X_restart 3 (some .int) 1 := ⟨aw_in (tb_1 (List.mem_of_getElem? (i := 1) rfl)) rfl, aw_in (tb_3 (List.mem_of_getElem? (i := 16) rfl)) rfl, by decide, by decide, by decide +kernel⟩
set_option maxRecDepth 20000 in
theorem cs_X_restart : CSv y_X_restart := ⟨aw_in (tb_3 (List.mem_of_getElem? (i := 14) rfl)) rfl, aw_in (tb_3 (List.mem_of_getElem? (i := 15) rfl)) rfl⟩
set_option maxRecDepth 20000 in
theorem cb_X_up : CSb y_X_up b_X_up 1 (some .boolean) 0 := ⟨aw_in (tb_1 (List.mem_of_getElem? (i := 1) rfl)) rfl, aw_in (tb_3 (List.mem_of_getElem? (i := 63) rfl)) rfl, by decide, by decide, by decide +kernel⟩
set_option maxRecDepth 20000 in
theorem cs_X_up : CSv y_X_up := ⟨aw_in (tb_3 (List.mem_of_getElem? (i := 61) rfl)) rfl, aw_in (tb_3 (List.mem_of_getElem? (i := 62) rfl)) rfl⟩
set_option maxRecDepth 20000 in
theorem cb_X_state : CSb y_X_state b_X_state 3 (some .int) 1 := ⟨aw_in (tb_1 (List.mem_of_getElem? (i := 1) rfl)) rfl, aw_in (tb_3 (List.mem_of_getElem? (i := 67) rfl)) rfl, by decide, by decide, by decide +kernel⟩
set_option maxRecDepth 20000 in
theorem cs_X_state : CSv y_X_state := ⟨aw_in (tb_3 (List.mem_of_getElem? (i := 65) rfl)) rfl, aw_in (tb_3 (List.mem_of_getElem? (i := 66) rfl)) rfl⟩
set_option maxRecDepth 20000 in
theorem cb_X_outcome : CSb y_X_outcome b_X_outcome 3 (some .int) 1 := ⟨aw_in (tb_1 (List.mem_of_getElem? (i := 1) rfl)) rfl, aw_in (tb_3 (List.mem_of_getElem? (i := 71) rfl)) rfl, by decide, by decide, by decide +kernel⟩
set_option maxRecDepth 20000 in
theorem cs_X_outcome : CSv y_X_outcome := ⟨aw_in (tb_3 (List.mem_of_getElem? (i := 69) rfl)) rfl, aw_in (tb_3 (List.mem_of_getElem? (i := 70) rfl)) rfl⟩
set_option maxRecDepth 20000 in
theorem cb_X_value : CSb y_X_value b_X_value 3 (some .int) 1 := ⟨aw_in (tb_1 (List.mem_of_getElem? (i := 1) rfl)) rfl, aw_in (tb_3 (List.mem_of_getElem? (i := 75) rfl)) rfl, by decide, by decide, by decide +kernel⟩
set_option maxRecDepth 20000 in
theorem cs_X_value : CSv y_X_value := ⟨aw_in (tb_3 (List.mem_of_getElem? (i := 73) rfl)) rfl, aw_in (tb_3 (List.mem_of_getElem? (i := 74) rfl)) rfl⟩
set_option maxRecDepth 20000 in
theorem cb_X_stored : CSb y_X_stored b_X_stored 3 (some .int) 1 := ⟨aw_in (tb_1 (List.mem_of_getElem? (i := 1) rfl)) rfl, aw_in (tb_3 (List.mem_of_getElem? (i := 79) rfl)) rfl, by decide, by decide, by decide +kernel⟩
set_option maxRecDepth 20000 in
theorem cs_X_stored : CSv y_X_stored := ⟨aw_in (tb_3 (List.mem_of_getElem? (i := 77) rfl)) rfl, aw_in (tb_3 (List.mem_of_getElem? (i := 78) rfl)) rfl⟩
set_option maxRecDepth 20000 in
theorem cb_X_place : CSb y_X_place b_X_place 2 (some .int) 1 := ⟨aw_in (tb_1 (List.mem_of_getElem? (i := 1) rfl)) rfl, aw_in (tb_3 (List.mem_of_getElem? (i := 83) rfl)) rfl, by decide, by decide, by decide +kernel⟩
set_option maxRecDepth 20000 in
theorem cs_X_place : CSv y_X_place := ⟨aw_in (tb_3 (List.mem_of_getElem? (i := 81) rfl)) rfl, aw_in (tb_3 (List.mem_of_getElem? (i := 82) rfl)) rfl⟩
set_option maxRecDepth 20000 in
theorem cb_X_after : CSb y_X_after b_X_after 2 (some .int) 1 := ⟨aw_in (tb_1 (List.mem_of_getElem? (i := 1) rfl)) rfl, aw_in (tb_3 (List.mem_of_getElem? (i := 88) rfl)) rfl, by decide, by decide, by decide +kernel⟩
set_option maxRecDepth 20000 in
theorem cs_X_after : CSv y_X_after := ⟨aw_in (tb_3 (List.mem_of_getElem? (i := 86) rfl)) rfl, aw_in (tb_3 (List.mem_of_getElem? (i := 87) rfl)) rfl⟩
set_option maxRecDepth 20000 in
theorem cb_X_count : CSb y_X_count b_X_count 2 (some .int) 1 := ⟨aw_in (tb_1 (List.mem_of_getElem? (i := 1) rfl)) rfl, aw_in (tb_3 (List.mem_of_getElem? (i := 96) rfl)) rfl, by decide, by decide, by decide +kernel⟩
set_option maxRecDepth 20000 in
theorem cs_X_count : CSv y_X_count := ⟨aw_in (tb_3 (List.mem_of_getElem? (i := 94) rfl)) rfl, aw_in (tb_3 (List.mem_of_getElem? (i := 95) rfl)) rfl⟩
set_option maxRecDepth 20000 in
theorem cb_X_page : CSb y_X_page b_X_page 3 (some .int) 2 := ⟨aw_in (tb_1 (List.mem_of_getElem? (i := 1) rfl)) rfl, aw_in (tb_3 (List.mem_of_getElem? (i := 100) rfl)) rfl, by decide, by decide, by decide +kernel⟩
set_option maxRecDepth 20000 in
theorem cs_X_page : CSv y_X_page := ⟨aw_in (tb_3 (List.mem_of_getElem? (i := 98) rfl)) rfl, aw_in (tb_3 (List.mem_of_getElem? (i := 99) rfl)) rfl⟩
set_option maxRecDepth 20000 in
theorem cb_X_isKey : CSb y_X_isKey b_X_isKey 1 (some .boolean) 1 := ⟨aw_in (tb_1 (List.mem_of_getElem? (i := 1) rfl)) rfl, aw_in (tb_2 (List.mem_of_getElem? (i := 152) rfl)) rfl, by decide, by decide, by decide +kernel⟩
set_option maxRecDepth 20000 in
theorem cs_X_isKey : Cond.static y_X_isKey ∈ AW := aw_in (tb_2 (List.mem_of_getElem? (i := 151) rfl)) rfl
set_option maxRecDepth 20000 in
theorem cb_X_isPage : CSb y_X_isPage b_X_isPage 1 (some .boolean) 1 := ⟨aw_in (tb_1 (List.mem_of_getElem? (i := 1) rfl)) rfl, aw_in (tb_2 (List.mem_of_getElem? (i := 222) rfl)) rfl, by decide, by decide, by decide +kernel⟩
set_option maxRecDepth 20000 in
theorem cs_X_isPage : Cond.static y_X_isPage ∈ AW := aw_in (tb_2 (List.mem_of_getElem? (i := 221) rfl)) rfl
set_option maxRecDepth 20000 in
theorem cb_X_find : CSb y_X_find b_X_find 2 (some (.object "LogStore$Transaction")) 1 := ⟨aw_in (tb_1 (List.mem_of_getElem? (i := 1) rfl)) rfl, aw_in (tb_2 (List.mem_of_getElem? (i := 149) rfl)) rfl, by decide, by decide, by decide +kernel⟩
set_option maxRecDepth 20000 in
theorem cs_X_find : CSv y_X_find := ⟨aw_in (tb_2 (List.mem_of_getElem? (i := 148) rfl)) rfl, aw_in (List.mem_append_left _ (List.mem_of_getElem? (i := 26) rfl)) rfl⟩
set_option maxRecDepth 20000 in
theorem cb_X_request : CSb y_X_request b_X_request 6 (some .int) 4 := ⟨aw_in (tb_1 (List.mem_of_getElem? (i := 1) rfl)) rfl, aw_in (tb_2 (List.mem_of_getElem? (i := 145) rfl)) rfl, by decide, by decide, by decide +kernel⟩
set_option maxRecDepth 20000 in
theorem cs_X_request : CSv y_X_request := ⟨aw_in (tb_2 (List.mem_of_getElem? (i := 144) rfl)) rfl, aw_in (List.mem_append_left _ (List.mem_of_getElem? (i := 25) rfl)) rfl⟩
set_option maxRecDepth 20000 in
theorem cb_X_grant : CSb y_X_grant b_X_grant 2 none 1 := ⟨aw_in (tb_1 (List.mem_of_getElem? (i := 1) rfl)) rfl, aw_in (tb_2 (List.mem_of_getElem? (i := 69) rfl)) rfl, by decide, by decide, by decide +kernel⟩
set_option maxRecDepth 20000 in
theorem cs_X_grant : CSv y_X_grant := ⟨aw_in (tb_2 (List.mem_of_getElem? (i := 68) rfl)) rfl, aw_in (List.mem_append_left _ (List.mem_of_getElem? (i := 8) rfl)) rfl⟩
set_option maxRecDepth 20000 in
theorem cb_X_readFor : CSb y_X_readFor b_X_readFor 3 none 1 := ⟨aw_in (tb_1 (List.mem_of_getElem? (i := 1) rfl)) rfl, aw_in (tb_2 (List.mem_of_getElem? (i := 80) rfl)) rfl, by decide, by decide, by decide +kernel⟩
set_option maxRecDepth 20000 in
theorem cs_X_readFor : CSv y_X_readFor := ⟨aw_in (tb_2 (List.mem_of_getElem? (i := 79) rfl)) rfl, aw_in (List.mem_append_left _ (List.mem_of_getElem? (i := 10) rfl)) rfl⟩
set_option maxRecDepth 20000 in
theorem cb_X_writeFor : CSb y_X_writeFor b_X_writeFor 3 none 1 := ⟨aw_in (tb_1 (List.mem_of_getElem? (i := 1) rfl)) rfl, aw_in (tb_2 (List.mem_of_getElem? (i := 124) rfl)) rfl, by decide, by decide, by decide +kernel⟩
set_option maxRecDepth 20000 in
theorem cs_X_writeFor : CSv y_X_writeFor := ⟨aw_in (tb_2 (List.mem_of_getElem? (i := 123) rfl)) rfl, aw_in (List.mem_append_left _ (List.mem_of_getElem? (i := 21) rfl)) rfl⟩
set_option maxRecDepth 20000 in
theorem cb_X_rollBack : CSb y_X_rollBack b_X_rollBack 3 none 1 := ⟨aw_in (tb_1 (List.mem_of_getElem? (i := 1) rfl)) rfl, aw_in (tb_2 (List.mem_of_getElem? (i := 169) rfl)) rfl, by decide, by decide, by decide +kernel⟩
set_option maxRecDepth 20000 in
theorem cs_X_rollBack : CSv y_X_rollBack := ⟨aw_in (tb_2 (List.mem_of_getElem? (i := 168) rfl)) rfl, aw_in (List.mem_append_left _ (List.mem_of_getElem? (i := 30) rfl)) rfl⟩
set_option maxRecDepth 20000 in
theorem cb_X_settle : CSb y_X_settle b_X_settle 4 none 0 := ⟨aw_in (tb_1 (List.mem_of_getElem? (i := 1) rfl)) rfl, aw_in (tb_2 (List.mem_of_getElem? (i := 42) rfl)) rfl, by decide, by decide, by decide +kernel⟩
set_option maxRecDepth 20000 in
theorem cs_X_settle : CSv y_X_settle := ⟨aw_in (tb_2 (List.mem_of_getElem? (i := 41) rfl)) rfl, aw_in (List.mem_append_left _ (List.mem_of_getElem? (i := 2) rfl)) rfl⟩
set_option maxRecDepth 20000 in
theorem cb_X_comeUp : CSb y_X_comeUp b_X_comeUp 2 none 0 := ⟨aw_in (tb_1 (List.mem_of_getElem? (i := 1) rfl)) rfl, aw_in (tb_3 (List.mem_of_getElem? (i := 59) rfl)) rfl, by decide, by decide, by decide +kernel⟩
set_option maxRecDepth 20000 in
theorem cs_X_comeUp : CSv y_X_comeUp := ⟨aw_in (tb_3 (List.mem_of_getElem? (i := 58) rfl)) rfl, aw_in (List.mem_append_left _ (List.mem_of_getElem? (i := 50) rfl)) rfl⟩
set_option maxRecDepth 20000 in
theorem cb_M_init : CSb y_M_init b_M_init 2 none 0 := ⟨aw_in (tb_1 (List.mem_of_getElem? (i := 7) rfl)) rfl, aw_in (tb_3 (List.mem_of_getElem? (i := 105) rfl)) rfl, by decide, by decide, by decide +kernel⟩
set_option maxRecDepth 20000 in
theorem cs_M_init : Cond.instanceMethod y_M_init ∈ AW := aw_in (tb_3 (List.mem_of_getElem? (i := 104) rfl)) rfl
set_option maxRecDepth 20000 in
theorem cb_M_keyAt : CSb y_M_keyAt b_M_keyAt 2 (some .int) 1 := ⟨aw_in (tb_1 (List.mem_of_getElem? (i := 7) rfl)) rfl, aw_in (tb_4 (List.mem_of_getElem? (i := 23) rfl)) rfl, by decide, by decide, by decide +kernel⟩
set_option maxRecDepth 20000 in
theorem cs_M_keyAt : CSv y_M_keyAt := ⟨aw_in (tb_4 (List.mem_of_getElem? (i := 22) rfl)) rfl, aw_in (List.mem_append_left _ (List.mem_of_getElem? (i := 60) rfl)) rfl⟩
set_option maxRecDepth 20000 in
theorem cb_M_valueAt : CSb y_M_valueAt b_M_valueAt 2 (some .int) 1 := ⟨aw_in (tb_1 (List.mem_of_getElem? (i := 7) rfl)) rfl, aw_in (tb_4 (List.mem_of_getElem? (i := 163) rfl)) rfl, by decide, by decide, by decide +kernel⟩
set_option maxRecDepth 20000 in
theorem cs_M_valueAt : CSv y_M_valueAt := ⟨aw_in (tb_4 (List.mem_of_getElem? (i := 162) rfl)) rfl, aw_in (List.mem_append_left _ (List.mem_of_getElem? (i := 81) rfl)) rfl⟩
set_option maxRecDepth 20000 in
theorem cb_M_find : CSb y_M_find b_M_find 3 (some .int) 1 := ⟨aw_in (tb_1 (List.mem_of_getElem? (i := 7) rfl)) rfl, aw_in (tb_4 (List.mem_of_getElem? (i := 19) rfl)) rfl, by decide, by decide, by decide +kernel⟩
set_option maxRecDepth 20000 in
theorem cs_M_find : CSv y_M_find := ⟨aw_in (tb_4 (List.mem_of_getElem? (i := 18) rfl)) rfl, aw_in (List.mem_append_left _ (List.mem_of_getElem? (i := 59) rfl)) rfl⟩
set_option maxRecDepth 20000 in
theorem cb_M_spill : CSb y_M_spill b_M_spill 3 none 1 := ⟨aw_in (tb_1 (List.mem_of_getElem? (i := 7) rfl)) rfl, aw_in (tb_4 (List.mem_of_getElem? (i := 31) rfl)) rfl, by decide, by decide, by decide +kernel⟩
set_option maxRecDepth 20000 in
theorem cs_M_spill : CSv y_M_spill := ⟨aw_in (tb_4 (List.mem_of_getElem? (i := 30) rfl)) rfl, aw_in (List.mem_append_left _ (List.mem_of_getElem? (i := 62) rfl)) rfl⟩
set_option maxRecDepth 20000 in
theorem cb_M_fetch : CSb y_M_fetch b_M_fetch 5 none 1 := ⟨aw_in (tb_1 (List.mem_of_getElem? (i := 7) rfl)) rfl, aw_in (tb_4 (List.mem_of_getElem? (i := 27) rfl)) rfl, by decide, by decide, by decide +kernel⟩
set_option maxRecDepth 20000 in
theorem cs_M_fetch : CSv y_M_fetch := ⟨aw_in (tb_4 (List.mem_of_getElem? (i := 26) rfl)) rfl, aw_in (List.mem_append_left _ (List.mem_of_getElem? (i := 61) rfl)) rfl⟩
set_option maxRecDepth 20000 in
theorem cb_M_apply : CSb y_M_apply b_M_apply 4 none 1 := ⟨aw_in (tb_1 (List.mem_of_getElem? (i := 7) rfl)) rfl, aw_in (tb_4 (List.mem_of_getElem? (i := 43) rfl)) rfl, by decide, by decide, by decide +kernel⟩
set_option maxRecDepth 20000 in
theorem cs_M_apply : CSv y_M_apply := ⟨aw_in (tb_4 (List.mem_of_getElem? (i := 42) rfl)) rfl, aw_in (List.mem_append_left _ (List.mem_of_getElem? (i := 65) rfl)) rfl⟩
set_option maxRecDepth 20000 in
theorem cb_M_put : CSb y_M_put b_M_put 4 (some .int) 3 := ⟨aw_in (tb_1 (List.mem_of_getElem? (i := 7) rfl)) rfl, aw_in (tb_4 (List.mem_of_getElem? (i := 39) rfl)) rfl, by decide, by decide, by decide +kernel⟩
set_option maxRecDepth 20000 in
theorem cs_M_put : CSv y_M_put := ⟨aw_in (tb_4 (List.mem_of_getElem? (i := 38) rfl)) rfl, aw_in (List.mem_append_left _ (List.mem_of_getElem? (i := 64) rfl)) rfl⟩
set_option maxRecDepth 20000 in
theorem cb_M_countOf : CSb y_M_countOf b_M_countOf 4 (some .int) 1 := ⟨aw_in (tb_1 (List.mem_of_getElem? (i := 7) rfl)) rfl, aw_in (tb_4 (List.mem_of_getElem? (i := 35) rfl)) rfl, by decide, by decide, by decide +kernel⟩
set_option maxRecDepth 20000 in
theorem cs_M_countOf : CSv y_M_countOf := ⟨aw_in (tb_4 (List.mem_of_getElem? (i := 34) rfl)) rfl, aw_in (List.mem_append_left _ (List.mem_of_getElem? (i := 63) rfl)) rfl⟩
set_option maxRecDepth 20000 in
theorem cb_M_committed : CSb y_M_committed b_M_committed 3 (some .boolean) 1 := ⟨aw_in (tb_1 (List.mem_of_getElem? (i := 7) rfl)) rfl, aw_in (tb_4 (List.mem_of_getElem? (i := 63) rfl)) rfl, by decide, by decide, by decide +kernel⟩
set_option maxRecDepth 20000 in
theorem cs_M_committed : CSv y_M_committed := ⟨aw_in (tb_4 (List.mem_of_getElem? (i := 62) rfl)) rfl, aw_in (List.mem_append_left _ (List.mem_of_getElem? (i := 70) rfl)) rfl⟩
set_option maxRecDepth 20000 in
theorem cb_M_open : CSb y_M_open b_M_open 5 (some .int) 1 := ⟨aw_in (tb_1 (List.mem_of_getElem? (i := 7) rfl)) rfl, aw_in (tb_4 (List.mem_of_getElem? (i := 59) rfl)) rfl, by decide, by decide, by decide +kernel⟩
set_option maxRecDepth 20000 in
theorem cs_M_open : CSv y_M_open := ⟨aw_in (tb_4 (List.mem_of_getElem? (i := 58) rfl)) rfl, aw_in (List.mem_append_left _ (List.mem_of_getElem? (i := 69) rfl)) rfl⟩
set_option maxRecDepth 20000 in
theorem cb_M_takeBack : CSb y_M_takeBack b_M_takeBack 3 none 1 := ⟨aw_in (tb_1 (List.mem_of_getElem? (i := 7) rfl)) rfl, aw_in (tb_4 (List.mem_of_getElem? (i := 67) rfl)) rfl, by decide, by decide, by decide +kernel⟩
set_option maxRecDepth 20000 in
theorem cs_M_takeBack : CSv y_M_takeBack := ⟨aw_in (tb_4 (List.mem_of_getElem? (i := 66) rfl)) rfl, aw_in (List.mem_append_left _ (List.mem_of_getElem? (i := 71) rfl)) rfl⟩
set_option maxRecDepth 20000 in
theorem cb_M_live : CSb y_M_live b_M_live 2 (some .boolean) 1 := ⟨aw_in (tb_1 (List.mem_of_getElem? (i := 7) rfl)) rfl, aw_in (tb_3 (List.mem_of_getElem? (i := 227) rfl)) rfl, by decide, by decide, by decide +kernel⟩
set_option maxRecDepth 20000 in
theorem cs_M_live : CSv y_M_live := ⟨aw_in (tb_3 (List.mem_of_getElem? (i := 226) rfl)) rfl, aw_in (List.mem_append_left _ (List.mem_of_getElem? (i := 52) rfl)) rfl⟩
set_option maxRecDepth 20000 in
theorem cb_M_unlock : CSb y_M_unlock b_M_unlock 3 none 1 := ⟨aw_in (tb_1 (List.mem_of_getElem? (i := 7) rfl)) rfl, aw_in (tb_4 (List.mem_of_getElem? (i := 71) rfl)) rfl, by decide, by decide, by decide +kernel⟩
set_option maxRecDepth 20000 in
theorem cs_M_unlock : CSv y_M_unlock := ⟨aw_in (tb_4 (List.mem_of_getElem? (i := 70) rfl)) rfl, aw_in (List.mem_append_left _ (List.mem_of_getElem? (i := 72) rfl)) rfl⟩
set_option maxRecDepth 20000 in
theorem cb_M_conflicts : CSb y_M_conflicts b_M_conflicts 4 (some .boolean) 2 := ⟨aw_in (tb_1 (List.mem_of_getElem? (i := 7) rfl)) rfl, aw_in (tb_4 (List.mem_of_getElem? (i := 7) rfl)) rfl, by decide, by decide, by decide +kernel⟩
set_option maxRecDepth 20000 in
theorem cs_M_conflicts : CSv y_M_conflicts := ⟨aw_in (tb_4 (List.mem_of_getElem? (i := 6) rfl)) rfl, aw_in (List.mem_append_left _ (List.mem_of_getElem? (i := 56) rfl)) rfl⟩
set_option maxRecDepth 20000 in
theorem cb_M_ahead : CSb y_M_ahead b_M_ahead 3 (some .boolean) 2 := ⟨aw_in (tb_1 (List.mem_of_getElem? (i := 7) rfl)) rfl, aw_in (tb_4 (List.mem_of_getElem? (i := 11) rfl)) rfl, by decide, by decide, by decide +kernel⟩
set_option maxRecDepth 20000 in
theorem cs_M_ahead : CSv y_M_ahead := ⟨aw_in (tb_4 (List.mem_of_getElem? (i := 10) rfl)) rfl, aw_in (List.mem_append_left _ (List.mem_of_getElem? (i := 57) rfl)) rfl⟩
set_option maxRecDepth 20000 in
theorem cb_M_waitsFor : CSb y_M_waitsFor b_M_waitsFor 3 (some .boolean) 2 := ⟨aw_in (tb_1 (List.mem_of_getElem? (i := 7) rfl)) rfl, aw_in (tb_4 (List.mem_of_getElem? (i := 51) rfl)) rfl, by decide, by decide, by decide +kernel⟩
set_option maxRecDepth 20000 in
theorem cs_M_waitsFor : CSv y_M_waitsFor := ⟨aw_in (tb_4 (List.mem_of_getElem? (i := 50) rfl)) rfl, aw_in (List.mem_append_left _ (List.mem_of_getElem? (i := 67) rfl)) rfl⟩
set_option maxRecDepth 20000 in
theorem cb_M_fit : CSb y_M_fit b_M_fit 4 (some .boolean) 1 := ⟨aw_in (tb_1 (List.mem_of_getElem? (i := 7) rfl)) rfl, aw_in (tb_4 (List.mem_of_getElem? (i := 3) rfl)) rfl, by decide, by decide, by decide +kernel⟩
set_option maxRecDepth 20000 in
theorem cs_M_fit : CSv y_M_fit := ⟨aw_in (tb_4 (List.mem_of_getElem? (i := 2) rfl)) rfl, aw_in (List.mem_append_left _ (List.mem_of_getElem? (i := 55) rfl)) rfl⟩
set_option maxRecDepth 20000 in
theorem cb_M_ring : CSb y_M_ring b_M_ring 5 (some .boolean) 1 := ⟨aw_in (tb_1 (List.mem_of_getElem? (i := 7) rfl)) rfl, aw_in (tb_4 (List.mem_of_getElem? (i := 47) rfl)) rfl, by decide, by decide, by decide +kernel⟩
set_option maxRecDepth 20000 in
theorem cs_M_ring : CSv y_M_ring := ⟨aw_in (tb_4 (List.mem_of_getElem? (i := 46) rfl)) rfl, aw_in (List.mem_append_left _ (List.mem_of_getElem? (i := 66) rfl)) rfl⟩
set_option maxRecDepth 20000 in
theorem cb_M_grant : CSb y_M_grant b_M_grant 5 none 1 := ⟨aw_in (tb_1 (List.mem_of_getElem? (i := 7) rfl)) rfl, aw_in (tb_4 (List.mem_of_getElem? (i := 15) rfl)) rfl, by decide, by decide, by decide +kernel⟩
set_option maxRecDepth 20000 in
theorem cs_M_grant : CSv y_M_grant := ⟨aw_in (tb_4 (List.mem_of_getElem? (i := 14) rfl)) rfl, aw_in (List.mem_append_left _ (List.mem_of_getElem? (i := 58) rfl)) rfl⟩
set_option maxRecDepth 20000 in
theorem cb_M_drop : CSb y_M_drop b_M_drop 3 none 1 := ⟨aw_in (tb_1 (List.mem_of_getElem? (i := 7) rfl)) rfl, aw_in (tb_4 (List.mem_of_getElem? (i := 55) rfl)) rfl, by decide, by decide, by decide +kernel⟩
set_option maxRecDepth 20000 in
theorem cs_M_drop : CSv y_M_drop := ⟨aw_in (tb_4 (List.mem_of_getElem? (i := 54) rfl)) rfl, aw_in (List.mem_append_left _ (List.mem_of_getElem? (i := 68) rfl)) rfl⟩
set_option maxRecDepth 20000 in
theorem cb_M_firm : CSb y_M_firm b_M_firm 2 (some .int) 0 := ⟨aw_in (tb_1 (List.mem_of_getElem? (i := 7) rfl)) rfl, aw_in (tb_4 (List.mem_of_getElem? (i := 79) rfl)) rfl, by decide, by decide, by decide +kernel⟩
set_option maxRecDepth 20000 in
theorem cs_M_firm : CSv y_M_firm := ⟨aw_in (tb_4 (List.mem_of_getElem? (i := 78) rfl)) rfl, aw_in (List.mem_append_left _ (List.mem_of_getElem? (i := 74) rfl)) rfl⟩
set_option maxRecDepth 20000 in
theorem cb_M_firstFit : CSb y_M_firstFit b_M_firstFit 3 (some .int) 0 := ⟨aw_in (tb_1 (List.mem_of_getElem? (i := 7) rfl)) rfl, aw_in (tb_4 (List.mem_of_getElem? (i := 83) rfl)) rfl, by decide, by decide, by decide +kernel⟩
set_option maxRecDepth 20000 in
theorem cs_M_firstFit : CSv y_M_firstFit := ⟨aw_in (tb_4 (List.mem_of_getElem? (i := 82) rfl)) rfl, aw_in (List.mem_append_left _ (List.mem_of_getElem? (i := 75) rfl)) rfl⟩
set_option maxRecDepth 20000 in
theorem cb_M_settle : CSb y_M_settle b_M_settle 5 none 0 := ⟨aw_in (tb_1 (List.mem_of_getElem? (i := 7) rfl)) rfl, aw_in (tb_4 (List.mem_of_getElem? (i := 75) rfl)) rfl, by decide, by decide, by decide +kernel⟩
set_option maxRecDepth 20000 in
theorem cs_M_settle : CSv y_M_settle := ⟨aw_in (tb_4 (List.mem_of_getElem? (i := 74) rfl)) rfl, aw_in (List.mem_append_left _ (List.mem_of_getElem? (i := 73) rfl)) rfl⟩
set_option maxRecDepth 20000 in
theorem cb_M_isIn : CSb y_M_isIn b_M_isIn 3 (some .boolean) 2 := ⟨aw_in (tb_1 (List.mem_of_getElem? (i := 7) rfl)) rfl, aw_in (tb_3 (List.mem_of_getElem? (i := 239) rfl)) rfl, by decide, by decide, by decide +kernel⟩
set_option maxRecDepth 20000 in
theorem cs_M_isIn : CSv y_M_isIn := ⟨aw_in (tb_3 (List.mem_of_getElem? (i := 238) rfl)) rfl, aw_in (List.mem_append_left _ (List.mem_of_getElem? (i := 54) rfl)) rfl⟩
set_option maxRecDepth 20000 in
theorem cb_M_begin : CSb y_M_begin b_M_begin 3 (some .int) 0 := ⟨aw_in (tb_1 (List.mem_of_getElem? (i := 7) rfl)) rfl, aw_in (tb_3 (List.mem_of_getElem? (i := 223) rfl)) rfl, by decide, by decide, by decide +kernel⟩
set_option maxRecDepth 20000 in
theorem cs_M_begin : CSv y_M_begin := ⟨aw_in (tb_3 (List.mem_of_getElem? (i := 221) rfl)) rfl, aw_in (tb_3 (List.mem_of_getElem? (i := 222) rfl)) rfl⟩
set_option maxRecDepth 20000 in
theorem cb_M_request : CSb y_M_request b_M_request 6 (some .int) 4 := ⟨aw_in (tb_1 (List.mem_of_getElem? (i := 7) rfl)) rfl, aw_in (tb_3 (List.mem_of_getElem? (i := 235) rfl)) rfl, by decide, by decide, by decide +kernel⟩
set_option maxRecDepth 20000 in
theorem cs_M_request : CSv y_M_request := ⟨aw_in (tb_3 (List.mem_of_getElem? (i := 234) rfl)) rfl, aw_in (List.mem_append_left _ (List.mem_of_getElem? (i := 53) rfl)) rfl⟩
set_option maxRecDepth 20000 in
theorem cb_M_read : CSb y_M_read b_M_read 3 (some .int) 2 := ⟨aw_in (tb_1 (List.mem_of_getElem? (i := 7) rfl)) rfl, aw_in (tb_3 (List.mem_of_getElem? (i := 231) rfl)) rfl, by decide, by decide, by decide +kernel⟩
set_option maxRecDepth 20000 in
theorem cs_M_read : CSv y_M_read := ⟨aw_in (tb_3 (List.mem_of_getElem? (i := 229) rfl)) rfl, aw_in (tb_3 (List.mem_of_getElem? (i := 230) rfl)) rfl⟩
set_option maxRecDepth 20000 in
theorem cb_M_write : CSb y_M_write b_M_write 4 (some .int) 3 := ⟨aw_in (tb_1 (List.mem_of_getElem? (i := 7) rfl)) rfl, aw_in (tb_4 (List.mem_of_getElem? (i := 87) rfl)) rfl, by decide, by decide, by decide +kernel⟩
set_option maxRecDepth 20000 in
theorem cs_M_write : CSv y_M_write := ⟨aw_in (tb_4 (List.mem_of_getElem? (i := 85) rfl)) rfl, aw_in (tb_4 (List.mem_of_getElem? (i := 86) rfl)) rfl⟩
set_option maxRecDepth 20000 in
theorem cb_M_commit : CSb y_M_commit b_M_commit 2 (some .boolean) 1 := ⟨aw_in (tb_1 (List.mem_of_getElem? (i := 7) rfl)) rfl, aw_in (tb_4 (List.mem_of_getElem? (i := 91) rfl)) rfl, by decide, by decide, by decide +kernel⟩
set_option maxRecDepth 20000 in
theorem cs_M_commit : CSv y_M_commit := ⟨aw_in (tb_4 (List.mem_of_getElem? (i := 89) rfl)) rfl, aw_in (tb_4 (List.mem_of_getElem? (i := 90) rfl)) rfl⟩
set_option maxRecDepth 20000 in
theorem cb_M_abort : CSb y_M_abort b_M_abort 2 (some .boolean) 1 := ⟨aw_in (tb_1 (List.mem_of_getElem? (i := 7) rfl)) rfl, aw_in (tb_4 (List.mem_of_getElem? (i := 95) rfl)) rfl, by decide, by decide, by decide +kernel⟩
set_option maxRecDepth 20000 in
theorem cs_M_abort : CSv y_M_abort := ⟨aw_in (tb_4 (List.mem_of_getElem? (i := 93) rfl)) rfl, aw_in (tb_4 (List.mem_of_getElem? (i := 94) rfl)) rfl⟩
set_option maxRecDepth 20000 in
theorem cb_M_force : CSb y_M_force b_M_force 1 (some .boolean) 0 := ⟨aw_in (tb_1 (List.mem_of_getElem? (i := 7) rfl)) rfl, aw_in (tb_4 (List.mem_of_getElem? (i := 99) rfl)) rfl, by decide, by decide, by decide +kernel⟩
set_option maxRecDepth 20000 in
theorem cs_M_force : CSv y_M_force := ⟨aw_in (tb_4 (List.mem_of_getElem? (i := 97) rfl)) rfl, aw_in (tb_4 (List.mem_of_getElem? (i := 98) rfl)) rfl⟩
set_option maxRecDepth 20000 in
theorem cb_M_checkpoint : CSb y_M_checkpoint b_M_checkpoint 3 (some .int) 0 := ⟨aw_in (tb_1 (List.mem_of_getElem? (i := 7) rfl)) rfl, aw_in (tb_4 (List.mem_of_getElem? (i := 103) rfl)) rfl, by decide, by decide, by decide +kernel⟩
set_option maxRecDepth 20000 in
theorem cs_M_checkpoint : CSv y_M_checkpoint := ⟨aw_in (tb_4 (List.mem_of_getElem? (i := 101) rfl)) rfl, aw_in (tb_4 (List.mem_of_getElem? (i := 102) rfl)) rfl⟩
set_option maxRecDepth 20000 in
theorem cb_M_flush : CSb y_M_flush b_M_flush 2 (some .boolean) 1 := ⟨aw_in (tb_1 (List.mem_of_getElem? (i := 7) rfl)) rfl, aw_in (tb_4 (List.mem_of_getElem? (i := 107) rfl)) rfl, by decide, by decide, by decide +kernel⟩
set_option maxRecDepth 20000 in
theorem cs_M_flush : CSv y_M_flush := ⟨aw_in (tb_4 (List.mem_of_getElem? (i := 105) rfl)) rfl, aw_in (tb_4 (List.mem_of_getElem? (i := 106) rfl)) rfl⟩
set_option maxRecDepth 20000 in
theorem cb_M_crash : CSb y_M_crash b_M_crash 3 (some .int) 1 := ⟨aw_in (tb_1 (List.mem_of_getElem? (i := 7) rfl)) rfl, aw_in (tb_4 (List.mem_of_getElem? (i := 111) rfl)) rfl, by decide, by decide, by decide +kernel⟩
set_option maxRecDepth 20000 in
theorem cs_M_crash : CSv y_M_crash := ⟨aw_in (tb_4 (List.mem_of_getElem? (i := 109) rfl)) rfl, aw_in (tb_4 (List.mem_of_getElem? (i := 110) rfl)) rfl⟩
set_option maxRecDepth 20000 in
theorem cb_M_analyse : CSb y_M_analyse b_M_analyse 4 none 0 := ⟨aw_in (tb_1 (List.mem_of_getElem? (i := 7) rfl)) rfl, aw_in (tb_4 (List.mem_of_getElem? (i := 123) rfl)) rfl, by decide, by decide, by decide +kernel⟩
set_option maxRecDepth 20000 in
theorem cs_M_analyse : CSv y_M_analyse := ⟨aw_in (tb_4 (List.mem_of_getElem? (i := 122) rfl)) rfl, aw_in (List.mem_append_left _ (List.mem_of_getElem? (i := 77) rfl)) rfl⟩
set_option maxRecDepth 20000 in
theorem cb_M_redo : CSb y_M_redo b_M_redo 3 none 1 := ⟨aw_in (tb_1 (List.mem_of_getElem? (i := 7) rfl)) rfl, aw_in (tb_4 (List.mem_of_getElem? (i := 127) rfl)) rfl, by decide, by decide, by decide +kernel⟩
set_option maxRecDepth 20000 in
theorem cs_M_redo : CSv y_M_redo := ⟨aw_in (tb_4 (List.mem_of_getElem? (i := 126) rfl)) rfl, aw_in (List.mem_append_left _ (List.mem_of_getElem? (i := 78) rfl)) rfl⟩
set_option maxRecDepth 20000 in
theorem cb_M_finish : CSb y_M_finish b_M_finish 2 none 0 := ⟨aw_in (tb_1 (List.mem_of_getElem? (i := 7) rfl)) rfl, aw_in (tb_4 (List.mem_of_getElem? (i := 131) rfl)) rfl, by decide, by decide, by decide +kernel⟩
set_option maxRecDepth 20000 in
theorem cs_M_finish : CSv y_M_finish := ⟨aw_in (tb_4 (List.mem_of_getElem? (i := 130) rfl)) rfl, aw_in (List.mem_append_left _ (List.mem_of_getElem? (i := 79) rfl)) rfl⟩
set_option maxRecDepth 20000 in
theorem cb_M_unit : CSb y_M_unit b_M_unit 1 none 0 := ⟨aw_in (tb_1 (List.mem_of_getElem? (i := 7) rfl)) rfl, aw_in (tb_4 (List.mem_of_getElem? (i := 119) rfl)) rfl, by decide, by decide, by decide +kernel⟩
set_option maxRecDepth 20000 in
theorem cs_M_unit : CSv y_M_unit := ⟨aw_in (tb_4 (List.mem_of_getElem? (i := 118) rfl)) rfl, aw_in (List.mem_append_left _ (List.mem_of_getElem? (i := 76) rfl)) rfl⟩
set_option maxRecDepth 20000 in
theorem cb_M_restart : CSb y_M_restart b_M_restart 3 (some .int) 1 := ⟨aw_in (tb_1 (List.mem_of_getElem? (i := 7) rfl)) rfl, aw_in (tb_4 (List.mem_of_getElem? (i := 115) rfl)) rfl, by decide, by decide, by decide +kernel⟩
set_option maxRecDepth 20000 in
theorem cs_M_restart : CSv y_M_restart := ⟨aw_in (tb_4 (List.mem_of_getElem? (i := 113) rfl)) rfl, aw_in (tb_4 (List.mem_of_getElem? (i := 114) rfl)) rfl⟩
set_option maxRecDepth 20000 in
theorem cb_M_up : CSb y_M_up b_M_up 1 (some .boolean) 0 := ⟨aw_in (tb_1 (List.mem_of_getElem? (i := 7) rfl)) rfl, aw_in (tb_4 (List.mem_of_getElem? (i := 135) rfl)) rfl, by decide, by decide, by decide +kernel⟩
set_option maxRecDepth 20000 in
theorem cs_M_up : CSv y_M_up := ⟨aw_in (tb_4 (List.mem_of_getElem? (i := 133) rfl)) rfl, aw_in (tb_4 (List.mem_of_getElem? (i := 134) rfl)) rfl⟩
set_option maxRecDepth 20000 in
theorem cb_M_known : CSb y_M_known b_M_known 2 (some .boolean) 1 := ⟨aw_in (tb_1 (List.mem_of_getElem? (i := 7) rfl)) rfl, aw_in (tb_4 (List.mem_of_getElem? (i := 143) rfl)) rfl, by decide, by decide, by decide +kernel⟩
set_option maxRecDepth 20000 in
theorem cs_M_known : CSv y_M_known := ⟨aw_in (tb_4 (List.mem_of_getElem? (i := 142) rfl)) rfl, aw_in (List.mem_append_left _ (List.mem_of_getElem? (i := 80) rfl)) rfl⟩
set_option maxRecDepth 20000 in
theorem cb_M_state : CSb y_M_state b_M_state 2 (some .int) 1 := ⟨aw_in (tb_1 (List.mem_of_getElem? (i := 7) rfl)) rfl, aw_in (tb_4 (List.mem_of_getElem? (i := 139) rfl)) rfl, by decide, by decide, by decide +kernel⟩
set_option maxRecDepth 20000 in
theorem cs_M_state : CSv y_M_state := ⟨aw_in (tb_4 (List.mem_of_getElem? (i := 137) rfl)) rfl, aw_in (tb_4 (List.mem_of_getElem? (i := 138) rfl)) rfl⟩
set_option maxRecDepth 20000 in
theorem cb_M_outcome : CSb y_M_outcome b_M_outcome 2 (some .int) 1 := ⟨aw_in (tb_1 (List.mem_of_getElem? (i := 7) rfl)) rfl, aw_in (tb_4 (List.mem_of_getElem? (i := 147) rfl)) rfl, by decide, by decide, by decide +kernel⟩
set_option maxRecDepth 20000 in
theorem cs_M_outcome : CSv y_M_outcome := ⟨aw_in (tb_4 (List.mem_of_getElem? (i := 145) rfl)) rfl, aw_in (tb_4 (List.mem_of_getElem? (i := 146) rfl)) rfl⟩
set_option maxRecDepth 20000 in
theorem cb_M_value : CSb y_M_value b_M_value 2 (some .int) 1 := ⟨aw_in (tb_1 (List.mem_of_getElem? (i := 7) rfl)) rfl, aw_in (tb_4 (List.mem_of_getElem? (i := 151) rfl)) rfl, by decide, by decide, by decide +kernel⟩
set_option maxRecDepth 20000 in
theorem cs_M_value : CSv y_M_value := ⟨aw_in (tb_4 (List.mem_of_getElem? (i := 149) rfl)) rfl, aw_in (tb_4 (List.mem_of_getElem? (i := 150) rfl)) rfl⟩
set_option maxRecDepth 20000 in
theorem cb_M_stored : CSb y_M_stored b_M_stored 3 (some .int) 1 := ⟨aw_in (tb_1 (List.mem_of_getElem? (i := 7) rfl)) rfl, aw_in (tb_4 (List.mem_of_getElem? (i := 155) rfl)) rfl, by decide, by decide, by decide +kernel⟩
set_option maxRecDepth 20000 in
theorem cs_M_stored : CSv y_M_stored := ⟨aw_in (tb_4 (List.mem_of_getElem? (i := 153) rfl)) rfl, aw_in (tb_4 (List.mem_of_getElem? (i := 154) rfl)) rfl⟩
set_option maxRecDepth 20000 in
theorem cb_M_place : CSb y_M_place b_M_place 2 (some .int) 1 := ⟨aw_in (tb_1 (List.mem_of_getElem? (i := 7) rfl)) rfl, aw_in (tb_4 (List.mem_of_getElem? (i := 159) rfl)) rfl, by decide, by decide, by decide +kernel⟩
set_option maxRecDepth 20000 in
theorem cs_M_place : CSv y_M_place := ⟨aw_in (tb_4 (List.mem_of_getElem? (i := 157) rfl)) rfl, aw_in (tb_4 (List.mem_of_getElem? (i := 158) rfl)) rfl⟩
set_option maxRecDepth 20000 in
theorem cb_M_after : CSb y_M_after b_M_after 3 (some .int) 1 := ⟨aw_in (tb_1 (List.mem_of_getElem? (i := 7) rfl)) rfl, aw_in (tb_4 (List.mem_of_getElem? (i := 168) rfl)) rfl, by decide, by decide, by decide +kernel⟩
set_option maxRecDepth 20000 in
theorem cs_M_after : CSv y_M_after := ⟨aw_in (tb_4 (List.mem_of_getElem? (i := 166) rfl)) rfl, aw_in (tb_4 (List.mem_of_getElem? (i := 167) rfl)) rfl⟩
set_option maxRecDepth 20000 in
theorem cb_M_count : CSb y_M_count b_M_count 2 (some .int) 1 := ⟨aw_in (tb_1 (List.mem_of_getElem? (i := 7) rfl)) rfl, aw_in (tb_4 (List.mem_of_getElem? (i := 172) rfl)) rfl, by decide, by decide, by decide +kernel⟩
set_option maxRecDepth 20000 in
theorem cs_M_count : CSv y_M_count := ⟨aw_in (tb_4 (List.mem_of_getElem? (i := 170) rfl)) rfl, aw_in (tb_4 (List.mem_of_getElem? (i := 171) rfl)) rfl⟩
set_option maxRecDepth 20000 in
theorem cb_M_page : CSb y_M_page b_M_page 3 (some .int) 2 := ⟨aw_in (tb_1 (List.mem_of_getElem? (i := 7) rfl)) rfl, aw_in (tb_4 (List.mem_of_getElem? (i := 176) rfl)) rfl, by decide, by decide, by decide +kernel⟩
set_option maxRecDepth 20000 in
theorem cs_M_page : CSv y_M_page := ⟨aw_in (tb_4 (List.mem_of_getElem? (i := 174) rfl)) rfl, aw_in (tb_4 (List.mem_of_getElem? (i := 175) rfl)) rfl⟩
set_option maxRecDepth 20000 in
theorem cb_XC_init : CSb y_XC_init b_XC_init 2 none 0 := ⟨aw_in (tb_1 (List.mem_of_getElem? (i := 4) rfl)) rfl, aw_in (tb_1 (List.mem_of_getElem? (i := 101) rfl)) rfl, by decide, by decide, by decide +kernel⟩
set_option maxRecDepth 20000 in
theorem cs_XC_init : Cond.instanceMethod y_XC_init ∈ AW := aw_in (tb_1 (List.mem_of_getElem? (i := 100) rfl)) rfl
set_option maxRecDepth 20000 in
theorem cb_XC_copy : CSb y_XC_copy b_XC_copy 3 none 1 := ⟨aw_in (tb_1 (List.mem_of_getElem? (i := 4) rfl)) rfl, aw_in (tb_2 (List.mem_of_getElem? (i := 116) rfl)) rfl, by decide, by decide, by decide +kernel⟩
set_option maxRecDepth 20000 in
theorem cs_XC_copy : CSv y_XC_copy := ⟨aw_in (tb_2 (List.mem_of_getElem? (i := 115) rfl)) rfl, aw_in (List.mem_append_left _ (List.mem_of_getElem? (i := 19) rfl)) rfl⟩
set_option maxRecDepth 20000 in
theorem cb_XV_init : CSb y_XV_init b_XV_init 1 none 0 := ⟨aw_in (tb_1 (List.mem_of_getElem? (i := 5) rfl)) rfl, aw_in (tb_1 (List.mem_of_getElem? (i := 156) rfl)) rfl, by decide, by decide, by decide +kernel⟩
set_option maxRecDepth 20000 in
theorem cs_XV_init : Cond.instanceMethod y_XV_init ∈ AW := aw_in (tb_1 (List.mem_of_getElem? (i := 155) rfl)) rfl
set_option maxRecDepth 20000 in
theorem cb_XV_freeSeat : CSb y_XV_freeSeat b_XV_freeSeat 2 (some .int) 0 := ⟨aw_in (tb_1 (List.mem_of_getElem? (i := 5) rfl)) rfl, aw_in (tb_1 (List.mem_of_getElem? (i := 229) rfl)) rfl, by decide, by decide, by decide +kernel⟩
set_option maxRecDepth 20000 in
theorem cs_XV_freeSeat : CSv y_XV_freeSeat := ⟨aw_in (tb_1 (List.mem_of_getElem? (i := 228) rfl)) rfl, aw_in (List.mem_append_left _ (List.mem_of_getElem? (i := 0) rfl)) rfl⟩
set_option maxRecDepth 20000 in
theorem cb_XV_enter : CSb y_XV_enter b_XV_enter 2 none 1 := ⟨aw_in (tb_1 (List.mem_of_getElem? (i := 5) rfl)) rfl, aw_in (tb_2 (List.mem_of_getElem? (i := 38) rfl)) rfl, by decide, by decide, by decide +kernel⟩
set_option maxRecDepth 20000 in
theorem cs_XV_enter : CSv y_XV_enter := ⟨aw_in (tb_2 (List.mem_of_getElem? (i := 37) rfl)) rfl, aw_in (List.mem_append_left _ (List.mem_of_getElem? (i := 1) rfl)) rfl⟩
set_option maxRecDepth 20000 in
theorem cb_XV_leave : CSb y_XV_leave b_XV_leave 4 none 2 := ⟨aw_in (tb_1 (List.mem_of_getElem? (i := 5) rfl)) rfl, aw_in (tb_2 (List.mem_of_getElem? (i := 50) rfl)) rfl, by decide, by decide, by decide +kernel⟩
set_option maxRecDepth 20000 in
theorem cs_XV_leave : CSv y_XV_leave := ⟨aw_in (tb_2 (List.mem_of_getElem? (i := 49) rfl)) rfl, aw_in (List.mem_append_left _ (List.mem_of_getElem? (i := 4) rfl)) rfl⟩
set_option maxRecDepth 20000 in
theorem cb_XV_leaveAllInDoubt : CSb y_XV_leaveAllInDoubt b_XV_leaveAllInDoubt 2 none 0 := ⟨aw_in (tb_1 (List.mem_of_getElem? (i := 5) rfl)) rfl, aw_in (tb_3 (List.mem_of_getElem? (i := 7) rfl)) rfl, by decide, by decide, by decide +kernel⟩
set_option maxRecDepth 20000 in
theorem cs_XV_leaveAllInDoubt : CSv y_XV_leaveAllInDoubt := ⟨aw_in (tb_3 (List.mem_of_getElem? (i := 6) rfl)) rfl, aw_in (List.mem_append_left _ (List.mem_of_getElem? (i := 39) rfl)) rfl⟩
set_option maxRecDepth 20000 in
theorem cb_XV_hold : CSb y_XV_hold b_XV_hold 2 none 1 := ⟨aw_in (tb_1 (List.mem_of_getElem? (i := 5) rfl)) rfl, aw_in (tb_2 (List.mem_of_getElem? (i := 73) rfl)) rfl, by decide, by decide, by decide +kernel⟩
set_option maxRecDepth 20000 in
theorem cs_XV_hold : CSv y_XV_hold := ⟨aw_in (tb_2 (List.mem_of_getElem? (i := 72) rfl)) rfl, aw_in (List.mem_append_left _ (List.mem_of_getElem? (i := 9) rfl)) rfl⟩
set_option maxRecDepth 20000 in
theorem cb_XV_isFit : CSb y_XV_isFit b_XV_isFit 3 (some .boolean) 1 := ⟨aw_in (tb_1 (List.mem_of_getElem? (i := 5) rfl)) rfl, aw_in (tb_2 (List.mem_of_getElem? (i := 58) rfl)) rfl, by decide, by decide, by decide +kernel⟩
set_option maxRecDepth 20000 in
theorem cs_XV_isFit : CSv y_XV_isFit := ⟨aw_in (tb_2 (List.mem_of_getElem? (i := 57) rfl)) rfl, aw_in (List.mem_append_left _ (List.mem_of_getElem? (i := 6) rfl)) rfl⟩
set_option maxRecDepth 20000 in
theorem cb_XV_obstacles : CSb y_XV_obstacles b_XV_obstacles 7 (some .int) 1 := ⟨aw_in (tb_1 (List.mem_of_getElem? (i := 5) rfl)) rfl, aw_in (tb_2 (List.mem_of_getElem? (i := 62) rfl)) rfl, by decide, by decide, by decide +kernel⟩
set_option maxRecDepth 20000 in
theorem cs_XV_obstacles : CSv y_XV_obstacles := ⟨aw_in (tb_2 (List.mem_of_getElem? (i := 61) rfl)) rfl, aw_in (List.mem_append_left _ (List.mem_of_getElem? (i := 7) rfl)) rfl⟩
set_option maxRecDepth 20000 in
theorem cb_XV_conflicts : CSb y_XV_conflicts b_XV_conflicts 2 (some .boolean) 2 := ⟨aw_in (tb_1 (List.mem_of_getElem? (i := 5) rfl)) rfl, aw_in (tb_2 (List.mem_of_getElem? (i := 65) rfl)) rfl, by decide, by decide, by decide +kernel⟩
set_option maxRecDepth 20000 in
theorem cs_XV_conflicts : Cond.static y_XV_conflicts ∈ AW := aw_in (tb_2 (List.mem_of_getElem? (i := 64) rfl)) rfl
set_option maxRecDepth 20000 in
theorem cb_XV_waitsForItself : CSb y_XV_waitsForItself b_XV_waitsForItself 4 (some .boolean) 1 := ⟨aw_in (tb_1 (List.mem_of_getElem? (i := 5) rfl)) rfl, aw_in (tb_2 (List.mem_of_getElem? (i := 161) rfl)) rfl, by decide, by decide, by decide +kernel⟩
set_option maxRecDepth 20000 in
theorem cs_XV_waitsForItself : CSv y_XV_waitsForItself := ⟨aw_in (tb_2 (List.mem_of_getElem? (i := 160) rfl)) rfl, aw_in (List.mem_append_left _ (List.mem_of_getElem? (i := 28) rfl)) rfl⟩
set_option maxRecDepth 20000 in
theorem cb_XV_stepFrom : CSb y_XV_stepFrom b_XV_stepFrom 5 (some .int) 1 := ⟨aw_in (tb_1 (List.mem_of_getElem? (i := 5) rfl)) rfl, aw_in (tb_2 (List.mem_of_getElem? (i := 165) rfl)) rfl, by decide, by decide, by decide +kernel⟩
set_option maxRecDepth 20000 in
theorem cs_XV_stepFrom : CSv y_XV_stepFrom := ⟨aw_in (tb_2 (List.mem_of_getElem? (i := 164) rfl)) rfl, aw_in (List.mem_append_left _ (List.mem_of_getElem? (i := 29) rfl)) rfl⟩
set_option maxRecDepth 20000 in
theorem cb_XV_leastStableCommit : CSb y_XV_leastStableCommit b_XV_leastStableCommit 5 (some (.object "LogStore$Transaction")) 1 := ⟨aw_in (tb_1 (List.mem_of_getElem? (i := 5) rfl)) rfl, aw_in (tb_2 (List.mem_of_getElem? (i := 46) rfl)) rfl, by decide, by decide, by decide +kernel⟩
set_option maxRecDepth 20000 in
theorem cs_XV_leastStableCommit : CSv y_XV_leastStableCommit := ⟨aw_in (tb_2 (List.mem_of_getElem? (i := 45) rfl)) rfl, aw_in (List.mem_append_left _ (List.mem_of_getElem? (i := 3) rfl)) rfl⟩
set_option maxRecDepth 20000 in
theorem cb_XV_firstFitWaiting : CSb y_XV_firstFitWaiting b_XV_firstFitWaiting 4 (some (.object "LogStore$Transaction")) 0 := ⟨aw_in (tb_1 (List.mem_of_getElem? (i := 5) rfl)) rfl, aw_in (tb_2 (List.mem_of_getElem? (i := 54) rfl)) rfl, by decide, by decide, by decide +kernel⟩
set_option maxRecDepth 20000 in
theorem cs_XV_firstFitWaiting : CSv y_XV_firstFitWaiting := ⟨aw_in (tb_2 (List.mem_of_getElem? (i := 53) rfl)) rfl, aw_in (List.mem_append_left _ (List.mem_of_getElem? (i := 5) rfl)) rfl⟩
set_option maxRecDepth 20000 in
theorem cb_XL_init : CSb y_XL_init b_XL_init 1 none 0 := ⟨aw_in (tb_1 (List.mem_of_getElem? (i := 2) rfl)) rfl, aw_in (tb_1 (List.mem_of_getElem? (i := 23) rfl)) rfl, by decide, by decide, by decide +kernel⟩
set_option maxRecDepth 20000 in
theorem cs_XL_init : Cond.instanceMethod y_XL_init ∈ AW := aw_in (tb_1 (List.mem_of_getElem? (i := 22) rfl)) rfl
set_option maxRecDepth 20000 in
theorem cb_XL_append : CSb y_XL_append b_XL_append 3 (some .int) 2 := ⟨aw_in (tb_1 (List.mem_of_getElem? (i := 2) rfl)) rfl, aw_in (tb_2 (List.mem_of_getElem? (i := 133) rfl)) rfl, by decide, by decide, by decide +kernel⟩
set_option maxRecDepth 20000 in
theorem cs_XL_append : CSv y_XL_append := ⟨aw_in (tb_2 (List.mem_of_getElem? (i := 132) rfl)) rfl, aw_in (List.mem_append_left _ (List.mem_of_getElem? (i := 23) rfl)) rfl⟩
set_option maxRecDepth 20000 in
theorem cb_XL_addUpdate : CSb y_XL_addUpdate b_XL_addUpdate 8 (some .int) 6 := ⟨aw_in (tb_1 (List.mem_of_getElem? (i := 2) rfl)) rfl, aw_in (tb_2 (List.mem_of_getElem? (i := 129) rfl)) rfl, by decide, by decide, by decide +kernel⟩
set_option maxRecDepth 20000 in
theorem cs_XL_addUpdate : CSv y_XL_addUpdate := ⟨aw_in (tb_2 (List.mem_of_getElem? (i := 128) rfl)) rfl, aw_in (List.mem_append_left _ (List.mem_of_getElem? (i := 22) rfl)) rfl⟩
set_option maxRecDepth 20000 in
theorem cb_XL_addClr : CSb y_XL_addClr b_XL_addClr 3 (some .int) 1 := ⟨aw_in (tb_1 (List.mem_of_getElem? (i := 2) rfl)) rfl, aw_in (tb_2 (List.mem_of_getElem? (i := 182) rfl)) rfl, by decide, by decide, by decide +kernel⟩
set_option maxRecDepth 20000 in
theorem cs_XL_addClr : CSv y_XL_addClr := ⟨aw_in (tb_2 (List.mem_of_getElem? (i := 181) rfl)) rfl, aw_in (List.mem_append_left _ (List.mem_of_getElem? (i := 33) rfl)) rfl⟩
set_option maxRecDepth 20000 in
theorem cb_XL_addCommit : CSb y_XL_addCommit b_XL_addCommit 2 none 1 := ⟨aw_in (tb_1 (List.mem_of_getElem? (i := 2) rfl)) rfl, aw_in (tb_2 (List.mem_of_getElem? (i := 195) rfl)) rfl, by decide, by decide, by decide +kernel⟩
set_option maxRecDepth 20000 in
theorem cs_XL_addCommit : CSv y_XL_addCommit := ⟨aw_in (tb_2 (List.mem_of_getElem? (i := 194) rfl)) rfl, aw_in (List.mem_append_left _ (List.mem_of_getElem? (i := 34) rfl)) rfl⟩
set_option maxRecDepth 20000 in
theorem cb_XL_addCheckpoint : CSb y_XL_addCheckpoint b_XL_addCheckpoint 3 (some .int) 1 := ⟨aw_in (tb_1 (List.mem_of_getElem? (i := 2) rfl)) rfl, aw_in (tb_2 (List.mem_of_getElem? (i := 212) rfl)) rfl, by decide, by decide, by decide +kernel⟩
set_option maxRecDepth 20000 in
theorem cs_XL_addCheckpoint : CSv y_XL_addCheckpoint := ⟨aw_in (tb_2 (List.mem_of_getElem? (i := 211) rfl)) rfl, aw_in (List.mem_append_left _ (List.mem_of_getElem? (i := 35) rfl)) rfl⟩
set_option maxRecDepth 20000 in
theorem cb_XL_isChange : CSb y_XL_isChange b_XL_isChange 2 (some .boolean) 1 := ⟨aw_in (tb_1 (List.mem_of_getElem? (i := 2) rfl)) rfl, aw_in (tb_3 (List.mem_of_getElem? (i := 32) rfl)) rfl, by decide, by decide, by decide +kernel⟩
set_option maxRecDepth 20000 in
theorem cs_XL_isChange : CSv y_XL_isChange := ⟨aw_in (tb_3 (List.mem_of_getElem? (i := 31) rfl)) rfl, aw_in (List.mem_append_left _ (List.mem_of_getElem? (i := 44) rfl)) rfl⟩
set_option maxRecDepth 20000 in
theorem cb_XL_isOpen : CSb y_XL_isOpen b_XL_isOpen 2 (some .boolean) 1 := ⟨aw_in (tb_1 (List.mem_of_getElem? (i := 2) rfl)) rfl, aw_in (tb_2 (List.mem_of_getElem? (i := 173) rfl)) rfl, by decide, by decide, by decide +kernel⟩
set_option maxRecDepth 20000 in
theorem cs_XL_isOpen : CSv y_XL_isOpen := ⟨aw_in (tb_2 (List.mem_of_getElem? (i := 172) rfl)) rfl, aw_in (List.mem_append_left _ (List.mem_of_getElem? (i := 31) rfl)) rfl⟩
set_option maxRecDepth 20000 in
theorem cb_XL_greatestOpen : CSb y_XL_greatestOpen b_XL_greatestOpen 2 (some .int) 0 := ⟨aw_in (tb_1 (List.mem_of_getElem? (i := 2) rfl)) rfl, aw_in (tb_3 (List.mem_of_getElem? (i := 49) rfl)) rfl, by decide, by decide, by decide +kernel⟩
set_option maxRecDepth 20000 in
theorem cs_XL_greatestOpen : CSv y_XL_greatestOpen := ⟨aw_in (tb_3 (List.mem_of_getElem? (i := 48) rfl)) rfl, aw_in (List.mem_append_left _ (List.mem_of_getElem? (i := 48) rfl)) rfl⟩
set_option maxRecDepth 20000 in
theorem cb_XL_makeStable : CSb y_XL_makeStable b_XL_makeStable 2 none 1 := ⟨aw_in (tb_1 (List.mem_of_getElem? (i := 2) rfl)) rfl, aw_in (tb_2 (List.mem_of_getElem? (i := 112) rfl)) rfl, by decide, by decide, by decide +kernel⟩
set_option maxRecDepth 20000 in
theorem cs_XL_makeStable : CSv y_XL_makeStable := ⟨aw_in (tb_2 (List.mem_of_getElem? (i := 111) rfl)) rfl, aw_in (List.mem_append_left _ (List.mem_of_getElem? (i := 18) rfl)) rfl⟩
set_option maxRecDepth 20000 in
theorem cb_XL_loseUnstable : CSb y_XL_loseUnstable b_XL_loseUnstable 2 none 0 := ⟨aw_in (tb_1 (List.mem_of_getElem? (i := 2) rfl)) rfl, aw_in (tb_2 (List.mem_of_getElem? (i := 235) rfl)) rfl, by decide, by decide, by decide +kernel⟩
set_option maxRecDepth 20000 in
theorem cs_XL_loseUnstable : CSv y_XL_loseUnstable := ⟨aw_in (tb_2 (List.mem_of_getElem? (i := 234) rfl)) rfl, aw_in (List.mem_append_left _ (List.mem_of_getElem? (i := 36) rfl)) rfl⟩
set_option maxRecDepth 20000 in
theorem cb_XL_forget : CSb y_XL_forget b_XL_forget 2 none 1 := ⟨aw_in (tb_1 (List.mem_of_getElem? (i := 2) rfl)) rfl, aw_in (tb_2 (List.mem_of_getElem? (i := 239) rfl)) rfl, by decide, by decide, by decide +kernel⟩
set_option maxRecDepth 20000 in
theorem cs_XL_forget : CSv y_XL_forget := ⟨aw_in (tb_2 (List.mem_of_getElem? (i := 238) rfl)) rfl, aw_in (List.mem_append_left _ (List.mem_of_getElem? (i := 37) rfl)) rfl⟩
set_option maxRecDepth 20000 in
theorem cb_XP_init : CSb y_XP_init b_XP_init 3 none 1 := ⟨aw_in (tb_1 (List.mem_of_getElem? (i := 3) rfl)) rfl, aw_in (tb_1 (List.mem_of_getElem? (i := 94) rfl)) rfl, by decide, by decide, by decide +kernel⟩
set_option maxRecDepth 20000 in
theorem cs_XP_init : Cond.instanceMethod y_XP_init ∈ AW := aw_in (tb_1 (List.mem_of_getElem? (i := 93) rfl)) rfl
set_option maxRecDepth 20000 in
theorem cb_XP_isDirty : CSb y_XP_isDirty b_XP_isDirty 2 (some .boolean) 1 := ⟨aw_in (tb_1 (List.mem_of_getElem? (i := 3) rfl)) rfl, aw_in (tb_2 (List.mem_of_getElem? (i := 104) rfl)) rfl, by decide, by decide, by decide +kernel⟩
set_option maxRecDepth 20000 in
theorem cs_XP_isDirty : CSv y_XP_isDirty := ⟨aw_in (tb_2 (List.mem_of_getElem? (i := 103) rfl)) rfl, aw_in (List.mem_append_left _ (List.mem_of_getElem? (i := 16) rfl)) rfl⟩
set_option maxRecDepth 20000 in
theorem cb_XP_writeOut : CSb y_XP_writeOut b_XP_writeOut 2 none 1 := ⟨aw_in (tb_1 (List.mem_of_getElem? (i := 3) rfl)) rfl, aw_in (tb_2 (List.mem_of_getElem? (i := 108) rfl)) rfl, by decide, by decide, by decide +kernel⟩
set_option maxRecDepth 20000 in
theorem cs_XP_writeOut : CSv y_XP_writeOut := ⟨aw_in (tb_2 (List.mem_of_getElem? (i := 107) rfl)) rfl, aw_in (List.mem_append_left _ (List.mem_of_getElem? (i := 17) rfl)) rfl⟩
set_option maxRecDepth 20000 in
theorem cb_XP_fetch : CSb y_XP_fetch b_XP_fetch 3 none 1 := ⟨aw_in (tb_1 (List.mem_of_getElem? (i := 3) rfl)) rfl, aw_in (tb_2 (List.mem_of_getElem? (i := 96) rfl)) rfl, by decide, by decide, by decide +kernel⟩
set_option maxRecDepth 20000 in
theorem cs_XP_fetch : CSv y_XP_fetch := ⟨aw_in (tb_2 (List.mem_of_getElem? (i := 95) rfl)) rfl, aw_in (List.mem_append_left _ (List.mem_of_getElem? (i := 14) rfl)) rfl⟩
set_option maxRecDepth 20000 in
theorem cb_XP_pageToLeave : CSb y_XP_pageToLeave b_XP_pageToLeave 4 (some .int) 0 := ⟨aw_in (tb_1 (List.mem_of_getElem? (i := 3) rfl)) rfl, aw_in (tb_2 (List.mem_of_getElem? (i := 100) rfl)) rfl, by decide, by decide, by decide +kernel⟩
set_option maxRecDepth 20000 in
theorem cs_XP_pageToLeave : CSv y_XP_pageToLeave := ⟨aw_in (tb_2 (List.mem_of_getElem? (i := 99) rfl)) rfl, aw_in (List.mem_append_left _ (List.mem_of_getElem? (i := 15) rfl)) rfl⟩
set_option maxRecDepth 20000 in
theorem cb_XP_empty : CSb y_XP_empty b_XP_empty 2 none 0 := ⟨aw_in (tb_1 (List.mem_of_getElem? (i := 3) rfl)) rfl, aw_in (tb_3 (List.mem_of_getElem? (i := 3) rfl)) rfl, by decide, by decide, by decide +kernel⟩
set_option maxRecDepth 20000 in
theorem cs_XP_empty : CSv y_XP_empty := ⟨aw_in (tb_3 (List.mem_of_getElem? (i := 2) rfl)) rfl, aw_in (List.mem_append_left _ (List.mem_of_getElem? (i := 38) rfl)) rfl⟩
set_option maxRecDepth 20000 in
theorem cb_XP_seen : CSb y_XP_seen b_XP_seen 2 (some (.object "LogStore$Contents")) 1 := ⟨aw_in (tb_1 (List.mem_of_getElem? (i := 3) rfl)) rfl, aw_in (tb_2 (List.mem_of_getElem? (i := 92) rfl)) rfl, by decide, by decide, by decide +kernel⟩
set_option maxRecDepth 20000 in
theorem cs_XP_seen : CSv y_XP_seen := ⟨aw_in (tb_2 (List.mem_of_getElem? (i := 91) rfl)) rfl, aw_in (List.mem_append_left _ (List.mem_of_getElem? (i := 13) rfl)) rfl⟩
set_option maxRecDepth 20000 in
theorem cb_XP_keyAt : CSb y_XP_keyAt b_XP_keyAt 2 (some .int) 1 := ⟨aw_in (tb_1 (List.mem_of_getElem? (i := 3) rfl)) rfl, aw_in (tb_2 (List.mem_of_getElem? (i := 88) rfl)) rfl, by decide, by decide, by decide +kernel⟩
set_option maxRecDepth 20000 in
theorem cs_XP_keyAt : CSv y_XP_keyAt := ⟨aw_in (tb_2 (List.mem_of_getElem? (i := 87) rfl)) rfl, aw_in (List.mem_append_left _ (List.mem_of_getElem? (i := 12) rfl)) rfl⟩
set_option maxRecDepth 20000 in
theorem cb_XP_valueAt : CSb y_XP_valueAt b_XP_valueAt 2 (some .int) 1 := ⟨aw_in (tb_1 (List.mem_of_getElem? (i := 3) rfl)) rfl, aw_in (tb_2 (List.mem_of_getElem? (i := 120) rfl)) rfl, by decide, by decide, by decide +kernel⟩
set_option maxRecDepth 20000 in
theorem cs_XP_valueAt : CSv y_XP_valueAt := ⟨aw_in (tb_2 (List.mem_of_getElem? (i := 119) rfl)) rfl, aw_in (List.mem_append_left _ (List.mem_of_getElem? (i := 20) rfl)) rfl⟩
set_option maxRecDepth 20000 in
theorem cb_XP_placeOf : CSb y_XP_placeOf b_XP_placeOf 3 (some .int) 1 := ⟨aw_in (tb_1 (List.mem_of_getElem? (i := 3) rfl)) rfl, aw_in (tb_2 (List.mem_of_getElem? (i := 84) rfl)) rfl, by decide, by decide, by decide +kernel⟩
set_option maxRecDepth 20000 in
theorem cs_XP_placeOf : CSv y_XP_placeOf := ⟨aw_in (tb_2 (List.mem_of_getElem? (i := 83) rfl)) rfl, aw_in (List.mem_append_left _ (List.mem_of_getElem? (i := 11) rfl)) rfl⟩
set_option maxRecDepth 20000 in
theorem cb_XP_leastKeyAbove : CSb y_XP_leastKeyAbove b_XP_leastKeyAbove 5 (some .int) 1 := ⟨aw_in (tb_1 (List.mem_of_getElem? (i := 3) rfl)) rfl, aw_in (tb_3 (List.mem_of_getElem? (i := 92) rfl)) rfl, by decide, by decide, by decide +kernel⟩
set_option maxRecDepth 20000 in
theorem cs_XP_leastKeyAbove : CSv y_XP_leastKeyAbove := ⟨aw_in (tb_3 (List.mem_of_getElem? (i := 91) rfl)) rfl, aw_in (List.mem_append_left _ (List.mem_of_getElem? (i := 51) rfl)) rfl⟩
set_option maxRecDepth 20000 in
theorem cb_XP_takeBack : CSb y_XP_takeBack b_XP_takeBack 2 none 1 := ⟨aw_in (tb_1 (List.mem_of_getElem? (i := 3) rfl)) rfl, aw_in (tb_2 (List.mem_of_getElem? (i := 177) rfl)) rfl, by decide, by decide, by decide +kernel⟩
set_option maxRecDepth 20000 in
theorem cs_XP_takeBack : CSv y_XP_takeBack := ⟨aw_in (tb_2 (List.mem_of_getElem? (i := 176) rfl)) rfl, aw_in (List.mem_append_left _ (List.mem_of_getElem? (i := 32) rfl)) rfl⟩
set_option maxRecDepth 20000 in
theorem cb_XP_redo : CSb y_XP_redo b_XP_redo 3 none 1 := ⟨aw_in (tb_1 (List.mem_of_getElem? (i := 3) rfl)) rfl, aw_in (tb_3 (List.mem_of_getElem? (i := 41) rfl)) rfl, by decide, by decide, by decide +kernel⟩
set_option maxRecDepth 20000 in
theorem cs_XP_redo : CSv y_XP_redo := ⟨aw_in (tb_3 (List.mem_of_getElem? (i := 40) rfl)) rfl, aw_in (List.mem_append_left _ (List.mem_of_getElem? (i := 46) rfl)) rfl⟩
set_option maxRecDepth 20000 in
theorem cb_XP_apply : CSb y_XP_apply b_XP_apply 4 none 1 := ⟨aw_in (tb_1 (List.mem_of_getElem? (i := 3) rfl)) rfl, aw_in (tb_2 (List.mem_of_getElem? (i := 137) rfl)) rfl, by decide, by decide, by decide +kernel⟩
set_option maxRecDepth 20000 in
theorem cs_XP_apply : CSv y_XP_apply := ⟨aw_in (tb_2 (List.mem_of_getElem? (i := 136) rfl)) rfl, aw_in (List.mem_append_left _ (List.mem_of_getElem? (i := 24) rfl)) rfl⟩
set_option maxRecDepth 20000 in
theorem cb_XR_init : CSb y_XR_init b_XR_init 3 none 2 := ⟨aw_in (tb_1 (List.mem_of_getElem? (i := 6) rfl)) rfl, aw_in (tb_1 (List.mem_of_getElem? (i := 172) rfl)) rfl, by decide, by decide, by decide +kernel⟩
set_option maxRecDepth 20000 in
theorem cs_XR_init : Cond.instanceMethod y_XR_init ∈ AW := aw_in (tb_1 (List.mem_of_getElem? (i := 171) rfl)) rfl
set_option maxRecDepth 20000 in
theorem cb_XR_startAnew : CSb y_XR_startAnew b_XR_startAnew 1 none 0 := ⟨aw_in (tb_1 (List.mem_of_getElem? (i := 6) rfl)) rfl, aw_in (tb_3 (List.mem_of_getElem? (i := 12) rfl)) rfl, by decide, by decide, by decide +kernel⟩
set_option maxRecDepth 20000 in
theorem cs_XR_startAnew : CSv y_XR_startAnew := ⟨aw_in (tb_3 (List.mem_of_getElem? (i := 11) rfl)) rfl, aw_in (List.mem_append_left _ (List.mem_of_getElem? (i := 40) rfl)) rfl⟩
set_option maxRecDepth 20000 in
theorem cb_XR_isFinished : CSb y_XR_isFinished b_XR_isFinished 1 (some .boolean) 0 := ⟨aw_in (tb_1 (List.mem_of_getElem? (i := 6) rfl)) rfl, aw_in (tb_3 (List.mem_of_getElem? (i := 55) rfl)) rfl, by decide, by decide, by decide +kernel⟩
set_option maxRecDepth 20000 in
theorem cs_XR_isFinished : CSv y_XR_isFinished := ⟨aw_in (tb_3 (List.mem_of_getElem? (i := 54) rfl)) rfl, aw_in (List.mem_append_left _ (List.mem_of_getElem? (i := 49) rfl)) rfl⟩
set_option maxRecDepth 20000 in
theorem cb_XR_makeUnit : CSb y_XR_makeUnit b_XR_makeUnit 1 none 0 := ⟨aw_in (tb_1 (List.mem_of_getElem? (i := 6) rfl)) rfl, aw_in (tb_3 (List.mem_of_getElem? (i := 20) rfl)) rfl, by decide, by decide, by decide +kernel⟩
set_option maxRecDepth 20000 in
theorem cs_XR_makeUnit : CSv y_XR_makeUnit := ⟨aw_in (tb_3 (List.mem_of_getElem? (i := 19) rfl)) rfl, aw_in (List.mem_append_left _ (List.mem_of_getElem? (i := 41) rfl)) rfl⟩
set_option maxRecDepth 20000 in
theorem cb_XR_analyse : CSb y_XR_analyse b_XR_analyse 2 none 0 := ⟨aw_in (tb_1 (List.mem_of_getElem? (i := 6) rfl)) rfl, aw_in (tb_3 (List.mem_of_getElem? (i := 24) rfl)) rfl, by decide, by decide, by decide +kernel⟩
set_option maxRecDepth 20000 in
theorem cs_XR_analyse : CSv y_XR_analyse := ⟨aw_in (tb_3 (List.mem_of_getElem? (i := 23) rfl)) rfl, aw_in (List.mem_append_left _ (List.mem_of_getElem? (i := 42) rfl)) rfl⟩
set_option maxRecDepth 20000 in
theorem cb_XR_fillTable : CSb y_XR_fillTable b_XR_fillTable 5 none 0 := ⟨aw_in (tb_1 (List.mem_of_getElem? (i := 6) rfl)) rfl, aw_in (tb_3 (List.mem_of_getElem? (i := 28) rfl)) rfl, by decide, by decide, by decide +kernel⟩
set_option maxRecDepth 20000 in
theorem cs_XR_fillTable : CSv y_XR_fillTable := ⟨aw_in (tb_3 (List.mem_of_getElem? (i := 27) rfl)) rfl, aw_in (List.mem_append_left _ (List.mem_of_getElem? (i := 43) rfl)) rfl⟩
set_option maxRecDepth 20000 in
theorem cb_XR_repeatNext : CSb y_XR_repeatNext b_XR_repeatNext 3 none 0 := ⟨aw_in (tb_1 (List.mem_of_getElem? (i := 6) rfl)) rfl, aw_in (tb_3 (List.mem_of_getElem? (i := 37) rfl)) rfl, by decide, by decide, by decide +kernel⟩
set_option maxRecDepth 20000 in
theorem cs_XR_repeatNext : CSv y_XR_repeatNext := ⟨aw_in (tb_3 (List.mem_of_getElem? (i := 36) rfl)) rfl, aw_in (List.mem_append_left _ (List.mem_of_getElem? (i := 45) rfl)) rfl⟩
set_option maxRecDepth 20000 in
theorem cb_XR_takeBackNext : CSb y_XR_takeBackNext b_XR_takeBackNext 2 none 0 := ⟨aw_in (tb_1 (List.mem_of_getElem? (i := 6) rfl)) rfl, aw_in (tb_3 (List.mem_of_getElem? (i := 45) rfl)) rfl, by decide, by decide, by decide +kernel⟩
set_option maxRecDepth 20000 in
theorem cs_XR_takeBackNext : CSv y_XR_takeBackNext := ⟨aw_in (tb_3 (List.mem_of_getElem? (i := 44) rfl)) rfl, aw_in (List.mem_append_left _ (List.mem_of_getElem? (i := 47) rfl)) rfl⟩
set_option maxRecDepth 20000 in
theorem cb_XT_init : CSb y_XT_init b_XT_init 3 none 2 := ⟨aw_in (tb_1 (List.mem_of_getElem? (i := 8) rfl)) rfl, aw_in (tb_1 (List.mem_of_getElem? (i := 233) rfl)) rfl, by decide, by decide, by decide +kernel⟩
set_option maxRecDepth 20000 in
theorem cs_XT_init : Cond.instanceMethod y_XT_init ∈ AW := aw_in (tb_1 (List.mem_of_getElem? (i := 232) rfl)) rfl
set_option maxRecDepth 20000 in
theorem cb_XT_ask : CSb y_XT_ask b_XT_ask 5 none 4 := ⟨aw_in (tb_1 (List.mem_of_getElem? (i := 8) rfl)) rfl, aw_in (tb_2 (List.mem_of_getElem? (i := 156) rfl)) rfl, by decide, by decide, by decide +kernel⟩
set_option maxRecDepth 20000 in
theorem cs_XT_ask : CSv y_XT_ask := ⟨aw_in (tb_2 (List.mem_of_getElem? (i := 155) rfl)) rfl, aw_in (List.mem_append_left _ (List.mem_of_getElem? (i := 27) rfl)) rfl⟩

