set_option maxRecDepth 20000 in
theorem cl_L_9 : CLk R_L 9 y_X_init := Or.inl (aw_in (tb_1 (List.mem_of_getElem? (i := 13) rfl)) rfl)
set_option maxRecDepth 20000 in
theorem cl_L_12 : CLk R_L 12 y_M_init := Or.inl (aw_in (tb_3 (List.mem_of_getElem? (i := 103) rfl)) rfl)
set_option maxRecDepth 20000 in
theorem cl_L_13 : CLk R_L 13 y_X_begin := Or.inl (aw_in (tb_1 (List.mem_of_getElem? (i := 222) rfl)) rfl)
set_option maxRecDepth 20000 in
theorem cl_L_17 : CLk R_L 17 y_M_begin := Or.inl (aw_in (tb_3 (List.mem_of_getElem? (i := 220) rfl)) rfl)
set_option maxRecDepth 20000 in
theorem cl_L_18 : CLk R_L 18 y_X_read := Or.inl (aw_in (tb_2 (List.mem_of_getElem? (i := 138) rfl)) rfl)
set_option maxRecDepth 20000 in
theorem cl_L_22 : CLk R_L 22 y_M_read := Or.inl (aw_in (tb_3 (List.mem_of_getElem? (i := 228) rfl)) rfl)
set_option maxRecDepth 20000 in
theorem cl_L_23 : CLk R_L 23 y_X_write := Or.inl (aw_in (tb_2 (List.mem_of_getElem? (i := 184) rfl)) rfl)
set_option maxRecDepth 20000 in
theorem cl_L_27 : CLk R_L 27 y_M_write := Or.inl (aw_in (tb_4 (List.mem_of_getElem? (i := 84) rfl)) rfl)
set_option maxRecDepth 20000 in
theorem cl_L_28 : CLk R_L 28 y_X_commit := Or.inl (aw_in (tb_2 (List.mem_of_getElem? (i := 188) rfl)) rfl)
set_option maxRecDepth 20000 in
theorem cl_L_32 : CLk R_L 32 y_M_commit := Or.inl (aw_in (tb_4 (List.mem_of_getElem? (i := 88) rfl)) rfl)
set_option maxRecDepth 20000 in
theorem cl_L_33 : CLk R_L 33 y_X_abort := Or.inl (aw_in (tb_2 (List.mem_of_getElem? (i := 196) rfl)) rfl)
set_option maxRecDepth 20000 in
theorem cl_L_36 : CLk R_L 36 y_M_abort := Or.inl (aw_in (tb_4 (List.mem_of_getElem? (i := 92) rfl)) rfl)
set_option maxRecDepth 20000 in
theorem cl_L_37 : CLk R_L 37 y_X_force := Or.inl (aw_in (tb_2 (List.mem_of_getElem? (i := 200) rfl)) rfl)
set_option maxRecDepth 20000 in
theorem cl_L_41 : CLk R_L 41 y_M_force := Or.inl (aw_in (tb_4 (List.mem_of_getElem? (i := 96) rfl)) rfl)
set_option maxRecDepth 20000 in
theorem cl_L_42 : CLk R_L 42 y_X_checkpoint := Or.inl (aw_in (tb_2 (List.mem_of_getElem? (i := 205) rfl)) rfl)
set_option maxRecDepth 20000 in
theorem cl_L_45 : CLk R_L 45 y_M_checkpoint := Or.inl (aw_in (tb_4 (List.mem_of_getElem? (i := 100) rfl)) rfl)
set_option maxRecDepth 20000 in
theorem cl_L_46 : CLk R_L 46 y_X_flush := Or.inl (aw_in (tb_2 (List.mem_of_getElem? (i := 216) rfl)) rfl)
set_option maxRecDepth 20000 in
theorem cl_L_49 : CLk R_L 49 y_M_flush := Or.inl (aw_in (tb_4 (List.mem_of_getElem? (i := 104) rfl)) rfl)
set_option maxRecDepth 20000 in
theorem cl_L_50 : CLk R_L 50 y_X_crash := Or.inl (aw_in (tb_2 (List.mem_of_getElem? (i := 225) rfl)) rfl)
set_option maxRecDepth 20000 in
theorem cl_L_54 : CLk R_L 54 y_M_crash := Or.inl (aw_in (tb_4 (List.mem_of_getElem? (i := 108) rfl)) rfl)
set_option maxRecDepth 20000 in
theorem cl_L_55 : CLk R_L 55 y_X_restart := Or.inl (aw_in (tb_3 (List.mem_of_getElem? (i := 13) rfl)) rfl)
set_option maxRecDepth 20000 in
theorem cl_L_58 : CLk R_L 58 y_M_restart := Or.inl (aw_in (tb_4 (List.mem_of_getElem? (i := 112) rfl)) rfl)
set_option maxRecDepth 20000 in
theorem cl_L_59 : CLk R_L 59 y_X_up := Or.inl (aw_in (tb_3 (List.mem_of_getElem? (i := 60) rfl)) rfl)
set_option maxRecDepth 20000 in
theorem cl_L_62 : CLk R_L 62 y_M_up := Or.inl (aw_in (tb_4 (List.mem_of_getElem? (i := 132) rfl)) rfl)
set_option maxRecDepth 20000 in
theorem cl_L_63 : CLk R_L 63 y_X_state := Or.inl (aw_in (tb_3 (List.mem_of_getElem? (i := 64) rfl)) rfl)
set_option maxRecDepth 20000 in
theorem cl_L_66 : CLk R_L 66 y_M_state := Or.inl (aw_in (tb_4 (List.mem_of_getElem? (i := 136) rfl)) rfl)
set_option maxRecDepth 20000 in
theorem cl_L_67 : CLk R_L 67 y_X_outcome := Or.inl (aw_in (tb_3 (List.mem_of_getElem? (i := 68) rfl)) rfl)
set_option maxRecDepth 20000 in
theorem cl_L_70 : CLk R_L 70 y_M_outcome := Or.inl (aw_in (tb_4 (List.mem_of_getElem? (i := 144) rfl)) rfl)
set_option maxRecDepth 20000 in
theorem cl_L_71 : CLk R_L 71 y_X_value := Or.inl (aw_in (tb_3 (List.mem_of_getElem? (i := 72) rfl)) rfl)
set_option maxRecDepth 20000 in
theorem cl_L_74 : CLk R_L 74 y_M_value := Or.inl (aw_in (tb_4 (List.mem_of_getElem? (i := 148) rfl)) rfl)
set_option maxRecDepth 20000 in
theorem cl_L_75 : CLk R_L 75 y_X_stored := Or.inl (aw_in (tb_3 (List.mem_of_getElem? (i := 76) rfl)) rfl)
set_option maxRecDepth 20000 in
theorem cl_L_78 : CLk R_L 78 y_M_stored := Or.inl (aw_in (tb_4 (List.mem_of_getElem? (i := 152) rfl)) rfl)
set_option maxRecDepth 20000 in
theorem cl_L_79 : CLk R_L 79 y_X_place := Or.inl (aw_in (tb_3 (List.mem_of_getElem? (i := 84) rfl)) rfl)
set_option maxRecDepth 20000 in
theorem cl_L_82 : CLk R_L 82 y_M_place := Or.inl (aw_in (tb_4 (List.mem_of_getElem? (i := 164) rfl)) rfl)
set_option maxRecDepth 20000 in
theorem cl_L_83 : CLk R_L 83 y_X_after := Or.inl (aw_in (tb_3 (List.mem_of_getElem? (i := 85) rfl)) rfl)
set_option maxRecDepth 20000 in
theorem cl_L_86 : CLk R_L 86 y_M_after := Or.inl (aw_in (tb_4 (List.mem_of_getElem? (i := 165) rfl)) rfl)
set_option maxRecDepth 20000 in
theorem cl_L_87 : CLk R_L 87 y_X_count := Or.inl (aw_in (tb_3 (List.mem_of_getElem? (i := 93) rfl)) rfl)
set_option maxRecDepth 20000 in
theorem cl_L_90 : CLk R_L 90 y_M_count := Or.inl (aw_in (tb_4 (List.mem_of_getElem? (i := 169) rfl)) rfl)
set_option maxRecDepth 20000 in
theorem cl_L_91 : CLk R_L 91 y_X_page := Or.inl (aw_in (tb_3 (List.mem_of_getElem? (i := 97) rfl)) rfl)
set_option maxRecDepth 20000 in
theorem cl_L_94 : CLk R_L 94 y_M_page := Or.inl (aw_in (tb_4 (List.mem_of_getElem? (i := 173) rfl)) rfl)

theorem har_of (l : List Int32) : ∀ x ∈ l.map Int32.toInt, R3 x := fun x hx => by
  obtain ⟨v, -, rfl⟩ := List.mem_map.mp hx
  exact iI_R v
theorem l_case0 {K : LQ} {b L ax am n bc bs : Nat} {xs : Nat → Int32} {χ τ : Hp} {i j : Int} (C : LC K b L xs) (hL : (L : Int) ≤ 2048) (i0 : 0 ≤ i) (i1 : i + 4 ≤ (L : Int)) (hI : INV (2000 * j) n χ τ) (hB : 2000 * j + 4000 < 2000000000) (hbc : bc ≤ 700) (hbs : bs ≤ 20000)
    (kn : ∀ (n1 : Nat) (χ1 τ1 : Hp) (bc1 bs1 : Nat), INV (2000 * j + 2000) n1 χ1 τ1 → bc1 ≤ bc + 1 → bs1 ≤ bs + 9 → n ≤ n1 → LJ K b ax am n1 χ1 τ1 bc1 bs1 561 i []) : LJ K b ax am n χ τ bc bs 124 i [] := by
  have hn := (b_n hI).1
  obtain ⟨dx, dm, px, pm, hdx, hdm, ox, om, hi, hq⟩ := b_begin hI hB
  refine l_aload C d_L_124 rfl rfl ?_
  refine l_callX C (as := []) cl_L_13 cb_X_begin cs_X_begin d_L_125 ox hi rfl rfl rfl (by omega) (har_of []) hdx (by decide) (by decide) (by omega) (by omega) (fun x n1 χ1 hp hnn => ?_)
  refine l_aload C d_L_128 rfl rfl ?_
  refine l_callM C (as := []) cl_L_17 cb_M_begin cs_M_begin d_L_129 om (fun r m1 τ1 hm => ⟨(hq _ _ _ _ _ _ hp hm).1, let ⟨z, _, h2⟩ := (hq _ _ _ _ _ _ hp hm).2.1; ⟨z, h2⟩⟩) rfl rfl rfl (har_of []) (by omega) (by decide) (show 1 + 0 ≤ 2 by decide) (by omega) (by omega) (fun x1 τ1 hm => ?_)
  obtain ⟨-, ⟨z, hz1, hz2⟩, hI1⟩ := hq _ _ _ _ _ _ hp hm
  cases hz1
  cases hz2
  refine l_same C d_L_132 rfl ?_
  exact kn _ _ _ _ _ hI1 (by omega) (by omega) (by omega)
theorem l_case1 {K : LQ} {b L ax am n bc bs : Nat} {xs : Nat → Int32} {χ τ : Hp} {i j : Int} (C : LC K b L xs) (hL : (L : Int) ≤ 2048) (i0 : 0 ≤ i) (i1 : i + 4 ≤ (L : Int)) (hI : INV (2000 * j) n χ τ) (hB : 2000 * j + 4000 < 2000000000) (hbc : bc ≤ 700) (hbs : bs ≤ 20000)
    (kn : ∀ (n1 : Nat) (χ1 τ1 : Hp) (bc1 bs1 : Nat), INV (2000 * j + 2000) n1 χ1 τ1 → bc1 ≤ bc + 1 → bs1 ≤ bs + 9 → n ≤ n1 → LJ K b ax am n1 χ1 τ1 bc1 bs1 561 i []) : LJ K b ax am n χ τ bc bs 137 i [] := by
  have hn := (b_n hI).1
  obtain ⟨dx, dm, px, pm, hdx, hdm, ox, om, hi, hq⟩ := b_read hI hB (xs (i + 1).toNat).toInt (xs (i + 2).toNat).toInt
  refine l_aload C d_L_137 rfl rfl ?_
  refine l_aload C d_L_138 rfl rfl ?_
  refine l_iload C d_L_139 ?_
  refine l_iconst C d_L_140 ?_
  refine l_iadd C d_L_141 ?_
  refine l_sld C (by omega) (by omega) hL d_L_142 ?_
  refine l_aload C d_L_143 rfl rfl ?_
  refine l_iload C d_L_144 ?_
  refine l_iconst C d_L_145 ?_
  refine l_iadd C d_L_146 ?_
  refine l_sld C (by omega) (by omega) hL d_L_147 ?_
  refine l_callX C (as := [(xs (i + 1).toNat).toInt, (xs (i + 2).toNat).toInt]) cl_L_18 cb_X_read cs_X_read d_L_148 ox hi rfl rfl rfl (by omega) (har_of [xs (i + 1).toNat, xs (i + 2).toNat]) hdx (by decide) (by decide) (by omega) (by omega) (fun x n1 χ1 hp hnn => ?_)
  refine l_aload C d_L_151 rfl rfl ?_
  refine l_aload C d_L_152 rfl rfl ?_
  refine l_iload C d_L_153 ?_
  refine l_iconst C d_L_154 ?_
  refine l_iadd C d_L_155 ?_
  refine l_sld C (by omega) (by omega) hL d_L_156 ?_
  refine l_aload C d_L_157 rfl rfl ?_
  refine l_iload C d_L_158 ?_
  refine l_iconst C d_L_159 ?_
  refine l_iadd C d_L_160 ?_
  refine l_sld C (by omega) (by omega) hL d_L_161 ?_
  refine l_callM C (as := [(xs (i + 1).toNat).toInt, (xs (i + 2).toNat).toInt]) cl_L_22 cb_M_read cs_M_read d_L_162 om (fun r m1 τ1 hm => ⟨(hq _ _ _ _ _ _ hp hm).1, let ⟨z, _, h2⟩ := (hq _ _ _ _ _ _ hp hm).2.1; ⟨z, h2⟩⟩) rfl rfl rfl (har_of [xs (i + 1).toNat, xs (i + 2).toNat]) (by omega) (by decide) (show 1 + 0 ≤ 2 by decide) (by omega) (by omega) (fun x1 τ1 hm => ?_)
  obtain ⟨-, ⟨z, hz1, hz2⟩, hI1⟩ := hq _ _ _ _ _ _ hp hm
  cases hz1
  cases hz2
  refine l_same C d_L_165 rfl ?_
  exact kn _ _ _ _ _ hI1 (by omega) (by omega) (by omega)
theorem l_case2 {K : LQ} {b L ax am n bc bs : Nat} {xs : Nat → Int32} {χ τ : Hp} {i j : Int} (C : LC K b L xs) (hL : (L : Int) ≤ 2048) (i0 : 0 ≤ i) (i1 : i + 4 ≤ (L : Int)) (hI : INV (2000 * j) n χ τ) (hB : 2000 * j + 4000 < 2000000000) (hbc : bc ≤ 700) (hbs : bs ≤ 20000)
    (kn : ∀ (n1 : Nat) (χ1 τ1 : Hp) (bc1 bs1 : Nat), INV (2000 * j + 2000) n1 χ1 τ1 → bc1 ≤ bc + 1 → bs1 ≤ bs + 9 → n ≤ n1 → LJ K b ax am n1 χ1 τ1 bc1 bs1 561 i []) : LJ K b ax am n χ τ bc bs 170 i [] := by
  have hn := (b_n hI).1
  obtain ⟨dx, dm, px, pm, hdx, hdm, ox, om, hi, hq⟩ := b_write hI hB (xs (i + 1).toNat).toInt (xs (i + 2).toNat).toInt (xs (i + 3).toNat).toInt
  refine l_aload C d_L_170 rfl rfl ?_
  refine l_aload C d_L_171 rfl rfl ?_
  refine l_iload C d_L_172 ?_
  refine l_iconst C d_L_173 ?_
  refine l_iadd C d_L_174 ?_
  refine l_sld C (by omega) (by omega) hL d_L_175 ?_
  refine l_aload C d_L_176 rfl rfl ?_
  refine l_iload C d_L_177 ?_
  refine l_iconst C d_L_178 ?_
  refine l_iadd C d_L_179 ?_
  refine l_sld C (by omega) (by omega) hL d_L_180 ?_
  refine l_aload C d_L_181 rfl rfl ?_
  refine l_iload C d_L_182 ?_
  refine l_iconst C d_L_183 ?_
  refine l_iadd C d_L_184 ?_
  refine l_sld C (by omega) (by omega) hL d_L_185 ?_
  refine l_callX C (as := [(xs (i + 1).toNat).toInt, (xs (i + 2).toNat).toInt, (xs (i + 3).toNat).toInt]) cl_L_23 cb_X_write cs_X_write d_L_186 ox hi rfl rfl rfl (by omega) (har_of [xs (i + 1).toNat, xs (i + 2).toNat, xs (i + 3).toNat]) hdx (by decide) (by decide) (by omega) (by omega) (fun x n1 χ1 hp hnn => ?_)
  refine l_aload C d_L_189 rfl rfl ?_
  refine l_aload C d_L_190 rfl rfl ?_
  refine l_iload C d_L_191 ?_
  refine l_iconst C d_L_192 ?_
  refine l_iadd C d_L_193 ?_
  refine l_sld C (by omega) (by omega) hL d_L_194 ?_
  refine l_aload C d_L_195 rfl rfl ?_
  refine l_iload C d_L_196 ?_
  refine l_iconst C d_L_197 ?_
  refine l_iadd C d_L_198 ?_
  refine l_sld C (by omega) (by omega) hL d_L_199 ?_
  refine l_aload C d_L_200 rfl rfl ?_
  refine l_iload C d_L_201 ?_
  refine l_iconst C d_L_202 ?_
  refine l_iadd C d_L_203 ?_
  refine l_sld C (by omega) (by omega) hL d_L_204 ?_
  refine l_callM C (as := [(xs (i + 1).toNat).toInt, (xs (i + 2).toNat).toInt, (xs (i + 3).toNat).toInt]) cl_L_27 cb_M_write cs_M_write d_L_205 om (fun r m1 τ1 hm => ⟨(hq _ _ _ _ _ _ hp hm).1, let ⟨z, _, h2⟩ := (hq _ _ _ _ _ _ hp hm).2.1; ⟨z, h2⟩⟩) rfl rfl rfl (har_of [xs (i + 1).toNat, xs (i + 2).toNat, xs (i + 3).toNat]) (by omega) (by decide) (show 1 + 0 ≤ 2 by decide) (by omega) (by omega) (fun x1 τ1 hm => ?_)
  obtain ⟨-, ⟨z, hz1, hz2⟩, hI1⟩ := hq _ _ _ _ _ _ hp hm
  cases hz1
  cases hz2
  refine l_same C d_L_208 rfl ?_
  exact kn _ _ _ _ _ hI1 (by omega) (by omega) (by omega)
theorem l_case3 {K : LQ} {b L ax am n bc bs : Nat} {xs : Nat → Int32} {χ τ : Hp} {i j : Int} (C : LC K b L xs) (hL : (L : Int) ≤ 2048) (i0 : 0 ≤ i) (i1 : i + 4 ≤ (L : Int)) (hI : INV (2000 * j) n χ τ) (hB : 2000 * j + 4000 < 2000000000) (hbc : bc ≤ 700) (hbs : bs ≤ 20000)
    (kn : ∀ (n1 : Nat) (χ1 τ1 : Hp) (bc1 bs1 : Nat), INV (2000 * j + 2000) n1 χ1 τ1 → bc1 ≤ bc + 1 → bs1 ≤ bs + 9 → n ≤ n1 → LJ K b ax am n1 χ1 τ1 bc1 bs1 561 i []) : LJ K b ax am n χ τ bc bs 213 i [] := by
  have hn := (b_n hI).1
  obtain ⟨dx, dm, px, pm, hdx, hdm, ox, om, hi, hq⟩ := b_commit hI hB (xs (i + 1).toNat).toInt
  refine l_aload C d_L_213 rfl rfl ?_
  refine l_aload C d_L_214 rfl rfl ?_
  refine l_iload C d_L_215 ?_
  refine l_iconst C d_L_216 ?_
  refine l_iadd C d_L_217 ?_
  refine l_sld C (by omega) (by omega) hL d_L_218 ?_
  refine l_callX C (as := [(xs (i + 1).toNat).toInt]) cl_L_28 cb_X_commit cs_X_commit d_L_219 ox hi rfl rfl rfl (by omega) (har_of [xs (i + 1).toNat]) hdx (by decide) (by decide) (by omega) (by omega) (fun x n1 χ1 hp hnn => ?_)
  refine l_aload C d_L_222 rfl rfl ?_
  refine l_aload C d_L_223 rfl rfl ?_
  refine l_iload C d_L_224 ?_
  refine l_iconst C d_L_225 ?_
  refine l_iadd C d_L_226 ?_
  refine l_sld C (by omega) (by omega) hL d_L_227 ?_
  refine l_callM C (as := [(xs (i + 1).toNat).toInt]) cl_L_32 cb_M_commit cs_M_commit d_L_228 om (fun r m1 τ1 hm => ⟨(hq _ _ _ _ _ _ hp hm).1, let ⟨z, _, h2⟩ := (hq _ _ _ _ _ _ hp hm).2.1; ⟨z, h2⟩⟩) rfl rfl rfl (har_of [xs (i + 1).toNat]) (by omega) (by decide) (show 1 + 0 ≤ 2 by decide) (by omega) (by omega) (fun x1 τ1 hm => ?_)
  obtain ⟨-, ⟨z, hz1, hz2⟩, hI1⟩ := hq _ _ _ _ _ _ hp hm
  cases hz1
  cases hz2
  refine l_same C d_L_231 rfl ?_
  exact kn _ _ _ _ _ hI1 (by omega) (by omega) (by omega)
theorem l_case4 {K : LQ} {b L ax am n bc bs : Nat} {xs : Nat → Int32} {χ τ : Hp} {i j : Int} (C : LC K b L xs) (hL : (L : Int) ≤ 2048) (i0 : 0 ≤ i) (i1 : i + 4 ≤ (L : Int)) (hI : INV (2000 * j) n χ τ) (hB : 2000 * j + 4000 < 2000000000) (hbc : bc ≤ 700) (hbs : bs ≤ 20000)
    (kn : ∀ (n1 : Nat) (χ1 τ1 : Hp) (bc1 bs1 : Nat), INV (2000 * j + 2000) n1 χ1 τ1 → bc1 ≤ bc + 1 → bs1 ≤ bs + 9 → n ≤ n1 → LJ K b ax am n1 χ1 τ1 bc1 bs1 561 i []) : LJ K b ax am n χ τ bc bs 236 i [] := by
  have hn := (b_n hI).1
  obtain ⟨dx, dm, px, pm, hdx, hdm, ox, om, hi, hq⟩ := b_abort hI hB (xs (i + 1).toNat).toInt
  refine l_aload C d_L_236 rfl rfl ?_
  refine l_aload C d_L_237 rfl rfl ?_
  refine l_iload C d_L_238 ?_
  refine l_iconst C d_L_239 ?_
  refine l_iadd C d_L_240 ?_
  refine l_sld C (by omega) (by omega) hL d_L_241 ?_
  refine l_callX C (as := [(xs (i + 1).toNat).toInt]) cl_L_33 cb_X_abort cs_X_abort d_L_242 ox hi rfl rfl rfl (by omega) (har_of [xs (i + 1).toNat]) hdx (by decide) (by decide) (by omega) (by omega) (fun x n1 χ1 hp hnn => ?_)
  refine l_aload C d_L_245 rfl rfl ?_
  refine l_aload C d_L_246 rfl rfl ?_
  refine l_iload C d_L_247 ?_
  refine l_iconst C d_L_248 ?_
  refine l_iadd C d_L_249 ?_
  refine l_sld C (by omega) (by omega) hL d_L_250 ?_
  refine l_callM C (as := [(xs (i + 1).toNat).toInt]) cl_L_36 cb_M_abort cs_M_abort d_L_251 om (fun r m1 τ1 hm => ⟨(hq _ _ _ _ _ _ hp hm).1, let ⟨z, _, h2⟩ := (hq _ _ _ _ _ _ hp hm).2.1; ⟨z, h2⟩⟩) rfl rfl rfl (har_of [xs (i + 1).toNat]) (by omega) (by decide) (show 1 + 0 ≤ 2 by decide) (by omega) (by omega) (fun x1 τ1 hm => ?_)
  obtain ⟨-, ⟨z, hz1, hz2⟩, hI1⟩ := hq _ _ _ _ _ _ hp hm
  cases hz1
  cases hz2
  refine l_same C d_L_254 rfl ?_
  exact kn _ _ _ _ _ hI1 (by omega) (by omega) (by omega)
theorem l_case5 {K : LQ} {b L ax am n bc bs : Nat} {xs : Nat → Int32} {χ τ : Hp} {i j : Int} (C : LC K b L xs) (hL : (L : Int) ≤ 2048) (i0 : 0 ≤ i) (i1 : i + 4 ≤ (L : Int)) (hI : INV (2000 * j) n χ τ) (hB : 2000 * j + 4000 < 2000000000) (hbc : bc ≤ 700) (hbs : bs ≤ 20000)
    (kn : ∀ (n1 : Nat) (χ1 τ1 : Hp) (bc1 bs1 : Nat), INV (2000 * j + 2000) n1 χ1 τ1 → bc1 ≤ bc + 1 → bs1 ≤ bs + 9 → n ≤ n1 → LJ K b ax am n1 χ1 τ1 bc1 bs1 561 i []) : LJ K b ax am n χ τ bc bs 259 i [] := by
  have hn := (b_n hI).1
  obtain ⟨dx, dm, px, pm, hdx, hdm, ox, om, hi, hq⟩ := b_force hI hB
  refine l_aload C d_L_259 rfl rfl ?_
  refine l_callX C (as := []) cl_L_37 cb_X_force cs_X_force d_L_260 ox hi rfl rfl rfl (by omega) (har_of []) hdx (by decide) (by decide) (by omega) (by omega) (fun x n1 χ1 hp hnn => ?_)
  refine l_aload C d_L_263 rfl rfl ?_
  refine l_callM C (as := []) cl_L_41 cb_M_force cs_M_force d_L_264 om (fun r m1 τ1 hm => ⟨(hq _ _ _ _ _ _ hp hm).1, let ⟨z, _, h2⟩ := (hq _ _ _ _ _ _ hp hm).2.1; ⟨z, h2⟩⟩) rfl rfl rfl (har_of []) (by omega) (by decide) (show 1 + 0 ≤ 2 by decide) (by omega) (by omega) (fun x1 τ1 hm => ?_)
  obtain ⟨-, ⟨z, hz1, hz2⟩, hI1⟩ := hq _ _ _ _ _ _ hp hm
  cases hz1
  cases hz2
  refine l_same C d_L_267 rfl ?_
  exact kn _ _ _ _ _ hI1 (by omega) (by omega) (by omega)
theorem l_case6 {K : LQ} {b L ax am n bc bs : Nat} {xs : Nat → Int32} {χ τ : Hp} {i j : Int} (C : LC K b L xs) (hL : (L : Int) ≤ 2048) (i0 : 0 ≤ i) (i1 : i + 4 ≤ (L : Int)) (hI : INV (2000 * j) n χ τ) (hB : 2000 * j + 4000 < 2000000000) (hbc : bc ≤ 700) (hbs : bs ≤ 20000)
    (kn : ∀ (n1 : Nat) (χ1 τ1 : Hp) (bc1 bs1 : Nat), INV (2000 * j + 2000) n1 χ1 τ1 → bc1 ≤ bc + 1 → bs1 ≤ bs + 9 → n ≤ n1 → LJ K b ax am n1 χ1 τ1 bc1 bs1 561 i []) : LJ K b ax am n χ τ bc bs 272 i [] := by
  have hn := (b_n hI).1
  obtain ⟨dx, dm, px, pm, hdx, hdm, ox, om, hi, hq⟩ := b_checkpoint hI hB
  refine l_aload C d_L_272 rfl rfl ?_
  refine l_callX C (as := []) cl_L_42 cb_X_checkpoint cs_X_checkpoint d_L_273 ox hi rfl rfl rfl (by omega) (har_of []) hdx (by decide) (by decide) (by omega) (by omega) (fun x n1 χ1 hp hnn => ?_)
  refine l_aload C d_L_276 rfl rfl ?_
  refine l_callM C (as := []) cl_L_45 cb_M_checkpoint cs_M_checkpoint d_L_277 om (fun r m1 τ1 hm => ⟨(hq _ _ _ _ _ _ hp hm).1, let ⟨z, _, h2⟩ := (hq _ _ _ _ _ _ hp hm).2.1; ⟨z, h2⟩⟩) rfl rfl rfl (har_of []) (by omega) (by decide) (show 1 + 0 ≤ 2 by decide) (by omega) (by omega) (fun x1 τ1 hm => ?_)
  obtain ⟨-, ⟨z, hz1, hz2⟩, hI1⟩ := hq _ _ _ _ _ _ hp hm
  cases hz1
  cases hz2
  refine l_same C d_L_280 rfl ?_
  exact kn _ _ _ _ _ hI1 (by omega) (by omega) (by omega)
theorem l_case7 {K : LQ} {b L ax am n bc bs : Nat} {xs : Nat → Int32} {χ τ : Hp} {i j : Int} (C : LC K b L xs) (hL : (L : Int) ≤ 2048) (i0 : 0 ≤ i) (i1 : i + 4 ≤ (L : Int)) (hI : INV (2000 * j) n χ τ) (hB : 2000 * j + 4000 < 2000000000) (hbc : bc ≤ 700) (hbs : bs ≤ 20000)
    (kn : ∀ (n1 : Nat) (χ1 τ1 : Hp) (bc1 bs1 : Nat), INV (2000 * j + 2000) n1 χ1 τ1 → bc1 ≤ bc + 1 → bs1 ≤ bs + 9 → n ≤ n1 → LJ K b ax am n1 χ1 τ1 bc1 bs1 561 i []) : LJ K b ax am n χ τ bc bs 285 i [] := by
  have hn := (b_n hI).1
  obtain ⟨dx, dm, px, pm, hdx, hdm, ox, om, hi, hq⟩ := b_flush hI hB (xs (i + 1).toNat).toInt
  refine l_aload C d_L_285 rfl rfl ?_
  refine l_aload C d_L_286 rfl rfl ?_
  refine l_iload C d_L_287 ?_
  refine l_iconst C d_L_288 ?_
  refine l_iadd C d_L_289 ?_
  refine l_sld C (by omega) (by omega) hL d_L_290 ?_
  refine l_callX C (as := [(xs (i + 1).toNat).toInt]) cl_L_46 cb_X_flush cs_X_flush d_L_291 ox hi rfl rfl rfl (by omega) (har_of [xs (i + 1).toNat]) hdx (by decide) (by decide) (by omega) (by omega) (fun x n1 χ1 hp hnn => ?_)
  refine l_aload C d_L_294 rfl rfl ?_
  refine l_aload C d_L_295 rfl rfl ?_
  refine l_iload C d_L_296 ?_
  refine l_iconst C d_L_297 ?_
  refine l_iadd C d_L_298 ?_
  refine l_sld C (by omega) (by omega) hL d_L_299 ?_
  refine l_callM C (as := [(xs (i + 1).toNat).toInt]) cl_L_49 cb_M_flush cs_M_flush d_L_300 om (fun r m1 τ1 hm => ⟨(hq _ _ _ _ _ _ hp hm).1, let ⟨z, _, h2⟩ := (hq _ _ _ _ _ _ hp hm).2.1; ⟨z, h2⟩⟩) rfl rfl rfl (har_of [xs (i + 1).toNat]) (by omega) (by decide) (show 1 + 0 ≤ 2 by decide) (by omega) (by omega) (fun x1 τ1 hm => ?_)
  obtain ⟨-, ⟨z, hz1, hz2⟩, hI1⟩ := hq _ _ _ _ _ _ hp hm
  cases hz1
  cases hz2
  refine l_same C d_L_303 rfl ?_
  exact kn _ _ _ _ _ hI1 (by omega) (by omega) (by omega)
theorem l_case8 {K : LQ} {b L ax am n bc bs : Nat} {xs : Nat → Int32} {χ τ : Hp} {i j : Int} (C : LC K b L xs) (hL : (L : Int) ≤ 2048) (i0 : 0 ≤ i) (i1 : i + 4 ≤ (L : Int)) (hI : INV (2000 * j) n χ τ) (hB : 2000 * j + 4000 < 2000000000) (hbc : bc ≤ 700) (hbs : bs ≤ 20000)
    (kn : ∀ (n1 : Nat) (χ1 τ1 : Hp) (bc1 bs1 : Nat), INV (2000 * j + 2000) n1 χ1 τ1 → bc1 ≤ bc + 1 → bs1 ≤ bs + 9 → n ≤ n1 → LJ K b ax am n1 χ1 τ1 bc1 bs1 561 i []) : LJ K b ax am n χ τ bc bs 308 i [] := by
  have hn := (b_n hI).1
  obtain ⟨dx, dm, px, pm, hdx, hdm, ox, om, hi, hq⟩ := b_crash hI hB (xs (i + 1).toNat).toInt
  refine l_aload C d_L_308 rfl rfl ?_
  refine l_aload C d_L_309 rfl rfl ?_
  refine l_iload C d_L_310 ?_
  refine l_iconst C d_L_311 ?_
  refine l_iadd C d_L_312 ?_
  refine l_sld C (by omega) (by omega) hL d_L_313 ?_
  refine l_callX C (as := [(xs (i + 1).toNat).toInt]) cl_L_50 cb_X_crash cs_X_crash d_L_314 ox hi rfl rfl rfl (by omega) (har_of [xs (i + 1).toNat]) hdx (by decide) (by decide) (by omega) (by omega) (fun x n1 χ1 hp hnn => ?_)
  refine l_aload C d_L_317 rfl rfl ?_
  refine l_aload C d_L_318 rfl rfl ?_
  refine l_iload C d_L_319 ?_
  refine l_iconst C d_L_320 ?_
  refine l_iadd C d_L_321 ?_
  refine l_sld C (by omega) (by omega) hL d_L_322 ?_
  refine l_callM C (as := [(xs (i + 1).toNat).toInt]) cl_L_54 cb_M_crash cs_M_crash d_L_323 om (fun r m1 τ1 hm => ⟨(hq _ _ _ _ _ _ hp hm).1, let ⟨z, _, h2⟩ := (hq _ _ _ _ _ _ hp hm).2.1; ⟨z, h2⟩⟩) rfl rfl rfl (har_of [xs (i + 1).toNat]) (by omega) (by decide) (show 1 + 0 ≤ 2 by decide) (by omega) (by omega) (fun x1 τ1 hm => ?_)
  obtain ⟨-, ⟨z, hz1, hz2⟩, hI1⟩ := hq _ _ _ _ _ _ hp hm
  cases hz1
  cases hz2
  refine l_same C d_L_326 rfl ?_
  exact kn _ _ _ _ _ hI1 (by omega) (by omega) (by omega)
theorem l_case9 {K : LQ} {b L ax am n bc bs : Nat} {xs : Nat → Int32} {χ τ : Hp} {i j : Int} (C : LC K b L xs) (hL : (L : Int) ≤ 2048) (i0 : 0 ≤ i) (i1 : i + 4 ≤ (L : Int)) (hI : INV (2000 * j) n χ τ) (hB : 2000 * j + 4000 < 2000000000) (hbc : bc ≤ 700) (hbs : bs ≤ 20000)
    (kn : ∀ (n1 : Nat) (χ1 τ1 : Hp) (bc1 bs1 : Nat), INV (2000 * j + 2000) n1 χ1 τ1 → bc1 ≤ bc + 1 → bs1 ≤ bs + 9 → n ≤ n1 → LJ K b ax am n1 χ1 τ1 bc1 bs1 561 i []) : LJ K b ax am n χ τ bc bs 331 i [] := by
  have hn := (b_n hI).1
  obtain ⟨dx, dm, px, pm, hdx, hdm, ox, om, hi, hq⟩ := b_restart hI hB (xs (i + 1).toNat).toInt
  refine l_aload C d_L_331 rfl rfl ?_
  refine l_aload C d_L_332 rfl rfl ?_
  refine l_iload C d_L_333 ?_
  refine l_iconst C d_L_334 ?_
  refine l_iadd C d_L_335 ?_
  refine l_sld C (by omega) (by omega) hL d_L_336 ?_
  refine l_callX C (as := [(xs (i + 1).toNat).toInt]) cl_L_55 cb_X_restart cs_X_restart d_L_337 ox hi rfl rfl rfl (by omega) (har_of [xs (i + 1).toNat]) hdx (by decide) (by decide) (by omega) (by omega) (fun x n1 χ1 hp hnn => ?_)
  refine l_aload C d_L_340 rfl rfl ?_
  refine l_aload C d_L_341 rfl rfl ?_
  refine l_iload C d_L_342 ?_
  refine l_iconst C d_L_343 ?_
  refine l_iadd C d_L_344 ?_
  refine l_sld C (by omega) (by omega) hL d_L_345 ?_
  refine l_callM C (as := [(xs (i + 1).toNat).toInt]) cl_L_58 cb_M_restart cs_M_restart d_L_346 om (fun r m1 τ1 hm => ⟨(hq _ _ _ _ _ _ hp hm).1, let ⟨z, _, h2⟩ := (hq _ _ _ _ _ _ hp hm).2.1; ⟨z, h2⟩⟩) rfl rfl rfl (har_of [xs (i + 1).toNat]) (by omega) (by decide) (show 1 + 0 ≤ 2 by decide) (by omega) (by omega) (fun x1 τ1 hm => ?_)
  obtain ⟨-, ⟨z, hz1, hz2⟩, hI1⟩ := hq _ _ _ _ _ _ hp hm
  cases hz1
  cases hz2
  refine l_same C d_L_349 rfl ?_
  exact kn _ _ _ _ _ hI1 (by omega) (by omega) (by omega)
theorem l_case10 {K : LQ} {b L ax am n bc bs : Nat} {xs : Nat → Int32} {χ τ : Hp} {i j : Int} (C : LC K b L xs) (hL : (L : Int) ≤ 2048) (i0 : 0 ≤ i) (i1 : i + 4 ≤ (L : Int)) (hI : INV (2000 * j) n χ τ) (hB : 2000 * j + 4000 < 2000000000) (hbc : bc ≤ 700) (hbs : bs ≤ 20000)
    (kn : ∀ (n1 : Nat) (χ1 τ1 : Hp) (bc1 bs1 : Nat), INV (2000 * j + 2000) n1 χ1 τ1 → bc1 ≤ bc + 1 → bs1 ≤ bs + 9 → n ≤ n1 → LJ K b ax am n1 χ1 τ1 bc1 bs1 561 i []) : LJ K b ax am n χ τ bc bs 354 i [] := by
  have hn := (b_n hI).1
  obtain ⟨dx, dm, px, pm, hdx, hdm, ox, om, hi, hq⟩ := b_up hI
  refine l_aload C d_L_354 rfl rfl ?_
  refine l_callX C (as := []) cl_L_59 cb_X_up cs_X_up d_L_355 ox hi rfl rfl rfl (by omega) (har_of []) hdx (by decide) (by decide) (by omega) (by omega) (fun x n1 χ1 hp hnn => ?_)
  refine l_aload C d_L_358 rfl rfl ?_
  refine l_callM C (as := []) cl_L_62 cb_M_up cs_M_up d_L_359 om (fun r m1 τ1 hm => ⟨(hq _ _ _ _ _ _ hp hm).1, let ⟨z, _, h2⟩ := (hq _ _ _ _ _ _ hp hm).2.1; ⟨z, h2⟩⟩) rfl rfl rfl (har_of []) (by omega) (by decide) (show 1 + 0 ≤ 2 by decide) (by omega) (by omega) (fun x1 τ1 hm => ?_)
  obtain ⟨-, ⟨z, hz1, hz2⟩, hI1⟩ := hq _ _ _ _ _ _ hp hm
  cases hz1
  cases hz2
  refine l_same C d_L_362 rfl ?_
  exact kn _ _ _ _ _ hI1 (by omega) (by omega) (by omega)
theorem l_case11 {K : LQ} {b L ax am n bc bs : Nat} {xs : Nat → Int32} {χ τ : Hp} {i j : Int} (C : LC K b L xs) (hL : (L : Int) ≤ 2048) (i0 : 0 ≤ i) (i1 : i + 4 ≤ (L : Int)) (hI : INV (2000 * j) n χ τ) (hB : 2000 * j + 4000 < 2000000000) (hbc : bc ≤ 700) (hbs : bs ≤ 20000)
    (kn : ∀ (n1 : Nat) (χ1 τ1 : Hp) (bc1 bs1 : Nat), INV (2000 * j + 2000) n1 χ1 τ1 → bc1 ≤ bc + 1 → bs1 ≤ bs + 9 → n ≤ n1 → LJ K b ax am n1 χ1 τ1 bc1 bs1 561 i []) : LJ K b ax am n χ τ bc bs 367 i [] := by
  have hn := (b_n hI).1
  obtain ⟨dx, dm, px, pm, hdx, hdm, ox, om, hi, hq⟩ := b_state hI (xs (i + 1).toNat).toInt
  refine l_aload C d_L_367 rfl rfl ?_
  refine l_aload C d_L_368 rfl rfl ?_
  refine l_iload C d_L_369 ?_
  refine l_iconst C d_L_370 ?_
  refine l_iadd C d_L_371 ?_
  refine l_sld C (by omega) (by omega) hL d_L_372 ?_
  refine l_callX C (as := [(xs (i + 1).toNat).toInt]) cl_L_63 cb_X_state cs_X_state d_L_373 ox hi rfl rfl rfl (by omega) (har_of [xs (i + 1).toNat]) hdx (by decide) (by decide) (by omega) (by omega) (fun x n1 χ1 hp hnn => ?_)
  refine l_aload C d_L_376 rfl rfl ?_
  refine l_aload C d_L_377 rfl rfl ?_
  refine l_iload C d_L_378 ?_
  refine l_iconst C d_L_379 ?_
  refine l_iadd C d_L_380 ?_
  refine l_sld C (by omega) (by omega) hL d_L_381 ?_
  refine l_callM C (as := [(xs (i + 1).toNat).toInt]) cl_L_66 cb_M_state cs_M_state d_L_382 om (fun r m1 τ1 hm => ⟨(hq _ _ _ _ _ _ hp hm).1, let ⟨z, _, h2⟩ := (hq _ _ _ _ _ _ hp hm).2.1; ⟨z, h2⟩⟩) rfl rfl rfl (har_of [xs (i + 1).toNat]) (by omega) (by decide) (show 1 + 0 ≤ 2 by decide) (by omega) (by omega) (fun x1 τ1 hm => ?_)
  obtain ⟨-, ⟨z, hz1, hz2⟩, hI1⟩ := hq _ _ _ _ _ _ hp hm
  cases hz1
  cases hz2
  refine l_same C d_L_385 rfl ?_
  exact kn _ _ _ _ _ hI1 (by omega) (by omega) (by omega)
theorem l_case12 {K : LQ} {b L ax am n bc bs : Nat} {xs : Nat → Int32} {χ τ : Hp} {i j : Int} (C : LC K b L xs) (hL : (L : Int) ≤ 2048) (i0 : 0 ≤ i) (i1 : i + 4 ≤ (L : Int)) (hI : INV (2000 * j) n χ τ) (hB : 2000 * j + 4000 < 2000000000) (hbc : bc ≤ 700) (hbs : bs ≤ 20000)
    (kn : ∀ (n1 : Nat) (χ1 τ1 : Hp) (bc1 bs1 : Nat), INV (2000 * j + 2000) n1 χ1 τ1 → bc1 ≤ bc + 1 → bs1 ≤ bs + 9 → n ≤ n1 → LJ K b ax am n1 χ1 τ1 bc1 bs1 561 i []) : LJ K b ax am n χ τ bc bs 390 i [] := by
  have hn := (b_n hI).1
  obtain ⟨dx, dm, px, pm, hdx, hdm, ox, om, hi, hq⟩ := b_outcome hI (xs (i + 1).toNat).toInt
  refine l_aload C d_L_390 rfl rfl ?_
  refine l_aload C d_L_391 rfl rfl ?_
  refine l_iload C d_L_392 ?_
  refine l_iconst C d_L_393 ?_
  refine l_iadd C d_L_394 ?_
  refine l_sld C (by omega) (by omega) hL d_L_395 ?_
  refine l_callX C (as := [(xs (i + 1).toNat).toInt]) cl_L_67 cb_X_outcome cs_X_outcome d_L_396 ox hi rfl rfl rfl (by omega) (har_of [xs (i + 1).toNat]) hdx (by decide) (by decide) (by omega) (by omega) (fun x n1 χ1 hp hnn => ?_)
  refine l_aload C d_L_399 rfl rfl ?_
  refine l_aload C d_L_400 rfl rfl ?_
  refine l_iload C d_L_401 ?_
  refine l_iconst C d_L_402 ?_
  refine l_iadd C d_L_403 ?_
  refine l_sld C (by omega) (by omega) hL d_L_404 ?_
  refine l_callM C (as := [(xs (i + 1).toNat).toInt]) cl_L_70 cb_M_outcome cs_M_outcome d_L_405 om (fun r m1 τ1 hm => ⟨(hq _ _ _ _ _ _ hp hm).1, let ⟨z, _, h2⟩ := (hq _ _ _ _ _ _ hp hm).2.1; ⟨z, h2⟩⟩) rfl rfl rfl (har_of [xs (i + 1).toNat]) (by omega) (by decide) (show 1 + 0 ≤ 2 by decide) (by omega) (by omega) (fun x1 τ1 hm => ?_)
  obtain ⟨-, ⟨z, hz1, hz2⟩, hI1⟩ := hq _ _ _ _ _ _ hp hm
  cases hz1
  cases hz2
  refine l_same C d_L_408 rfl ?_
  exact kn _ _ _ _ _ hI1 (by omega) (by omega) (by omega)
theorem l_case13 {K : LQ} {b L ax am n bc bs : Nat} {xs : Nat → Int32} {χ τ : Hp} {i j : Int} (C : LC K b L xs) (hL : (L : Int) ≤ 2048) (i0 : 0 ≤ i) (i1 : i + 4 ≤ (L : Int)) (hI : INV (2000 * j) n χ τ) (hB : 2000 * j + 4000 < 2000000000) (hbc : bc ≤ 700) (hbs : bs ≤ 20000)
    (kn : ∀ (n1 : Nat) (χ1 τ1 : Hp) (bc1 bs1 : Nat), INV (2000 * j + 2000) n1 χ1 τ1 → bc1 ≤ bc + 1 → bs1 ≤ bs + 9 → n ≤ n1 → LJ K b ax am n1 χ1 τ1 bc1 bs1 561 i []) : LJ K b ax am n χ τ bc bs 413 i [] := by
  have hn := (b_n hI).1
  obtain ⟨dx, dm, px, pm, hdx, hdm, ox, om, hi, hq⟩ := b_value hI (xs (i + 1).toNat).toInt
  refine l_aload C d_L_413 rfl rfl ?_
  refine l_aload C d_L_414 rfl rfl ?_
  refine l_iload C d_L_415 ?_
  refine l_iconst C d_L_416 ?_
  refine l_iadd C d_L_417 ?_
  refine l_sld C (by omega) (by omega) hL d_L_418 ?_
  refine l_callX C (as := [(xs (i + 1).toNat).toInt]) cl_L_71 cb_X_value cs_X_value d_L_419 ox hi rfl rfl rfl (by omega) (har_of [xs (i + 1).toNat]) hdx (by decide) (by decide) (by omega) (by omega) (fun x n1 χ1 hp hnn => ?_)
  refine l_aload C d_L_422 rfl rfl ?_
  refine l_aload C d_L_423 rfl rfl ?_
  refine l_iload C d_L_424 ?_
  refine l_iconst C d_L_425 ?_
  refine l_iadd C d_L_426 ?_
  refine l_sld C (by omega) (by omega) hL d_L_427 ?_
  refine l_callM C (as := [(xs (i + 1).toNat).toInt]) cl_L_74 cb_M_value cs_M_value d_L_428 om (fun r m1 τ1 hm => ⟨(hq _ _ _ _ _ _ hp hm).1, let ⟨z, _, h2⟩ := (hq _ _ _ _ _ _ hp hm).2.1; ⟨z, h2⟩⟩) rfl rfl rfl (har_of [xs (i + 1).toNat]) (by omega) (by decide) (show 1 + 0 ≤ 2 by decide) (by omega) (by omega) (fun x1 τ1 hm => ?_)
  obtain ⟨-, ⟨z, hz1, hz2⟩, hI1⟩ := hq _ _ _ _ _ _ hp hm
  cases hz1
  cases hz2
  refine l_same C d_L_431 rfl ?_
  exact kn _ _ _ _ _ hI1 (by omega) (by omega) (by omega)
theorem l_case14 {K : LQ} {b L ax am n bc bs : Nat} {xs : Nat → Int32} {χ τ : Hp} {i j : Int} (C : LC K b L xs) (hL : (L : Int) ≤ 2048) (i0 : 0 ≤ i) (i1 : i + 4 ≤ (L : Int)) (hI : INV (2000 * j) n χ τ) (hB : 2000 * j + 4000 < 2000000000) (hbc : bc ≤ 700) (hbs : bs ≤ 20000)
    (kn : ∀ (n1 : Nat) (χ1 τ1 : Hp) (bc1 bs1 : Nat), INV (2000 * j + 2000) n1 χ1 τ1 → bc1 ≤ bc + 1 → bs1 ≤ bs + 9 → n ≤ n1 → LJ K b ax am n1 χ1 τ1 bc1 bs1 561 i []) : LJ K b ax am n χ τ bc bs 436 i [] := by
  have hn := (b_n hI).1
  obtain ⟨dx, dm, px, pm, hdx, hdm, ox, om, hi, hq⟩ := b_stored hI (xs (i + 1).toNat).toInt
  refine l_aload C d_L_436 rfl rfl ?_
  refine l_aload C d_L_437 rfl rfl ?_
  refine l_iload C d_L_438 ?_
  refine l_iconst C d_L_439 ?_
  refine l_iadd C d_L_440 ?_
  refine l_sld C (by omega) (by omega) hL d_L_441 ?_
  refine l_callX C (as := [(xs (i + 1).toNat).toInt]) cl_L_75 cb_X_stored cs_X_stored d_L_442 ox hi rfl rfl rfl (by omega) (har_of [xs (i + 1).toNat]) hdx (by decide) (by decide) (by omega) (by omega) (fun x n1 χ1 hp hnn => ?_)
  refine l_aload C d_L_445 rfl rfl ?_
  refine l_aload C d_L_446 rfl rfl ?_
  refine l_iload C d_L_447 ?_
  refine l_iconst C d_L_448 ?_
  refine l_iadd C d_L_449 ?_
  refine l_sld C (by omega) (by omega) hL d_L_450 ?_
  refine l_callM C (as := [(xs (i + 1).toNat).toInt]) cl_L_78 cb_M_stored cs_M_stored d_L_451 om (fun r m1 τ1 hm => ⟨(hq _ _ _ _ _ _ hp hm).1, let ⟨z, _, h2⟩ := (hq _ _ _ _ _ _ hp hm).2.1; ⟨z, h2⟩⟩) rfl rfl rfl (har_of [xs (i + 1).toNat]) (by omega) (by decide) (show 1 + 0 ≤ 2 by decide) (by omega) (by omega) (fun x1 τ1 hm => ?_)
  obtain ⟨-, ⟨z, hz1, hz2⟩, hI1⟩ := hq _ _ _ _ _ _ hp hm
  cases hz1
  cases hz2
  refine l_same C d_L_454 rfl ?_
  exact kn _ _ _ _ _ hI1 (by omega) (by omega) (by omega)
theorem l_case15 {K : LQ} {b L ax am n bc bs : Nat} {xs : Nat → Int32} {χ τ : Hp} {i j : Int} (C : LC K b L xs) (hL : (L : Int) ≤ 2048) (i0 : 0 ≤ i) (i1 : i + 4 ≤ (L : Int)) (hI : INV (2000 * j) n χ τ) (hB : 2000 * j + 4000 < 2000000000) (hbc : bc ≤ 700) (hbs : bs ≤ 20000)
    (kn : ∀ (n1 : Nat) (χ1 τ1 : Hp) (bc1 bs1 : Nat), INV (2000 * j + 2000) n1 χ1 τ1 → bc1 ≤ bc + 1 → bs1 ≤ bs + 9 → n ≤ n1 → LJ K b ax am n1 χ1 τ1 bc1 bs1 561 i []) : LJ K b ax am n χ τ bc bs 459 i [] := by
  have hn := (b_n hI).1
  obtain ⟨dx, dm, px, pm, hdx, hdm, ox, om, hi, hq⟩ := b_place hI (xs (i + 1).toNat).toInt
  refine l_aload C d_L_459 rfl rfl ?_
  refine l_aload C d_L_460 rfl rfl ?_
  refine l_iload C d_L_461 ?_
  refine l_iconst C d_L_462 ?_
  refine l_iadd C d_L_463 ?_
  refine l_sld C (by omega) (by omega) hL d_L_464 ?_
  refine l_callX C (as := [(xs (i + 1).toNat).toInt]) cl_L_79 cb_X_place cs_X_place d_L_465 ox hi rfl rfl rfl (by omega) (har_of [xs (i + 1).toNat]) hdx (by decide) (by decide) (by omega) (by omega) (fun x n1 χ1 hp hnn => ?_)
  refine l_aload C d_L_468 rfl rfl ?_
  refine l_aload C d_L_469 rfl rfl ?_
  refine l_iload C d_L_470 ?_
  refine l_iconst C d_L_471 ?_
  refine l_iadd C d_L_472 ?_
  refine l_sld C (by omega) (by omega) hL d_L_473 ?_
  refine l_callM C (as := [(xs (i + 1).toNat).toInt]) cl_L_82 cb_M_place cs_M_place d_L_474 om (fun r m1 τ1 hm => ⟨(hq _ _ _ _ _ _ hp hm).1, let ⟨z, _, h2⟩ := (hq _ _ _ _ _ _ hp hm).2.1; ⟨z, h2⟩⟩) rfl rfl rfl (har_of [xs (i + 1).toNat]) (by omega) (by decide) (show 1 + 0 ≤ 2 by decide) (by omega) (by omega) (fun x1 τ1 hm => ?_)
  obtain ⟨-, ⟨z, hz1, hz2⟩, hI1⟩ := hq _ _ _ _ _ _ hp hm
  cases hz1
  cases hz2
  refine l_same C d_L_477 rfl ?_
  exact kn _ _ _ _ _ hI1 (by omega) (by omega) (by omega)
theorem l_case16 {K : LQ} {b L ax am n bc bs : Nat} {xs : Nat → Int32} {χ τ : Hp} {i j : Int} (C : LC K b L xs) (hL : (L : Int) ≤ 2048) (i0 : 0 ≤ i) (i1 : i + 4 ≤ (L : Int)) (hI : INV (2000 * j) n χ τ) (hB : 2000 * j + 4000 < 2000000000) (hbc : bc ≤ 700) (hbs : bs ≤ 20000)
    (kn : ∀ (n1 : Nat) (χ1 τ1 : Hp) (bc1 bs1 : Nat), INV (2000 * j + 2000) n1 χ1 τ1 → bc1 ≤ bc + 1 → bs1 ≤ bs + 9 → n ≤ n1 → LJ K b ax am n1 χ1 τ1 bc1 bs1 561 i []) : LJ K b ax am n χ τ bc bs 482 i [] := by
  have hn := (b_n hI).1
  obtain ⟨dx, dm, px, pm, hdx, hdm, ox, om, hi, hq⟩ := b_after hI (xs (i + 1).toNat).toInt
  refine l_aload C d_L_482 rfl rfl ?_
  refine l_aload C d_L_483 rfl rfl ?_
  refine l_iload C d_L_484 ?_
  refine l_iconst C d_L_485 ?_
  refine l_iadd C d_L_486 ?_
  refine l_sld C (by omega) (by omega) hL d_L_487 ?_
  refine l_callX C (as := [(xs (i + 1).toNat).toInt]) cl_L_83 cb_X_after cs_X_after d_L_488 ox hi rfl rfl rfl (by omega) (har_of [xs (i + 1).toNat]) hdx (by decide) (by decide) (by omega) (by omega) (fun x n1 χ1 hp hnn => ?_)
  refine l_aload C d_L_491 rfl rfl ?_
  refine l_aload C d_L_492 rfl rfl ?_
  refine l_iload C d_L_493 ?_
  refine l_iconst C d_L_494 ?_
  refine l_iadd C d_L_495 ?_
  refine l_sld C (by omega) (by omega) hL d_L_496 ?_
  refine l_callM C (as := [(xs (i + 1).toNat).toInt]) cl_L_86 cb_M_after cs_M_after d_L_497 om (fun r m1 τ1 hm => ⟨(hq _ _ _ _ _ _ hp hm).1, let ⟨z, _, h2⟩ := (hq _ _ _ _ _ _ hp hm).2.1; ⟨z, h2⟩⟩) rfl rfl rfl (har_of [xs (i + 1).toNat]) (by omega) (by decide) (show 1 + 0 ≤ 2 by decide) (by omega) (by omega) (fun x1 τ1 hm => ?_)
  obtain ⟨-, ⟨z, hz1, hz2⟩, hI1⟩ := hq _ _ _ _ _ _ hp hm
  cases hz1
  cases hz2
  refine l_same C d_L_500 rfl ?_
  exact kn _ _ _ _ _ hI1 (by omega) (by omega) (by omega)
theorem l_case17 {K : LQ} {b L ax am n bc bs : Nat} {xs : Nat → Int32} {χ τ : Hp} {i j : Int} (C : LC K b L xs) (hL : (L : Int) ≤ 2048) (i0 : 0 ≤ i) (i1 : i + 4 ≤ (L : Int)) (hI : INV (2000 * j) n χ τ) (hB : 2000 * j + 4000 < 2000000000) (hbc : bc ≤ 700) (hbs : bs ≤ 20000)
    (kn : ∀ (n1 : Nat) (χ1 τ1 : Hp) (bc1 bs1 : Nat), INV (2000 * j + 2000) n1 χ1 τ1 → bc1 ≤ bc + 1 → bs1 ≤ bs + 9 → n ≤ n1 → LJ K b ax am n1 χ1 τ1 bc1 bs1 561 i []) : LJ K b ax am n χ τ bc bs 505 i [] := by
  have hn := (b_n hI).1
  obtain ⟨dx, dm, px, pm, hdx, hdm, ox, om, hi, hq⟩ := b_count hI (xs (i + 1).toNat).toInt
  refine l_aload C d_L_505 rfl rfl ?_
  refine l_aload C d_L_506 rfl rfl ?_
  refine l_iload C d_L_507 ?_
  refine l_iconst C d_L_508 ?_
  refine l_iadd C d_L_509 ?_
  refine l_sld C (by omega) (by omega) hL d_L_510 ?_
  refine l_callX C (as := [(xs (i + 1).toNat).toInt]) cl_L_87 cb_X_count cs_X_count d_L_511 ox hi rfl rfl rfl (by omega) (har_of [xs (i + 1).toNat]) hdx (by decide) (by decide) (by omega) (by omega) (fun x n1 χ1 hp hnn => ?_)
  refine l_aload C d_L_514 rfl rfl ?_
  refine l_aload C d_L_515 rfl rfl ?_
  refine l_iload C d_L_516 ?_
  refine l_iconst C d_L_517 ?_
  refine l_iadd C d_L_518 ?_
  refine l_sld C (by omega) (by omega) hL d_L_519 ?_
  refine l_callM C (as := [(xs (i + 1).toNat).toInt]) cl_L_90 cb_M_count cs_M_count d_L_520 om (fun r m1 τ1 hm => ⟨(hq _ _ _ _ _ _ hp hm).1, let ⟨z, _, h2⟩ := (hq _ _ _ _ _ _ hp hm).2.1; ⟨z, h2⟩⟩) rfl rfl rfl (har_of [xs (i + 1).toNat]) (by omega) (by decide) (show 1 + 0 ≤ 2 by decide) (by omega) (by omega) (fun x1 τ1 hm => ?_)
  obtain ⟨-, ⟨z, hz1, hz2⟩, hI1⟩ := hq _ _ _ _ _ _ hp hm
  cases hz1
  cases hz2
  refine l_same C d_L_523 rfl ?_
  exact kn _ _ _ _ _ hI1 (by omega) (by omega) (by omega)
theorem l_case18 {K : LQ} {b L ax am n bc bs : Nat} {xs : Nat → Int32} {χ τ : Hp} {i j : Int} (C : LC K b L xs) (hL : (L : Int) ≤ 2048) (i0 : 0 ≤ i) (i1 : i + 4 ≤ (L : Int)) (hI : INV (2000 * j) n χ τ) (hB : 2000 * j + 4000 < 2000000000) (hbc : bc ≤ 700) (hbs : bs ≤ 20000)
    (kn : ∀ (n1 : Nat) (χ1 τ1 : Hp) (bc1 bs1 : Nat), INV (2000 * j + 2000) n1 χ1 τ1 → bc1 ≤ bc + 1 → bs1 ≤ bs + 9 → n ≤ n1 → LJ K b ax am n1 χ1 τ1 bc1 bs1 561 i []) : LJ K b ax am n χ τ bc bs 528 i [] := by
  have hn := (b_n hI).1
  obtain ⟨dx, dm, px, pm, hdx, hdm, ox, om, hi, hq⟩ := b_page hI (xs (i + 1).toNat).toInt (xs (i + 2).toNat).toInt
  refine l_aload C d_L_528 rfl rfl ?_
  refine l_aload C d_L_529 rfl rfl ?_
  refine l_iload C d_L_530 ?_
  refine l_iconst C d_L_531 ?_
  refine l_iadd C d_L_532 ?_
  refine l_sld C (by omega) (by omega) hL d_L_533 ?_
  refine l_aload C d_L_534 rfl rfl ?_
  refine l_iload C d_L_535 ?_
  refine l_iconst C d_L_536 ?_
  refine l_iadd C d_L_537 ?_
  refine l_sld C (by omega) (by omega) hL d_L_538 ?_
  refine l_callX C (as := [(xs (i + 1).toNat).toInt, (xs (i + 2).toNat).toInt]) cl_L_91 cb_X_page cs_X_page d_L_539 ox hi rfl rfl rfl (by omega) (har_of [xs (i + 1).toNat, xs (i + 2).toNat]) hdx (by decide) (by decide) (by omega) (by omega) (fun x n1 χ1 hp hnn => ?_)
  refine l_aload C d_L_542 rfl rfl ?_
  refine l_aload C d_L_543 rfl rfl ?_
  refine l_iload C d_L_544 ?_
  refine l_iconst C d_L_545 ?_
  refine l_iadd C d_L_546 ?_
  refine l_sld C (by omega) (by omega) hL d_L_547 ?_
  refine l_aload C d_L_548 rfl rfl ?_
  refine l_iload C d_L_549 ?_
  refine l_iconst C d_L_550 ?_
  refine l_iadd C d_L_551 ?_
  refine l_sld C (by omega) (by omega) hL d_L_552 ?_
  refine l_callM C (as := [(xs (i + 1).toNat).toInt, (xs (i + 2).toNat).toInt]) cl_L_94 cb_M_page cs_M_page d_L_553 om (fun r m1 τ1 hm => ⟨(hq _ _ _ _ _ _ hp hm).1, let ⟨z, _, h2⟩ := (hq _ _ _ _ _ _ hp hm).2.1; ⟨z, h2⟩⟩) rfl rfl rfl (har_of [xs (i + 1).toNat, xs (i + 2).toNat]) (by omega) (by decide) (show 1 + 0 ≤ 2 by decide) (by omega) (by omega) (fun x1 τ1 hm => ?_)
  obtain ⟨-, ⟨z, hz1, hz2⟩, hI1⟩ := hq _ _ _ _ _ _ hp hm
  cases hz1
  cases hz2
  refine l_same C d_L_556 rfl ?_
  exact kn _ _ _ _ _ hI1 (by omega) (by omega) (by omega)
theorem l_loop {K : LQ} {b L ax am : Nat} {xs : Nat → Int32} (C : LC K b L xs) (hL : (L : Int) ≤ 2048) (kend : ∀ (n : Nat) (χ τ : Hp) (bc bs : Nat) (i : Int), bc ≤ 700 → bs ≤ 20000 → LJ K b ax am n χ τ bc bs 567 i []) : ∀ (q : Nat) (j : Int) (n bc bs : Nat) (χ τ : Hp), 0 ≤ j → j + q = 513 → 4 * j ≤ (L : Int) + 3 → INV (2000 * j) n χ τ → (bc : Int) ≤ 113 + j → (bs : Int) ≤ 13000 + 9 * j → LJ K b ax am n χ τ bc bs 18 (4 * j) []
  | 0, j, n, bc, bs, χ, τ, j0, hj, hjL, hI, hbc, hbs => by omega
  | q + 1, j, n, bc, bs, χ, τ, j0, hj, hjL, hI, hbc, hbs => by
    have r0 : R3 (4 * j) := ⟨by omega, by omega⟩
    have r1 : R3 ((L : Int) - 4) := ⟨by omega, by omega⟩
    refine l_iload C d_L_18 ?_
    refine l_aload C d_L_19 rfl rfl ?_
    refine l_slen C d_L_20 ?_
    refine l_iconst C d_L_21 ?_
    refine l_isub C d_L_22 ?_
    refine l_icmp_gt C r0 r1 d_L_23 rfl (fun _ => kend n χ τ bc bs _ (by omega) (by omega)) (fun hle => ?_)
    refine l_aload C d_L_26 rfl rfl ?_
    refine l_iload C d_L_27 ?_
    refine l_sld C (by omega) (by omega) hL d_L_28 ?_
    refine l_and C d_L_29 d_L_31 (fun y y0 y1 => ?_)
    have kn : ∀ (n1 : Nat) (χ1 τ1 : Hp) (bc1 bs1 : Nat), INV (2000 * j + 2000) n1 χ1 τ1 → bc1 ≤ bc + 1 → bs1 ≤ bs + 9 → n ≤ n1 → LJ K b ax am n1 χ1 τ1 bc1 bs1 561 (4 * j) [] := fun n1 χ1 τ1 bc1 bs1 h1 h2 h3 _ => by
      refine l_iinc C d_L_561 ?_
      refine l_goto C d_L_564 rfl ?_
      have := l_loop C hL kend q (j + 1) n1 bc1 bs1 χ1 τ1 (by omega) (by omega) (by omega) (by rw [show 2000 * (j + 1) = 2000 * j + 2000 by omega]; exact h1) (by omega) (by omega)
      rw [show 4 * (j + 1) = 4 * j + 4 by omega] at this
      exact this
    rcases (show y = 0 ∨ y = 1 ∨ y = 2 ∨ y = 3 ∨ y = 4 ∨ y = 5 ∨ y = 6 ∨ y = 7 ∨ y = 8 ∨ y = 9 ∨ y = 10 ∨ y = 11 ∨ y = 12 ∨ y = 13 ∨ y = 14 ∨ y = 15 ∨ y = 16 ∨ y = 17 ∨ y = 18 ∨ 18 < y by omega) with rfl | rfl | rfl | rfl | rfl | rfl | rfl | rfl | rfl | rfl | rfl | rfl | rfl | rfl | rfl | rfl | rfl | rfl | rfl | hy
    · exact l_tabIn C d_L_32 ⟨by decide, by decide⟩ (by decide) (by decide) rfl rfl (l_case0 C hL (by omega) (by omega) hI (by omega) (by omega) (by omega) kn)
    · exact l_tabIn C d_L_32 ⟨by decide, by decide⟩ (by decide) (by decide) rfl rfl (l_case1 C hL (by omega) (by omega) hI (by omega) (by omega) (by omega) kn)
    · exact l_tabIn C d_L_32 ⟨by decide, by decide⟩ (by decide) (by decide) rfl rfl (l_case2 C hL (by omega) (by omega) hI (by omega) (by omega) (by omega) kn)
    · exact l_tabIn C d_L_32 ⟨by decide, by decide⟩ (by decide) (by decide) rfl rfl (l_case3 C hL (by omega) (by omega) hI (by omega) (by omega) (by omega) kn)
    · exact l_tabIn C d_L_32 ⟨by decide, by decide⟩ (by decide) (by decide) rfl rfl (l_case4 C hL (by omega) (by omega) hI (by omega) (by omega) (by omega) kn)
    · exact l_tabIn C d_L_32 ⟨by decide, by decide⟩ (by decide) (by decide) rfl rfl (l_case5 C hL (by omega) (by omega) hI (by omega) (by omega) (by omega) kn)
    · exact l_tabIn C d_L_32 ⟨by decide, by decide⟩ (by decide) (by decide) rfl rfl (l_case6 C hL (by omega) (by omega) hI (by omega) (by omega) (by omega) kn)
    · exact l_tabIn C d_L_32 ⟨by decide, by decide⟩ (by decide) (by decide) rfl rfl (l_case7 C hL (by omega) (by omega) hI (by omega) (by omega) (by omega) kn)
    · exact l_tabIn C d_L_32 ⟨by decide, by decide⟩ (by decide) (by decide) rfl rfl (l_case8 C hL (by omega) (by omega) hI (by omega) (by omega) (by omega) kn)
    · exact l_tabIn C d_L_32 ⟨by decide, by decide⟩ (by decide) (by decide) rfl rfl (l_case9 C hL (by omega) (by omega) hI (by omega) (by omega) (by omega) kn)
    · exact l_tabIn C d_L_32 ⟨by decide, by decide⟩ (by decide) (by decide) rfl rfl (l_case10 C hL (by omega) (by omega) hI (by omega) (by omega) (by omega) kn)
    · exact l_tabIn C d_L_32 ⟨by decide, by decide⟩ (by decide) (by decide) rfl rfl (l_case11 C hL (by omega) (by omega) hI (by omega) (by omega) (by omega) kn)
    · exact l_tabIn C d_L_32 ⟨by decide, by decide⟩ (by decide) (by decide) rfl rfl (l_case12 C hL (by omega) (by omega) hI (by omega) (by omega) (by omega) kn)
    · exact l_tabIn C d_L_32 ⟨by decide, by decide⟩ (by decide) (by decide) rfl rfl (l_case13 C hL (by omega) (by omega) hI (by omega) (by omega) (by omega) kn)
    · exact l_tabIn C d_L_32 ⟨by decide, by decide⟩ (by decide) (by decide) rfl rfl (l_case14 C hL (by omega) (by omega) hI (by omega) (by omega) (by omega) kn)
    · exact l_tabIn C d_L_32 ⟨by decide, by decide⟩ (by decide) (by decide) rfl rfl (l_case15 C hL (by omega) (by omega) hI (by omega) (by omega) (by omega) kn)
    · exact l_tabIn C d_L_32 ⟨by decide, by decide⟩ (by decide) (by decide) rfl rfl (l_case16 C hL (by omega) (by omega) hI (by omega) (by omega) (by omega) kn)
    · exact l_tabIn C d_L_32 ⟨by decide, by decide⟩ (by decide) (by decide) rfl rfl (l_case17 C hL (by omega) (by omega) hI (by omega) (by omega) (by omega) kn)
    · exact l_tabIn C d_L_32 ⟨by decide, by decide⟩ (by decide) (by decide) rfl rfl (l_case18 C hL (by omega) (by omega) hI (by omega) (by omega) (by omega) kn)
    · refine l_tabOut C d_L_32 ⟨by omega, by omega⟩ hy rfl ?_
      exact kn n χ τ bc bs (inv_B hI (by omega)) (by omega) (by omega) (Nat.le_refl _)

