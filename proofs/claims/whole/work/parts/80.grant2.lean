-- ===== granting: the read and the write =====
theorem j_readFor {B : Int} {n : Nat} {χ τ : Hp} {t : Int} (h : JJ t B n χ τ) (t1 : 1 ≤ t) (t2 : t ≤ τ 1 22) (h20 : τ 20 t = 0) : JJ 0 (B + 1) n (f_readFor χ (85 + t)) (m_readFor τ t) := by
  have hT := h.2.2.1
  have e6 : χ (85 + t) 6 = τ 22 t := (hT.2.1 t t1 t2).2.2.2.2.2.2.1
  have hf := r_find h.2.1 (τ 22 t)
  have hb := m_find_lt τ (τ 22 t)
  unfold f_readFor
  simp only [m_readFor]
  rw [e6, hf]
  by_cases hx : m_find τ (τ 22 t) = -1
  · rw [if_pos hx, if_neg (by omega)]
    exact j_out (JJ_up (j_val h t1 t2) (by omega)) t1 (by rw [st2_ne (by decide)]; exact t2) (Or.inr rfl) (by rw [st2_ne (by decide)]; exact h20)
  · rw [if_neg hx, if_pos (by omega)]
    generalize hxx : m_find τ (τ 22 t) = x at hx hb
    obtain ⟨j1, hin⟩ := j_fetch h (p := x / 4) (by omega) (by omega)
    have m22 : m_fetch τ (x / 4) 1 22 = τ 1 22 := m_fetch_1 _ _ (by decide) (by decide) (by decide) (by decide)
    have m20 : m_fetch τ (x / 4) 20 = τ 20 := m_fetch_fr _ _ (by decide) (by decide)
    have hv : f_valueAt (f_fetch χ (x / 4)) x = m_fetch τ (x / 4) 15 x := by
      rw [(r_keyAt j1.2.1 (show 0 ≤ x by omega) (by omega)).2.1]
      unfold m_valueAt
      rw [if_pos hin]
    rw [hv]
    exact j_out (j_val j1 t1 (by rw [m22]; exact t2)) t1 (by rw [st2_ne (by decide), m22]; exact t2) (Or.inr rfl) (by rw [st2_ne (by decide), m20]; exact h20)
theorem j_update {e B : Int} {n : Nat} {χ τ : Hp} (h : JJ e B n χ τ) {o x kb vb k v : Int} (hc : cK τ 1 (τ 1 0) < 60) (ho : 1 ≤ o ∧ o ≤ 60) (hx : 0 ≤ x ∧ x < 24) (hkb : -1 ≤ kb ∧ kb ≤ 99) (hk : -1 ≤ k ∧ k ≤ 99) : JJ e B n (f_addUpdate χ o x kb vb k v) (m_rec1 τ o x kb vb k v) := by
  obtain ⟨hL, hP, hT, hB⟩ := h
  have hN := lg_room hL.2 ⟨hT.1.1, hT.1.2.1⟩ (Or.inl hc)
  refine ⟨r_update hL hN hc ho hx hkb hk, RPl_c hP (fun a a1 a2 => f_addUpdate_c (by omega)) (f_addUpdate_b (by decide) (by decide)) (fun a a1 a2 => m_rec1_c (by omega) (by omega)) (m_rec1_b (by decide)) (by rw [m_rec1_b (by decide)]; exact Int.le_refl _) (m_rec1_b (by decide)) (m_rec1_b (by decide)) (by rw [m_rec1_0]; omega), RTx_c hT (fun a a1 => f_addUpdate_c (by omega)) (f_addUpdate_c (by decide)) (f_addUpdate_c (by decide)) (fun a a1 a2 => m_rec1_c (by omega) (by omega)) (m_rec1_b (by decide)) (m_rec1_b (by decide)) (m_rec1_b (by decide)) (by rw [m_rec1_b (by decide)]; exact Int.le_refl _), ?_⟩
  rw [m_rec1_b (by decide), m_rec1_b (by decide), m_rec1_b (by decide)]; exact hB
theorem m_upd_eq (τ : Hp) (t x : Int) : m_upd τ t x = m_apply (m_rec1 (m_fetch τ (x / 4)) t x (m_fetch τ (x / 4) 14 x) (m_fetch τ (x / 4) 15 x) (τ 22 t) (m_fetch τ (x / 4) 24 t)) (m_fetch τ (x / 4) 1 0 + 1) := by
  simp only [m_upd, m_rec1]
  rw [m_put_0]
  generalize m_fetch τ (x / 4) = ρ
  rw [m_put_c (a := 14) (by decide) (by decide) (by decide) (by decide), st2_ne (by decide : (15 : Int) ≠ 5), m_put_c (a := 15) (by decide) (by decide) (by decide) (by decide), st2_ne (by decide : (24 : Int) ≠ 7), st2_ne (by decide : (24 : Int) ≠ 6), st2_ne (by decide : (24 : Int) ≠ 5), m_put_c (a := 24) (by decide) (by decide) (by decide) (by decide)]
theorem m_rec1_2 (τ : Hp) (o x kb vb k v i : Int) : m_rec1 τ o x kb vb k v 2 i = if i = τ 1 0 + 1 then 1 else τ 2 i := by
  simp [m_rec1, m_put_eq, st2]
theorem m_rec1_4 (τ : Hp) (o x kb vb k v : Int) : m_rec1 τ o x kb vb k v 4 (τ 1 0 + 1) = x := by
  simp [m_rec1, m_put_eq, st2]
theorem r_target {χ τ : Hp} (h : RPl χ τ) {t : Int} (e6 : χ (85 + t) 6 = τ 22 t) : f_target χ (85 + t) = m_target τ t := by
  have hb := m_find_lt τ (τ 22 t)
  unfold f_target m_target
  rw [e6, r_find h, r_find h]
  by_cases hx : m_find τ (τ 22 t) = -1
  · rw [if_pos hx, if_pos (by omega)]
  · rw [if_neg hx, if_neg (by omega)]
theorem m_target_b (τ : Hp) (t : Int) : -1 ≤ m_target τ t ∧ m_target τ t < 24 := by
  have h1 := m_find_lt τ (τ 22 t)
  have h2 := m_find_lt τ (-1)
  unfold m_target
  split <;> omega
theorem j_writeFor {B : Int} {n : Nat} {χ τ : Hp} {t : Int} (h : JJ t B n χ τ) (t1 : 1 ≤ t) (t2 : t ≤ τ 1 22) (h20 : τ 20 t = 0) : JJ 0 (B + 1) n (f_writeFor χ (85 + t)) (m_writeFor τ t) := by
  obtain ⟨hL, hP, hT, hB⟩ := id h
  obtain ⟨b1, b2, b3, b4, b5, b6, b7, b8, b9, b10⟩ := hT.2.1 t t1 t2
  have hw := hT.2.2.2.1 t (by omega) (by have := hT.1.2.1; omega)
  have ht := r_target hP b7
  have hb := m_target_b τ t
  have h13 : χ 2 13 = m_countOf τ 1 := hL.2.2.2.2.2.2.2.2.2.2.1.1
  unfold f_writeFor
  simp only [m_writeFor]
  rw [ht, h13]
  generalize m_target τ t = x at hb
  by_cases hc : 60 ≤ m_countOf τ 1 ∨ x = -1
  · rw [if_pos hc, if_pos (by omega)]
    exact j_out (JJ_up (j_out3 h) (by omega)) t1 (by rw [st2_ne (by decide)]; exact t2) (Or.inr rfl) (by rw [st2_eq])
  · rw [if_neg hc, if_neg (by omega)]
    obtain ⟨j1, hin⟩ := j_fetch h (p := x / 4) (by omega) (by omega)
    have m22 : m_fetch τ (x / 4) 1 22 = τ 1 22 := m_fetch_1 _ _ (by decide) (by decide) (by decide) (by decide)
    have m10 : m_fetch τ (x / 4) 1 0 = τ 1 0 := m_fetch_1 _ _ (by decide) (by decide) (by decide) (by decide)
    have m20 : m_fetch τ (x / 4) 20 = τ 20 := m_fetch_fr _ _ (by decide) (by decide)
    have m2 : m_fetch τ (x / 4) 2 = τ 2 := m_fetch_fr _ _ (by decide) (by decide)
    have m222 : m_fetch τ (x / 4) 22 = τ 22 := m_fetch_fr _ _ (by decide) (by decide)
    obtain ⟨k1, k2, k3, k4⟩ := r_keyAt j1.2.1 (show 0 ≤ x by omega) (by omega)
    obtain ⟨d1, d2, d3, d4, d5, d6, d7, d8, d9, d10⟩ := j1.2.2.1.2.1 t t1 (by rw [m22]; exact t2)
    have hv : f_valueAt (f_fetch χ (x / 4)) x = m_fetch τ (x / 4) 15 x := by
      rw [k2]; unfold m_valueAt; rw [if_pos hin]
    have hky : m_keyAt (m_fetch τ (x / 4)) x = m_fetch τ (x / 4) 14 x := by
      unfold m_keyAt; rw [if_pos hin]
    rw [m_upd_eq]
    simp only [f_upd]
    rw [d2, d7, d9, hv, k1, hky, m222, j1.1.1]
    rw [hky] at k3 k4
    have hcc : cK (m_fetch τ (x / 4)) 1 (m_fetch τ (x / 4) 1 0) < 60 := by
      rw [m10, cK_congr (τ := τ) (fun i _ _ => by rw [m2])]
      have : m_countOf τ 1 = cK τ 1 (τ 1 0) := rfl
      omega
    have hN := lg_room hL.2 ⟨hT.1.1, hT.1.2.1⟩ (Or.inl (by have : m_countOf τ 1 = cK τ 1 (τ 1 0) := rfl; omega))
    have j2 := j_update (vb := m_fetch τ (x / 4) 15 x) (v := m_fetch τ (x / 4) 24 t) j1 hcc (o := t) (by have := hT.1.2.1; omega) (x := x) (by omega) (kb := m_fetch τ (x / 4) 14 x) ⟨k3, k4⟩ (k := τ 22 t) (by omega)
    have j3 := j_apply j2 (r := m_fetch τ (x / 4) 1 0 + 1) (by have := hL.2.1.1; omega) (by rw [m_rec1_0]; exact Int.le_refl _) (by rw [m_rec1_2, if_pos rfl]; decide) (by rw [m_rec1_4, m_rec1_c (by decide) (by decide)]; exact hin)
    refine j_out j3 t1 ?_ (Or.inr rfl) ?_
    · rw [m_apply_fr (by decide) (by decide) (by decide) (by decide), m_rec1_b (by decide), m22]; exact t2
    · rw [m_apply_fr (by decide) (by decide) (by decide) (by decide), m_rec1_c (by decide) (by decide), m20]; exact h20
theorem j_grant {B : Int} {n : Nat} {χ τ : Hp} (h : JJ 0 B n χ τ) {t : Int} (t1 : 1 ≤ t) (t2 : t ≤ τ 1 22) (hl : τ 19 t ≤ 2) (hw : τ 23 t = 1 ∨ τ 23 t = 2) : JJ 0 (B + 1) n (f_grant χ (85 + t)) (m_grant τ t) := by
  have j1 := j_lock h t1 t2 hl hw
  have m1 : m_lock τ t 1 = τ 1 := m_lock_fr _ _ (by decide) (by decide) (by decide)
  have m20 : m_lock τ t 20 t = 0 := by
    simp only [m_lock]
    exact st2_eq
  have e7 := (j1.2.2.1.2.1 t t1 (by rw [m1]; exact t2)).2.2.2.2.2.2.2.1
  unfold f_grant
  simp only [m_grant]
  rw [e7]
  by_cases hc : m_lock τ t 23 t = 1
  · rw [if_pos hc, if_pos hc]
    exact j_readFor j1 t1 (by rw [m1]; exact t2) m20
  · rw [if_neg hc, if_neg hc]
    exact j_writeFor j1 t1 (by rw [m1]; exact t2) m20
theorem j_leave {e B : Int} {n : Nat} {χ τ : Hp} (h : JJ e B n χ τ) {t q : Int} (t1 : 1 ≤ t) (t2 : t ≤ τ 1 22) (hl : τ 19 t ≤ 3) (hq : 4 ≤ q ∧ q ≤ 6) : JJ e B n (f_leaveT χ (85 + t) q) (m_unlock (st2 τ 19 t q) t 100) := by
  obtain ⟨hL, hP, hT, hB⟩ := h
  have hs := (hT.2.1 t t1 t2).2.2.1
  have xo : ∀ a : Int, a < 76 → f_leaveT χ (85 + t) q a = χ a := fun a h1 => by
    unfold f_leaveT
    rw [f_zero_fr _ _ _ (by omega), st2_ne (by omega), st2_ne (by omega)]
  have mo : ∀ a : Int, a ≠ 19 → a ≠ 26 → m_unlock (st2 τ 19 t q) t 100 a = τ a := fun a h1 h2 => by
    funext b
    simp only [m_unlock]
    rw [if_neg (fun z => h2 z.1), st2_ne h1]
  have m1 := mo 1 (by decide) (by decide)
  refine ⟨⟨by rw [xo 2 (by omega), m1]; exact hL.1, by rw [m1]; exact RLg_c hL.2 (fun a a1 a2 => xo a (by omega)) (by rw [xo 2 (by omega)]) (by rw [xo 2 (by omega)]) (fun a a1 a2 => mo a (by omega) (by omega)) (by rw [m1])⟩, RPl_c hP (fun a a1 a2 => xo a (by omega)) (by rw [xo 2 (by omega)]) (fun a a1 a2 => mo a (by omega) (by omega)) (by rw [m1]) (by rw [m1]; exact Int.le_refl _) (by rw [m1]) (by rw [m1]) (by rw [m1]; exact Int.le_refl _), r_lv hT t1 t2 hl hq, by rw [m1]; exact hB⟩
