-- ===== the calls that change and settle =====
theorem b_set {B : Int} {n : Nat} {χ τ : Hp} (h : JJ 0 (B + 100) n χ τ) (hu : τ 1 32 = 0) : INV (B + 2000) n (f_settle χ) (m_settle τ) := by
  obtain ⟨s1, s2, s3, s4⟩ := j_st h
  exact inv_B (inv_up s1 s2 (by rw [s3 32 (by decide) (by decide) (by decide) (by decide) (by decide)]; exact hu)) (by omega)
theorem r_in {B : Int} {n : Nat} {χ τ : Hp} (h : INV B n χ τ) (t q : Int) (hq : q ≤ 3) : (1 ≤ t ∧ t ≤ χ 1 5 ∧ χ (85 + t) 2 = q) ↔ m_isIn τ t q = true := by
  have hT := h.1.2.2.1
  have hb := hT.1
  simp only [m_isIn, Bool.and_eq_true, decide_eq_true_eq]
  rw [hb.2.2.2]
  constructor
  · rintro ⟨a1, a2, a3⟩
    have e := (hT.2.1 t a1 a2).2.2.2.1
    refine ⟨⟨⟨?_, a1⟩, a2⟩, by omega⟩
    refine Decidable.byContradiction (fun z => ?_)
    have := h.2.2.1 z t a1 a2
    omega
  · rintro ⟨⟨⟨a0, a1⟩, a2⟩, a3⟩
    have e := (hT.2.1 t a1 a2).2.2.2.1
    exact ⟨a1, a2, by omega⟩
theorem lg_t {B : Int} {n : Nat} {χ τ : Hp} (h : JJ 0 B n χ τ) {t : Int} (t1 : 1 ≤ t) (t2 : t ≤ τ 1 22) (hz : χ 11 t = 0) : τ 1 0 < 200 :=
  lg_room h.1.2 ⟨h.2.2.1.1.1, h.2.2.1.1.2.1⟩ (Or.inr (Or.inr (Or.inl ⟨t, t1, t2, hz⟩)))
theorem j_commit {B : Int} {n : Nat} {χ τ : Hp} (h : JJ 0 B n χ τ) {t : Int} (t1 : 1 ≤ t) (t2 : t ≤ τ 1 22) (hl : τ 19 t = 1) : JJ 0 B n (st2 (f_addCommit χ t) (85 + t) 2 3) (st2 (m_put τ 3 t 0) 19 t 3) ∧ (∀ b : Int, b ≠ 0 → st2 (m_put τ 3 t 0) 19 t 3 1 b = τ 1 b) := by
  have hT := h.2.2.1
  have hL := h.1
  have hz : χ 11 t = 0 := (hT.2.2.2.2.2.2.2.2.2.2 t t1 t2).2 (by omega)
  have t3 : t ≤ 60 := by have := hT.1.2.1; omega
  have hN := lg_t h t1 t2 hz
  have hc := r_commit hL hN t1 t2 t3 hz
  obtain ⟨b1, b2, b3, b4, b5, b6, b7, b8, b9, b10, b11, b12, b13, b14⟩ := hT.2.1 t t1 t2
  obtain ⟨p1, p2, p3⟩ := r_seat hT t1 t2 (by omega)
  have xo : ∀ a : Int, a ≠ 85 + t → st2 (f_addCommit χ t) (85 + t) 2 3 a = f_addCommit χ t a := fun a h1 => st2_ne h1
  have xc : ∀ a : Int, a ≠ 2 → a ≠ 3 → a ≠ 4 → a ≠ 10 → a ≠ 11 → f_addCommit χ t a = χ a := fun a h2 h3 h4 h10 h11 => by
    unfold f_addCommit
    rw [st2_ne h11, f_append_c h2 h3 h4 h10]
  have xt : ∀ b : Int, b ≠ 2 → st2 (f_addCommit χ t) (85 + t) 2 3 (85 + t) b = χ (85 + t) b := fun b hb => by
    rw [st2_ii hb, xc (85 + t) (by omega) (by omega) (by omega) (by omega) (by omega)]
  have x11 : ∀ u : Int, u ≠ t → f_addCommit χ t 11 u = χ 11 u := fun u hu => by
    unfold f_addCommit
    rw [st2_ii hu, f_append_c (by decide) (by decide) (by decide) (by decide)]
  have x11t : f_addCommit χ t 11 t = χ 2 11 + 1 := by
    unfold f_addCommit
    exact st2_eq
  have x212 : f_addCommit χ t 2 12 = χ 2 12 := by
    unfold f_addCommit
    rw [st2_ne (by decide), f_append_b (by decide)]
  have mo : ∀ a : Int, a ≠ 19 → st2 (m_put τ 3 t 0) 19 t 3 a = m_put τ 3 t 0 a := fun a h1 => st2_ne h1
  have mc : ∀ a : Int, a ≠ 1 → a ≠ 2 → a ≠ 3 → a ≠ 4 → m_put τ 3 t 0 a = τ a := fun a h1 h2 h3 h4 => m_put_c h1 h2 h3 h4
  have m1 : ∀ b : Int, b ≠ 0 → st2 (m_put τ 3 t 0) 19 t 3 1 b = τ 1 b := fun b hb => by rw [mo 1 (by decide), m_put_b hb]
  have m0 : m_put τ 3 t 0 1 0 = τ 1 0 + 1 := by
    unfold m_put
    simp [st2]
  have hreq := hT.2.2.2.2.2.2.2.2.2.1
  refine ⟨⟨⟨?_, ?_⟩, ?_, ?_, ?_⟩, m1⟩
  · rw [xo 2 (by omega), mo 1 (by decide)]; exact hc.1
  · rw [mo 1 (by decide)]
    exact RLg_c hc.2 (fun a a1 a2 => xo a (by omega)) (by rw [xo 2 (by omega)]) (by rw [xo 2 (by omega)]) (fun a a1 a2 => mo a (by omega)) (by rw [mo 1 (by decide)])
  · exact RPl_c h.2.1 (fun a a1 a2 => by rw [xo a (by omega), xc a (by omega) (by omega) (by omega) (by omega) (by omega)]) (by rw [xo 2 (by omega), x212]) (fun a a1 a2 => by rw [mo a (by omega), mc a (by omega) (by omega) (by omega) (by omega)]) (m1 1 (by decide)) (by rw [m1 19 (by decide)]; exact Int.le_refl _) (m1 20 (by decide)) (m1 21 (by decide)) (by rw [mo 1 (by decide), m0]; omega)
  · refine r_tx (t := t) (s := χ (85 + t) 1) hT t1 t2 (by omega) rfl (fun u u1 u2 u3 => by omega) (fun a a1 a2 a3 => by rw [xo a a2, xc a (by omega) (by omega) (by omega) (by omega) (by omega)]) (by rw [xo 1 (by omega), xc 1 (by decide) (by decide) (by decide) (by decide) (by decide)]) (by rw [xo 1 (by omega), xc 1 (by decide) (by decide) (by decide) (by decide) (by decide)]; exact Int.le_refl _) (by rw [xo 1 (by omega), xc 1 (by decide) (by decide) (by decide) (by decide) (by decide)]) (by rw [xo 1 (by omega), xc 1 (by decide) (by decide) (by decide) (by decide) (by decide)]) (fun u hu => by rw [xo 11 (by omega), x11 u hu]) (fun a u a1 a2 hu => ?_) (fun u k hu k0 k1 => by rw [mo 26 (by decide), mc 26 (by decide) (by decide) (by decide) (by decide)]) (m1 22 (by decide)) (m1 32 (by decide)) (m1 33 (by decide)) (by rw [m1 19 (by decide)]; exact Int.le_refl _) (by rw [xo 1 (by omega), xc 1 (by decide) (by decide) (by decide) (by decide) (by decide), m1 19 (by decide)]; exact hreq.2.2.2) ?_ (by rw [st2_eq]; omega) (xt 1 (by decide)) (by rw [mo 22 (by decide), mc 22 (by decide) (by decide) (by decide) (by decide)]; exact hT.2.2.2.1 t (by omega) t3) (Or.inl ⟨xt 5 (by decide), by rw [mo 25 (by decide), mc 25 (by decide) (by decide) (by decide) (by decide)]⟩) (fun k k0 k1 => ?_) ?_
    · by_cases ha : a = 19
      · subst ha; rw [st2_ii hu, mc 19 (by decide) (by decide) (by decide) (by decide)]
      · rw [mo a ha, mc a (by omega) (by omega) (by omega) (by omega)]
    · unfold txE
      rw [xo 85 (by omega), xc 85 (by decide) (by decide) (by decide) (by decide) (by decide), xt 0 (by decide), xt 1 (by decide), xt 3 (by decide), xt 4 (by decide), xt 5 (by decide), xt 6 (by decide), xt 7 (by decide), xt 8 (by decide), st2_eq, st2_eq, mo 20 (by decide), mo 21 (by decide), mo 22 (by decide), mo 23 (by decide), mo 24 (by decide), mo 25 (by decide), mc 20 (by decide) (by decide) (by decide) (by decide), mc 21 (by decide) (by decide) (by decide) (by decide), mc 22 (by decide) (by decide) (by decide) (by decide), mc 23 (by decide) (by decide) (by decide) (by decide), mc 24 (by decide) (by decide) (by decide) (by decide), mc 25 (by decide) (by decide) (by decide) (by decide), m1 19 (by decide), xo 1 (by omega), xc 1 (by decide) (by decide) (by decide) (by decide) (by decide)]
      exact ⟨b1, b2, b3, rfl, b5, b6, b7, b8, b9, ⟨by omega, by omega⟩, b11, b12, b13, fun z => by omega⟩
    · rw [xo (79 + χ (85 + t) 1) (by omega), xc (79 + χ (85 + t) 1) (by omega) (by omega) (by omega) (by omega) (by omega), mo 26 (by decide), mc 26 (by decide) (by decide) (by decide) (by decide)]
      exact ⟨p3 k k0 k1, (hT.2.2.2.2.2.2.2.1 t k (by omega) t3 k0 k1).1⟩
    · rw [st2_eq, xo 11 (by omega), x11t]
      have := hL.2.1
      exact ⟨fun _ => by rw [hL.1]; omega, fun z => by omega⟩
  · rw [m1 19 (by decide), m1 20 (by decide), m1 21 (by decide)]; exact h.2.2.2
theorem b_commit {B : Int} {n : Nat} {χ τ : Hp} (h : INV B n χ τ) (hb : B + 4000 < 2000000000) (t : Int) : Both B n χ τ y_X_commit b_X_commit 3 (some .boolean) 0 0 [.inr 1, .inl t] y_M_commit b_M_commit 2 [.inr 1, .inl t] := by
  have hT := h.1.2.2.1
  have hact := r_act h t
  have hN := h.1.1.2.1
  have hj : m_isIn τ t 1 = true → JJ 0 B n (st2 (f_addCommit χ t) (85 + t) 2 3) (st2 (m_put τ 3 t 0) 19 t 3) ∧ (∀ b : Int, b ≠ 0 → st2 (m_put τ 3 t 0) 19 t 3 1 b = τ 1 b) := fun z => by
    obtain ⟨-, t1, t2, hl⟩ := m_isIn_b z
    exact j_commit h.1 t1 t2 hl
  refine ⟨7, 5, _, _, by omega, by omega, c_X_commit (jx_F hT) (by rw [h.1.1.1]; exact hN.1) (fun a => ?_) (fun a => ok_XS (hj (hact.mp a)).1 (by omega)), c_M_commit hT.1.2.1 hN.1 (by omega) (fun a => ok_S (hj a).1 (by omega)), (by rintro r n' σ' ⟨_, ⟨_, rfl, _⟩ | ⟨_, rfl, _⟩⟩ <;> exact ⟨_, rfl⟩), ?_⟩
  · obtain ⟨-, t1, t2, hl⟩ := m_isIn_b (hact.mp a)
    rw [h.1.1.1]
    exact lg_t h.1 t1 t2 ((hT.2.2.2.2.2.2.2.2.2.2 t t1 t2).2 (by omega))
  · rintro r n' χ' r' m' τ' ⟨rfl, hx⟩ ⟨rfl, rfl, rfl⟩
    refine ⟨rfl, ?_⟩
    rcases hx with ⟨a1, rfl, rfl⟩ | ⟨a1, rfl, rfl⟩
    · have hin := hact.mp a1
      obtain ⟨hu, t1, t2, hl⟩ := m_isIn_b hin
      rw [if_pos hin, hin]
      exact ⟨⟨1, rfl, rfl⟩, b_set (JJ_up (hj hin).1 (by omega)) (by rw [(hj hin).2 32 (by decide)]; exact hu)⟩
    · have hin : ¬ m_isIn τ t 1 = true := fun z => a1 (hact.mpr z)
      rw [if_neg hin, Bool.eq_false_iff.mpr hin]
      exact ⟨⟨0, rfl, rfl⟩, inv_B h (by omega)⟩
theorem b_abort {B : Int} {n : Nat} {χ τ : Hp} (h : INV B n χ τ) (hb : B + 4000 < 2000000000) (t : Int) : Both B n χ τ y_X_abort b_X_abort 3 (some .boolean) 0 0 [.inr 1, .inl t] y_M_abort b_M_abort 2 [.inr 1, .inl t] := by
  have hT := h.1.2.2.1
  have h1 := r_in h t 1 (by decide)
  have h2 := r_in h t 2 (by decide)
  have hiff : ((1 ≤ t ∧ t ≤ χ 1 5) ∧ (χ (85 + t) 2 = 1 ∨ χ (85 + t) 2 = 2)) ↔ (m_isIn τ t 1 = true ∨ m_isIn τ t 2 = true) := by
    constructor
    · rintro ⟨⟨a1, a2⟩, a3 | a3⟩
      · exact Or.inl (h1.mp ⟨a1, a2, a3⟩)
      · exact Or.inr (h2.mp ⟨a1, a2, a3⟩)
    · rintro (a | a)
      · obtain ⟨a1, a2, a3⟩ := h1.mpr a
        exact ⟨⟨a1, a2⟩, Or.inl a3⟩
      · obtain ⟨a1, a2, a3⟩ := h2.mpr a
        exact ⟨⟨a1, a2⟩, Or.inr a3⟩
  have hj : (m_isIn τ t 1 = true ∨ m_isIn τ t 2 = true) → τ 1 32 = 0 ∧ 1 ≤ t ∧ t ≤ τ 1 22 ∧ τ 19 t ≤ 3 := fun z => by
    rcases z with z | z
    · obtain ⟨hu, t1, t2, hl⟩ := m_isIn_b z; exact ⟨hu, t1, t2, by omega⟩
    · obtain ⟨hu, t1, t2, hl⟩ := m_isIn_b z; exact ⟨hu, t1, t2, by omega⟩
  refine ⟨7, 5, _, _, by omega, by omega, c_X_abort (jx_F hT) (fun a => ?_) (fun a => ?_), c_M_abort hT.1.2.1 (fun a => ?_) (fun a => ?_), (by rintro r n' σ' ⟨_, ⟨_, rfl, _⟩ | ⟨_, rfl, _⟩⟩ <;> exact ⟨_, rfl⟩), ?_⟩
  · obtain ⟨-, t1, t2, hl⟩ := hj (hiff.mp a)
    exact ok_XR h.1 (by omega) t1 t2
  · obtain ⟨-, t1, t2, hl⟩ := hj (hiff.mp a)
    exact ok_XS (j_drop h.1 t1 t2 hl).1 (by omega)
  · obtain ⟨-, t1, t2, hl⟩ := hj a
    exact ok_D h.1 (by omega) t1 t2
  · obtain ⟨-, t1, t2, hl⟩ := hj a
    exact ok_S (j_drop h.1 t1 t2 hl).1 (by omega)
  · rintro r n' χ' r' m' τ' ⟨rfl, hx⟩ ⟨rfl, rfl, rfl⟩
    refine ⟨rfl, ?_⟩
    rcases hx with ⟨a1, rfl, rfl⟩ | ⟨a1, rfl, rfl⟩
    · have hin := hiff.mp a1
      obtain ⟨hu, t1, t2, hl⟩ := hj hin
      obtain ⟨j1, j2⟩ := j_drop h.1 t1 t2 hl
      rw [if_pos hin, if_pos hin]
      exact ⟨⟨1, rfl, rfl⟩, b_set (JJ_up j1 (by omega)) (by rw [j2 32 (by decide) (by decide) (by decide) (by decide) (by decide)]; exact hu)⟩
    · have hin : ¬ (m_isIn τ t 1 = true ∨ m_isIn τ t 2 = true) := fun z => a1 (hiff.mpr z)
      rw [if_neg hin, if_neg hin]
      exact ⟨⟨0, rfl, rfl⟩, inv_B h (by omega)⟩
/-- more of the log is stable -/
theorem RPl_s {χ τ χ' τ' : Hp} {v : Int} (h : RPl χ τ) (hx : ∀ a : Int, 34 ≤ a → a < 76 → χ' a = χ a) (hx2 : χ' 2 12 = v) (hm : ∀ a : Int, 11 ≤ a → a ≤ 18 → τ' a = τ a) (h1 : τ' 1 1 = v) (hv : τ 1 1 ≤ v) (hv2 : v ≤ τ 1 0) (h19 : τ' 1 19 = τ 1 19) (h20 : τ' 1 20 = τ 1 20) (h21 : τ' 1 21 = τ 1 21) (h0 : τ' 1 0 = τ 1 0) : RPl χ' τ' := by
  obtain ⟨p1, p2, p3, ⟨q1, q2, q3, q4, q5, q6⟩, s1, s2, s3⟩ := h
  have m11 := hm 11 (by omega) (by omega)
  have m12 := hm 12 (by omega) (by omega)
  have m13 := hm 13 (by omega) (by omega)
  have m14 := hm 14 (by omega) (by omega)
  have m15 := hm 15 (by omega) (by omega)
  have m16 := hm 16 (by omega) (by omega)
  have m17 := hm 17 (by omega) (by omega)
  have m18 := hm 18 (by omega) (by omega)
  have x34 := hx 34 (by omega) (by omega)
  have x37 := hx 37 (by omega) (by omega)
  have x38 := hx 38 (by omega) (by omega)
  have x39 := hx 39 (by omega) (by omega)
  refine ⟨fun p a1 a2 => ?_, ?_, ?_, ?_, ?_⟩
  · obtain ⟨⟨d1, d2, d3, ⟨d4, d5⟩, d6⟩, dd⟩ := p1 p a1 a2
    unfold dkP inP outP at *
    rw [hx (40 + 6 * p) (by omega) (by omega), hx (40 + 6 * p + 1) (by omega) (by omega), hx (40 + 6 * p + 2) (by omega) (by omega), hx (43 + 6 * p) (by omega) (by omega), hx (43 + 6 * p + 1) (by omega) (by omega), hx (43 + 6 * p + 2) (by omega) (by omega), x34, x37, x38, x39, m11, m12, m13, m14, m15, m16, m17, m18, h1, h19, h0]
    exact ⟨⟨d1, d2, d3, ⟨d4, by omega⟩, d6⟩, dd⟩
  · unfold isoP; rw [x39, m18]; exact p2
  · unfold nIn; rw [m18]; exact p3
  · rw [x34, h19, h20, h21]; exact ⟨q1, q2, q3, q4, q5, q6⟩
  · rw [hx2, h1, h0]; exact ⟨rfl, by omega, hv2⟩
theorem j_force {B : Int} {n : Nat} {χ τ : Hp} (h : JJ 0 B n χ τ) : JJ 0 B n (f_ms χ (χ 2 11)) (st2 τ 1 1 (τ 1 0)) := by
  obtain ⟨hL, hP, hT, hB⟩ := h
  obtain ⟨s1, s2, s3⟩ := hP.2.2.2.2
  have m1 : ∀ b : Int, b ≠ 1 → st2 τ 1 1 (τ 1 0) 1 b = τ 1 b := fun b hb => st2_ii hb
  have mo : ∀ a : Int, a ≠ 1 → st2 τ 1 1 (τ 1 0) a = τ a := fun a ha => st2_ne ha
  have x12 : f_ms χ (χ 2 11) 2 12 = τ 1 0 := by
    rw [f_ms_12, hL.1, s1]
    split <;> omega
  refine ⟨⟨?_, ?_⟩, ?_, ?_, ?_⟩
  · rw [f_ms_2 _ _ (by decide), m1 0 (by decide)]; exact hL.1
  · rw [m1 0 (by decide)]
    exact RLg_c hL.2 (fun a a1 a2 => f_ms_fr _ _ (by omega)) (f_ms_2 _ _ (by decide)) (f_ms_2 _ _ (by decide)) (fun a a1 a2 => mo a (by omega)) (m1 22 (by decide))
  · exact RPl_s hP (fun a a1 a2 => f_ms_fr _ _ (by omega)) x12 (fun a a1 a2 => mo a (by omega)) st2_eq s3 (Int.le_refl _) (m1 19 (by decide)) (m1 20 (by decide)) (m1 21 (by decide)) (m1 0 (by decide))
  · exact RTx_c hT (fun a a1 => f_ms_fr _ _ (by omega)) (f_ms_fr _ _ (by decide)) (f_ms_fr _ _ (by decide)) (fun a a1 a2 => mo a (by omega)) (m1 22 (by decide)) (m1 32 (by decide)) (m1 33 (by decide)) (by rw [m1 19 (by decide)]; exact Int.le_refl _)
  · rw [m1 19 (by decide), m1 20 (by decide), m1 21 (by decide)]; exact hB
theorem b_force {B : Int} {n : Nat} {χ τ : Hp} (h : INV B n χ τ) (hb : B + 4000 < 2000000000) : Both B n χ τ y_X_force b_X_force 1 (some .boolean) 0 0 [.inr 1] y_M_force b_M_force 1 [.inr 1] := by
  have hj := j_force h.1
  have hf := inv_flag h.1.2.2.1
  refine ⟨7, 5, _, _, by omega, by omega, c_X_force (b_n h).1 (fun _ => ok_XS hj (by omega)), c_M_force (fun _ => ok_S hj (by omega)), (by rintro r n' σ' ⟨_, ⟨_, rfl, _⟩ | ⟨_, rfl, _⟩⟩ <;> exact ⟨_, rfl⟩), ?_⟩
  rintro r n' χ' r' m' τ' ⟨rfl, hx⟩ ⟨rfl, rfl, rfl⟩
  refine ⟨rfl, ?_⟩
  rcases hx with ⟨a1, rfl, rfl⟩ | ⟨a1, rfl, rfl⟩
  · have hu : τ 1 32 = 0 := by omega
    rw [if_pos hu, if_pos hu]
    exact ⟨⟨1, rfl, rfl⟩, b_set (JJ_up hj (by omega)) (by rw [st2_ii (by decide)]; exact hu)⟩
  · have hu : ¬ τ 1 32 = 0 := by omega
    rw [if_neg hu, if_neg hu]
    exact ⟨⟨0, rfl, rfl⟩, inv_B h (by omega)⟩
theorem j_ck {B : Int} {n : Nat} {χ τ : Hp} (h : JJ 0 B n χ τ) (hc : cK τ 4 (τ 1 0) < 20) : JJ 0 B n (f_addCk χ) (m_ck0 (m_put τ 4 0 0) 6) ∧ τ 1 0 < 200 := by
  obtain ⟨hL, hP, hT, hB⟩ := h
  have hN := lg_room hL.2 ⟨hT.1.1, hT.1.2.1⟩ (Or.inr (Or.inl hc))
  have hk := r_ck hL hP hN hc
  have h14 := hL.2.2.2.2.2.2.2.2.2.2.2.1
  have hc0 := cK_le τ 4 hL.2.1.1
  have xo : ∀ a : Int, a ≠ 2 → (a < 3 ∨ 33 < a ∨ a = 11) → f_addCk χ a = χ a := fun a h2 ha => by
    unfold f_addCk
    have e : f_append χ 4 0 2 14 = χ 2 14 := f_append_b (by decide)
    show st2 (st2 (cp6 (f_append χ 4 0) 38 (14 + f_append χ 4 0 2 14)) 12 _ _) 2 14 _ a = χ a
    rw [st2_ne h2, st2_ne (by omega)]
    unfold cp6
    rw [e]
    funext b
    have : ¬ a = 14 + χ 2 14 := by omega
    simp only [this, false_and, if_false]
    rw [f_append_c h2 (by omega) (by omega) (by omega)]
  have x12 : f_addCk χ 2 12 = χ 2 12 := by
    unfold f_addCk
    show st2 (st2 (cp6 (f_append χ 4 0) 38 (14 + f_append χ 4 0 2 14)) 12 _ _) 2 14 _ 2 12 = χ 2 12
    rw [st2_ii (by decide), st2_ne (by decide)]
    unfold cp6
    have e : f_append χ 4 0 2 14 = χ 2 14 := f_append_b (by decide)
    rw [e]
    have : ¬ (2 : Int) = 14 + χ 2 14 := by omega
    simp only [this, false_and, if_false]
    rw [f_append_b (by decide)]
  have mo : ∀ a : Int, a ≠ 1 → a ≠ 2 → a ≠ 3 → a ≠ 4 → a ≠ 10 → m_ck0 (m_put τ 4 0 0) 6 a = τ a := fun a h1 h2 h3 h4 h10 => by rw [m_ck0_fr _ _ h10, m_put_c h1 h2 h3 h4]
  have m1 : ∀ b : Int, b ≠ 0 → m_ck0 (m_put τ 4 0 0) 6 1 b = τ 1 b := fun b hb => by rw [m_ck0_fr _ _ (by decide), m_put_b hb]
  have m0 : m_ck0 (m_put τ 4 0 0) 6 1 0 = τ 1 0 + 1 := by
    rw [m_ck0_fr _ _ (by decide)]
    unfold m_put
    simp [st2]
  refine ⟨⟨hk, ?_, ?_, ?_⟩, hN⟩
  · exact RPl_c hP (fun a a1 a2 => xo a (by omega) (by omega)) x12 (fun a a1 a2 => mo a (by omega) (by omega) (by omega) (by omega) (by omega)) (m1 1 (by decide)) (by rw [m1 19 (by decide)]; exact Int.le_refl _) (m1 20 (by decide)) (m1 21 (by decide)) (by rw [m0]; omega)
  · exact RTx_c hT (fun a a1 => xo a (by omega) (by omega)) (xo 1 (by decide) (by decide)) (xo 11 (by decide) (by decide)) (fun a a1 a2 => mo a (by omega) (by omega) (by omega) (by omega) (by omega)) (m1 22 (by decide)) (m1 32 (by decide)) (m1 33 (by decide)) (by rw [m1 19 (by decide)]; exact Int.le_refl _)
  · rw [m1 19 (by decide), m1 20 (by decide), m1 21 (by decide)]; exact hB
theorem b_checkpoint {B : Int} {n : Nat} {χ τ : Hp} (h : INV B n χ τ) (hb : B + 4000 < 2000000000) : Both B n χ τ y_X_checkpoint b_X_checkpoint 2 (some .int) 0 0 [.inr 1] y_M_checkpoint b_M_checkpoint 3 [.inr 1] := by
  have hf := inv_flag h.1.2.2.1
  have hN := h.1.1.2.1
  have h14 := h.1.1.2.2.2.2.2.2.2.2.2.2.2.1
  have hc0 := cK_le τ 4 hN.1
  have hco : m_countOf τ 4 = cK τ 4 (τ 1 0) := rfl
  have hiff : (¬ χ 1 8 = 0 ∧ χ 2 14 < 20) ↔ (τ 1 32 = 0 ∧ m_countOf τ 4 < 20) := by
    rw [hco, h14.1]
    constructor <;> rintro ⟨a1, a2⟩ <;> exact ⟨by omega, a2⟩
  refine ⟨7, 5, _, _, by omega, by omega, c_X_checkpoint (b_n h).1 (by rw [h.1.1.1]; exact hN.1) (by omega) (fun a => ?_) (fun a => ?_), c_M_checkpoint hN.1 (by omega) (fun _ a => ok_S (j_ck h.1 a).1 (by omega)), (by rintro r n' σ' ⟨_, ⟨_, rfl, _⟩ | ⟨_, rfl, _⟩⟩ <;> exact ⟨_, rfl⟩), ?_⟩
  · rw [h.1.1.1]; exact (j_ck h.1 (hiff.mp a).2).2
  · exact ok_XS (j_ck h.1 (hiff.mp a).2).1 (by omega)
  · rintro r n' χ' r' m' τ' ⟨rfl, hx⟩ ⟨rfl, rfl, rfl⟩
    refine ⟨rfl, ?_⟩
    rcases hx with ⟨a1, rfl, rfl⟩ | ⟨a1, rfl, rfl⟩
    · have hc := hiff.mp a1
      rw [if_pos hc, if_pos hc, h.1.1.1]
      refine ⟨⟨_, rfl, rfl⟩, b_set (JJ_up (j_ck h.1 hc.2).1 (by omega)) ?_⟩
      rw [m_ck0_fr _ _ (by decide), m_put_b (by decide)]; exact hc.1
    · have hc : ¬ (τ 1 32 = 0 ∧ m_countOf τ 4 < 20) := fun z => a1 (hiff.mpr z)
      rw [if_neg hc, if_neg hc]
      exact ⟨⟨-1, rfl, rfl⟩, inv_B h (by omega)⟩
theorem b_flush {B : Int} {n : Nat} {χ τ : Hp} (h : INV B n χ τ) (hb : B + 4000 < 2000000000) (p : Int) : Both B n χ τ y_X_flush b_X_flush 2 (some .boolean) 0 0 [.inr 1, .inl p] y_M_flush b_M_flush 2 [.inr 1, .inl p] := by
  have hf := inv_flag h.1.2.2.1
  have hio : ∀ (_ : 0 ≤ p ∧ p < 6), χ 38 p = τ 17 p ∧ (0 < τ 18 p ∨ (τ 18 p = 0 ∧ τ 17 p = 0)) := fun hp => by
    obtain ⟨⟨d1, -⟩, d⟩ := h.1.2.1.1 p hp.1 hp.2
    rcases d with ⟨-, e, -⟩ | ⟨-, e1, e2⟩
    · exact ⟨d1, Or.inl e⟩
    · exact ⟨d1, Or.inr ⟨e1, e2⟩⟩
  have hiff : (¬ χ 1 8 = 0 ∧ (0 ≤ p ∧ p < 6) ∧ ¬ χ 38 p = 0) ↔ (τ 1 32 = 0 ∧ 0 ≤ p ∧ p ≤ 5 ∧ ¬ τ 18 p = 0 ∧ ¬ τ 17 p = 0) := by
    constructor
    · rintro ⟨a1, a2, a3⟩
      have := hio a2
      exact ⟨by omega, a2.1, by omega, by omega, by omega⟩
    · rintro ⟨a1, a2, a3, a4, a5⟩
      have := hio ⟨a2, by omega⟩
      exact ⟨by omega, ⟨a2, by omega⟩, by omega⟩
  have hj : (τ 1 32 = 0 ∧ 0 ≤ p ∧ p ≤ 5 ∧ ¬ τ 18 p = 0 ∧ ¬ τ 17 p = 0) → JJ 0 (B + 1) n (f_writeOut χ p) (m_spill τ p) := fun ⟨_, a2, a3, a4, _⟩ => by
    have := hio ⟨a2, by omega⟩
    exact j_spill h.1 a2 (by omega) (by omega)
  refine ⟨7, 5, _, _, by omega, by omega, c_X_flush (b_n h).1 (jx_B h.1 (by omega)).1 (fun a => ok_XS (hj (hiff.mp a)) (by omega)), c_M_flush (jx_B h.1 (by omega)).2 (fun a => ok_S (hj a) (by omega)), (by rintro r n' σ' ⟨_, ⟨_, rfl, _⟩ | ⟨_, rfl, _⟩⟩ <;> exact ⟨_, rfl⟩), ?_⟩
  rintro r n' χ' r' m' τ' ⟨rfl, hx⟩ ⟨rfl, rfl, rfl⟩
  refine ⟨rfl, ?_⟩
  rcases hx with ⟨a1, rfl, rfl⟩ | ⟨a1, rfl, rfl⟩
  · have hc := hiff.mp a1
    rw [if_pos hc, if_pos hc]
    exact ⟨⟨1, rfl, rfl⟩, b_set (JJ_up (hj hc) (by omega)) (by rw [m_spill_1 _ _ (by decide) (by decide)]; exact hc.1)⟩
  · have hc : ¬ (τ 1 32 = 0 ∧ 0 ≤ p ∧ p ≤ 5 ∧ ¬ τ 18 p = 0 ∧ ¬ τ 17 p = 0) := fun z => a1 (hiff.mpr z)
    rw [if_neg hc, if_neg hc]
    exact ⟨⟨0, rfl, rfl⟩, inv_B h (by omega)⟩
