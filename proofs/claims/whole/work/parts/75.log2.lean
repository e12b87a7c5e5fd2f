-- ===== the log: room, what is open =====
theorem lg_four {N : Int} {χ τ : Hp} (h : RLg N χ τ) : N = cK τ 1 N + cK τ 2 N + cK τ 3 N + cK τ 4 N := by
  have h4 := cntU_four (f := τ 2) N.toNat (fun i a b => (h.2.2.1 i a (by omega)).1)
  unfold cK
  have := h.1.1
  omega
theorem lg_12 {N : Int} {χ τ : Hp} (h : RLg N χ τ) : cK τ 2 N ≤ cK τ 1 N := by
  obtain ⟨⟨n0, n1⟩, l1, l2, l3, l4, l5, l6, l7, l8, l9, l10, l11⟩ := h
  refine cntU_inj (τ 9) (N := N.toNat) N.toNat _ _ (fun i a b c => ?_) (fun i j a1 a2 b1 b2 c1 c2 e => ?_)
  · obtain ⟨e1, e2, e3, e4, e5⟩ := l5 i a (by omega) (by simpa using c)
    exact ⟨e2, by omega, by simpa using e4⟩
  · obtain ⟨e1, e2, e3, e4, e5⟩ := l5 i a1 (by omega) (by simpa using c1)
    obtain ⟨g1, g2, g3, g4, g5⟩ := l5 j b1 (by omega) (by simpa using c2)
    rw [e] at e5; omega
theorem lg_12u {N u : Int} {χ τ : Hp} (h : RLg N χ τ) (u1 : 1 ≤ u) (u2 : u ≤ N) (u3 : τ 2 u = 1) (u4 : χ 10 u = 0) : cK τ 2 N ≤ cK τ 1 N - 1 := by
  obtain ⟨⟨n0, n1⟩, l1, l2, l3, l4, l5, l6, l7, l8, l9, l10, l11⟩ := h
  have hr := cntU_rm (q := fun i => decide (τ 2 i = 1)) (q' := fun i => decide (τ 2 i = 1) && !decide (i = u)) (t := u) (by simpa using u3) (by simp) (fun i hne => by simp [hne]) u1 N.toNat (by omega)
  have h2 := cntU_inj (τ 9) (N := N.toNat) N.toNat (fun i => decide (τ 2 i = 2)) (fun i => decide (τ 2 i = 1) && !decide (i = u)) (fun i a b c => ?_) (fun i j a1 a2 b1 b2 c1 c2 e => ?_)
  · unfold cK; omega
  · obtain ⟨e1, e2, e3, e4, e5⟩ := l5 i a (by omega) (by simpa using c)
    refine ⟨e2, by omega, ?_⟩
    have hne : ¬ τ 9 i = u := fun e => by rw [e] at e5; omega
    simp [e4, hne]
  · obtain ⟨e1, e2, e3, e4, e5⟩ := l5 i a1 (by omega) (by simpa using c1)
    obtain ⟨g1, g2, g3, g4, g5⟩ := l5 j b1 (by omega) (by simpa using c2)
    rw [e] at e5; omega
theorem lg_3 {N : Int} {χ τ : Hp} (h : RLg N χ τ) (hb : 0 ≤ τ 1 22) : cK τ 3 N ≤ τ 1 22 := by
  obtain ⟨⟨n0, n1⟩, l1, l2, l3, l4, l5, l6, l7, l8, l9, l10, l11⟩ := h
  have h2 := cntU_inj (τ 3) (N := (τ 1 22).toNat) N.toNat (fun i => decide (τ 2 i = 3)) (fun _ => true) (fun i a b c => ?_) (fun i j a1 a2 b1 b2 c1 c2 e => ?_)
  · have := (cntU_le (fun _ => true) (τ 1 22).toNat).2
    unfold cK; omega
  · obtain ⟨e1, e2, e3⟩ := l7 i a (by omega) (by simpa using c)
    exact ⟨e1, by omega, rfl⟩
  · obtain ⟨e1, e2, e3⟩ := l7 i a1 (by omega) (by simpa using c1)
    obtain ⟨g1, g2, g3⟩ := l7 j b1 (by omega) (by simpa using c2)
    rw [e] at e3; omega
theorem lg_3t {N t : Int} {χ τ : Hp} (h : RLg N χ τ) (t1 : 1 ≤ t) (t2 : t ≤ τ 1 22) (t3 : χ 11 t = 0) : cK τ 3 N ≤ τ 1 22 - 1 := by
  obtain ⟨⟨n0, n1⟩, l1, l2, l3, l4, l5, l6, l7, l8, l9, l10, l11⟩ := h
  have hr := cntU_rm (q := fun _ => true) (q' := fun i => !decide (i = t)) (t := t) rfl (by simp) (fun i hne => by simp [hne]) t1 (τ 1 22).toNat (by omega)
  have h2 := cntU_inj (τ 3) (N := (τ 1 22).toNat) N.toNat (fun i => decide (τ 2 i = 3)) (fun i => !decide (i = t)) (fun i a b c => ?_) (fun i j a1 a2 b1 b2 c1 c2 e => ?_)
  · have := (cntU_le (fun _ => true) (τ 1 22).toNat).2
    unfold cK; omega
  · obtain ⟨e1, e2, e3⟩ := l7 i a (by omega) (by simpa using c)
    have hne : ¬ τ 3 i = t := fun e => by rw [e] at e3; omega
    exact ⟨e1, by omega, by simp [hne]⟩
  · obtain ⟨e1, e2, e3⟩ := l7 i a1 (by omega) (by simpa using c1)
    obtain ⟨g1, g2, g3⟩ := l7 j b1 (by omega) (by simpa using c2)
    rw [e] at e3; omega
theorem lg_room {N : Int} {χ τ : Hp} (h : RLg N χ τ) (hb : 0 ≤ τ 1 22 ∧ τ 1 22 ≤ 60) (hc : cK τ 1 N < 60 ∨ cK τ 4 N < 20 ∨ (∃ t, 1 ≤ t ∧ t ≤ τ 1 22 ∧ χ 11 t = 0) ∨ (∃ u, 1 ≤ u ∧ u ≤ N ∧ τ 2 u = 1 ∧ χ 10 u = 0)) : N < 200 := by
  have h4 := lg_four h
  have h12 := lg_12 h
  have h3 := lg_3 h hb.1
  have k1 := h.2.2.2.2.2.2.2.2.2.1.2
  have k4 := h.2.2.2.2.2.2.2.2.2.2.1.2
  rcases hc with c | c | ⟨t, t1, t2, t3⟩ | ⟨u, u1, u2, u3, u4⟩
  · omega
  · omega
  · have := lg_3t h t1 t2 t3; omega
  · have := lg_12u h u1 u2 u3 u4; omega
theorem r_comm {χ τ : Hp} (h : RLog χ τ) {t : Int} (t0 : 0 ≤ t) (t1 : t ≤ 60) : m_committed τ t = true ↔ ¬ χ 11 t = 0 := by
  obtain ⟨z, ⟨n0, n1⟩, l1, l2, l3, l4, l5, l6, l7, l8, l9, l10, l11⟩ := h
  unfold m_committed
  rw [anyU_iff]
  constructor
  · rintro ⟨y, y1, y2, y3⟩
    simp only [Bool.and_eq_true, decide_eq_true_eq] at y3
    obtain ⟨e1, e2, e3⟩ := l7 y y1 (by omega) y3.1
    rw [y3.2] at e3; omega
  · intro hc
    obtain ⟨e1, e2, e3, e4⟩ := (l8 t t0 t1).resolve_left hc
    exact ⟨χ 11 t, e1, by omega, by simp [e3, e4]⟩
theorem r_taken {χ τ : Hp} (h : RLog χ τ) {i : Int} (i1 : 1 ≤ i) (i2 : i ≤ τ 1 0) (hk : τ 2 i = 1) : m_taken τ i = true ↔ ¬ χ 10 i = 0 := by
  obtain ⟨z, ⟨n0, n1⟩, l1, l2, l3, l4, l5, l6, l7, l8, l9, l10, l11⟩ := h
  unfold m_taken
  rw [anyU_iff]
  constructor
  · rintro ⟨y, y1, y2, y3⟩
    simp only [Bool.and_eq_true, decide_eq_true_eq] at y3
    obtain ⟨e1, e2, e3, e4, e5⟩ := l5 y (by omega) (by omega) y3.1
    rw [y3.2] at e5; omega
  · intro hc
    obtain ⟨e1, e2, e3, e4⟩ := (l6 i i1 i2 hk).resolve_left hc
    exact ⟨χ 10 i, by omega, by omega, by simp [e3, e4]⟩
theorem bool_iff {a b : Bool} (h : a = true ↔ b = true) : a = b := by
  cases a <;> cases b <;> simp at h ⊢
theorem r_good {χ τ : Hp} (h : RLog χ τ) {t i : Int} (i1 : 1 ≤ i) (i2 : i ≤ τ 1 0) : m_good τ t i = true ↔ (t = 0 ∨ τ 3 i = t) ∧ f_isOpen χ i = true := by
  have hc := r_comm h (t := τ 3 i) (h.2.2.1 i (by omega)).2.2.2.1 (h.2.2.1 i (by omega)).2.2.2.2
  have hL := h.2.2.2.1 i i1 i2
  unfold m_good f_isOpen
  rw [hL.2.1, hL.2.2.1]
  simp only [Bool.and_eq_true, Bool.or_eq_true, decide_eq_true_eq, Bool.not_eq_true']
  constructor
  · rintro ⟨⟨⟨a1, a2⟩, a3⟩, a4⟩
    have hT := r_taken h i1 i2 a1
    refine ⟨a2, ⟨a1, ?_⟩, ?_⟩
    · by_cases e : χ 10 i = 0
      · exact e
      · rw [hT.mpr e] at a4; cases a4
    · by_cases e : χ 11 (τ 3 i) = 0
      · exact e
      · rw [hc.mpr e] at a3; cases a3
  · rintro ⟨a2, ⟨a1, a4⟩, a3⟩
    have hT := r_taken h i1 i2 a1
    refine ⟨⟨⟨a1, a2⟩, ?_⟩, ?_⟩
    · cases hm : m_committed τ (τ 3 i) with
      | false => rfl
      | true => exact absurd a3 (hc.mp hm)
    · cases hm : m_taken τ i with
      | false => rfl
      | true => exact absurd a4 (hT.mp hm)
theorem r_gOpen {χ τ : Hp} (h : RLog χ τ) : f_gOpen χ = m_open τ 0 := by
  have n0 := h.2.1.1
  unfold f_gOpen m_open
  rw [h.1]
  refine srchD_congr _ (fun y y1 y2 => bool_iff ?_)
  rw [r_good h y1 (by omega)]
  simp
