-- ===== who is next: the firm commit, the first request that fits =====
def lsC (χ τ : Hp) (u : Int) : Prop := 1 ≤ u ∧ u ≤ τ 1 22 ∧ τ 19 u = 3 ∧ χ 11 u ≤ τ 1 1
theorem f_lsc_spec {e : Int} {n : Nat} {χ τ : Hp} (h : RTx e n χ τ) (h12 : χ 2 12 = τ 1 1) : ∀ k : Nat, k ≤ 4 → (f_lsc χ k = 0 ∧ ∀ u : Int, lsC χ τ u → (k : Int) ≤ χ (85 + u) 1) ∨ ∃ u : Int, lsC χ τ u ∧ f_lsc χ k = 85 + u ∧ ∀ v : Int, lsC χ τ v → χ (85 + v) 1 < (k : Int) → χ 11 u ≤ χ 11 v
  | 0, _ => Or.inl ⟨rfl, fun u hu => (h.2.1 u hu.1 hu.2.1).2.2.1.1⟩
  | k + 1, hk => by
    have ih := f_lsc_spec h h12 k (by omega)
    unfold f_lsc
    rcases h.2.2.2.2.2.1 (k : Int) (by omega) (by omega) with ⟨a, -⟩ | ⟨w, w1, w2, w3, w4, w5, -⟩
    · rw [if_neg (fun z => z.1 a)]
      have hno : ∀ u : Int, lsC χ τ u → χ (85 + u) 1 ≠ (k : Int) := fun u hu z => by
        have := (r_seat h hu.1 hu.2.1 (by have := hu.2.2.1; omega)).1
        have := hu.1
        rw [z] at *; omega
      rcases ih with ⟨b1, b2⟩ | ⟨u, u1, u2, u3⟩
      · exact Or.inl ⟨b1, fun u hu => by have := b2 u hu; have := hno u hu; omega⟩
      · exact Or.inr ⟨u, u1, u2, fun v hv hlt => u3 v hv (by have := hno v hv; omega)⟩
    · obtain ⟨d1, d2, d3, d4, -⟩ := h.2.1 w w1 w2
      rw [w3, d2, d4, h12]
      have hun : ∀ u : Int, lsC χ τ u → χ (85 + u) 1 = (k : Int) → u = w := fun u hu z => by
        have := (r_seat h hu.1 hu.2.1 (by have := hu.2.2.1; omega)).1
        rw [z] at this; omega
      by_cases hw : τ 19 w = 3 ∧ χ 11 w ≤ τ 1 1
      · have hwC : lsC χ τ w := ⟨w1, w2, hw.1, hw.2⟩
        rcases ih with ⟨b1, b2⟩ | ⟨u, u1, u2, u3⟩
        · rw [b1, if_pos ⟨by omega, hw.1, hw.2, Or.inl rfl⟩]
          refine Or.inr ⟨w, hwC, rfl, fun v hv hlt => ?_⟩
          have := b2 v hv
          rw [hun v hv (by omega)]; exact Int.le_refl _
        · have hu0 := (h.2.1 u u1.1 u1.2.1).2.1
          rw [u2, hu0]
          by_cases hlt : χ 11 w < χ 11 u
          · rw [if_pos ⟨by omega, hw.1, hw.2, Or.inr hlt⟩]
            refine Or.inr ⟨w, hwC, rfl, fun v hv hv2 => ?_⟩
            by_cases hvk : χ (85 + v) 1 = (k : Int)
            · rw [hun v hv hvk]; exact Int.le_refl _
            · have := u3 v hv (by omega); omega
          · rw [if_neg (fun z => z.2.2.2.elim (fun y => by have := u1.1; omega) hlt)]
            refine Or.inr ⟨u, u1, rfl, fun v hv hv2 => ?_⟩
            by_cases hvk : χ (85 + v) 1 = (k : Int)
            · rw [hun v hv hvk]; omega
            · exact u3 v hv (by omega)
      · rw [if_neg (fun z => hw ⟨z.2.1, z.2.2.1⟩)]
        have hno : ∀ u : Int, lsC χ τ u → χ (85 + u) 1 ≠ (k : Int) := fun u hu z => by
          have := hun u hu z
          rw [this] at hu
          exact hw ⟨hu.2.2.1, hu.2.2.2⟩
        rcases ih with ⟨b1, b2⟩ | ⟨u, u1, u2, u3⟩
        · exact Or.inl ⟨b1, fun u hu => by have := b2 u hu; have := hno u hu; omega⟩
        · exact Or.inr ⟨u, u1, u2, fun v hv hlt => u3 v hv (by have := hno v hv; omega)⟩
theorem m_firm_spec {e B : Int} {n : Nat} {χ τ : Hp} (h : JJ e B n χ τ) : (m_firm τ = 0 ∧ ∀ u : Int, ¬ lsC χ τ u) ∨ (lsC χ τ (m_firm τ) ∧ ∀ v : Int, lsC χ τ v → χ 11 (m_firm τ) ≤ χ 11 v) := by
  obtain ⟨hL, hP, hT, hB⟩ := h
  obtain ⟨-, ⟨n0, n1⟩, l1, l2, l3, l4, l5, l6, l7, l8, -⟩ := hL
  have hs := hP.2.2.2.2
  have hsp := srch_spec (fun i => decide (τ 2 i = 3) && decide (τ 19 (τ 3 i) = 3)) (τ 1 1).toNat 1
  simp only [m_firm]
  generalize srch (fun i => decide (τ 2 i = 3) && decide (τ 19 (τ 3 i) = 3)) 1 (τ 1 1).toNat = i at hsp
  have hcand : ∀ u : Int, lsC χ τ u → 1 ≤ χ 11 u ∧ χ 11 u ≤ τ 1 1 ∧ (decide (τ 2 (χ 11 u) = 3) && decide (τ 19 (τ 3 (χ 11 u)) = 3)) = true := fun u hu => by
    have hz := (hT.2.2.2.2.2.2.2.2.2.2 u hu.1 hu.2.1).1 hu.2.2.1
    obtain ⟨c1, c2, c3, c4⟩ := (l8 u (by have := hu.1; omega) (by have := hu.2.1; have := hT.1.2.1; omega)).resolve_left hz
    refine ⟨c1, hu.2.2.2, ?_⟩
    rw [c4]; simp [c3, hu.2.2.1]
  rcases hsp with ⟨a1, a2⟩ | ⟨a1, a2, a3, a4⟩
  · rw [if_pos (by omega)]
    left
    refine ⟨rfl, fun u hu => ?_⟩
    obtain ⟨c1, c2, c3⟩ := hcand u hu
    rw [a2 _ c1 (by omega)] at c3; cases c3
  · rw [if_neg (by omega)]
    right
    simp only [Bool.and_eq_true, decide_eq_true_eq] at a3
    obtain ⟨g1, g2, g3⟩ := l7 i a1 (by omega) a3.1
    refine ⟨⟨g1, g2, a3.2, by rw [g3]; omega⟩, fun v hv => ?_⟩
    obtain ⟨c1, c2, c3⟩ := hcand v hv
    rw [g3]
    rcases Int.lt_or_le (χ 11 v) i with z | z
    · rw [a4 _ c1 z] at c3; cases c3
    · exact z
theorem r_firm {e B : Int} {n : Nat} {χ τ : Hp} (h : JJ e B n χ τ) : (f_lsc χ 4 = 0 ∧ m_firm τ = 0) ∨ (f_lsc χ 4 = 85 + m_firm τ ∧ 1 ≤ m_firm τ ∧ m_firm τ ≤ τ 1 22 ∧ τ 19 (m_firm τ) = 3) := by
  have h1 := f_lsc_spec h.2.2.1 h.2.1.2.2.2.2.1 4 (by omega)
  have h2 := m_firm_spec h
  rcases h2 with ⟨a1, a2⟩ | ⟨a1, a2⟩
  · rcases h1 with ⟨b1, b2⟩ | ⟨u, u1, -⟩
    · exact Or.inl ⟨b1, a1⟩
    · exact absurd u1 (a2 u)
  · have hsm := (r_seat h.2.2.1 a1.1 a1.2.1 (by have := a1.2.2.1; omega)).2.1
    rcases h1 with ⟨b1, b2⟩ | ⟨u, u1, u2, u3⟩
    · have := b2 _ a1; omega
    · have c1 := a2 u u1
      have c2 := u3 _ a1 (by omega)
      have hu := h.1.2.2.2.2.2.2.2.2.2.1 u (by have := u1.1; omega) (by have := u1.2.1; have := h.2.2.1.1.2.1; omega)
      have hv := h.1.2.2.2.2.2.2.2.2.2.1 (m_firm τ) (by have := a1.1; omega) (by have := a1.2.1; have := h.2.2.1.1.2.1; omega)
      have zu := (h.2.2.1.2.2.2.2.2.2.2.2.2.2 u u1.1 u1.2.1).1 u1.2.2.1
      have zv := (h.2.2.1.2.2.2.2.2.2.2.2.2.2 _ a1.1 a1.2.1).1 a1.2.2.1
      have eu := (hu.resolve_left zu).2.2.2
      have ev := (hv.resolve_left zv).2.2.2
      have e1 : χ 11 u = χ 11 (m_firm τ) := by omega
      rw [e1, ev] at eu
      right
      rw [u2, eu]
      exact ⟨rfl, u1.1, u1.2.1, u1.2.2.1⟩
def ffC (τ : Hp) (u : Int) : Prop := 1 ≤ u ∧ u ≤ τ 1 22 ∧ τ 19 u = 2 ∧ m_fit τ u = true
theorem f_ffw_spec {e : Int} {n : Nat} {χ τ : Hp} (h : RTx e n χ τ) : ∀ k : Nat, k ≤ 4 → (f_ffw χ k = 0 ∧ ∀ u : Int, ffC τ u → (k : Int) ≤ χ (85 + u) 1) ∨ ∃ u : Int, ffC τ u ∧ f_ffw χ k = 85 + u ∧ ∀ v : Int, ffC τ v → χ (85 + v) 1 < (k : Int) → χ (85 + u) 5 ≤ χ (85 + v) 5
  | 0, _ => Or.inl ⟨rfl, fun u hu => (h.2.1 u hu.1 hu.2.1).2.2.1.1⟩
  | k + 1, hk => by
    have ih := f_ffw_spec h k (by omega)
    unfold f_ffw
    rcases h.2.2.2.2.2.1 (k : Int) (by omega) (by omega) with ⟨a, -⟩ | ⟨w, w1, w2, w3, w4, w5, -⟩
    · rw [if_neg (fun z => z.1 a)]
      have hno : ∀ u : Int, ffC τ u → χ (85 + u) 1 ≠ (k : Int) := fun u hu z => by
        have := (r_seat h hu.1 hu.2.1 (by have := hu.2.2.1; omega)).1
        have := hu.1
        rw [z] at *; omega
      rcases ih with ⟨b1, b2⟩ | ⟨u, u1, u2, u3⟩
      · exact Or.inl ⟨b1, fun u hu => by have := b2 u hu; have := hno u hu; omega⟩
      · exact Or.inr ⟨u, u1, u2, fun v hv hlt => u3 v hv (by have := hno v hv; omega)⟩
    · obtain ⟨d1, d2, d3, d4, -⟩ := h.2.1 w w1 w2
      rw [w3, d4, r_fit h w1 w2 w5]
      have hun : ∀ u : Int, ffC τ u → χ (85 + u) 1 = (k : Int) → u = w := fun u hu z => by
        have := (r_seat h hu.1 hu.2.1 (by have := hu.2.2.1; omega)).1
        rw [z] at this; omega
      by_cases hw : τ 19 w = 2 ∧ m_fit τ w = true
      · have hwC : ffC τ w := ⟨w1, w2, hw.1, hw.2⟩
        rcases ih with ⟨b1, b2⟩ | ⟨u, u1, u2, u3⟩
        · rw [b1, if_pos ⟨by omega, hw.1, Or.inl rfl, hw.2⟩]
          refine Or.inr ⟨w, hwC, rfl, fun v hv hlt => ?_⟩
          have := b2 v hv
          rw [hun v hv (by omega)]; exact Int.le_refl _
        · rw [u2]
          by_cases hlt : χ (85 + w) 5 < χ (85 + u) 5
          · rw [if_pos ⟨by omega, hw.1, Or.inr hlt, hw.2⟩]
            refine Or.inr ⟨w, hwC, rfl, fun v hv hv2 => ?_⟩
            by_cases hvk : χ (85 + v) 1 = (k : Int)
            · rw [hun v hv hvk]; exact Int.le_refl _
            · have := u3 v hv (by omega); omega
          · rw [if_neg (fun z => z.2.2.1.elim (fun y => by have := u1.1; omega) hlt)]
            refine Or.inr ⟨u, u1, rfl, fun v hv hv2 => ?_⟩
            by_cases hvk : χ (85 + v) 1 = (k : Int)
            · rw [hun v hv hvk]; omega
            · exact u3 v hv (by omega)
      · rw [if_neg (fun z => hw ⟨z.2.1, z.2.2.2⟩)]
        have hno : ∀ u : Int, ffC τ u → χ (85 + u) 1 ≠ (k : Int) := fun u hu z => by
          have := hun u hu z
          rw [this] at hu
          exact hw ⟨hu.2.2.1, hu.2.2.2⟩
        rcases ih with ⟨b1, b2⟩ | ⟨u, u1, u2, u3⟩
        · exact Or.inl ⟨b1, fun u hu => by have := b2 u hu; have := hno u hu; omega⟩
        · exact Or.inr ⟨u, u1, u2, fun v hv hlt => u3 v hv (by have := hno v hv; omega)⟩
theorem m_ff_spec (τ : Hp) : ∀ k : Nat, (k : Int) ≤ τ 1 22 → (m_ff τ k = 0 ∧ ∀ u : Int, ffC τ u → (k : Int) < u) ∨ (ffC τ (m_ff τ k) ∧ ∀ v : Int, ffC τ v → v ≤ (k : Int) → τ 25 (m_ff τ k) ≤ τ 25 v)
  | 0, _ => Or.inl ⟨rfl, fun u hu => by have := hu.1; omega⟩
  | k + 1, hk => by
    have ih := m_ff_spec τ k (by omega)
    unfold m_ff
    by_cases hw : τ 19 ((k : Int) + 1) = 2 ∧ m_fit τ ((k : Int) + 1) = true
    · have hwC : ffC τ ((k : Int) + 1) := ⟨by omega, by omega, hw.1, hw.2⟩
      rcases ih with ⟨b1, b2⟩ | ⟨b1, b2⟩
      · rw [b1, if_pos ⟨hw.1, Or.inl rfl, hw.2⟩]
        refine Or.inr ⟨hwC, fun v hv hlt => ?_⟩
        have := b2 v hv
        rw [show v = (k : Int) + 1 by omega]; exact Int.le_refl _
      · by_cases hlt : τ 25 ((k : Int) + 1) < τ 25 (m_ff τ k)
        · rw [if_pos ⟨hw.1, Or.inr hlt, hw.2⟩]
          refine Or.inr ⟨hwC, fun v hv hv2 => ?_⟩
          by_cases hvk : v = (k : Int) + 1
          · rw [hvk]; exact Int.le_refl _
          · have := b2 v hv (by omega); omega
        · rw [if_neg (fun z => z.2.1.elim (fun y => by have := b1.1; omega) hlt)]
          refine Or.inr ⟨b1, fun v hv hv2 => ?_⟩
          by_cases hvk : v = (k : Int) + 1
          · rw [hvk]; omega
          · exact b2 v hv (by omega)
    · rw [if_neg (fun z => hw ⟨z.1, z.2.2⟩)]
      have hno : ∀ u : Int, ffC τ u → u ≠ (k : Int) + 1 := fun u hu z => by
        rw [z] at hu; exact hw ⟨hu.2.2.1, hu.2.2.2⟩
      rcases ih with ⟨b1, b2⟩ | ⟨b1, b2⟩
      · exact Or.inl ⟨b1, fun u hu => by have := b2 u hu; have := hno u hu; omega⟩
      · exact Or.inr ⟨b1, fun v hv hlt => b2 v hv (by have := hno v hv; omega)⟩
theorem r_ff {e : Int} {n : Nat} {χ τ : Hp} (h : RTx e n χ τ) : (f_ffw χ 4 = 0 ∧ m_firstFit τ = 0) ∨ (f_ffw χ 4 = 85 + m_firstFit τ ∧ ffC τ (m_firstFit τ)) := by
  have h1 := f_ffw_spec h 4 (by omega)
  have h2 := m_ff_spec τ (τ 1 22).toNat (by have := h.1.1; omega)
  have e0 : m_ff τ (τ 1 22).toNat = m_firstFit τ := rfl
  rw [e0] at h2
  rcases h2 with ⟨a1, a2⟩ | ⟨a1, a2⟩
  · rcases h1 with ⟨b1, b2⟩ | ⟨u, u1, -⟩
    · exact Or.inl ⟨b1, a1⟩
    · have := a2 u u1; have := u1.2.1; have := h.1.1; omega
  · have hsm := (r_seat h a1.1 a1.2.1 (by have := a1.2.2.1; omega)).2.1
    rcases h1 with ⟨b1, b2⟩ | ⟨u, u1, u2, u3⟩
    · have := b2 _ a1; omega
    · have c1 := a2 u u1 (by have := u1.2.1; have := h.1.1; omega)
      have c2 := u3 _ a1 (by omega)
      have hi := h.2.2.2.2.1 (m_firstFit τ) u a1.1 a1.2.1 u1.1 u1.2.1
      have hp := ((h.2.1 _ a1.1 a1.2.1).2.2.2.2.2.2.2.2.2.2.2.2.2 a1.2.2.1).1
      have e1 : τ 25 (m_firstFit τ) = τ 25 u := by
        rcases Int.lt_or_eq_of_le c1 with z | z
        · have := hi.1.mpr z; omega
        · exact z
      have := hi.2 hp e1
      right
      rw [u2, ← this]
      exact ⟨rfl, a1⟩
