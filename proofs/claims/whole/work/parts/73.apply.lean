-- ===== the pool: applying a record =====
theorem f_apply_fr {χ : Hp} {r a : Int} (h0 : 0 ≤ χ 5 r) (h1 : a ≠ 38) (h2 : a ≠ 43 + 6 * (χ 5 r / 4)) (h3 : a ≠ 43 + 6 * (χ 5 r / 4) + 1) (h4 : a ≠ 43 + 6 * (χ 5 r / 4) + 2) : f_apply χ r a = χ a := by
  simp only [f_apply]
  split
  · rw [st2_ne h1, st2_ne h2, st2_ne h4, st2_ne h3]
  · rw [st2_ne h2, st2_ne h4, st2_ne h3]
theorem f_apply_38 {χ : Hp} {r q : Int} (h0 : 0 ≤ χ 5 r) : f_apply χ r 38 q = if q = χ 5 r / 4 ∧ χ 38 q = 0 then r else χ 38 q := by
  simp only [f_apply]
  rw [st2_ne (by omega : (38 : Int) ≠ 43 + 6 * (χ 5 r / 4)), st2_ne (by omega : (38 : Int) ≠ 43 + 6 * (χ 5 r / 4) + 2), st2_ne (by omega : (38 : Int) ≠ 43 + 6 * (χ 5 r / 4) + 1)]
  by_cases hz : χ 38 (χ 5 r / 4) = 0
  · rw [if_pos hz, st2_at]
    by_cases hq : q = χ 5 r / 4
    · rw [if_pos hq, if_pos ⟨hq, by rw [hq]; exact hz⟩]
    · rw [if_neg hq, if_neg (fun h => hq h.1), st2_ne (by omega : (38 : Int) ≠ 43 + 6 * (χ 5 r / 4)), st2_ne (by omega : (38 : Int) ≠ 43 + 6 * (χ 5 r / 4) + 2), st2_ne (by omega : (38 : Int) ≠ 43 + 6 * (χ 5 r / 4) + 1)]
  · rw [if_neg hz, st2_ne (by omega : (38 : Int) ≠ 43 + 6 * (χ 5 r / 4)), st2_ne (by omega : (38 : Int) ≠ 43 + 6 * (χ 5 r / 4) + 2), st2_ne (by omega : (38 : Int) ≠ 43 + 6 * (χ 5 r / 4) + 1), if_neg (fun h => hz (by rw [← h.1]; exact h.2))]
theorem f_apply_pg {χ : Hp} {r s : Int} (h0 : 0 ≤ χ 5 r) : f_apply χ r (43 + 6 * (χ 5 r / 4)) 2 = r ∧ f_apply χ r (43 + 6 * (χ 5 r / 4) + 1) s = (if s = χ 5 r % 4 then χ 8 r else χ (43 + 6 * (χ 5 r / 4) + 1) s) ∧ f_apply χ r (43 + 6 * (χ 5 r / 4) + 2) s = (if s = χ 5 r % 4 then χ 9 r else χ (43 + 6 * (χ 5 r / 4) + 2) s) := by
  have e9 : st2 χ (43 + 6 * (χ 5 r / 4) + 1) (χ 5 r % 4) (χ 8 r) 9 r = χ 9 r := by rw [st2_ne (by omega)]
  have key : ∀ ρ : Hp, ρ = st2 (st2 (st2 χ (43 + 6 * (χ 5 r / 4) + 1) (χ 5 r % 4) (χ 8 r)) (43 + 6 * (χ 5 r / 4) + 2) (χ 5 r % 4) (χ 9 r)) (43 + 6 * (χ 5 r / 4)) 2 r → ρ (43 + 6 * (χ 5 r / 4)) 2 = r ∧ ρ (43 + 6 * (χ 5 r / 4) + 1) s = (if s = χ 5 r % 4 then χ 8 r else χ (43 + 6 * (χ 5 r / 4) + 1) s) ∧ ρ (43 + 6 * (χ 5 r / 4) + 2) s = (if s = χ 5 r % 4 then χ 9 r else χ (43 + 6 * (χ 5 r / 4) + 2) s) := by
    rintro ρ rfl
    refine ⟨st2_eq, ?_, ?_⟩
    · rw [st2_ne (by omega), st2_ne (by omega), st2_at]
    · rw [st2_ne (by omega), st2_at, st2_ne (by omega)]
  simp only [f_apply]
  rw [e9]
  split
  · rw [st2_ne (by omega : 43 + 6 * (χ 5 r / 4) ≠ 38), st2_ne (by omega : 43 + 6 * (χ 5 r / 4) + 1 ≠ 38), st2_ne (by omega : 43 + 6 * (χ 5 r / 4) + 2 ≠ 38)]
    exact key _ rfl
  · exact key _ rfl
theorem m_apply_fr {τ : Hp} {r a : Int} (h1 : a ≠ 14) (h2 : a ≠ 15) (h3 : a ≠ 16) (h4 : a ≠ 17) : m_apply τ r a = τ a := by
  simp only [m_apply]
  rw [st2_ne h4, st2_ne h3, st2_ne h2, st2_ne h1]
theorem m_apply_p {τ : Hp} {r q : Int} : m_apply τ r 14 q = (if q = τ 4 r then τ 7 r else τ 14 q) ∧ m_apply τ r 15 q = (if q = τ 4 r then τ 8 r else τ 15 q) ∧ m_apply τ r 16 q = (if q = τ 4 r / 4 then r else τ 16 q) ∧ m_apply τ r 17 q = (if q = τ 4 r / 4 ∧ τ 17 q = 0 then r else τ 17 q) := by
  refine ⟨?_, ?_, ?_, ?_⟩
  · simp [m_apply, st2]
  · simp [m_apply, st2]
  · simp [m_apply, st2]
  · simp only [m_apply]
    rw [st2_at, st2_ne (by decide : (17 : Int) ≠ 16), st2_ne (by decide : (17 : Int) ≠ 15), st2_ne (by decide : (17 : Int) ≠ 14)]
    by_cases hq : q = τ 4 r / 4
    · subst hq
      simp
    · simp [hq]
theorem r_apply {χ τ : Hp} (h : RPl χ τ) {r : Int} (r0 : 1 ≤ r) (r1 : r ≤ τ 1 0) (e5 : χ 5 r = τ 4 r) (e8 : χ 8 r = τ 7 r) (e9 : χ 9 r = τ 8 r) (x0 : 0 ≤ τ 4 r) (x1 : τ 4 r < 24) (k0 : -1 ≤ τ 7 r) (k1 : τ 7 r ≤ 99) (hin : 0 < τ 18 (τ 4 r / 4)) : RPl (f_apply χ r) (m_apply τ r) := by
  obtain ⟨h1, h2, h3, h4, h5⟩ := h
  have y0 : 0 ≤ χ 5 r := by omega
  have m18 : m_apply τ r 18 = τ 18 := m_apply_fr (by decide) (by decide) (by decide) (by decide)
  have m1 : m_apply τ r 1 = τ 1 := m_apply_fr (by decide) (by decide) (by decide) (by decide)
  have m11 : m_apply τ r 11 = τ 11 := m_apply_fr (by decide) (by decide) (by decide) (by decide)
  have m12 : m_apply τ r 12 = τ 12 := m_apply_fr (by decide) (by decide) (by decide) (by decide)
  have m13 : m_apply τ r 13 = τ 13 := m_apply_fr (by decide) (by decide) (by decide) (by decide)
  have x37 : f_apply χ r 37 = χ 37 := f_apply_fr y0 (by omega) (by omega) (by omega) (by omega)
  have x39 : f_apply χ r 39 = χ 39 := f_apply_fr y0 (by omega) (by omega) (by omega) (by omega)
  have x34 : f_apply χ r 34 = χ 34 := f_apply_fr y0 (by omega) (by omega) (by omega) (by omega)
  have x2 : f_apply χ r 2 = χ 2 := f_apply_fr y0 (by omega) (by omega) (by omega) (by omega)
  refine ⟨fun q a1 a2 => ?_, ?_, ?_, ?_, ?_⟩
  · obtain ⟨⟨d1, d2, d3, d4, d5⟩, hiq⟩ := h1 q a1 a2
    have e17 := (m_apply_p (τ := τ) (r := r) (q := q)).2.2.2
    have e38 := f_apply_38 (χ := χ) (r := r) (q := q) y0
    rw [e5] at e38
    refine ⟨?_, ?_⟩
    · unfold dkP
      rw [e38, e17, m1, m11, m12, m13, f_apply_fr (a := 40 + 6 * q) y0 (by omega) (by omega) (by omega) (by omega), f_apply_fr (a := 40 + 6 * q + 1) y0 (by omega) (by omega) (by omega) (by omega), f_apply_fr (a := 40 + 6 * q + 2) y0 (by omega) (by omega) (by omega) (by omega), d1]
      refine ⟨rfl, ?_, d3, d4, d5⟩
      split <;> omega
    · by_cases hq : q = τ 4 r / 4
      · left
        have hiq := hiq.resolve_right (fun z => by have := z.2.1; rw [← hq] at hin; omega)
        obtain ⟨c1, c2, c3, c4, c5, c6, c7⟩ := hiq
        have hq5 : χ 5 r / 4 = q := by rw [e5, hq]
        unfold inP
        rw [x37, x39, x34, m18, m1, (m_apply_p (τ := τ) (r := r) (q := q)).2.2.1, if_pos hq]
        have pg := fun s => f_apply_pg (χ := χ) (r := r) (s := s) y0
        rw [hq5] at pg
        refine ⟨c1, c2, c3, c4, (pg 0).1, ⟨by omega, r1⟩, fun s b1 b2 => ?_⟩
        rw [(pg s).2.1, (pg s).2.2, (m_apply_p (τ := τ) (r := r) (q := 4 * q + s)).1, (m_apply_p (τ := τ) (r := r) (q := 4 * q + s)).2.1, e5, e8, e9]
        by_cases hs : s = τ 4 r % 4
        · rw [if_pos hs, if_pos hs, if_pos (by omega), if_pos (by omega)]
          exact ⟨rfl, rfl, k0, k1⟩
        · rw [if_neg hs, if_neg hs, if_neg (by omega), if_neg (by omega)]
          exact c7 s b1 b2
      · unfold inP outP
        rw [x37, x39, x34, m18, m1, (m_apply_p (τ := τ) (r := r) (q := q)).2.2.1, if_neg hq, e17, if_neg (fun z => hq z.1), f_apply_fr (a := 43 + 6 * q) y0 (by omega) (by omega) (by omega) (by omega), f_apply_fr (a := 43 + 6 * q + 1) y0 (by omega) (by omega) (by omega) (by omega), f_apply_fr (a := 43 + 6 * q + 2) y0 (by omega) (by omega) (by omega) (by omega)]
        rcases hiq with ⟨c1, c2, c3, c4, c5, c6, c7⟩ | hiq
        · refine Or.inl ⟨c1, c2, c3, c4, c5, c6, fun s b1 b2 => ?_⟩
          rw [(m_apply_p (τ := τ) (r := r) (q := 4 * q + s)).1, (m_apply_p (τ := τ) (r := r) (q := 4 * q + s)).2.1, if_neg (by omega), if_neg (by omega)]
          exact c7 s b1 b2
        · exact Or.inr hiq
  · unfold isoP; rw [x39, m18]; exact h2
  · unfold nIn; rw [m18]; exact h3
  · rw [x34, m1]; exact h4
  · rw [x2, m1]; exact h5
