-- ===== small facts of the reference's functions =====
theorem m_cp_0 (τ : Hp) (f t g : Int) : m_cp τ f t g (4 * g) = τ := by
  funext a b
  have : ¬ (4 * g ≤ b ∧ b < 4 * g) := by omega
  simp only [m_cp, if_neg this]
theorem cpD_step {τ : Hp} {g x : Int} (hx : 4 * g ≤ x) : st2 (st2 (m_cp τ 14 11 g x) 11 x (m_cp τ 14 11 g x 14 x)) 12 x (st2 (m_cp τ 14 11 g x) 11 x (m_cp τ 14 11 g x 14 x) 15 x) = m_cp τ 14 11 g (x + 1) := by
  funext a b
  simp only [st2, m_cp]
  grind
theorem cpP_step {τ : Hp} {g x : Int} (hx : 4 * g ≤ x) : st2 (st2 (m_cp τ 11 14 g x) 14 x (m_cp τ 11 14 g x 11 x)) 15 x (st2 (m_cp τ 11 14 g x) 14 x (m_cp τ 11 14 g x 11 x) 12 x) = m_cp τ 11 14 g (x + 1) := by
  funext a b
  simp only [st2, m_cp]
  grind
theorem m_cp_1 {τ : Hp} {f t g x i : Int} (h : t = 11 ∨ t = 14) : m_cp τ f t g x 1 i = τ 1 i := by
  rcases h with rfl | rfl <;> simp [m_cp]
theorem m_scan_spec (τ : Hp) : ∀ k : Nat, 0 ≤ (m_scan τ k).1 ∧ (m_scan τ k).1 ≤ (k : Int) ∧ (((m_scan τ k).1 = 0 ∧ (m_scan τ k).2 = -1 ∧ ∀ q : Int, 0 ≤ q → q < (k : Int) → τ 18 q ≤ 0) ∨ (0 < (m_scan τ k).1 ∧ 0 ≤ (m_scan τ k).2 ∧ (m_scan τ k).2 < (k : Int) ∧ 0 < τ 18 (m_scan τ k).2 ∧ ∀ q : Int, 0 ≤ q → q < (k : Int) → 0 < τ 18 q → τ 18 (m_scan τ k).2 ≤ τ 18 q))
  | 0 => ⟨Int.le_refl 0, Int.le_refl 0, Or.inl ⟨rfl, rfl, fun q h1 h2 => by omega⟩⟩
  | k + 1 => by
    obtain ⟨h1, h2, h3⟩ := m_scan_spec τ k
    have e : m_scan τ (k + 1) = ((m_scan τ k).1 + (if 0 < τ 18 (k : Int) then 1 else 0), if 0 < τ 18 (k : Int) ∧ ((m_scan τ k).2 < 0 ∨ τ 18 (k : Int) < τ 18 (m_scan τ k).2) then (k : Int) else (m_scan τ k).2) := rfl
    rw [e]
    generalize hc : (m_scan τ k).1 = c at *
    generalize ho : (m_scan τ k).2 = o at *
    dsimp only
    by_cases hk : 0 < τ 18 (k : Int)
    · rw [if_pos hk]
      refine ⟨by omega, by omega, Or.inr ⟨by omega, ?_⟩⟩
      by_cases hp : o < 0 ∨ τ 18 (k : Int) < τ 18 o
      · rw [if_pos ⟨hk, hp⟩]
        refine ⟨by omega, by omega, hk, fun q q1 q2 q3 => ?_⟩
        by_cases hq : q = (k : Int)
        · rw [hq]; exact Int.le_refl _
        · rcases h3 with ⟨a1, a2, a3⟩ | ⟨a1, a2, a3, a4, a5⟩
          · have := a3 q q1 (by omega); omega
          · have := a5 q q1 (by omega) q3; omega
      · rw [if_neg (fun h => hp h.2)]
        rcases h3 with ⟨a1, a2, a3⟩ | ⟨a1, a2, a3, a4, a5⟩
        · exact absurd (Or.inl (by omega)) hp
        · refine ⟨a2, by omega, a4, fun q q1 q2 q3 => ?_⟩
          by_cases hq : q = (k : Int)
          · rw [hq]; have : ¬ τ 18 (k : Int) < τ 18 o := fun h => hp (Or.inr h); omega
          · exact a5 q q1 (by omega) q3
    · rw [if_neg hk, if_neg (fun h => hk h.1)]
      refine ⟨by omega, by omega, ?_⟩
      rcases h3 with ⟨a1, a2, a3⟩ | ⟨a1, a2, a3, a4, a5⟩
      · refine Or.inl ⟨by omega, a2, fun q q1 q2 => ?_⟩
        by_cases hq : q = (k : Int)
        · rw [hq]; omega
        · exact a3 q q1 (by omega)
      · refine Or.inr ⟨by omega, a2, by omega, a4, fun q q1 q2 q3 => ?_⟩
        by_cases hq : q = (k : Int)
        · rw [hq] at q3; omega
        · exact a5 q q1 (by omega) q3
theorem m_spill_1 (τ : Hp) (g : Int) {i : Int} (h1 : i ≠ 1) (h2 : i ≠ 21) : m_spill τ g 1 i = τ 1 i := by
  simp [m_spill, st2, m_cp, h1, h2]
theorem m_spill_o (τ : Hp) (g : Int) : m_spill τ g 1 21 = τ 1 21 + 1 := by
  simp [m_spill, st2, m_cp]
theorem m_evict_1 (τ : Hp) {i : Int} (h1 : i ≠ 1) (h2 : i ≠ 21) : m_evict τ 1 i = τ 1 i := by
  simp only [m_evict]
  split
  · split <;> simp [st2, m_spill_1 _ _ h1 h2]
  · rfl
theorem m_spill_18 (τ : Hp) (g i : Int) : m_spill τ g 18 i = τ 18 i := by
  simp [m_spill, st2, m_cp]
def mB (σ : Hp) : Prop := 0 ≤ σ 1 19 ∧ σ 1 19 < 2000000000 ∧ 0 ≤ σ 1 20 ∧ σ 1 20 < 2000000000 ∧ 0 ≤ σ 1 21 ∧ σ 1 21 < 2000000000
