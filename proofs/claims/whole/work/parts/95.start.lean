-- ===== at the beginning =====
def Z0 : Hp := fun _ _ => 0
def X0 : Hp := i_X Z0
theorem fin_i {n : Nat} {P : Int → Prop} (h : ∀ x : Fin n, P (x.val : Int)) {i : Int} (i0 : 0 ≤ i) (i1 : i < (n : Int)) : P i := by
  have e : ((i.toNat : Nat) : Int) = i := Int.toNat_of_nonneg i0
  have h1 := h ⟨i.toNat, by omega⟩
  rw [← e]
  exact h1
theorem X0_s {a : Int} (h1 : 3 ≤ a) (h2 : a ≤ 12) (b : Int) : X0 a b = 0 := by
  unfold X0 i_X i_R i_V
  rw [st2_ne (by omega), st2_ne (by omega), st2_ne (by omega), st2_ne (by omega), st2_ne (by omega), st2_ne (by omega), st2_ne (by omega), st2_ne (by omega), mnr_lt (by omega), st2_ne (by omega), st2_ne (by omega)]
  unfold i_P
  rw [i_PL_fr _ 6 (by omega)]
  unfold i_P0
  rw [st2_ne (by omega), st2_ne (by omega), st2_ne (by omega), st2_ne (by omega), st2_ne (by omega), st2_ne (by omega), st2_ne (by omega)]
  unfold i_L
  rw [st2_ne (by omega), mnr_lt (by omega)]
  repeat rw [st2_ne (by omega)]
  rfl
theorem X0_pg : ∀ p : Fin 6, X0 37 (p.val : Int) = 0 ∧ X0 38 (p.val : Int) = 0 ∧ X0 (40 + 6 * (p.val : Int)) 2 = 0 := by decide +kernel
theorem X0_sl : ∀ p : Fin 6, ∀ s : Fin 4, X0 (40 + 6 * (p.val : Int) + 1) (s.val : Int) = -1 ∧ X0 (40 + 6 * (p.val : Int) + 2) (s.val : Int) = 0 := by decide +kernel
theorem X0_st : ∀ s : Fin 4, X0 77 (s.val : Int) = 0 := by decide +kernel
theorem X0_lk : ∀ s : Fin 4, ∀ k : Fin 100, X0 (79 + (s.val : Int)) (k.val : Int) = 0 := by decide +kernel
theorem X0_nm : X0 2 11 = 0 ∧ X0 2 12 = 0 ∧ X0 2 13 = 0 ∧ X0 2 14 = 0 ∧ X0 34 6 = 0 ∧ X0 34 7 = 0 ∧ X0 34 8 = 0 ∧ X0 1 5 = 0 ∧ X0 1 6 = 0 ∧ X0 1 7 = 0 ∧ X0 1 8 = 1 := by decide +kernel
def M0 : Hp := i_M Z0
theorem M0_o (a b : Int) (h1 : a ≠ 1) : M0 a b = if a = 11 ∧ 0 ≤ b ∧ b < 24 then -1 else 0 := by
  unfold M0 i_M i_ML i_M0
  simp only [st2_ne h1, Z0]
theorem M0_1 (b : Int) : M0 1 b = if 2 ≤ b ∧ b ≤ 18 then b else if 23 ≤ b ∧ b ≤ 31 then b - 4 else if b = 36 then 28 else 0 := by
  unfold M0 i_M i_ML i_M0
  rw [if_neg (by omega)]
  simp only [st2_at, Z0]
  repeat' split
  all_goals first | rfl | omega
theorem M0_fx : fxd TM 28 M0 := by
  intro v i t h1 h2 h3
  unfold TM at h3
  by_cases hv : v = 1
  · rw [if_pos hv] at h3
    rw [hv, M0_1]
    split at h3
    · rename_i w
      rw [if_pos w]
      exact Option.some.inj h3
    · rename_i w
      rw [if_neg w]
      split at h3
      · rename_i w2
        rw [if_pos w2]
        exact Option.some.inj h3
      · rename_i w2
        rw [if_neg w2]
        split at h3
        · rename_i w3
          rw [if_pos w3]
          exact Option.some.inj h3
        · cases h3
  · rw [if_neg hv] at h3
    cases h3
theorem X0_tx : ∀ v : Fin 86, ∀ i : Fin 21, TX (v.val : Int) (i.val : Int) = none ∨ TX (v.val : Int) (i.val : Int) = some (X0 (v.val : Int) (i.val : Int)) := by decide +kernel
theorem TX_i {v i t : Int} (h3 : TX v i = some t) : 0 ≤ i ∧ i < 21 := by
  refine Decidable.byContradiction (fun hi => ?_)
  have e : TX v i = none := by
    unfold TX
    by_cases a0 : v = 1
    · rw [if_pos a0, if_neg (by omega), if_neg (by omega), if_neg (by omega), if_neg (by omega), if_neg (by omega)]
    · rw [if_neg a0]
      by_cases a1 : v = 2
      · rw [if_pos a1, if_neg (by omega)]
      · rw [if_neg a1]
        by_cases a2 : v = 13
        · rw [if_pos a2, if_neg (by omega)]
        · rw [if_neg a2]
          by_cases a3 : v = 34
          · rw [if_pos a3, if_neg (by omega), if_neg (by omega)]
          · rw [if_neg a3]
            by_cases a4 : v = 35
            · rw [if_pos a4, if_neg (by omega)]
            · rw [if_neg a4]
              by_cases a5 : v = 36
              · rw [if_pos a5, if_neg (by omega)]
              · rw [if_neg a5]
                by_cases a6 : v = 76
                · rw [if_pos a6, if_neg (by omega), if_neg (by omega)]
                · rw [if_neg a6]
                  by_cases a7 : v = 78
                  · rw [if_pos a7, if_neg (by omega)]
                  · rw [if_neg a7]
                    by_cases a8 : v = 83
                    · rw [if_pos a8, if_neg (by omega), if_neg (by omega), if_neg (by omega)]
                    · rw [if_neg a8]
                      by_cases a9 : 40 ≤ v ∧ v < 76 ∧ (v - 40) % 3 = 0
                      · rw [if_pos a9, if_neg (by omega), if_neg (by omega)]
                      · rw [if_neg a9]
  rw [e] at h3
  cases h3
theorem X0_fx : fxd TX 85 X0 := by
  intro v i t h1 h2 h3
  have hi := TX_i h3
  have h4 : TX v i = none ∨ TX v i = some (X0 v i) := fin_i (P := fun v => TX v i = none ∨ TX v i = some (X0 v i)) (fun x => fin_i (P := fun i => TX (x.val : Int) i = none ∨ TX (x.val : Int) i = some (X0 (x.val : Int) i)) (X0_tx x) hi.1 hi.2) (by omega) (by show v < 86; omega)
  rw [h3] at h4
  rcases h4 with h4 | h4
  · cases h4
  · exact (Option.some.inj h4).symm
theorem inv_0 : INV 0 85 X0 M0 := by
  obtain ⟨x11, x12, x13, x14, x6, x7, x8, y5, y6, y7, y8⟩ := X0_nm
  have mz : ∀ a b : Int, a ≠ 1 → a ≠ 11 → M0 a b = 0 := fun a b h1 h2 => by rw [M0_o _ _ h1, if_neg (fun z => h2 z.1)]
  have m1 : ∀ b : Int, b = 0 ∨ b = 1 ∨ (19 ≤ b ∧ b ≤ 22) ∨ (32 ≤ b ∧ b ≤ 35) → M0 1 b = 0 := fun b hb => by
    rw [M0_1, if_neg (by omega), if_neg (by omega), if_neg (by omega)]
  have m10 := m1 0 (by omega)
  have m11 := m1 1 (by omega)
  have m119 := m1 19 (by omega)
  have m120 := m1 20 (by omega)
  have m121 := m1 21 (by omega)
  have m122 := m1 22 (by omega)
  have m132 := m1 32 (by omega)
  have m133 := m1 33 (by omega)
  have c0 : ∀ k : Int, cK M0 k 0 = 0 := fun k => rfl
  have hpg : ∀ p : Int, 0 ≤ p → p < 6 → X0 37 p = 0 ∧ X0 38 p = 0 ∧ X0 (40 + 6 * p) 2 = 0 := fun p p0 p1 => fin_i (n := 6) (P := fun p => X0 37 p = 0 ∧ X0 38 p = 0 ∧ X0 (40 + 6 * p) 2 = 0) X0_pg p0 p1
  have hsl : ∀ p s : Int, 0 ≤ p → p < 6 → 0 ≤ s → s < 4 → X0 (40 + 6 * p + 1) s = -1 ∧ X0 (40 + 6 * p + 2) s = 0 := fun p s p0 p1 s0 s1 => fin_i (n := 6) (P := fun p => X0 (40 + 6 * p + 1) s = -1 ∧ X0 (40 + 6 * p + 2) s = 0) (fun x => fin_i (n := 4) (P := fun s => X0 (40 + 6 * (x.val : Int) + 1) s = -1 ∧ X0 (40 + 6 * (x.val : Int) + 2) s = 0) (X0_sl x) s0 s1) p0 p1
  have hst : ∀ s : Int, 0 ≤ s → s < 4 → X0 77 s = 0 := fun s s0 s1 => fin_i (n := 4) (P := fun s => X0 77 s = 0) X0_st s0 s1
  have hlk : ∀ s k : Int, 0 ≤ s → s < 4 → 0 ≤ k → k < 100 → X0 (79 + s) k = 0 := fun s k s0 s1 k0 k1 => fin_i (n := 4) (P := fun s => X0 (79 + s) k = 0) (fun x => fin_i (n := 100) (P := fun k => X0 (79 + (x.val : Int)) k = 0) (X0_lk x) k0 k1) s0 s1
  have hJ : JJ 0 0 85 X0 M0 := by
    refine ⟨⟨by rw [x11, m10], ?_⟩, ?_, ?_, ?_⟩
    · rw [m10]
      refine ⟨by decide, fun i _ => ?_, fun i i1 i2 => by omega, fun i i1 i2 => by omega, fun i i1 i2 => by omega, fun i i1 i2 => by omega, fun i i1 i2 => by omega, fun i i1 i2 => by omega, fun t _ _ => Or.inl (X0_s (by decide) (by decide) t), ?_, ?_, fun i i1 i2 => by omega⟩
      · rw [X0_s (by decide) (by decide) i, X0_s (by decide) (by decide) i, mz 4 i (by decide) (by decide), mz 3 i (by decide) (by decide)]; decide
      · rw [x13, c0]; decide
      · rw [x14, c0]; decide
    · have z18 : ∀ p : Int, ¬ 0 < M0 18 p := fun p => by rw [mz 18 p (by decide) (by decide)]; decide
      refine ⟨fun p p0 p1 => ⟨⟨?_, ?_, ?_, ?_, fun s s0 s1 => ?_⟩, Or.inr ⟨(hpg p p0 p1).1, mz 18 p (by decide) (by decide), mz 17 p (by decide) (by decide)⟩⟩, fun p q _ _ _ _ w => absurd w (z18 p), ?_, ?_, ?_⟩
      · rw [(hpg p p0 p1).2.1, mz 17 p (by decide) (by decide)]
      · rw [mz 17 p (by decide) (by decide)]; decide
      · rw [mz 13 p (by decide) (by decide), (hpg p p0 p1).2.2]
      · rw [mz 13 p (by decide) (by decide), m11]; decide
      · rw [M0_o 11 _ (by decide), if_pos ⟨rfl, by omega, by omega⟩, mz 12 _ (by decide) (by decide), (hsl p s p0 p1 s0 s1).1, (hsl p s p0 p1 s0 s1).2]; decide
      · unfold nIn
        rw [if_neg (z18 0), if_neg (z18 1), if_neg (z18 2), if_neg (z18 3), if_neg (z18 4), if_neg (z18 5)]; decide
      · rw [x7, x8, x6, m119, m120, m121]; decide
      · rw [x12, m11, m10]; decide
    · refine ⟨by rw [m122, y5]; decide, fun t t1 t2 => by omega, fun t _ _ => ⟨mz 21 t (by decide) (by decide), mz 22 t (by decide) (by decide), mz 23 t (by decide) (by decide), mz 24 t (by decide) (by decide), mz 25 t (by decide) (by decide)⟩, fun t _ _ => by rw [mz 22 t (by decide) (by decide)]; decide, fun t u t1 t2 => by omega, fun s s0 s1 => Or.inl ⟨hst s s0 s1, fun k k0 k1 => hlk s k s0 s1 k0 k1⟩, fun t t1 t2 => by omega, fun t k _ _ _ _ => ?_, Or.inl ⟨y8, m132⟩, ?_, fun t t1 t2 => by omega⟩
      · rw [mz 26 _ (by decide) (by decide)]
        exact ⟨by decide, fun _ => rfl⟩
      · rw [y7, y6, m133, m119]; decide
    · rw [m119, m120, m121]; decide
  exact inv_up hJ (std_dead hJ (fun t t1 t2 => by omega)) m132
