-- ===== at the beginning =====
def Z0 : Hp := fun _ _ => 0
theorem i_PL_spec (s : Hp) (a b : Int) : ∀ k : Nat, i_PL s k a b = if a = 35 ∧ 0 ≤ b ∧ b < (k : Int) then 40 + 6 * b else if a = 36 ∧ 0 ≤ b ∧ b < (k : Int) then 43 + 6 * b else if 40 ≤ a ∧ a < 40 + 6 * (k : Int) then (if (a - 40) % 3 = 0 then (if b = 0 then a + 1 else if b = 1 then a + 2 else s a b) else if (a - 40) % 3 = 1 ∧ 0 ≤ b ∧ b < 4 then -1 else s a b) else s a b
  | 0 => by
    show s a b = _
    rw [if_neg (by omega), if_neg (by omega), if_neg (by omega)]
  | k + 1 => by
    have ih := i_PL_spec s a b k
    have hu : i_PL s (k + 1) a b = if a = 36 ∧ b = (k : Int) then 43 + 6 * (k : Int) else if a = 44 + 6 * (k : Int) ∧ 0 ≤ b ∧ b < 4 then -1 else if a = 43 + 6 * (k : Int) ∧ b = 1 then 45 + 6 * (k : Int) else if a = 43 + 6 * (k : Int) ∧ b = 0 then 44 + 6 * (k : Int) else if a = 35 ∧ b = (k : Int) then 40 + 6 * (k : Int) else if a = 41 + 6 * (k : Int) ∧ 0 ≤ b ∧ b < 4 then -1 else if a = 40 + 6 * (k : Int) ∧ b = 1 then 42 + 6 * (k : Int) else if a = 40 + 6 * (k : Int) ∧ b = 0 then 41 + 6 * (k : Int) else i_PL s k a b := by
      show st2 (i_C (st2 (i_C (i_PL s k) (40 + 6 * (k : Int))) 35 (k : Int) (40 + 6 * (k : Int))) (43 + 6 * (k : Int))) 36 (k : Int) (43 + 6 * (k : Int)) a b = _
      generalize i_PL s k = r
      simp only [i_C, i_CL, i_C0, st2]
      repeat' split
      all_goals first | rfl | omega
    rw [hu, ih]
    clear hu ih
    generalize s a b = z
    have hk : ((k + 1 : Nat) : Int) = (k : Int) + 1 := rfl
    rw [hk]
    repeat' split
    all_goals first | rfl | omega
theorem i_L_0 (a b : Int) : i_L Z0 a b = if a = 2 ∧ 0 ≤ b ∧ b ≤ 10 then b + 3 else if a = 13 ∧ 0 ≤ b ∧ b < 20 then 14 + b else 0 := by
  unfold i_L mnr
  by_cases h2 : a = 2
  · subst h2
    simp only [st2, Z0]
    repeat' split
    all_goals first | rfl | omega
  · rw [st2_ne h2]
    simp only [st2_ne h2, Z0]
    repeat' split
    all_goals first | rfl | omega
def X0 : Hp := i_X Z0
theorem X0_lt (a b : Int) (h1 : a ≠ 1) (h76 : a < 76) : X0 a b = if a = 34 then (if b = 0 then 2 else if 1 ≤ b ∧ b ≤ 5 then 34 + b else 0) else if a = 2 ∧ 0 ≤ b ∧ b ≤ 10 then b + 3 else if a = 13 ∧ 0 ≤ b ∧ b < 20 then 14 + b else if a = 35 ∧ 0 ≤ b ∧ b < 6 then 40 + 6 * b else if a = 36 ∧ 0 ≤ b ∧ b < 6 then 43 + 6 * b else if 40 ≤ a then (if (a - 40) % 3 = 0 then (if b = 0 then a + 1 else if b = 1 then a + 2 else 0) else if (a - 40) % 3 = 1 ∧ 0 ≤ b ∧ b < 4 then -1 else 0) else 0 := by
  unfold X0 i_X i_R i_V
  rw [st2_ne h1, st2_ne h1, st2_ne h1, st2_ne (by omega), st2_ne (by omega), st2_ne (by omega), st2_ne h1, st2_ne (by omega), mnr_lt (by omega), st2_ne (by omega), st2_ne h1]
  unfold i_P
  rw [i_PL_spec]
  by_cases h34 : a = 34
  · subst h34
    unfold i_P0
    simp only [st2, i_L_0]
    repeat' split
    all_goals first | rfl | omega
  · have e : i_P0 (st2 (i_L Z0) 1 0 2) a b = i_L Z0 a b := by
      unfold i_P0
      rw [st2_ne h34, st2_ne h34, st2_ne h34, st2_ne h34, st2_ne h34, st2_ne h34, st2_ne h1]
    rw [e, i_L_0]
    repeat' split
    all_goals first | rfl | omega
theorem X0_ge (a b : Int) (h76 : 76 ≤ a) : X0 a b = if a = 76 ∧ b = 0 then 77 else if a = 76 ∧ b = 1 then 78 else if a = 78 ∧ 0 ≤ b ∧ b < 4 then 79 + b else if a = 83 ∧ b = 0 then 2 else if a = 83 ∧ b = 1 then 34 else if a = 83 ∧ b = 2 then 84 else 0 := by
  have e : ∀ c : Int, 76 ≤ c → i_P (st2 (i_L Z0) 1 0 2) c = fun _ => 0 := fun c hc => by
    rw [i_P_gt hc, st2_ne (by omega)]
    funext d
    rw [i_L_0, if_neg (by omega), if_neg (by omega)]
  unfold X0 i_X i_R i_V
  rw [st2_ne (by omega), st2_ne (by omega), st2_ne (by omega)]
  simp only [st2, mnr]
  simp only [e a h76]
  repeat' split
  all_goals first | rfl | omega
theorem X0_1 (b : Int) : X0 1 b = if b = 8 then 1 else if b = 4 then 85 else if b = 3 then 83 else if b = 2 then 76 else if b = 1 then 34 else if b = 0 then 2 else 0 := by
  unfold X0 i_X i_R i_V
  rw [st2_at, st2_at, st2_at, st2_ne (by omega), st2_ne (by omega), st2_ne (by omega), st2_at, st2_ne (by omega), mnr_lt (by omega), st2_ne (by omega), st2_at]
  unfold i_P
  rw [i_PL_spec]
  have e : i_P0 (st2 (i_L Z0) 1 0 2) 1 b = if b = 0 then 2 else i_L Z0 1 b := by
    unfold i_P0
    rw [st2_ne (by decide), st2_ne (by decide), st2_ne (by decide), st2_ne (by decide), st2_ne (by decide), st2_ne (by decide), st2_at]
  rw [e, i_L_0, if_neg (by omega), if_neg (by omega), if_neg (by omega), if_neg (by omega), if_neg (by omega)]
def M0 : Hp := i_M Z0
theorem M0_o (a b : Int) (h1 : a ≠ 1) : M0 a b = if a = 11 ∧ 0 ≤ b ∧ b < 24 then -1 else 0 := by
  unfold M0 i_M i_ML i_M0
  simp only [st2_ne h1, Z0]
theorem M0_1 (b : Int) : M0 1 b = if 2 ≤ b ∧ b ≤ 18 then b else if 23 ≤ b ∧ b ≤ 31 then b - 4 else if b = 36 then 28 else 0 := by
  unfold M0 i_M i_ML i_M0
  rw [if_neg (by omega)]
  simp only [st2_at, Z0]
  repeat' split
  all_goals first | rfl | omega
theorem M0_fx : fxd TM 28 M0 := by
  intro v i t h1 h2 h3
  unfold TM at h3
  by_cases hv : v = 1
  · rw [if_pos hv] at h3
    rw [hv, M0_1]
    split at h3
    · rename_i w
      rw [if_pos w]
      exact Option.some.inj h3
    · rename_i w
      rw [if_neg w]
      split at h3
      · rename_i w2
        rw [if_pos w2]
        exact Option.some.inj h3
      · rename_i w2
        rw [if_neg w2]
        split at h3
        · rename_i w3
          rw [if_pos w3]
          exact Option.some.inj h3
        · cases h3
  · rw [if_neg hv] at h3
    cases h3
theorem X0_fx : fxd TX 85 X0 := by
  intro v i t h1 h2 h3
  unfold TX at h3
  repeat' split at h3
  all_goals first
    | (cases h3; done)
    | (have h3 := Option.some.inj h3; subst h3; subst v; first | (rw [X0_1]; subst i; rfl) | (rw [X0_lt _ _ (by omega) (by omega)]; (repeat' split) <;> omega) | (rw [X0_ge _ _ (by omega)]; (repeat' split) <;> omega))
    | (have h3 := Option.some.inj h3; subst h3; rw [X0_lt _ _ (by omega) (by omega)]; (repeat' split) <;> omega)
theorem inv_0 : INV 0 85 X0 M0 := by
  have xz : ∀ a b : Int, 3 ≤ a → a ≤ 12 → X0 a b = 0 := fun a b h1 h2 => by
    rw [X0_lt _ _ (by omega) (by omega), if_neg (by omega), if_neg (by omega), if_neg (by omega), if_neg (by omega), if_neg (by omega), if_neg (by omega)]
  have xk : ∀ a b : Int, 37 ≤ a → a ≤ 39 → X0 a b = 0 := fun a b h1 h2 => by
    rw [X0_lt _ _ (by omega) (by omega), if_neg (by omega), if_neg (by omega), if_neg (by omega), if_neg (by omega), if_neg (by omega), if_neg (by omega)]
  have mz : ∀ a b : Int, a ≠ 1 → a ≠ 11 → M0 a b = 0 := fun a b h1 h2 => by rw [M0_o _ _ h1, if_neg (fun z => h2 z.1)]
  have x2 : ∀ b : Int, 11 ≤ b → X0 2 b = 0 := fun b hb => by
    rw [X0_lt _ _ (by omega) (by omega), if_neg (by omega), if_neg (by omega), if_neg (by omega), if_neg (by omega), if_neg (by omega), if_neg (by omega)]
  have x34 : ∀ b : Int, 6 ≤ b → X0 34 b = 0 := fun b hb => by
    rw [X0_lt _ _ (by omega) (by omega), if_pos rfl, if_neg (by omega), if_neg (by omega)]
  have x77 : ∀ b : Int, X0 77 b = 0 := fun b => by
    rw [X0_ge _ _ (by omega), if_neg (by omega), if_neg (by omega), if_neg (by omega), if_neg (by omega), if_neg (by omega), if_neg (by omega)]
  have x79 : ∀ s b : Int, 0 ≤ s → s < 4 → X0 (79 + s) b = 0 := fun s b h1 h2 => by
    rw [X0_ge _ _ (by omega), if_neg (by omega), if_neg (by omega), if_neg (by omega), if_neg (by omega), if_neg (by omega), if_neg (by omega)]
  have m1 : ∀ b : Int, b = 0 ∨ b = 1 ∨ (19 ≤ b ∧ b ≤ 22) ∨ (32 ≤ b ∧ b ≤ 35) → M0 1 b = 0 := fun b hb => by
    rw [M0_1, if_neg (by omega), if_neg (by omega), if_neg (by omega)]
  have m10 := m1 0 (by omega)
  have m11 := m1 1 (by omega)
  have m119 := m1 19 (by omega)
  have m120 := m1 20 (by omega)
  have m121 := m1 21 (by omega)
  have m122 := m1 22 (by omega)
  have m132 := m1 32 (by omega)
  have m133 := m1 33 (by omega)
  have c0 : ∀ k : Int, cK M0 k 0 = 0 := fun k => rfl
  have hJ : JJ 0 0 85 X0 M0 := by
    refine ⟨⟨by rw [x2 11 (by omega), m10], ?_⟩, ?_, ?_, ?_⟩
    · rw [m10]
      refine ⟨by decide, fun i _ => ?_, fun i i1 i2 => by omega, fun i i1 i2 => by omega, fun i i1 i2 => by omega, fun i i1 i2 => by omega, fun i i1 i2 => by omega, fun i i1 i2 => by omega, fun t _ _ => Or.inl (xz 11 t (by omega) (by omega)), ?_, ?_, fun i i1 i2 => by omega⟩
      · rw [xz 5 i (by omega) (by omega), xz 4 i (by omega) (by omega), mz 4 i (by omega) (by omega), mz 3 i (by omega) (by omega)]; decide
      · rw [x2 13 (by omega), c0]; decide
      · rw [x2 14 (by omega), c0]; decide
    · have z18 : ∀ p : Int, ¬ 0 < M0 18 p := fun p => by rw [mz 18 p (by omega) (by omega)]; decide
      refine ⟨fun p p0 p1 => ⟨⟨?_, ?_, ?_, ?_, fun s s0 s1 => ?_⟩, Or.inr ⟨xk 37 p (by omega) (by omega), mz 18 p (by omega) (by omega), mz 17 p (by omega) (by omega)⟩⟩, fun p q _ _ _ _ w => absurd w (z18 p), ?_, ?_, ?_⟩
      · rw [xk 38 p (by omega) (by omega), mz 17 p (by omega) (by omega)]
      · rw [mz 17 p (by omega) (by omega)]; decide
      · rw [mz 13 p (by omega) (by omega), X0_lt _ _ (by omega) (by omega), if_neg (by omega), if_neg (by omega), if_neg (by omega), if_neg (by omega), if_neg (by omega), if_pos (by omega), if_pos (by omega)]; rfl
      · rw [mz 13 p (by omega) (by omega), m11]; decide
      · rw [M0_o 11 _ (by omega), if_pos ⟨rfl, by omega, by omega⟩, mz 12 _ (by omega) (by omega), X0_lt _ _ (by omega) (by omega), if_neg (by omega), if_neg (by omega), if_neg (by omega), if_neg (by omega), if_neg (by omega), if_pos (by omega), if_neg (by omega), if_pos (by omega), X0_lt _ _ (by omega) (by omega), if_neg (by omega), if_neg (by omega), if_neg (by omega), if_neg (by omega), if_neg (by omega), if_pos (by omega), if_neg (by omega), if_neg (by omega)]; decide
      · unfold nIn
        rw [if_neg (z18 0), if_neg (z18 1), if_neg (z18 2), if_neg (z18 3), if_neg (z18 4), if_neg (z18 5)]; decide
      · rw [x34 7 (by omega), x34 8 (by omega), x34 6 (by omega), m119, m120, m121]; decide
      · rw [x2 12 (by omega), m11, m10]; decide
    · refine ⟨by rw [m122, X0_1]; decide, fun t t1 t2 => by omega, fun t _ _ => ⟨mz 21 t (by omega) (by omega), mz 22 t (by omega) (by omega), mz 23 t (by omega) (by omega), mz 24 t (by omega) (by omega), mz 25 t (by omega) (by omega)⟩, fun t _ _ => by rw [mz 22 t (by omega) (by omega)]; decide, fun t u t1 t2 => by omega, fun s s0 s1 => Or.inl ⟨x77 s, fun k _ _ => x79 s k s0 s1⟩, fun t t1 t2 => by omega, fun t k _ _ _ _ => ?_, Or.inl ⟨by rw [X0_1]; rfl, m132⟩, ?_, fun t t1 t2 => by omega⟩
      · rw [mz 26 _ (by omega) (by omega)]
        exact ⟨by decide, fun _ => rfl⟩
      · rw [X0_1, X0_1, m133, m119]; decide
    · rw [m119, m120, m121]; decide
  refine inv_up hJ (std_dead hJ (fun t t1 t2 => by omega)) m132
