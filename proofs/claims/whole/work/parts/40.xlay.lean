-- ===== the class's cells =====
def LyXt : List LK := [.inl (0, k_X), .inl (1, k_XL)] ++ List.replicate 8 (.inr (0, 201)) ++ [.inr (0, 61), .inr (0, 20), .inr (5, 20)] ++ List.replicate 20 (.inr (0, 6)) ++ [.inl (2, k_XP), .inr (4, 6), .inr (4, 6), .inr (2, 6), .inr (0, 6), .inr (0, 6)] ++ (List.replicate 12 [.inl (3, k_XC), .inr (0, 4), .inr (0, 4)]).flatten ++ [.inl (4, k_XV), .inr (3, 4), .inr (5, 4), .inr (0, 100), .inr (0, 100), .inr (0, 100), .inr (0, 100), .inl (5, k_XR), .inr (0, 6), .inr (3, 61)]
def LyX (v : Int) : LK := (LyXt[(v - 1).toNat]?).getD (.inl (6, k_XT))
def TX (v i : Int) : Option Int :=
  if v = 1 then (if i = 0 then some 2 else if i = 1 then some 34 else if i = 2 then some 76 else if i = 3 then some 83 else if i = 4 then some 85 else none)
  else if v = 2 then (if 0 ≤ i ∧ i ≤ 10 then some (i + 3) else none)
  else if v = 13 then (if 0 ≤ i ∧ i < 20 then some (14 + i) else none)
  else if v = 34 then (if i = 0 then some 2 else if 1 ≤ i ∧ i ≤ 5 then some (34 + i) else none)
  else if v = 35 then (if 0 ≤ i ∧ i < 6 then some (40 + 6 * i) else none)
  else if v = 36 then (if 0 ≤ i ∧ i < 6 then some (43 + 6 * i) else none)
  else if v = 76 then (if i = 0 then some 77 else if i = 1 then some 78 else none)
  else if v = 78 then (if 0 ≤ i ∧ i < 4 then some (79 + i) else none)
  else if v = 83 then (if i = 0 then some 2 else if i = 1 then some 34 else if i = 2 then some 84 else none)
  else if 40 ≤ v ∧ v < 76 ∧ (v - 40) % 3 = 0 then (if i = 0 then some (v + 1) else if i = 1 then some (v + 2) else none)
  else none
theorem lx_C {v : Int} (h1 : 40 ≤ v) (h2 : v < 76) (h3 : (v - 40) % 3 = 0) : LyX v = .inl (3, k_XC) := by
  have : v = 40 ∨ v = 43 ∨ v = 46 ∨ v = 49 ∨ v = 52 ∨ v = 55 ∨ v = 58 ∨ v = 61 ∨ v = 64 ∨ v = 67 ∨ v = 70 ∨ v = 73 := by omega
  rcases this with rfl | rfl | rfl | rfl | rfl | rfl | rfl | rfl | rfl | rfl | rfl | rfl <;> rfl
theorem lx_A {v : Int} (h1 : 40 ≤ v) (h2 : v < 76) (h3 : ¬ (v - 40) % 3 = 0) : LyX v = .inr (0, 4) := by
  have : v = 41 ∨ v = 42 ∨ v = 44 ∨ v = 45 ∨ v = 47 ∨ v = 48 ∨ v = 50 ∨ v = 51 ∨ v = 53 ∨ v = 54 ∨ v = 56 ∨ v = 57 ∨ v = 59 ∨ v = 60 ∨ v = 62 ∨ v = 63 ∨ v = 65 ∨ v = 66 ∨ v = 68 ∨ v = 69 ∨ v = 71 ∨ v = 72 ∨ v = 74 ∨ v = 75 := by omega
  rcases this with rfl | rfl | rfl | rfl | rfl | rfl | rfl | rfl | rfl | rfl | rfl | rfl | rfl | rfl | rfl | rfl | rfl | rfl | rfl | rfl | rfl | rfl | rfl | rfl <;> rfl
theorem lx_T {v : Int} (h : 86 ≤ v) : LyX v = .inl (6, k_XT) := by
  unfold LyX
  rw [List.getElem?_eq_none (by show 85 ≤ _; omega)]
  rfl
theorem lx_H {s : Int} (h1 : 0 ≤ s) (h2 : s < 4) : LyX (79 + s) = .inr (0, 100) := by
  have : s = 0 ∨ s = 1 ∨ s = 2 ∨ s = 3 := by omega
  rcases this with rfl | rfl | rfl | rfl <;> rfl
theorem lx_K {s : Int} (h1 : 0 ≤ s) (h2 : s < 20) : LyX (14 + s) = .inr (0, 6) := by
  have : s = 0 ∨ s = 1 ∨ s = 2 ∨ s = 3 ∨ s = 4 ∨ s = 5 ∨ s = 6 ∨ s = 7 ∨ s = 8 ∨ s = 9 ∨ s = 10 ∨ s = 11 ∨ s = 12 ∨ s = 13 ∨ s = 14 ∨ s = 15 ∨ s = 16 ∨ s = 17 ∨ s = 18 ∨ s = 19 := by omega
  rcases this with rfl | rfl | rfl | rfl | rfl | rfl | rfl | rfl | rfl | rfl | rfl | rfl | rfl | rfl | rfl | rfl | rfl | rfl | rfl | rfl <;> rfl
theorem tx_T {v i : Int} (h : 86 ≤ v) : TX v i = none := by
  unfold TX
  repeat rw [if_neg (by omega)]
theorem tx_A {v i : Int} (h1 : 40 ≤ v) (h2 : v < 76) (h3 : ¬ (v - 40) % 3 = 0) : TX v i = none := by
  unfold TX
  repeat rw [if_neg (by omega)]
theorem tx_L {v : Int} (h1 : 40 ≤ v) (h2 : v < 76) : TX v 2 = none := by
  unfold TX
  repeat (first | rw [if_neg (by omega)] | split)
  all_goals rfl
theorem tx_C0 {v : Int} (h1 : 40 ≤ v) (h2 : v < 76) (h3 : (v - 40) % 3 = 0) : TX v 0 = some (v + 1) := by
  unfold TX
  repeat rw [if_neg (by omega)]
  rw [if_pos ⟨h1, h2, h3⟩]
  rfl
theorem tx_C1 {v : Int} (h1 : 40 ≤ v) (h2 : v < 76) (h3 : (v - 40) % 3 = 0) : TX v 1 = some (v + 2) := by
  unfold TX
  repeat rw [if_neg (by omega)]
  rw [if_pos ⟨h1, h2, h3⟩]
  rfl
theorem tx_D {p : Int} (h1 : 0 ≤ p) (h2 : p < 6) : TX 35 p = some (40 + 6 * p) := by
  unfold TX
  repeat rw [if_neg (by omega)]
  rw [if_pos rfl, if_pos ⟨h1, h2⟩]
theorem tx_F {p : Int} (h1 : 0 ≤ p) (h2 : p < 6) : TX 36 p = some (43 + 6 * p) := by
  unfold TX
  repeat rw [if_neg (by omega)]
  rw [if_pos rfl, if_pos ⟨h1, h2⟩]
theorem tx_H {s : Int} (h1 : 0 ≤ s) (h2 : s < 4) : TX 78 s = some (79 + s) := by
  unfold TX
  repeat rw [if_neg (by omega)]
  rw [if_pos rfl, if_pos ⟨h1, h2⟩]
theorem tx_K {s : Int} (h1 : 0 ≤ s) (h2 : s < 20) : TX 13 s = some (14 + s) := by
  unfold TX
  repeat rw [if_neg (by omega)]
  rw [if_pos rfl, if_pos ⟨h1, h2⟩]
theorem tx_HR {s i : Int} (h1 : 0 ≤ s) (h2 : s < 4) : TX (79 + s) i = none := by
  have : s = 0 ∨ s = 1 ∨ s = 2 ∨ s = 3 := by omega
  rcases this with rfl | rfl | rfl | rfl <;> rfl
theorem tx_KR {s i : Int} (h1 : 0 ≤ s) (h2 : s < 20) : TX (14 + s) i = none := by
  unfold TX
  repeat rw [if_neg (by omega)]
