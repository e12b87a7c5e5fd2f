-- ===== the relation between the class's heap χ and the reference's heap τ =====
def cK (τ : Hp) (k j : Int) : Int := cntU (fun i => decide (τ 2 i = k)) j.toNat
theorem cK_le (τ : Hp) (k : Int) {j : Int} (h : 0 ≤ j) : 0 ≤ cK τ k j ∧ cK τ k j ≤ j := by
  have := cntU_le (fun i => decide (τ 2 i = k)) j.toNat
  unfold cK; omega
theorem cK_s (τ : Hp) (k : Int) {j : Int} (h : 1 ≤ j) : cK τ k j = cK τ k (j - 1) + (if τ 2 j = k then 1 else 0) := by
  unfold cK
  rw [show j.toNat = (j - 1).toNat + 1 by omega]
  show cntU _ (j - 1).toNat + b2i (decide (τ 2 (((j - 1).toNat : Int) + 1) = k)) = _
  rw [show (((j - 1).toNat : Int) + 1) = j by omega]
  by_cases hk : τ 2 j = k <;> simp [b2i, hk]
theorem cntU_mono (p : Int → Bool) : ∀ a b : Nat, a ≤ b → cntU p a ≤ cntU p b
  | a, 0, h => by rw [show a = 0 by omega]; exact Int.le_refl _
  | a, b + 1, h => by
    by_cases hab : a = b + 1
    · rw [hab]; exact Int.le_refl _
    · have h1 := cntU_mono p a b (by omega)
      have h2 := b2i_b (p ((b : Int) + 1))
      rw [show cntU p (b + 1) = cntU p b + b2i (p ((b : Int) + 1)) from rfl]
      omega
theorem cK_mono (τ : Hp) (k : Int) {a b : Int} (h : a ≤ b) : cK τ k a ≤ cK τ k b := cntU_mono _ _ _ (by omega)
theorem cK_lt {τ : Hp} {k i N : Int} (h1 : 1 ≤ i) (h2 : i ≤ N) (hk : τ 2 i = k) : cK τ k (i - 1) < cK τ k N := by
  have h3 := cK_s τ k h1
  rw [if_pos hk] at h3
  have h4 := cK_mono τ k h2
  omega
theorem cK_congr {τ τ' : Hp} {k j : Int} (h : ∀ i : Int, 1 ≤ i → i ≤ j → τ' 2 i = τ 2 i) : cK τ' k j = cK τ k j := by
  unfold cK
  refine cntU_congr _ (fun i h1 h2 => ?_)
  rw [h i h1 (by omega)]
theorem srch_congr {p q : Int → Bool} : ∀ (k : Nat) (x : Int), (∀ y, x ≤ y → y < x + k → p y = q y) → srch p x k = srch q x k
  | 0, _, _ => rfl
  | k + 1, x, h => by
    unfold srch
    rw [h x (by omega) (by omega), srch_congr k (x + 1) (fun y h1 h2 => h y (by omega) (by omega))]
theorem srchD_congr {p q : Int → Bool} : ∀ k : Nat, (∀ y, 1 ≤ y → y ≤ (k : Int) → p y = q y) → srchD p k = srchD q k
  | 0, _ => rfl
  | k + 1, h => by
    unfold srchD
    rw [h ((k : Int) + 1) (by omega) (by omega), srchD_congr k (fun y h1 h2 => h y h1 (by omega))]
/-- the log, its first N records -/
def RLg (N : Int) (χ τ : Hp) : Prop :=
  (0 ≤ N ∧ N ≤ 200) ∧
  (∀ i : Int, 0 ≤ i → (0 ≤ χ 5 i ∧ χ 5 i < 24) ∧ (0 ≤ τ 4 i ∧ τ 4 i < 24) ∧ (0 ≤ χ 4 i ∧ χ 4 i ≤ 60) ∧ (0 ≤ τ 3 i ∧ τ 3 i ≤ 60)) ∧
  (∀ i : Int, 1 ≤ i → i ≤ N → (1 ≤ τ 2 i ∧ τ 2 i ≤ 4) ∧ χ 3 i = τ 2 i ∧ χ 4 i = τ 3 i ∧ (3 ≤ τ 2 i → χ 10 i = 0)) ∧
  (∀ i : Int, 1 ≤ i → i ≤ N → τ 2 i < 3 → χ 5 i = τ 4 i ∧ χ 8 i = τ 7 i ∧ χ 9 i = τ 8 i ∧ -1 ≤ τ 7 i ∧ τ 7 i ≤ 99) ∧
  (∀ i : Int, 1 ≤ i → i ≤ N → τ 2 i = 1 → χ 6 i = τ 5 i ∧ χ 7 i = τ 6 i ∧ (-1 ≤ τ 5 i ∧ τ 5 i ≤ 99) ∧ 1 ≤ τ 3 i) ∧
  (∀ i : Int, 1 ≤ i → i ≤ N → τ 2 i = 2 → χ 10 i = τ 9 i ∧ 1 ≤ τ 9 i ∧ τ 9 i < i ∧ τ 2 (τ 9 i) = 1 ∧ χ 10 (τ 9 i) = i) ∧
  (∀ i : Int, 1 ≤ i → i ≤ N → τ 2 i = 1 → χ 10 i = 0 ∨ (i < χ 10 i ∧ χ 10 i ≤ N ∧ τ 2 (χ 10 i) = 2 ∧ τ 9 (χ 10 i) = i)) ∧
  (∀ i : Int, 1 ≤ i → i ≤ N → τ 2 i = 3 → 1 ≤ τ 3 i ∧ τ 3 i ≤ τ 1 22 ∧ χ 11 (τ 3 i) = i) ∧
  (∀ t : Int, 0 ≤ t → t ≤ 60 → χ 11 t = 0 ∨ (1 ≤ χ 11 t ∧ χ 11 t ≤ N ∧ τ 2 (χ 11 t) = 3 ∧ τ 3 (χ 11 t) = t)) ∧
  (χ 2 13 = cK τ 1 N ∧ cK τ 1 N ≤ 60) ∧
  (χ 2 14 = cK τ 4 N ∧ cK τ 4 N ≤ 20) ∧
  (∀ i : Int, 1 ≤ i → i ≤ N → τ 2 i = 4 → χ 12 (cK τ 4 (i - 1)) = i ∧ ∀ g : Int, 0 ≤ g → g < 6 → χ (14 + cK τ 4 (i - 1)) g = τ 10 (6 * i + g) ∧ 0 ≤ τ 10 (6 * i + g))
def RLog (χ τ : Hp) : Prop := χ 2 11 = τ 1 0 ∧ RLg (τ 1 0) χ τ
theorem RLg_c {N : Int} {χ τ χ' τ' : Hp} (h : RLg N χ τ) (hx : ∀ a : Int, 3 ≤ a → a ≤ 33 → χ' a = χ a) (h13 : χ' 2 13 = χ 2 13) (h14 : χ' 2 14 = χ 2 14) (hm : ∀ a : Int, 2 ≤ a → a ≤ 10 → τ' a = τ a) (hb : τ' 1 22 = τ 1 22) : RLg N χ' τ' := by
  obtain ⟨hN, l1, l2, l3, l4, l5, l6, l7, l8, l9, l10, l11⟩ := h
  have x3 := hx 3 (by omega) (by omega)
  have x4 := hx 4 (by omega) (by omega)
  have x5 := hx 5 (by omega) (by omega)
  have x6 := hx 6 (by omega) (by omega)
  have x7 := hx 7 (by omega) (by omega)
  have x8 := hx 8 (by omega) (by omega)
  have x9 := hx 9 (by omega) (by omega)
  have x10 := hx 10 (by omega) (by omega)
  have x11 := hx 11 (by omega) (by omega)
  have x12 := hx 12 (by omega) (by omega)
  have m2 := hm 2 (by omega) (by omega)
  have m3 := hm 3 (by omega) (by omega)
  have m4 := hm 4 (by omega) (by omega)
  have m5 := hm 5 (by omega) (by omega)
  have m6 := hm 6 (by omega) (by omega)
  have m7 := hm 7 (by omega) (by omega)
  have m8 := hm 8 (by omega) (by omega)
  have m9 := hm 9 (by omega) (by omega)
  have m10 := hm 10 (by omega) (by omega)
  have c : ∀ k j : Int, cK τ' k j = cK τ k j := fun k j => cK_congr (fun i _ _ => by rw [m2])
  unfold RLg
  rw [x3, x4, x5, x6, x7, x8, x9, x10, x11, x12, m2, m3, m4, m5, m6, m7, m8, m9, m10, hb, h13, h14]
  simp only [c]
  refine ⟨hN, l1, l2, l3, l4, l5, l6, l7, l8, l9, l10, fun i i1 i2 i3 => ?_⟩
  have hlt := cK_lt i1 i2 i3
  have h0 := cK_le τ 4 (show 0 ≤ i - 1 by omega)
  rw [hx (14 + cK τ 4 (i - 1)) (by omega) (by omega)]
  exact l11 i i1 i2 i3
/-- a page in the pool -/
def inP (χ τ : Hp) (p : Int) : Prop := χ 37 p = 1 ∧ 0 < τ 18 p ∧ τ 18 p ≤ τ 1 19 ∧ χ 39 p ≤ χ 34 6 ∧ χ (43 + 6 * p) 2 = τ 16 p ∧ (0 ≤ τ 16 p ∧ τ 16 p ≤ τ 1 0) ∧ ∀ s : Int, 0 ≤ s → s < 4 → χ (43 + 6 * p + 1) s = τ 14 (4 * p + s) ∧ χ (43 + 6 * p + 2) s = τ 15 (4 * p + s) ∧ -1 ≤ τ 14 (4 * p + s) ∧ τ 14 (4 * p + s) ≤ 99
def outP (χ τ : Hp) (p : Int) : Prop := χ 37 p = 0 ∧ τ 18 p = 0 ∧ τ 17 p = 0
def dkP (χ τ : Hp) (p : Int) : Prop := χ 38 p = τ 17 p ∧ 0 ≤ τ 17 p ∧ χ (40 + 6 * p) 2 = τ 13 p ∧ (0 ≤ τ 13 p ∧ τ 13 p ≤ τ 1 1) ∧ ∀ s : Int, 0 ≤ s → s < 4 → χ (40 + 6 * p + 1) s = τ 11 (4 * p + s) ∧ χ (40 + 6 * p + 2) s = τ 12 (4 * p + s) ∧ -1 ≤ τ 11 (4 * p + s) ∧ τ 11 (4 * p + s) ≤ 99
def isoP (χ τ : Hp) : Prop := ∀ p q : Int, 0 ≤ p → p < 6 → 0 ≤ q → q < 6 → 0 < τ 18 p → 0 < τ 18 q → (χ 39 p < χ 39 q ↔ τ 18 p < τ 18 q)
/-- how many pages are in -/
def nIn (τ : Hp) : Int := (if 0 < τ 18 0 then 1 else 0) + (if 0 < τ 18 1 then 1 else 0) + (if 0 < τ 18 2 then 1 else 0) + (if 0 < τ 18 3 then 1 else 0) + (if 0 < τ 18 4 then 1 else 0) + (if 0 < τ 18 5 then 1 else 0)
def RPl (χ τ : Hp) : Prop :=
  (∀ p : Int, 0 ≤ p → p < 6 → dkP χ τ p ∧ (inP χ τ p ∨ outP χ τ p)) ∧ isoP χ τ ∧ nIn τ ≤ 3 ∧
  (χ 34 7 = τ 1 20 ∧ χ 34 8 = τ 1 21 ∧ 0 ≤ χ 34 6 ∧ χ 34 6 ≤ τ 1 19 ∧ 0 ≤ τ 1 20 ∧ 0 ≤ τ 1 21) ∧ (χ 2 12 = τ 1 1 ∧ 0 ≤ τ 1 1 ∧ τ 1 1 ≤ τ 1 0)
theorem RPl_c {χ τ χ' τ' : Hp} (h : RPl χ τ) (hx : ∀ a : Int, 34 ≤ a → a < 76 → χ' a = χ a) (hx2 : χ' 2 12 = χ 2 12) (hm : ∀ a : Int, 11 ≤ a → a ≤ 18 → τ' a = τ a) (h1 : τ' 1 1 = τ 1 1) (h19 : τ 1 19 ≤ τ' 1 19) (h20 : τ' 1 20 = τ 1 20) (h21 : τ' 1 21 = τ 1 21) (h0 : τ 1 0 ≤ τ' 1 0) : RPl χ' τ' := by
  obtain ⟨p1, p2, p3, ⟨q1, q2, q3, q4, q5, q6⟩, s1, s2, s3⟩ := h
  have m11 := hm 11 (by omega) (by omega)
  have m12 := hm 12 (by omega) (by omega)
  have m13 := hm 13 (by omega) (by omega)
  have m14 := hm 14 (by omega) (by omega)
  have m15 := hm 15 (by omega) (by omega)
  have m16 := hm 16 (by omega) (by omega)
  have m17 := hm 17 (by omega) (by omega)
  have m18 := hm 18 (by omega) (by omega)
  have x34 := hx 34 (by omega) (by omega)
  have x37 := hx 37 (by omega) (by omega)
  have x38 := hx 38 (by omega) (by omega)
  have x39 := hx 39 (by omega) (by omega)
  refine ⟨fun p a1 a2 => ?_, ?_, ?_, ?_, ?_⟩
  · obtain ⟨d1, d2⟩ := p1 p a1 a2
    unfold dkP inP outP at *
    rw [hx (40 + 6 * p) (by omega) (by omega), hx (40 + 6 * p + 1) (by omega) (by omega), hx (40 + 6 * p + 2) (by omega) (by omega), hx (43 + 6 * p) (by omega) (by omega), hx (43 + 6 * p + 1) (by omega) (by omega), hx (43 + 6 * p + 2) (by omega) (by omega), x34, x37, x38, x39, m11, m12, m13, m14, m15, m16, m17, m18, h1]
    refine ⟨d1, ?_⟩
    rcases d2 with ⟨e1, e2, e3, e4, e5, ⟨e6, e7⟩, e8⟩ | d2
    · exact Or.inl ⟨e1, e2, by omega, e4, e5, ⟨e6, by omega⟩, e8⟩
    · exact Or.inr d2
  · unfold isoP; rw [x39, m18]; exact p2
  · unfold nIn; rw [m18]; exact p3
  · rw [x34, h20, h21]; exact ⟨q1, q2, q3, by omega, q5, q6⟩
  · rw [hx2, h1]; exact ⟨s1, s2, by omega⟩
