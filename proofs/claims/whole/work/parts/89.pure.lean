-- ===== the calls that only look =====
theorem b_pure {B : Int} {n : Nat} {χ τ : Hp} {yx : MethodName} {bx : ByteArray} {mx : Nat} {rx : Option FieldType} {ax : List AV} {ym : MethodName} {bm : ByteArray} {mm : Nat} {am : List AV} {dx dm : Nat} {v w : Int} (h : INV B n χ τ) (hx : dx ≤ 7) (hm : dm ≤ 6) (cx : Ok LyX TX yx bx mx rx dx 0 0 ax n χ (pI n χ v)) (cm : Ok LyM TM ym bm mm rx dm 0 0 am 28 τ (pI 28 τ w)) (e : v = w) : Both B n χ τ yx bx mx rx 0 0 ax ym bm mm am := by
  refine ⟨dx, dm, _, _, hx, hm, cx, cm, (by rintro r n' σ' ⟨rfl, _⟩; exact ⟨_, rfl⟩), ?_⟩
  rintro r n' χ' r' m' τ' ⟨rfl, rfl, rfl⟩ ⟨rfl, rfl, rfl⟩
  exact ⟨rfl, ⟨w, by rw [e], rfl⟩, inv_B h (by omega)⟩
theorem b_n {B : Int} {n : Nat} {χ τ : Hp} (h : INV B n χ τ) : 85 ≤ n ∧ n ≤ 1000 := by
  have := h.1.2.2.1.1
  omega
theorem b_up {B : Int} {n : Nat} {χ τ : Hp} (h : INV B n χ τ) : Both B n χ τ y_X_up b_X_up 1 (some .boolean) 0 0 [.inr 1] y_M_up b_M_up 1 [.inr 1] := by
  have hf := inv_flag h.1.2.2.1
  refine b_pure h (by omega) (by omega) (c_X_up (b_n h).1 (by omega) (by omega)) c_M_up ?_
  split <;> omega
theorem r_known {B : Int} {n : Nat} {χ τ : Hp} (h : INV B n χ τ) (t x y : Int) (f : Int) (g : Hp → Int) (hg : 1 ≤ t → t ≤ τ 1 22 → x = y) : (if 1 ≤ t ∧ t ≤ χ 1 5 then x else f) = (if m_known τ t = true then y else f) := by
  have hb := h.1.2.2.1.1
  simp only [m_known, Bool.and_eq_true, decide_eq_true_eq]
  rw [hb.2.2.2]
  by_cases ht : 1 ≤ t ∧ t ≤ τ 1 22
  · rw [if_pos ht, if_pos ht]; exact hg ht.1 ht.2
  · rw [if_neg ht, if_neg ht]
theorem b_state {B : Int} {n : Nat} {χ τ : Hp} (h : INV B n χ τ) (t : Int) : Both B n χ τ y_X_state b_X_state 3 (some .int) 0 0 [.inr 1, .inl t] y_M_state b_M_state 2 [.inr 1, .inl t] :=
  b_pure h (by omega) (by omega) (c_X_state (jx_F h.1.2.2.1)) (c_M_state h.1.2.2.1.1.2.1) (r_known h t _ _ 0 (fun _ => 0) (fun t1 t2 => (h.1.2.2.1.2.1 t t1 t2).2.2.2.1))
theorem b_outcome {B : Int} {n : Nat} {χ τ : Hp} (h : INV B n χ τ) (t : Int) : Both B n χ τ y_X_outcome b_X_outcome 3 (some .int) 0 0 [.inr 1, .inl t] y_M_outcome b_M_outcome 2 [.inr 1, .inl t] :=
  b_pure h (by omega) (by omega) (c_X_outcome (jx_F h.1.2.2.1)) (c_M_outcome h.1.2.2.1.1.2.1) (r_known h t _ _ (-1) (fun _ => 0) (fun t1 t2 => JJ_out h.1 t1 t2))
theorem b_value {B : Int} {n : Nat} {χ τ : Hp} (h : INV B n χ τ) (t : Int) : Both B n χ τ y_X_value b_X_value 3 (some .int) 0 0 [.inr 1, .inl t] y_M_value b_M_value 2 [.inr 1, .inl t] :=
  b_pure h (by omega) (by omega) (c_X_value (jx_F h.1.2.2.1)) (c_M_value h.1.2.2.1.1.2.1) (r_known h t _ _ 0 (fun _ => 0) (fun t1 t2 => (h.1.2.2.1.2.1 t t1 t2).2.2.2.2.2.1))
theorem r_place {χ τ : Hp} (h : RPl χ τ) (key : Int) : (if 0 ≤ key ∧ key < 100 then f_placeOf χ key else -1) = m_place τ key := by
  unfold m_place
  by_cases hk : 0 ≤ key ∧ key < 100
  · rw [if_pos hk, if_neg (by omega), r_find h]
  · rw [if_neg hk, if_pos (by omega)]
theorem b_place {B : Int} {n : Nat} {χ τ : Hp} (h : INV B n χ τ) (key : Int) : Both B n χ τ y_X_place b_X_place 2 (some .int) 0 0 [.inr 1, .inl key] y_M_place b_M_place 2 [.inr 1, .inl key] :=
  b_pure h (by omega) (by omega) (c_X_place (b_n h).1) c_M_place (r_place h.1.2.1 key)
theorem b_stored {B : Int} {n : Nat} {χ τ : Hp} (h : INV B n χ τ) (key : Int) : Both B n χ τ y_X_stored b_X_stored 3 (some .int) 0 0 [.inr 1, .inl key] y_M_stored b_M_stored 3 [.inr 1, .inl key] := by
  refine b_pure h (by omega) (by omega) (c_X_stored (b_n h).1) c_M_stored ?_
  rw [r_place h.1.2.1 key]
  have hp : -1 ≤ m_place τ key ∧ m_place τ key < 24 := by
    unfold m_place
    split
    · omega
    · exact m_find_lt τ key
  by_cases hz : m_place τ key = -1
  · rw [if_pos hz, if_pos (by omega)]
  · rw [if_neg hz, if_neg (by omega)]
    exact (r_keyAt h.1.2.1 (by omega) hp.2).2.1
theorem b_count {B : Int} {n : Nat} {χ τ : Hp} (h : INV B n χ τ) (w : Int) : Both B n χ τ y_X_count b_X_count 2 (some .int) 0 0 [.inr 1, .inl w] y_M_count b_M_count 2 [.inr 1, .inl w] := by
  refine b_pure h (by omega) (by omega) (c_X_count (b_n h).1) c_M_count ?_
  obtain ⟨hL, hP, -⟩ := h.1
  rw [hL.1, hP.2.2.2.2.1, hP.2.2.2.1.1, hP.2.2.2.1.2.1]
theorem b_page {B : Int} {n : Nat} {χ τ : Hp} (h : INV B n χ τ) (p w : Int) : Both B n χ τ y_X_page b_X_page 3 (some .int) 0 0 [.inr 1, .inl p, .inl w] y_M_page b_M_page 3 [.inr 1, .inl p, .inl w] := by
  refine b_pure h (by omega) (by omega) (c_X_page (b_n h).1) c_M_page ?_
  unfold m_pageA
  by_cases hp : 0 ≤ p ∧ p < 6
  · rw [if_pos hp]
    obtain ⟨⟨d1, d2, d3, -⟩, hio⟩ := h.1.2.1.1 p hp.1 hp.2
    by_cases hw : 0 ≤ w ∧ w ≤ 2
    · rw [if_neg (show ¬ (p < 0 ∨ 5 < p ∨ w < 0 ∨ 2 < w) by omega)]
      rcases (show w = 0 ∨ w = 1 ∨ w = 2 by omega) with rfl | rfl | rfl
      · rw [if_pos rfl, if_neg (show ¬ (0 : Int) = 2 by decide), if_pos rfl]
        rcases hio with ⟨e1, e2, -⟩ | ⟨e1, e2, -⟩
        · rw [if_neg (by omega), if_neg (by omega)]; exact d1
        · rw [if_pos e1, if_pos e2]
      · rw [if_neg (show ¬ (1 : Int) = 0 by decide), if_pos rfl, if_neg (show ¬ (1 : Int) = 2 by decide), if_neg (show ¬ (1 : Int) = 0 by decide)]
        rcases hio with ⟨e1, e2, e3, e4, e5, -⟩ | ⟨e1, e2, -⟩
        · rw [if_neg (by omega), if_neg (by omega)]; exact e5
        · rw [if_pos e1, if_pos e2]
      · rw [if_neg (show ¬ (2 : Int) = 0 by decide), if_neg (show ¬ (2 : Int) = 1 by decide), if_pos rfl, if_pos rfl]; exact d3
    · rw [if_neg (show ¬ w = 0 by omega), if_neg (show ¬ w = 1 by omega), if_neg (show ¬ w = 2 by omega), if_pos (show (p < 0 ∨ 5 < p ∨ w < 0 ∨ 2 < w) by omega)]
  · rw [if_neg hp, if_pos (show (p < 0 ∨ 5 < p ∨ w < 0 ∨ 2 < w) by omega)]
theorem f_lka_spec {χ : Hp} {b : Int} (hk : ∀ x : Int, 0 ≤ x → x < 24 → -1 ≤ f_keyAt χ x ∧ f_keyAt χ x ≤ 99) : ∀ k : Nat, k ≤ 24 → (f_lka χ b k = -1 ∧ ∀ x : Int, 0 ≤ x → x < (k : Int) → ¬ f_keyAt χ x = -1 → f_keyAt χ x ≤ b) ∨ (∃ x : Int, 0 ≤ x ∧ x < (k : Int) ∧ f_lka χ b k = f_keyAt χ x ∧ 0 ≤ f_keyAt χ x ∧ b < f_keyAt χ x ∧ ∀ y : Int, 0 ≤ y → y < (k : Int) → ¬ f_keyAt χ y = -1 → b < f_keyAt χ y → f_lka χ b k ≤ f_keyAt χ y)
  | 0, _ => Or.inl ⟨rfl, fun x h0 h1 => by omega⟩
  | k + 1, h => by
    have ih := f_lka_spec (b := b) hk k (by omega)
    have hkk := hk (k : Int) (by omega) (by omega)
    unfold f_lka
    by_cases hc : ¬ f_keyAt χ (k : Int) = -1 ∧ b < f_keyAt χ (k : Int) ∧ (f_lka χ b k = -1 ∨ f_keyAt χ (k : Int) < f_lka χ b k)
    · rw [if_pos hc]
      refine Or.inr ⟨(k : Int), by omega, by omega, rfl, by omega, hc.2.1, fun y y0 y1 y2 y3 => ?_⟩
      by_cases hy : y = (k : Int)
      · rw [hy]; exact Int.le_refl _
      · rcases ih with ⟨i1, i2⟩ | ⟨x, x0, x1, x2, x3, x4, x5⟩
        · have := i2 y y0 (by omega) y2; omega
        · have := x5 y y0 (by omega) y2 y3
          rcases hc.2.2 with c | c <;> omega
    · rw [if_neg hc]
      rcases ih with ⟨i1, i2⟩ | ⟨x, x0, x1, x2, x3, x4, x5⟩
      · refine Or.inl ⟨i1, fun y y0 y1 y2 => ?_⟩
        by_cases hy : y = (k : Int)
        · rw [hy] at y2 ⊢
          refine Int.not_lt.mp (fun z => hc ⟨y2, z, Or.inl i1⟩)
        · exact i2 y y0 (by omega) y2
      · refine Or.inr ⟨x, x0, by omega, x2, x3, x4, fun y y0 y1 y2 y3 => ?_⟩
        by_cases hy : y = (k : Int)
        · rw [hy] at y2 y3 ⊢
          refine Int.not_lt.mp (fun z => hc ⟨y2, y3, Or.inr z⟩)
        · exact x5 y y0 (by omega) y2 y3
theorem m_find_iff (τ : Hp) (key : Int) : 0 ≤ m_find τ key ↔ ∃ x : Int, 0 ≤ x ∧ x < 24 ∧ m_keyAt τ x = key := by
  have h := srch_spec (fun x => decide (m_keyAt τ x = key)) 24 0
  have e : srch (fun x => decide (m_keyAt τ x = key)) 0 24 = m_find τ key := rfl
  rw [e] at h
  constructor
  · intro hz
    rcases h with ⟨a, -⟩ | ⟨a, b, c, -⟩
    · omega
    · exact ⟨m_find τ key, a, by omega, by simpa using c⟩
  · rintro ⟨x, x0, x1, x2⟩
    rcases h with ⟨a, c⟩ | ⟨a, b, c, -⟩
    · have := c x x0 (by omega)
      simp [x2] at this
    · exact a
theorem r_after {χ τ : Hp} (h : RPl χ τ) (key : Int) : f_lka χ key 24 = m_after τ key := by
  have hk : ∀ x : Int, 0 ≤ x → x < 24 → -1 ≤ f_keyAt χ x ∧ f_keyAt χ x ≤ 99 := fun x x0 x1 => by
    have := r_keyAt h x0 x1
    omega
  have hl := f_lka_spec (b := key) hk 24 (by omega)
  have hf : ∀ x : Int, 0 ≤ x → x < 24 → 0 ≤ m_find τ (f_keyAt χ x) := fun x x0 x1 => (m_find_iff τ _).mpr ⟨x, x0, x1, (r_keyAt h x0 x1).1.symm⟩
  have hg : ∀ y : Int, 0 ≤ m_find τ y → ∃ x : Int, 0 ≤ x ∧ x < 24 ∧ f_keyAt χ x = y := fun y hy => by
    obtain ⟨x, x0, x1, x2⟩ := (m_find_iff τ y).mp hy
    exact ⟨x, x0, x1, by rw [(r_keyAt h x0 x1).1]; exact x2⟩
  have hs : ∀ (a : Int) (k : Nat), 0 ≤ a → (key < a ∧ ∀ y : Int, 0 ≤ y → y < a → y ≤ key) → a + k = 100 → f_lka χ key 24 = srch (fun k => decide (0 ≤ m_find τ k)) a k := by
    intro a k a0 ha hak
    have hsp := srch_spec (fun k => decide (0 ≤ m_find τ k)) k a
    generalize srch (fun k => decide (0 ≤ m_find τ k)) a k = z at hsp ⊢
    rcases hl with ⟨l1, l2⟩ | ⟨x, x0, x1, x2, x3, x4, x5⟩
    · rcases hsp with ⟨s1, -⟩ | ⟨s1, s2, s3, -⟩
      · omega
      · obtain ⟨x, x0, x1, x2⟩ := hg z (by simpa using s3)
        have := l2 x x0 x1 (by omega)
        omega
    · have hx := hf x x0 x1
      have hkx := hk x x0 x1
      have hge : a ≤ f_keyAt χ x := by
        refine Int.not_lt.mp (fun z => ?_)
        have := ha.2 _ x3 z
        omega
      rcases hsp with ⟨s1, s2⟩ | ⟨s1, s2, s3, s4⟩
      · have := s2 (f_keyAt χ x) hge (by omega)
        simp at this
        omega
      · obtain ⟨y, y0, y1, y2⟩ := hg z (by simpa using s3)
        have h5 := x5 y y0 y1 (by omega) (by omega)
        have h6 : ¬ f_keyAt χ x < z := fun w => by
          have := s4 (f_keyAt χ x) hge w
          simp at this
          omega
        omega
  unfold m_after
  by_cases h1 : key < 0
  · rw [if_pos h1, if_pos h1]
    exact hs 0 100 (by decide) ⟨h1, fun y y0 y1 => by omega⟩ rfl
  · rw [if_neg h1, if_neg h1]
    by_cases h2 : 99 ≤ key
    · rw [if_pos h2, if_pos h2]
      rcases hl with ⟨l1, -⟩ | ⟨x, x0, x1, x2, x3, x4, x5⟩
      · exact l1
      · have := hk x x0 x1; omega
    · rw [if_neg h2, if_neg h2]
      exact hs (key + 1) (99 - key).toNat (by omega) ⟨by omega, fun y y0 y1 => by omega⟩ (by omega)
theorem b_after {B : Int} {n : Nat} {χ τ : Hp} (h : INV B n χ τ) (key : Int) : Both B n χ τ y_X_after b_X_after 2 (some .int) 0 0 [.inr 1, .inl key] y_M_after b_M_after 3 [.inr 1, .inl key] := by
  refine b_pure h (by omega) (by omega) (c_X_after (b_n h).1) c_M_after ?_
  unfold m_afterA
  rw [r_after h.1.2.1 key]
  rcases inv_flag h.1.2.2.1 with ⟨f1, f2⟩ | ⟨f1, f2⟩
  · rw [if_neg (by omega), if_pos f2]
  · rw [if_pos f1, if_neg (by omega)]
