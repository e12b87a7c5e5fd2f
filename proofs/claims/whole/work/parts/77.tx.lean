-- ===== the transactions; all together =====
def txE (e : Int) (χ τ : Hp) (t : Int) : Prop := χ 85 t = 85 + t ∧ χ (85 + t) 0 = t ∧ (0 ≤ χ (85 + t) 1 ∧ χ (85 + t) 1 < 4) ∧ χ (85 + t) 2 = τ 19 t ∧ (t ≠ e → χ (85 + t) 3 = τ 20 t) ∧ χ (85 + t) 4 = τ 21 t ∧ χ (85 + t) 6 = τ 22 t ∧ χ (85 + t) 7 = τ 23 t ∧ χ (85 + t) 8 = τ 24 t ∧ (1 ≤ τ 19 t ∧ τ 19 t ≤ 6) ∧ (0 ≤ τ 25 t ∧ τ 25 t ≤ τ 1 19) ∧ (0 ≤ χ (85 + t) 5 ∧ χ (85 + t) 5 ≤ χ 1 6) ∧ (0 < χ (85 + t) 5 ↔ 0 < τ 25 t) ∧ (τ 19 t = 2 → 0 < τ 25 t ∧ (τ 23 t = 1 ∨ τ 23 t = 2))
def seatE (χ τ : Hp) (s : Int) : Prop := (χ 77 s = 0 ∧ ∀ k : Int, 0 ≤ k → k < 100 → χ (79 + s) k = 0) ∨ ∃ t : Int, 1 ≤ t ∧ t ≤ τ 1 22 ∧ χ 77 s = 85 + t ∧ χ (85 + t) 1 = s ∧ τ 19 t ≤ 3 ∧ ∀ k : Int, 0 ≤ k → k < 100 → χ (79 + s) k = τ 26 (100 * t + k)
def RTx (e : Int) (n : Nat) (χ τ : Hp) : Prop :=
  (0 ≤ τ 1 22 ∧ τ 1 22 ≤ 60 ∧ (n : Int) = 85 + τ 1 22 ∧ χ 1 5 = τ 1 22) ∧
  (∀ t : Int, 1 ≤ t → t ≤ τ 1 22 → txE e χ τ t) ∧
  (∀ t : Int, τ 1 22 < t → t ≤ 60 → τ 21 t = 0 ∧ τ 22 t = 0 ∧ τ 23 t = 0 ∧ τ 24 t = 0 ∧ τ 25 t = 0) ∧
  (∀ t : Int, 0 ≤ t → t ≤ 60 → 0 ≤ τ 22 t ∧ τ 22 t ≤ 99) ∧
  (∀ t u : Int, 1 ≤ t → t ≤ τ 1 22 → 1 ≤ u → u ≤ τ 1 22 → (χ (85 + t) 5 < χ (85 + u) 5 ↔ τ 25 t < τ 25 u) ∧ (0 < τ 25 t → τ 25 t = τ 25 u → t = u)) ∧
  (∀ s : Int, 0 ≤ s → s < 4 → seatE χ τ s) ∧
  (∀ t : Int, 1 ≤ t → t ≤ τ 1 22 → τ 19 t ≤ 3 → χ 77 (χ (85 + t) 1) = 85 + t) ∧
  (∀ t k : Int, 0 ≤ t → t ≤ 60 → 0 ≤ k → k < 100 → (0 ≤ τ 26 (100 * t + k) ∧ τ 26 (100 * t + k) ≤ 2) ∧ (t < 1 ∨ τ 1 22 < t ∨ 3 < τ 19 t → τ 26 (100 * t + k) = 0)) ∧
  ((χ 1 8 = 1 ∧ τ 1 32 = 0) ∨ (χ 1 8 = 0 ∧ τ 1 32 = 1)) ∧
  (χ 1 7 = τ 1 33 ∧ 0 ≤ τ 1 33 ∧ 0 ≤ χ 1 6 ∧ χ 1 6 ≤ τ 1 19) ∧
  (∀ t : Int, 1 ≤ t → t ≤ τ 1 22 → (τ 19 t = 3 → ¬ χ 11 t = 0) ∧ (τ 19 t ≤ 2 → χ 11 t = 0))
theorem RTx_c {e : Int} {n : Nat} {χ τ χ' τ' : Hp} (h : RTx e n χ τ) (hx : ∀ a : Int, 76 ≤ a → χ' a = χ a) (hx1 : χ' 1 = χ 1) (hx11 : χ' 11 = χ 11) (hm : ∀ a : Int, 19 ≤ a → a ≤ 26 → τ' a = τ a) (m22 : τ' 1 22 = τ 1 22) (m32 : τ' 1 32 = τ 1 32) (m33 : τ' 1 33 = τ 1 33) (m19 : τ 1 19 ≤ τ' 1 19) : RTx e n χ' τ' := by
  obtain ⟨a1, a2, a3, a4, a5, a6, a7, a8, a9, ⟨a10, a11, a12, a13⟩, a14⟩ := h
  have e19 := hm 19 (by decide) (by decide)
  have e20 := hm 20 (by decide) (by decide)
  have e21 := hm 21 (by decide) (by decide)
  have e22 := hm 22 (by decide) (by decide)
  have e23 := hm 23 (by decide) (by decide)
  have e24 := hm 24 (by decide) (by decide)
  have e25 := hm 25 (by decide) (by decide)
  have e26 := hm 26 (by decide) (by decide)
  have x77 := hx 77 (by decide)
  have x85 := hx 85 (by decide)
  unfold RTx
  rw [m22, m32, m33, e19, e21, e22, e23, e24, e25, e26, hx1, hx11, x77]
  refine ⟨a1, fun t t1 t2 => ?_, a3, a4, fun t u t1 t2 u1 u2 => ?_, fun s s0 s1 => ?_, fun t t1 t2 t3 => ?_, a8, a9, ⟨a10, a11, a12, by omega⟩, a14⟩
  · obtain ⟨b1, b2, b3, b4, b5, b6, b7, b8, b9, b10, ⟨b11, b12⟩, b13⟩ := a2 t t1 t2
    unfold txE
    rw [hx (85 + t) (by omega), e19, e20, e21, e22, e23, e24, e25, hx1, x85]
    exact ⟨b1, b2, b3, b4, b5, b6, b7, b8, b9, b10, ⟨b11, by omega⟩, b13⟩
  · rw [hx (85 + t) (by omega), hx (85 + u) (by omega)]
    exact a5 t u t1 t2 u1 u2
  · unfold seatE
    rw [x77, hx (79 + s) (by omega), m22, e19, e26]
    rcases a6 s s0 s1 with b | ⟨t, t1, t2, t3, t4, t5, t6⟩
    · exact Or.inl b
    · exact Or.inr ⟨t, t1, t2, t3, by rw [hx (85 + t) (by omega)]; exact t4, t5, t6⟩
  · rw [hx (85 + t) (by omega)]
    exact a7 t t1 t2 t3
def JJ (e B : Int) (n : Nat) (χ τ : Hp) : Prop := RLog χ τ ∧ RPl χ τ ∧ RTx e n χ τ ∧ (0 ≤ τ 1 19 ∧ τ 1 19 ≤ B ∧ τ 1 20 ≤ B ∧ τ 1 21 ≤ B)
theorem JJ_up {e B B' : Int} {n : Nat} {χ τ : Hp} (h : JJ e B n χ τ) (hb : B ≤ B') : JJ e B' n χ τ := ⟨h.1, h.2.1, h.2.2.1, h.2.2.2.1, by have := h.2.2.2; omega, by have := h.2.2.2; omega, by have := h.2.2.2; omega⟩
theorem j_fetch {e B : Int} {n : Nat} {χ τ : Hp} (h : JJ e B n χ τ) {p : Int} (p0 : 0 ≤ p) (p1 : p < 6) : JJ e (B + 1) n (f_fetch χ p) (m_fetch τ p) ∧ 0 < m_fetch τ p 18 p := by
  obtain ⟨hL, hP, hT, b0, b1, b2, b3⟩ := h
  obtain ⟨r1, r2, r3, r4, r5⟩ := r_fetch hP p0 p1 b0
  have m10 : m_fetch τ p 1 0 = τ 1 0 := m_fetch_1 _ _ (by decide) (by decide) (by decide) (by decide)
  have m22 : m_fetch τ p 1 22 = τ 1 22 := m_fetch_1 _ _ (by decide) (by decide) (by decide) (by decide)
  refine ⟨⟨⟨?_, ?_⟩, r1, ?_, ?_⟩, r2⟩
  · rw [f_fetch_2 _ p0 (by decide), m10]; exact hL.1
  · rw [m10]
    exact RLg_c hL.2 (fun a a1 a2 => f_fetch_fr _ p0 p1 (by omega) (by omega)) (f_fetch_2 _ p0 (by decide)) (f_fetch_2 _ p0 (by decide)) (fun a a1 a2 => m_fetch_fr _ _ (by omega) (by omega)) m22
  · exact RTx_c hT (fun a a1 => f_fetch_fr _ p0 p1 (by omega) (by omega)) (f_fetch_fr _ p0 p1 (by omega) (by omega)) (f_fetch_fr _ p0 p1 (by omega) (by omega)) (fun a a1 a2 => m_fetch_fr _ _ (by omega) (by omega)) m22 (m_fetch_1 _ _ (by decide) (by decide) (by decide) (by decide)) (m_fetch_1 _ _ (by decide) (by decide) (by decide) (by decide)) (by omega)
  · omega
theorem j_spill {e B : Int} {n : Nat} {χ τ : Hp} (h : JJ e B n χ τ) {p : Int} (p0 : 0 ≤ p) (p1 : p < 6) (hin : 0 < τ 18 p) : JJ e (B + 1) n (f_writeOut χ p) (m_spill τ p) := by
  obtain ⟨hL, hP, hT, b0, b1, b2, b3⟩ := h
  have m10 : ∀ i : Int, i ≠ 1 → i ≠ 21 → m_spill τ p 1 i = τ 1 i := fun i h1 h2 => m_spill_1 _ _ h1 h2
  refine ⟨⟨?_, ?_⟩, r_spill hP p0 p1 hin, ?_, ?_⟩
  · rw [f_writeOut_2 _ p0 (by decide), m10 _ (by decide) (by decide)]; exact hL.1
  · rw [m10 _ (by decide) (by decide)]
    exact RLg_c hL.2 (fun a a1 a2 => f_writeOut_fr _ (by omega) p0 p1 (by omega) (by omega) (by omega)) (f_writeOut_2 _ p0 (by decide)) (f_writeOut_2 _ p0 (by decide)) (fun a a1 a2 => m_spill_fr _ _ (by omega) (by omega)) (m10 _ (by decide) (by decide))
  · exact RTx_c hT (fun a a1 => f_writeOut_fr _ (by omega) p0 p1 (by omega) (by omega) (by omega)) (f_writeOut_fr _ (by omega) p0 p1 (by omega) (by omega) (by omega)) (f_writeOut_fr _ (by omega) p0 p1 (by omega) (by omega) (by omega)) (fun a a1 a2 => m_spill_fr _ _ (by omega) (by omega)) (m10 _ (by decide) (by decide)) (m10 _ (by decide) (by decide)) (m10 _ (by decide) (by decide)) (by rw [m10 _ (by decide) (by decide)]; exact Int.le_refl _)
  · rw [m10 19 (by decide) (by decide), m10 20 (by decide) (by decide), m_spill_o]; omega
theorem j_apply {e B : Int} {n : Nat} {χ τ : Hp} (h : JJ e B n χ τ) {r : Int} (r0 : 1 ≤ r) (r1 : r ≤ τ 1 0) (hk : τ 2 r < 3) (hin : 0 < τ 18 (τ 4 r / 4)) : JJ e B n (f_apply χ r) (m_apply τ r) := by
  obtain ⟨hL, hP, hT, hB⟩ := h
  obtain ⟨l3a, l3b, l3c, l3d, l3e⟩ := hL.2.2.2.2.1 r r0 r1 hk
  obtain ⟨x1, x2, -⟩ := hL.2.2.1 r (by omega)
  have m1 : m_apply τ r 1 = τ 1 := m_apply_fr (by decide) (by decide) (by decide) (by decide)
  have fr : ∀ a : Int, a < 34 ∨ 76 ≤ a → f_apply χ r a = χ a := fun a ha => f_apply_fr x1.1 (by omega) (by omega) (by omega) (by omega)
  refine ⟨⟨?_, ?_⟩, r_apply hP r0 r1 l3a l3b l3c x2.1 x2.2 l3d l3e hin, ?_, ?_⟩
  · rw [fr 2 (by decide), m1]; exact hL.1
  · rw [m1]
    exact RLg_c hL.2 (fun a a1 a2 => fr a (by omega)) (by rw [fr 2 (by decide)]) (by rw [fr 2 (by decide)]) (fun a a1 a2 => m_apply_fr (by omega) (by omega) (by omega) (by omega)) (by rw [m1])
  · exact RTx_c hT (fun a a1 => fr a (by omega)) (fr 1 (by decide)) (fr 11 (by decide)) (fun a a1 a2 => m_apply_fr (by omega) (by omega) (by omega) (by omega)) (by rw [m1]) (by rw [m1]) (by rw [m1]) (by rw [m1]; exact Int.le_refl _)
  · rw [m1]; exact hB
theorem m_takeBack_eq (τ : Hp) (u : Int) : m_takeBack τ u = m_apply (m_rec2 (m_fetch τ (τ 4 u / 4)) u) (m_fetch τ (τ 4 u / 4) 1 0 + 1) := by
  simp only [m_takeBack, m_rec2]
  rw [m_put_0]
  generalize m_fetch τ (τ 4 u / 4) = ρ
  have e5 : st2 (m_put ρ 2 (ρ 3 u) (ρ 4 u)) 9 (ρ 1 0 + 1) u 5 u = ρ 5 u := by
    rw [st2_ne (by decide), m_put_c (by decide) (by decide) (by decide) (by decide)]
  have e6 : st2 (st2 (m_put ρ 2 (ρ 3 u) (ρ 4 u)) 9 (ρ 1 0 + 1) u) 7 (ρ 1 0 + 1) (ρ 5 u) 6 u = ρ 6 u := by
    rw [st2_ne (by decide), st2_ne (by decide), m_put_c (by decide) (by decide) (by decide) (by decide)]
  rw [e5, e6]
theorem m_rec2_2 (τ : Hp) (u i : Int) : m_rec2 τ u 2 i = if i = τ 1 0 + 1 then 2 else τ 2 i := by
  simp [m_rec2, m_put_eq, st2]
theorem m_rec2_4 (τ : Hp) (u : Int) : m_rec2 τ u 4 (τ 1 0 + 1) = τ 4 u := by
  simp [m_rec2, m_put_eq, st2]
theorem j_clr {e B : Int} {n : Nat} {χ τ : Hp} (h : JJ e B n χ τ) {u : Int} (hN : τ 1 0 < 200) (u1 : 1 ≤ u) (u2 : u ≤ τ 1 0) (hu : τ 2 u = 1) (hz : χ 10 u = 0) : JJ e B n (f_addClr χ u) (m_rec2 τ u) := by
  obtain ⟨hL, hP, hT, hB⟩ := h
  refine ⟨r_clr hL hN u1 u2 hu hz, RPl_c hP (fun a a1 a2 => f_addClr_c (by omega)) (f_addClr_b (by decide)) (fun a a1 a2 => m_rec2_c (by omega) (by omega)) (m_rec2_b (by decide)) (by rw [m_rec2_b (by decide)]; exact Int.le_refl _) (m_rec2_b (by decide)) (m_rec2_b (by decide)) (by rw [m_rec2_0]; omega), RTx_c hT (fun a a1 => f_addClr_c (by omega)) (f_addClr_c (by decide)) (f_addClr_c (by decide)) (fun a a1 a2 => m_rec2_c (by omega) (by omega)) (m_rec2_b (by decide)) (m_rec2_b (by decide)) (m_rec2_b (by decide)) (by rw [m_rec2_b (by decide)]; exact Int.le_refl _), ?_⟩
  rw [m_rec2_b (by decide), m_rec2_b (by decide), m_rec2_b (by decide)]; exact hB
theorem j_takeBack {e B : Int} {n : Nat} {χ τ : Hp} (h : JJ e B n χ τ) {u : Int} (u1 : 1 ≤ u) (u2 : u ≤ τ 1 0) (hu : τ 2 u = 1) (hz : χ 10 u = 0) : JJ e (B + 1) n (f_takeBack χ u) (m_takeBack τ u) ∧ τ 1 0 < 200 ∧ χ 5 u = τ 4 u ∧ 0 ≤ τ 4 u ∧ τ 4 u < 24 := by
  have hL := h.1
  obtain ⟨l3a, -⟩ := hL.2.2.2.2.1 u u1 u2 (by omega)
  obtain ⟨x1, x2, -⟩ := hL.2.2.1 u (by omega)
  have hN := lg_room hL.2 ⟨h.2.2.1.1.1, h.2.2.1.1.2.1⟩ (Or.inr (Or.inr (Or.inr ⟨u, u1, u2, hu, hz⟩)))
  refine ⟨?_, hN, l3a, x2.1, x2.2⟩
  obtain ⟨j1, hin⟩ := j_fetch h (p := τ 4 u / 4) (by omega) (by omega)
  have f10 : f_fetch χ (τ 4 u / 4) 10 = χ 10 := f_fetch_fr _ (by omega) (by omega) (by omega) (by omega)
  have m10 : m_fetch τ (τ 4 u / 4) 1 0 = τ 1 0 := m_fetch_1 _ _ (by decide) (by decide) (by decide) (by decide)
  have m2 : m_fetch τ (τ 4 u / 4) 2 = τ 2 := m_fetch_fr _ _ (by decide) (by decide)
  have m4 : m_fetch τ (τ 4 u / 4) 4 = τ 4 := m_fetch_fr _ _ (by decide) (by decide)
  have e11 : f_fetch χ (τ 4 u / 4) 2 11 = m_fetch τ (τ 4 u / 4) 1 0 := j1.1.1
  rw [m_takeBack_eq]
  unfold f_takeBack
  rw [l3a, e11]
  have j2 := j_clr j1 (u := u) (by rw [m10]; exact hN) u1 (by rw [m10]; exact u2) (by rw [m2]; exact hu) (by rw [f10]; exact hz)
  refine j_apply j2 (by have := hL.2.1.1; omega) (by rw [m_rec2_0]; exact Int.le_refl _) ?_ ?_
  · rw [m_rec2_2, if_pos rfl]; decide
  · rw [m_rec2_4, m_rec2_c (by decide) (by decide), m4]
    exact hin
