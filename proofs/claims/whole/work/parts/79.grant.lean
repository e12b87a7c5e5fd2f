-- ===== granting =====
theorem j_lock {B : Int} {n : Nat} {χ τ : Hp} (h : JJ 0 B n χ τ) {t : Int} (t1 : 1 ≤ t) (t2 : t ≤ τ 1 22) (hl : τ 19 t ≤ 2) (hw : τ 23 t = 1 ∨ τ 23 t = 2) : JJ t B n (st2 (f_hold χ (85 + t)) (85 + t) 2 1) (m_lock τ t) := by
  obtain ⟨hL, hP, hT, hB⟩ := h
  have ht0 := hT.2.1 t t1 t2
  obtain ⟨b1, b2, b3, b4, b5, b6, b7, b8, b9, b10, b11, b12, b13, b14⟩ := ht0
  have hw0 := hT.2.2.2.1 t (by omega) (by have := hT.1.2.1; omega)
  have hseat := hT.2.2.2.2.2.2.1 t t1 t2 (by omega)
  have hlk := fun k k0 k1 => (hT.2.2.2.2.2.2.2.1 t k (by omega) (by have := hT.1.2.1; omega) k0 k1).1
  generalize hs : χ (85 + t) 1 = s at b3 hseat
  have hrow : ∀ k : Int, 0 ≤ k → k < 100 → χ (79 + s) k = τ 26 (100 * t + k) := by
    rcases hT.2.2.2.2.2.1 s b3.1 b3.2 with ⟨c1, c2⟩ | ⟨u, u1, u2, u3, u4, u5, u6⟩
    · omega
    · have : u = t := by omega
      subst this; exact u6
  have ef : f_hold χ (85 + t) = st2 χ (79 + s) (τ 22 t) (if χ (79 + s) (τ 22 t) < τ 23 t then τ 23 t else χ (79 + s) (τ 22 t)) := by
    unfold f_hold; rw [hs, b7, b8]
  have hv := hrow (τ 22 t) hw0.1 (by omega)
  have xo : ∀ a : Int, a ≠ 79 + s → a ≠ 85 + t → st2 (f_hold χ (85 + t)) (85 + t) 2 1 a = χ a := fun a h1 h2 => by rw [st2_ne h2, ef, st2_ne h1]
  have mo : ∀ a : Int, a ≠ 19 → a ≠ 20 → a ≠ 26 → m_lock τ t a = τ a := fun a h1 h2 h3 => m_lock_fr _ _ h1 h2 h3
  have m19 : ∀ u : Int, m_lock τ t 19 u = if u = t then 1 else τ 19 u := fun u => by
    simp only [m_lock]
    rw [st2_ne (by decide), st2_at]
    split
    · rfl
    · split
      · rw [st2_ne (by decide)]
      · rfl
  have m19t : m_lock τ t 19 t = 1 := by rw [m19, if_pos rfl]
  have m20 : ∀ u : Int, m_lock τ t 20 u = if u = t then 0 else τ 20 u := fun u => by
    simp only [m_lock]
    rw [st2_at]
    split
    · rfl
    · rw [st2_ne (by decide)]
      split
      · rw [st2_ne (by decide)]
      · rfl
  have m26 : ∀ b : Int, m_lock τ t 26 b = if b = 100 * t + τ 22 t ∧ τ 26 (100 * t + τ 22 t) < τ 23 t then τ 23 t else τ 26 b := fun b => by
    simp only [m_lock]
    rw [st2_ne (by decide), st2_ne (by decide)]
    unfold m_lk
    by_cases hc : τ 26 (100 * t + τ 22 t) < τ 23 t
    · rw [if_pos hc, st2_at]
      by_cases hb : b = 100 * t + τ 22 t
      · rw [if_pos hb, if_pos ⟨hb, hc⟩]
      · rw [if_neg hb, if_neg (fun z => hb z.1)]
    · rw [if_neg hc, if_neg (fun z => hc z.2)]
  refine ⟨⟨?_, ?_⟩, ?_, ?_, ?_⟩
  · rw [xo 2 (by omega) (by omega), mo 1 (by decide) (by decide) (by decide)]; exact hL.1
  · rw [mo 1 (by decide) (by decide) (by decide)]
    exact RLg_c hL.2 (fun a a1 a2 => xo a (by omega) (by omega)) (by rw [xo 2 (by omega) (by omega)]) (by rw [xo 2 (by omega) (by omega)]) (fun a a1 a2 => mo a (by omega) (by omega) (by omega)) (by rw [mo 1 (by decide) (by decide) (by decide)])
  · exact RPl_c hP (fun a a1 a2 => xo a (by omega) (by omega)) (by rw [xo 2 (by omega) (by omega)]) (fun a a1 a2 => mo a (by omega) (by omega) (by omega)) (by rw [mo 1 (by decide) (by decide) (by decide)]) (by rw [mo 1 (by decide) (by decide) (by decide)]; exact Int.le_refl _) (by rw [mo 1 (by decide) (by decide) (by decide)]) (by rw [mo 1 (by decide) (by decide) (by decide)]) (by rw [mo 1 (by decide) (by decide) (by decide)]; exact Int.le_refl _)
  · have x1 := xo 1 (by omega) (by omega)
    have m1 := mo 1 (by decide) (by decide) (by decide)
    have xt : ∀ b : Int, st2 (f_hold χ (85 + t)) (85 + t) 2 1 (85 + t) b = if b = 2 then 1 else χ (85 + t) b := fun b => by
      rw [st2_at]
      split
      · rfl
      · rw [ef, st2_ne (by omega)]
    refine r_tx (t := t) (s := s) hT t1 t2 (by omega) hs (fun u u1 u2 u3 => by omega) (fun a a1 a2 a3 => xo a a3 a2) (by rw [x1]) (by rw [x1]; exact Int.le_refl _) (by rw [x1]) (by rw [x1]) (fun u _ => by rw [xo 11 (by omega) (by omega)]) (fun a u a1 a2 hu => ?_) (fun u k hu k0 k1 => ?_) (by rw [m1]) (by rw [m1]) (by rw [m1]) (by rw [m1]; exact Int.le_refl _) ?_ ?_ ?_ ?_ ?_ ?_ (fun k k0 k1 => ?_) ?_
    · by_cases h19 : a = 19
      · subst h19; rw [m19, if_neg hu]
      · by_cases h20 : a = 20
        · subst h20; rw [m20, if_neg hu]
        · rw [mo a h19 h20 (by omega)]
    · rw [m26, if_neg (fun z => hu (by have := z.1; omega))]
    · rw [x1, m1]; exact hT.2.2.2.2.2.2.2.2.2.1.2.2.2
    · unfold txE
      rw [xo 85 (by omega) (by omega), xt 0, xt 1, xt 2, xt 3, xt 4, xt 5, xt 6, xt 7, xt 8, m19t, mo 21 (by decide) (by decide) (by decide), mo 22 (by decide) (by decide) (by decide), mo 23 (by decide) (by decide) (by decide), mo 24 (by decide) (by decide) (by decide), mo 25 (by decide) (by decide) (by decide), m1, x1]
      refine ⟨b1, b2, ?_, rfl, fun z => absurd rfl z, b6, b7, b8, b9, ⟨by decide, by decide⟩, b11, b12, b13, fun z => by omega⟩
      rw [if_neg (by decide), hs]; exact b3
    · rw [m19, if_pos rfl]; decide
    · rw [xt, if_neg (by decide), hs]
    · rw [mo 22 (by decide) (by decide) (by decide)]; exact hw0
    · left
      rw [xt, if_neg (by decide), mo 25 (by decide) (by decide) (by decide)]; exact ⟨rfl, rfl⟩
    · have hk := hlk k k0 k1
      have hkw := hlk (τ 22 t) hw0.1 (by omega)
      rw [st2_ne (by omega), ef, st2_at, m26, hv]
      by_cases hkk : k = τ 22 t
      · subst hkk
        rw [if_pos rfl]
        by_cases hc : τ 26 (100 * t + τ 22 t) < τ 23 t
        · rw [if_pos hc, if_pos ⟨rfl, hc⟩]; exact ⟨rfl, by omega, by omega⟩
        · rw [if_neg hc, if_neg (fun z => hc z.2)]; exact ⟨rfl, hk⟩
      · rw [if_neg hkk, if_neg (fun z => hkk (by have := z.1; omega)), hrow k k0 k1]; exact ⟨rfl, hk⟩
    · rw [m19, if_pos rfl, xo 11 (by omega) (by omega)]
      exact ⟨fun z => by omega, fun _ => (hT.2.2.2.2.2.2.2.2.2.2 t t1 t2).2 hl⟩
  · rw [mo 1 (by decide) (by decide) (by decide)]; exact hB
/-- places of one transaction that no other part reads: 3 and 20 the outcome, 4 and 21 the value read -/
theorem j_out {e B : Int} {n : Nat} {χ τ : Hp} (h : JJ e B n χ τ) {t v : Int} (t1 : 1 ≤ t) (t2 : t ≤ τ 1 22) (he : e = 0 ∨ e = t) (hv : τ 20 t = v) : JJ 0 B n (st2 χ (85 + t) 3 v) τ := by
  obtain ⟨hL, hP, hT, hB⟩ := h
  have xo : ∀ a : Int, a ≠ 85 + t → st2 χ (85 + t) 3 v a = χ a := fun a h1 => st2_ne h1
  have xb : ∀ u b : Int, b ≠ 3 → st2 χ (85 + t) 3 v (85 + u) b = χ (85 + u) b := fun u b hb => by
    simp only [st2]; split <;> simp [hb]
  have x1 := xo 1 (by omega)
  refine ⟨⟨by rw [xo 2 (by omega)]; exact hL.1, RLg_c hL.2 (fun a a1 a2 => xo a (by omega)) (by rw [xo 2 (by omega)]) (by rw [xo 2 (by omega)]) (fun _ _ _ => rfl) rfl⟩, RPl_c hP (fun a a1 a2 => xo a (by omega)) (by rw [xo 2 (by omega)]) (fun _ _ _ => rfl) rfl (Int.le_refl _) rfl rfl (Int.le_refl _), ?_, hB⟩
  obtain ⟨a1, a2, a3, a4, a5, a6, a7, a8, a9, a10, a14⟩ := hT
  unfold RTx
  rw [x1, xo 77 (by omega), xo 11 (by omega)]
  refine ⟨a1, fun u u1 u2 => ?_, a3, a4, fun u w u1 u2 w1 w2 => ?_, fun s s0 s1 => ?_, fun u u1 u2 u3 => ?_, a8, a9, a10, a14⟩
  · obtain ⟨b1, b2, b3, b4, b5, b6⟩ := a2 u u1 u2
    unfold txE
    rw [xo 85 (by omega), x1, xb u 0 (by decide), xb u 1 (by decide), xb u 2 (by decide), xb u 4 (by decide), xb u 5 (by decide), xb u 6 (by decide), xb u 7 (by decide), xb u 8 (by decide)]
    refine ⟨b1, b2, b3, b4, fun _ => ?_, b6⟩
    by_cases hu : u = t
    · subst hu; rw [st2_eq, hv]
    · rw [xo (85 + u) (by omega)]; exact b5 (by omega)
  · rw [xb u 5 (by decide), xb w 5 (by decide)]; exact a5 u w u1 u2 w1 w2
  · unfold seatE
    rw [xo 77 (by omega), xo (79 + s) (by omega)]
    rcases a6 s s0 s1 with b | ⟨u, u1, u2, u3, u4, u5⟩
    · exact Or.inl b
    · exact Or.inr ⟨u, u1, u2, u3, by rw [xb u 1 (by decide)]; exact u4, u5⟩
  · rw [xb u 1 (by decide)]; exact a7 u u1 u2 u3
theorem j_out3 {B : Int} {n : Nat} {χ τ : Hp} {t v : Int} (h : JJ t B n χ τ) : JJ t B n χ (st2 τ 20 t v) := by
  obtain ⟨hL, hP, hT, hB⟩ := h
  have mo : ∀ a : Int, a ≠ 20 → st2 τ 20 t v a = τ a := fun a h1 => st2_ne h1
  have m1 := mo 1 (by decide)
  refine ⟨⟨by rw [m1]; exact hL.1, by rw [m1]; exact RLg_c hL.2 (fun _ _ _ => rfl) rfl rfl (fun a a1 a2 => mo a (by omega)) (by rw [m1])⟩, RPl_c hP (fun _ _ _ => rfl) rfl (fun a a1 a2 => mo a (by omega)) (by rw [m1]) (by rw [m1]; exact Int.le_refl _) (by rw [m1]) (by rw [m1]) (by rw [m1]; exact Int.le_refl _), ?_, by rw [m1]; exact hB⟩
  obtain ⟨a1, a2, a3, a4, a5, a6, a7, a8, a9, a10, a14⟩ := hT
  unfold RTx
  rw [m1, mo 19 (by decide), mo 21 (by decide), mo 22 (by decide), mo 23 (by decide), mo 24 (by decide), mo 25 (by decide), mo 26 (by decide)]
  refine ⟨a1, fun u u1 u2 => ?_, a3, a4, a5, fun s s0 s1 => ?_, a7, a8, a9, a10, a14⟩
  · obtain ⟨b1, b2, b3, b4, b5, b6⟩ := a2 u u1 u2
    unfold txE
    rw [m1, mo 19 (by decide), mo 21 (by decide), mo 22 (by decide), mo 23 (by decide), mo 24 (by decide), mo 25 (by decide)]
    exact ⟨b1, b2, b3, b4, fun z => by rw [st2_ii z]; exact b5 z, b6⟩
  · unfold seatE
    rw [m1, mo 19 (by decide), mo 26 (by decide)]
    exact a6 s s0 s1
theorem j_val {e B : Int} {n : Nat} {χ τ : Hp} (h : JJ e B n χ τ) {t v : Int} (t1 : 1 ≤ t) (t2 : t ≤ τ 1 22) : JJ e B n (st2 χ (85 + t) 4 v) (st2 τ 21 t v) := by
  obtain ⟨hL, hP, hT, hB⟩ := h
  have xo : ∀ a : Int, a ≠ 85 + t → st2 χ (85 + t) 4 v a = χ a := fun a h1 => st2_ne h1
  have xb : ∀ u b : Int, b ≠ 4 → st2 χ (85 + t) 4 v (85 + u) b = χ (85 + u) b := fun u b hb => by
    simp only [st2]; split <;> simp [hb]
  have x1 := xo 1 (by omega)
  have mo : ∀ a : Int, a ≠ 21 → st2 τ 21 t v a = τ a := fun a h1 => st2_ne h1
  have m1 := mo 1 (by decide)
  refine ⟨⟨by rw [xo 2 (by omega), m1]; exact hL.1, by rw [m1]; exact RLg_c hL.2 (fun a a1 a2 => xo a (by omega)) (by rw [xo 2 (by omega)]) (by rw [xo 2 (by omega)]) (fun a a1 a2 => mo a (by omega)) (by rw [m1])⟩, RPl_c hP (fun a a1 a2 => xo a (by omega)) (by rw [xo 2 (by omega)]) (fun a a1 a2 => mo a (by omega)) (by rw [m1]) (by rw [m1]; exact Int.le_refl _) (by rw [m1]) (by rw [m1]) (by rw [m1]; exact Int.le_refl _), ?_, by rw [m1]; exact hB⟩
  obtain ⟨a1, a2, a3, a4, a5, a6, a7, a8, a9, a10, a14⟩ := hT
  unfold RTx
  rw [x1, xo 77 (by omega), xo 11 (by omega), m1, mo 19 (by decide), mo 22 (by decide), mo 23 (by decide), mo 24 (by decide), mo 25 (by decide), mo 26 (by decide)]
  refine ⟨a1, fun u u1 u2 => ?_, fun u u1 u2 => ?_, a4, fun u w u1 u2 w1 w2 => ?_, fun s s0 s1 => ?_, fun u u1 u2 u3 => ?_, a8, a9, a10, a14⟩
  · obtain ⟨b1, b2, b3, b4, b5, b6, b7⟩ := a2 u u1 u2
    unfold txE
    rw [xo 85 (by omega), x1, xb u 0 (by decide), xb u 1 (by decide), xb u 2 (by decide), xb u 3 (by decide), xb u 5 (by decide), xb u 6 (by decide), xb u 7 (by decide), xb u 8 (by decide), m1, mo 19 (by decide), mo 20 (by decide), mo 22 (by decide), mo 23 (by decide), mo 24 (by decide), mo 25 (by decide)]
    refine ⟨b1, b2, b3, b4, b5, ?_, b7⟩
    by_cases hu : u = t
    · subst hu; rw [st2_eq, st2_eq]
    · rw [xo (85 + u) (by omega), st2_ii hu]; exact b6
  · rw [st2_ii (by omega)]; exact a3 u u1 u2
  · rw [xb u 5 (by decide), xb w 5 (by decide)]; exact a5 u w u1 u2 w1 w2
  · unfold seatE
    rw [xo 77 (by omega), xo (79 + s) (by omega), m1, mo 19 (by decide), mo 26 (by decide)]
    rcases a6 s s0 s1 with b | ⟨u, u1, u2, u3, u4, u5⟩
    · exact Or.inl b
    · exact Or.inr ⟨u, u1, u2, u3, by rw [xb u 1 (by decide)]; exact u4, u5⟩
  · rw [xb u 1 (by decide)]; exact a7 u u1 u2 u3
