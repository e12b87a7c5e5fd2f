-- ===== a new transaction =====
theorem RLg_22 {N v : Int} {χ τ : Hp} (h : RLg N χ τ) (hv : τ 1 22 ≤ v) : RLg N χ (st2 τ 1 22 v) := by
  obtain ⟨hN, l1, l2, l3, l4, l5, l6, l7, l8, l9, l10, l11⟩ := h
  have mo : ∀ a : Int, a ≠ 1 → st2 τ 1 22 v a = τ a := fun a ha => st2_ne ha
  have c : ∀ k j : Int, cK (st2 τ 1 22 v) k j = cK τ k j := fun k j => cK_congr (fun i _ _ => by rw [mo 2 (by decide)])
  unfold RLg
  rw [mo 2 (by decide), mo 3 (by decide), mo 4 (by decide), mo 5 (by decide), mo 6 (by decide), mo 7 (by decide), mo 8 (by decide), mo 9 (by decide), mo 10 (by decide), st2_eq]
  simp only [c]
  exact ⟨hN, l1, l2, l3, l4, l5, l6, fun i i1 i2 i3 => ⟨(l7 i i1 i2 i3).1, by have := (l7 i i1 i2 i3).2.1; omega, (l7 i i1 i2 i3).2.2⟩, l8, l9, l10, l11⟩
theorem occ_free (χ : Hp) : 4 ≤ occ χ ↔ f_freeSeat χ = -1 := by
  have h := srch_spec (fun s => decide (χ 77 s = 0)) 4 0
  have e : srch (fun s => decide (χ 77 s = 0)) 0 4 = f_freeSeat χ := rfl
  rw [e] at h
  have ho : occ χ = (if ¬ χ 77 0 = 0 then 1 else 0) + (if ¬ χ 77 1 = 0 then 1 else 0) + (if ¬ χ 77 2 = 0 then 1 else 0) + (if ¬ χ 77 3 = 0 then 1 else 0) := by
    simp [occ, cntU, b2i]
  constructor
  · intro h4
    rcases h with ⟨a, -⟩ | ⟨a, b, c, -⟩
    · exact a
    · exfalso
      have c : χ 77 (f_freeSeat χ) = 0 := by simpa using c
      rcases (show f_freeSeat χ = 0 ∨ f_freeSeat χ = 1 ∨ f_freeSeat χ = 2 ∨ f_freeSeat χ = 3 by omega) with z | z | z | z <;> rw [z] at c <;> rw [ho] at h4 <;> simp only [c] at h4 <;> grind
  · intro hz
    rcases h with ⟨-, a⟩ | ⟨a, -⟩
    · have a0 := a 0 (by decide) (by decide)
      have a1 := a 1 (by decide) (by decide)
      have a2 := a 2 (by decide) (by decide)
      have a3 := a 3 (by decide) (by decide)
      simp only [decide_eq_false_iff_not] at a0 a1 a2 a3
      rw [ho, if_pos a0, if_pos a1, if_pos a2, if_pos a3]; decide
    · omega
def m_bg (τ : Hp) : Hp := st2 (st2 (st2 τ 1 22 (τ 1 22 + 1)) 19 (τ 1 22 + 1) 1) 20 (τ 1 22 + 1) (-1)
theorem m_begin_eq (τ : Hp) : m_begin τ = if ¬ τ 1 32 = 0 ∨ 4 ≤ cntU (m_live τ) (τ 1 22).toNat ∨ 60 ≤ τ 1 22 then (-1, τ) else (τ 1 22 + 1, m_bg τ) := by
  unfold m_begin m_bg
  simp only [st2_eq, st2_ne (show (1 : Int) ≠ 19 by decide), st2_ne (show (1 : Int) ≠ 20 by decide)]
theorem j_begin {B : Int} {n : Nat} {χ τ : Hp} (h : JJ 0 B n χ τ) (hc : f_canB χ) : JJ 0 B (n + 1) (f_bg χ ((n : Int) + 1) (f_freeSeat χ)) (m_bg τ) := by
  obtain ⟨hL, hP, hT, hB⟩ := h
  obtain ⟨⟨a1, a2, a3, a4⟩, b2, b3, b4, b5, b6, b7, b8, b9, ⟨b10, b11, b12, b13⟩, b14⟩ := hT
  obtain ⟨c1, c2, c3⟩ := hc
  have hs := (f_freeSeat_b χ).resolve_left c2
  have hs0 : χ 77 (f_freeSeat χ) = 0 := by
    have h := srch_spec (fun s => decide (χ 77 s = 0)) 4 0
    have e : srch (fun s => decide (χ 77 s = 0)) 0 4 = f_freeSeat χ := rfl
    rw [e] at h
    rcases h with ⟨a, -⟩ | ⟨a, b, c, -⟩
    · exact absurd a c2
    · simpa using c
  generalize hse : f_freeSeat χ = s at *
  have hv : (n : Int) + 1 = 85 + (τ 1 22 + 1) := by omega
  rw [hv]
  generalize hb : τ 1 22 = b at *
  have xo : ∀ a : Int, a ≠ 1 → a ≠ 77 → a ≠ 85 → a ≠ 85 + (b + 1) → f_bg χ (85 + (b + 1)) s a = χ a := fun a h1 h2 h3 h4 => by
    unfold f_bg f_bg0 i_T
    rw [st2_ne h2, st2_ne h3, st2_ne h4, st2_ne h4, st2_ne h4, st2_ne h4, zr_ne h4, st2_ne h1]
  have x1 : ∀ i : Int, f_bg χ (85 + (b + 1)) s 1 i = if i = 5 then b + 1 else χ 1 i := fun i => by
    unfold f_bg f_bg0 i_T
    rw [st2_ne (by decide), st2_ne (by decide), st2_ne (by omega), st2_ne (by omega), st2_ne (by omega), st2_ne (by omega), zr_ne (by omega), st2_at, a4]
  have x77 : ∀ i : Int, f_bg χ (85 + (b + 1)) s 77 i = if i = s then 85 + (b + 1) else χ 77 i := fun i => by
    unfold f_bg f_bg0 i_T
    rw [st2_at, st2_ne (by decide), st2_ne (by omega), st2_ne (by omega), st2_ne (by omega), st2_ne (by omega), zr_ne (by omega), st2_ne (by decide)]
  have x85 : ∀ i : Int, f_bg χ (85 + (b + 1)) s 85 i = if i = b + 1 then 85 + (b + 1) else χ 85 i := fun i => by
    unfold f_bg f_bg0 i_T
    rw [st2_ne (by decide), st2_at, st2_ne (by omega), st2_ne (by omega), st2_ne (by omega), st2_ne (by omega), zr_ne (by omega), st2_ne (by decide), a4]
  have xv : ∀ i : Int, f_bg χ (85 + (b + 1)) s (85 + (b + 1)) i = if i = 3 then -1 else if i = 2 then 1 else if i = 1 then s else if i = 0 then b + 1 else 0 := fun i => by
    unfold f_bg f_bg0 i_T
    rw [st2_ne (by omega), st2_ne (by omega), st2_at, st2_at, st2_at, st2_at, zr_eq, a4]
  have m1 : ∀ i : Int, m_bg τ 1 i = if i = 22 then b + 1 else τ 1 i := fun i => by
    unfold m_bg
    rw [st2_ne (by decide), st2_ne (by decide), st2_at, hb]
  have mo : ∀ a : Int, a ≠ 1 → a ≠ 19 → a ≠ 20 → m_bg τ a = τ a := fun a h1 h2 h3 => by
    unfold m_bg
    rw [st2_ne h3, st2_ne h2, st2_ne h1]
  have m19 : ∀ i : Int, m_bg τ 19 i = if i = b + 1 then 1 else τ 19 i := fun i => by
    unfold m_bg
    rw [st2_ne (by decide), st2_at, st2_ne (by decide), hb]
  have m20 : ∀ i : Int, m_bg τ 20 i = if i = b + 1 then -1 else τ 20 i := fun i => by
    unfold m_bg
    rw [st2_at, st2_ne (by decide), st2_ne (by decide), hb]
  have m1o : ∀ i : Int, i ≠ 22 → m_bg τ 1 i = τ 1 i := fun i hi => by rw [m1, if_neg hi]
  have m122 : m_bg τ 1 22 = b + 1 := by rw [m1, if_pos rfl]
  generalize f_bg χ (85 + (b + 1)) s = χ' at *
  generalize m_bg τ = τ' at *
  have x1o : ∀ i : Int, i ≠ 5 → χ' 1 i = χ 1 i := fun i hi => by rw [x1, if_neg hi]
  refine ⟨⟨?_, ?_⟩, ?_, ?_, ?_⟩
  · rw [xo 2 (by decide) (by decide) (by decide) (by omega), m1o 0 (by decide)]; exact hL.1
  · rw [m1o 0 (by decide)]
    exact RLg_c (RLg_22 (v := b + 1) hL.2 (by omega)) (fun a h1 h2 => xo a (by omega) (by omega) (by omega) (by omega)) (by rw [xo 2 (by decide) (by decide) (by decide) (by omega)]) (by rw [xo 2 (by decide) (by decide) (by decide) (by omega)]) (fun a h1 h2 => by rw [mo a (by omega) (by omega) (by omega), st2_ne (by omega)]) (by rw [m122, st2_eq])
  · exact RPl_c hP (fun a h1 h2 => xo a (by omega) (by omega) (by omega) (by omega)) (by rw [xo 2 (by decide) (by decide) (by decide) (by omega)]) (fun a h1 h2 => mo a (by omega) (by omega) (by omega)) (m1o 1 (by decide)) (by rw [m1o 19 (by decide)]; exact Int.le_refl _) (m1o 20 (by decide)) (m1o 21 (by decide)) (by rw [m1o 0 (by decide)]; exact Int.le_refl _)
  · have z := b3 (b + 1) (by omega) (by omega)
    have m22 := mo 22 (by decide) (by decide) (by decide)
    have m25 := mo 25 (by decide) (by decide) (by decide)
    have m26 := mo 26 (by decide) (by decide) (by decide)
    have xto : ∀ t : Int, 1 ≤ t → t ≤ b → χ' (85 + t) = χ (85 + t) := fun t t1 t2 => xo (85 + t) (by omega) (by omega) (by omega) (by omega)
    have xv5 : χ' (85 + (b + 1)) 5 = 0 := by rw [xv]; rfl
    have hlk : ∀ k : Int, 0 ≤ k → k < 100 → χ (79 + s) k = 0 := fun k k0 k1 => by
      rcases b6 s hs.1 hs.2 with ⟨-, q⟩ | ⟨t, t1, t2, t3, -⟩
      · exact q k k0 k1
      · omega
    refine ⟨⟨by omega, by omega, by omega, by rw [x1, if_pos rfl, m122]⟩, fun t t1 t2 => ?_, fun t t1 t2 => ?_, fun t t1 t2 => ?_, fun t u t1 t2 u1 u2 => ?_, fun q q0 q1 => ?_, fun t t1 t2 t3 => ?_, fun t k t1 t2 k0 k1 => ?_, ?_, ?_, fun t t1 t2 => ?_⟩
    · rw [m122] at t2
      unfold txE
      rw [m22, m25, mo 21 (by decide) (by decide) (by decide), mo 23 (by decide) (by decide) (by decide), mo 24 (by decide) (by decide) (by decide), m1o 19 (by decide), x1o 6 (by decide), x85, m19, m20]
      by_cases ht : t = b + 1
      · rw [if_pos ht, if_pos ht, if_pos ht, ht, xv5]
        obtain ⟨z1, z2, z3, z4, z5⟩ := z
        rw [z1, z2, z3, z4, z5, xv 0, xv 1, xv 2, xv 3, xv 4, xv 6, xv 7, xv 8]
        exact ⟨rfl, rfl, hs, rfl, fun _ => rfl, rfl, rfl, rfl, rfl, by decide, ⟨by decide, by omega⟩, ⟨by decide, b12⟩, Iff.rfl, fun z => by simp at z⟩
      · rw [if_neg ht, if_neg ht, if_neg ht, xto t t1 (by omega)]
        exact b2 t t1 (by omega)
    · rw [m122] at t1
      rw [m22, m25, mo 21 (by decide) (by decide) (by decide), mo 23 (by decide) (by decide) (by decide), mo 24 (by decide) (by decide) (by decide)]
      exact b3 t (by omega) t2
    · rw [m22]; exact b4 t t1 t2
    · rw [m122] at t2 u2
      rw [m25]
      by_cases ht : t = b + 1
      · by_cases hu : u = b + 1
        · rw [ht, hu]
          exact ⟨by constructor <;> intro w <;> omega, fun _ _ => rfl⟩
        · rw [ht, xv5, xto u u1 (by omega), z.2.2.2.2]
          exact ⟨(b2 u u1 (by omega)).2.2.2.2.2.2.2.2.2.2.2.2.1, fun w => by omega⟩
      · by_cases hu : u = b + 1
        · rw [hu, xv5, xto t t1 (by omega), z.2.2.2.2]
          have q := b2 t t1 (by omega)
          exact ⟨⟨fun w => by have := q.2.2.2.2.2.2.2.2.2.2.2.1; omega, fun w => by have := q.2.2.2.2.2.2.2.2.2.2.1; omega⟩, fun w w2 => by omega⟩
        · rw [xto t t1 (by omega), xto u u1 (by omega)]
          exact b5 t u t1 (by omega) u1 (by omega)
    · unfold seatE
      rw [x77, m26, m122, xo (79 + q) (by omega) (by omega) (by omega) (by omega)]
      by_cases hq : q = s
      · rw [if_pos hq, hq]
        refine Or.inr ⟨b + 1, by omega, by omega, rfl, by rw [xv]; rfl, by rw [m19, if_pos rfl]; decide, fun k k0 k1 => ?_⟩
        rw [hlk k k0 k1, (b8 (b + 1) k (by omega) (by omega) k0 k1).2 (Or.inr (Or.inl (by omega)))]
      · rw [if_neg hq]
        rcases b6 q q0 q1 with e | ⟨t, t1, t2, t3, t4, t5, t6⟩
        · exact Or.inl e
        · exact Or.inr ⟨t, t1, by omega, t3, by rw [xto t t1 (by omega)]; exact t4, by rw [m19, if_neg (by omega)]; exact t5, t6⟩
    · rw [m122] at t2
      by_cases ht : t = b + 1
      · rw [ht, xv 1, x77]
        exact if_pos rfl
      · rw [m19, if_neg ht] at t3
        have := b7 t t1 (by omega) t3
        rw [xto t t1 (by omega), x77, if_neg (fun w => by rw [w, hs0] at this; omega)]
        exact this
    · rw [m26, m122]
      refine ⟨(b8 t k t1 t2 k0 k1).1, fun w => (b8 t k t1 t2 k0 k1).2 ?_⟩
      rw [m19] at w
      by_cases ht : t = b + 1
      · rw [if_pos ht] at w; omega
      · rw [if_neg ht] at w; omega
    · rw [x1o 8 (by decide), m1o 32 (by decide)]; exact b9
    · rw [x1o 7 (by decide), x1o 6 (by decide), m1o 33 (by decide), m1o 19 (by decide)]; exact ⟨b10, b11, b12, b13⟩
    · rw [m122] at t2
      rw [xo 11 (by decide) (by decide) (by decide) (by omega), m19]
      by_cases ht : t = b + 1
      · rw [if_pos ht]
        refine ⟨fun w => by simp at w, fun _ => ?_⟩
        rcases hL.2.2.2.2.2.2.2.2.2.1 t (by omega) (by omega) with e | ⟨e1, e2, e3, e4⟩
        · exact e
        · have := hL.2.2.2.2.2.2.2.2.1 _ e1 e2 e3
          rw [e4] at this
          omega
      · rw [if_neg ht]; exact b14 t t1 (by omega)
  · rw [m1o 19 (by decide), m1o 20 (by decide), m1o 21 (by decide)]; exact hB
theorem std_no {B : Int} {n : Nat} {χ τ : Hp} (h : JJ 0 B n χ τ) (hs : Std τ) (u : Int) : ¬ lsC χ τ u ∧ ¬ ffC τ u := by
  refine ⟨?_, fun z => ?_⟩
  · rcases m_firm_spec h with ⟨-, a⟩ | ⟨a, -⟩
    · exact a u
    · rw [hs.1] at a
      exact absurd a.1 (by decide)
  · rcases m_ff_spec τ (τ 1 22).toNat (by have := h.2.2.1.1.1; omega) with ⟨-, a⟩ | ⟨a, -⟩
    · have := a u z
      have := z.2.1
      omega
    · have e : m_ff τ (τ 1 22).toNat = 0 := hs.2
      rw [e] at a
      exact absurd a.1 (by decide)
theorem std_of {B : Int} {n : Nat} {χ τ : Hp} (h : JJ 0 B n χ τ) (hn : ∀ u : Int, ¬ lsC χ τ u ∧ ¬ ffC τ u) : Std τ := by
  constructor
  · rcases m_firm_spec h with ⟨a, -⟩ | ⟨a, -⟩
    · exact a
    · exact absurd a (hn _).1
  · rcases r_ff h.2.2.1 with ⟨-, a⟩ | ⟨-, a⟩
    · exact a
    · exact absurd a (hn _).2
theorem std_begin {B : Int} {n : Nat} {χ τ : Hp} (h : JJ 0 B n χ τ) (hs : Std τ) (hc : f_canB χ) : Std (m_bg τ) := by
  have h' := j_begin h hc
  have hno := std_no h hs
  have hv : (n : Int) + 1 = 85 + (τ 1 22 + 1) := by have := h.2.2.1.1.2.2.1; omega
  have hb0 := h.2.2.1.1
  have x11 : f_bg χ ((n : Int) + 1) (f_freeSeat χ) 11 = χ 11 := by
    unfold f_bg f_bg0 i_T
    rw [st2_ne (by decide), st2_ne (by decide), st2_ne (by omega), st2_ne (by omega), st2_ne (by omega), st2_ne (by omega), zr_ne (by omega), st2_ne (by decide)]
  have m1 : ∀ i : Int, m_bg τ 1 i = if i = 22 then τ 1 22 + 1 else τ 1 i := fun i => by
    unfold m_bg
    rw [st2_ne (by decide), st2_ne (by decide), st2_at]
  have m122 : m_bg τ 1 22 = τ 1 22 + 1 := by rw [m1, if_pos rfl]
  have mo : ∀ a : Int, a ≠ 1 → a ≠ 19 → a ≠ 20 → m_bg τ a = τ a := fun a h1 h2 h3 => by
    unfold m_bg
    rw [st2_ne h3, st2_ne h2, st2_ne h1]
  have m19 : ∀ i : Int, m_bg τ 19 i = if i = τ 1 22 + 1 then 1 else τ 19 i := fun i => by
    unfold m_bg
    rw [st2_ne (by decide), st2_at, st2_ne (by decide)]
  refine std_of h' (fun u => ⟨fun z => (hno u).1 ?_, fun z => (hno u).2 ?_⟩)
  · obtain ⟨z1, z2, z3, z4⟩ := z
    rw [m122] at z2
    rw [m19] at z3
    rw [x11, m1] at z4
    by_cases hu : u = τ 1 22 + 1
    · rw [if_pos hu] at z3; omega
    · rw [if_neg hu] at z3
      exact ⟨z1, by omega, z3, z4⟩
  · obtain ⟨z1, z2, z3, z4⟩ := z
    rw [m122] at z2
    rw [m19] at z3
    by_cases hu : u = τ 1 22 + 1
    · rw [if_pos hu] at z3; omega
    · rw [if_neg hu] at z3
      refine ⟨z1, by omega, z3, ?_⟩
      have elk : ∀ t k : Int, m_lk (m_bg τ) t k = m_lk τ t k := fun t k => by
        unfold m_lk
        rw [mo 26 (by decide) (by decide) (by decide)]
      have e22 := mo 22 (by decide) (by decide) (by decide)
      have e23 := mo 23 (by decide) (by decide) (by decide)
      have e25 := mo 25 (by decide) (by decide) (by decide)
      have eed : ∀ w : Int, 1 ≤ w → w ≤ τ 1 22 → m_ed (m_bg τ) u w = m_ed τ u w := fun w w1 w2 => by
        unfold m_ed m_conflicts m_ahead
        rw [elk, elk, e22, e23, e25, m19, if_neg (by omega)]
      have z4' : (decide (m_bg τ 23 u ≤ m_lk (m_bg τ) u (m_bg τ 22 u)) || !anyU (m_ed (m_bg τ) u) 1 (m_bg τ 1 22).toNat) = true := z4
      show (decide (τ 23 u ≤ m_lk τ u (τ 22 u)) || !anyU (m_ed τ u) 1 (τ 1 22).toNat) = true
      rw [elk, e22, e23, m122] at z4'
      simp only [Bool.or_eq_true, Bool.not_eq_true', decide_eq_true_eq] at z4' ⊢
      rcases z4' with z | z
      · exact Or.inl z
      · refine Or.inr (anyU_false.mpr (fun y y1 y2 => ?_))
        rw [← eed y y1 (by omega)]
        exact anyU_false.mp z y y1 (by omega)
theorem b_begin {B : Int} {n : Nat} {χ τ : Hp} (h : INV B n χ τ) (hb : B + 4000 < 2000000000) : Both B n χ τ y_X_begin b_X_begin 2 (some .int) 1 9 [.inr 1] y_M_begin b_M_begin 3 [.inr 1] := by
  have hT := h.1.2.2.1
  have hf := inv_flag hT
  have hbg := hT.1
  have hiff : f_canB χ ↔ ¬ (¬ τ 1 32 = 0 ∨ 4 ≤ cntU (m_live τ) (τ 1 22).toNat ∨ 60 ≤ τ 1 22) := by
    rw [r_live hT, occ_free χ]
    unfold f_canB
    rw [hbg.2.2.2]
    constructor
    · rintro ⟨a1, a2, a3⟩ (z | z | z)
      · omega
      · exact a2 z
      · omega
    · intro z
      exact ⟨fun w => z (Or.inl (by omega)), fun w => z (Or.inr (Or.inl w)), Int.not_le.mp (fun w => z (Or.inr (Or.inr w)))⟩
  refine ⟨7, 2, _, _, by omega, by omega, c_X_begin (jx_F hT) (fun a => ok_XS (j_begin h.1 a) (by omega)), c_M_begin hbg.1 hbg.2.1, (by rintro r n' σ' (⟨_, _, rfl, _⟩ | ⟨_, _, rfl, _⟩) <;> exact ⟨_, rfl⟩), ?_⟩
  rintro r n' χ' r' m' τ' hx ⟨rfl, rfl, rfl⟩
  refine ⟨rfl, ?_⟩
  rw [m_begin_eq]
  rcases hx with ⟨a1, rfl, rfl, rfl⟩ | ⟨a1, rfl, rfl, rfl⟩
  · rw [if_neg (hiff.mp a1)]
    have j1 := j_begin h.1 a1
    have s1 := std_begin h.1 h.2.1 a1
    rw [std_x j1 s1]
    refine ⟨⟨τ 1 22 + 1, ?_, rfl⟩, ?_⟩
    · have := j1.2.2.1.1.2.2.2
      rw [this]
      unfold m_bg
      rw [st2_ne (by decide), st2_ne (by decide), st2_eq]
    · refine inv_B (inv_up j1 s1 ?_) (by omega)
      show m_bg τ 1 32 = 0
      unfold m_bg
      rw [st2_ne (by decide), st2_ne (by decide), st2_ii (by decide)]
      have := a1.1
      omega
  · rw [if_pos (Decidable.not_not.mp (fun z => a1 (hiff.mpr z)))]
    exact ⟨⟨-1, rfl, rfl⟩, inv_B h (by omega)⟩
