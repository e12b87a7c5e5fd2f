-- ===== one transaction changes, and stays on its seat =====
theorem r_tx {e' e : Int} {n : Nat} {χ τ χ' τ' : Hp} (h : RTx e n χ τ) {t s : Int} (t1 : 1 ≤ t) (t2 : t ≤ τ 1 22) (hl : τ 19 t ≤ 3) (hs : χ (85 + t) 1 = s) (he : ∀ u : Int, 1 ≤ u → u ≠ t → u ≠ e' → u ≠ e)
    (hx : ∀ a : Int, 76 ≤ a → a ≠ 85 + t → a ≠ 79 + s → χ' a = χ a) (x15 : χ' 1 5 = χ 1 5) (x16 : χ 1 6 ≤ χ' 1 6) (x17 : χ' 1 7 = χ 1 7) (x18 : χ' 1 8 = χ 1 8) (x11 : ∀ u : Int, u ≠ t → χ' 11 u = χ 11 u)
    (hm : ∀ a u : Int, 19 ≤ a → a ≤ 25 → u ≠ t → τ' a u = τ a u) (m26 : ∀ u k : Int, u ≠ t → 0 ≤ k → k < 100 → τ' 26 (100 * u + k) = τ 26 (100 * u + k)) (m22 : τ' 1 22 = τ 1 22) (m32 : τ' 1 32 = τ 1 32) (m33 : τ' 1 33 = τ 1 33) (m19 : τ 1 19 ≤ τ' 1 19) (mr : χ' 1 6 ≤ τ' 1 19)
    (ht : txE e' χ' τ' t) (hl' : τ' 19 t ≤ 3) (hs' : χ' (85 + t) 1 = s) (hw : 0 ≤ τ' 22 t ∧ τ' 22 t ≤ 99)
    (ho : (χ' (85 + t) 5 = χ (85 + t) 5 ∧ τ' 25 t = τ 25 t) ∨ (χ' (85 + t) 5 = χ' 1 6 ∧ χ 1 6 < χ' 1 6 ∧ τ' 25 t = τ' 1 19 ∧ τ 1 19 < τ' 1 19))
    (hk : ∀ k : Int, 0 ≤ k → k < 100 → χ' (79 + s) k = τ' 26 (100 * t + k) ∧ 0 ≤ τ' 26 (100 * t + k) ∧ τ' 26 (100 * t + k) ≤ 2) (hc : (τ' 19 t = 3 → ¬ χ' 11 t = 0) ∧ (τ' 19 t ≤ 2 → χ' 11 t = 0)) : RTx e' n χ' τ' := by
  obtain ⟨a1, a2, a3, a4, a5, a6, a7, a8, a9, ⟨a10, a11, a12, a13⟩, a14⟩ := h
  have ht0 := a2 t t1 t2
  have hseat : χ 77 s = 85 + t := by rw [← hs]; exact a7 t t1 t2 hl
  have hs0 : 0 ≤ s ∧ s < 4 := by rw [← hs]; exact ht0.2.2.1
  have x77 : χ' 77 = χ 77 := hx 77 (by decide) (by omega) (by omega)
  have x85 : χ' 85 = χ 85 := hx 85 (by decide) (by omega) (by omega)
  have xu : ∀ u : Int, 1 ≤ u → u ≠ t → χ' (85 + u) = χ (85 + u) := fun u u1 u2 => hx (85 + u) (by omega) (by omega) (by omega)
  have tq : ∀ u : Int, 1 ≤ u → u ≤ τ 1 22 → (0 ≤ τ 25 u ∧ τ 25 u ≤ τ 1 19) ∧ (0 ≤ χ (85 + u) 5 ∧ χ (85 + u) 5 ≤ χ 1 6) := fun u u1 u2 => ⟨(a2 u u1 u2).2.2.2.2.2.2.2.2.2.2.1, (a2 u u1 u2).2.2.2.2.2.2.2.2.2.2.2.1⟩
  unfold RTx
  rw [m22, m32, m33, x15, x17, x18, x77]
  refine ⟨a1, fun u u1 u2 => ?_, fun u u1 u2 => ?_, fun u u0 u1 => ?_, fun u v u1 u2 v1 v2 => ?_, fun q q0 q1 => ?_, fun u u1 u2 u3 => ?_, fun u k u0 u1 k0 k1 => ?_, a9, ⟨a10, a11, by omega, mr⟩, fun u u1 u2 => ?_⟩
  · by_cases hu : u = t
    · subst hu; exact ht
    · obtain ⟨b1, b2, b3, b4, b5, b6, b7, b8, b9, b10, ⟨b11, b12⟩, ⟨b13, b14⟩, b15⟩ := a2 u u1 u2
      unfold txE
      rw [xu u u1 hu, x85, hm 19 u (by decide) (by decide) hu, hm 20 u (by decide) (by decide) hu, hm 21 u (by decide) (by decide) hu, hm 22 u (by decide) (by decide) hu, hm 23 u (by decide) (by decide) hu, hm 24 u (by decide) (by decide) hu, hm 25 u (by decide) (by decide) hu]
      exact ⟨b1, b2, b3, b4, fun z => b5 (he u u1 hu z), b6, b7, b8, b9, b10, ⟨b11, by omega⟩, ⟨b13, by omega⟩, b15⟩
  · have hu : u ≠ t := by omega
    rw [hm 21 u (by decide) (by decide) hu, hm 22 u (by decide) (by decide) hu, hm 23 u (by decide) (by decide) hu, hm 24 u (by decide) (by decide) hu, hm 25 u (by decide) (by decide) hu]
    exact a3 u u1 u2
  · by_cases hu : u = t
    · subst hu; exact hw
    · rw [hm 22 u (by decide) (by decide) hu]; exact a4 u u0 u1
  · have qu := tq u u1 u2
    have qv := tq v v1 v2
    have qt := tq t t1 t2
    by_cases hu : u = t
    · by_cases hv : v = t
      · subst hu; subst hv
        exact ⟨⟨fun z => by omega, fun z => by omega⟩, fun _ _ => rfl⟩
      · subst hu
        rw [xu v v1 hv, hm 25 v (by decide) (by decide) hv]
        rcases ho with ⟨o1, o2⟩ | ⟨o1, o2, o3, o4⟩
        · rw [o1, o2]; exact a5 u v u1 u2 v1 v2
        · rw [o1, o3]
          exact ⟨⟨fun z => by omega, fun z => by omega⟩, fun _ z => by omega⟩
    · by_cases hv : v = t
      · subst hv
        rw [xu u u1 hu, hm 25 u (by decide) (by decide) hu]
        rcases ho with ⟨o1, o2⟩ | ⟨o1, o2, o3, o4⟩
        · rw [o1, o2]; exact a5 u v u1 u2 v1 v2
        · rw [o1, o3]
          exact ⟨⟨fun z => by omega, fun z => by omega⟩, fun _ z => by omega⟩
      · rw [xu u u1 hu, xu v v1 hv, hm 25 u (by decide) (by decide) hu, hm 25 v (by decide) (by decide) hv]
        exact a5 u v u1 u2 v1 v2
  · unfold seatE
    rw [x77, m22]
    by_cases hq : q = s
    · subst hq
      right
      exact ⟨t, t1, t2, hseat, hs', hl', fun k k0 k1 => (hk k k0 k1).1⟩
    · have xq : χ' (79 + q) = χ (79 + q) := hx (79 + q) (by omega) (by omega) (by omega)
      rw [xq]
      rcases a6 q q0 q1 with b | ⟨u, u1, u2, u3, u4, u5, u6⟩
      · exact Or.inl b
      · have hu : u ≠ t := fun z => by rw [z, hs] at u4; omega
        right
        refine ⟨u, u1, u2, u3, by rw [xu u u1 hu]; exact u4, by rw [hm 19 u (by decide) (by decide) hu]; exact u5, fun k k0 k1 => ?_⟩
        rw [m26 u k hu k0 k1]; exact u6 k k0 k1
  · by_cases hu : u = t
    · subst hu; rw [hs']; exact hseat
    · rw [xu u u1 hu]
      rw [hm 19 u (by decide) (by decide) hu] at u3
      exact a7 u u1 u2 u3
  · by_cases hu : u = t
    · subst hu
      refine ⟨(hk k k0 k1).2, fun z => ?_⟩
      rcases z with z | z | z <;> omega
    · rw [m26 u k hu k0 k1, hm 19 u (by decide) (by decide) hu]
      exact a8 u k u0 u1 k0 k1
  · by_cases hu : u = t
    · subst hu; exact hc
    · rw [hm 19 u (by decide) (by decide) hu, x11 u hu]; exact a14 u u1 u2
/-- one transaction leaves its seat -/
theorem r_lv {e : Int} {n : Nat} {χ τ : Hp} (h : RTx e n χ τ) {t q : Int} (t1 : 1 ≤ t) (t2 : t ≤ τ 1 22) (hl : τ 19 t ≤ 3) (hq : 4 ≤ q ∧ q ≤ 6) : RTx e n (f_leaveT χ (85 + t) q) (m_unlock (st2 τ 19 t q) t 100) := by
  obtain ⟨a1, a2, a3, a4, a5, a6, a7, a8, a9, a10, a14⟩ := h
  have ht0 := a2 t t1 t2
  have hs0 : 0 ≤ χ (85 + t) 1 ∧ χ (85 + t) 1 < 4 := ht0.2.2.1
  have hseat : χ 77 (χ (85 + t) 1) = 85 + t := a7 t t1 t2 hl
  generalize hs : χ (85 + t) 1 = s at hs0 hseat
  have ef : f_leaveT χ (85 + t) q = f_zero (st2 (st2 χ (85 + t) 2 q) 77 s 0) s 100 := by unfold f_leaveT; rw [hs]
  have xo : ∀ a : Int, a ≠ 85 + t → a ≠ 77 → a ≠ 79 + s → f_leaveT χ (85 + t) q a = χ a := fun a h1 h2 h3 => by rw [ef, f_zero_fr _ _ _ h3, st2_ne h2, st2_ne h1]
  have x77 : ∀ b : Int, f_leaveT χ (85 + t) q 77 b = if b = s then 0 else χ 77 b := fun b => by rw [ef, f_zero_fr _ _ _ (by omega), st2_at, st2_ne (by omega)]
  have xt : ∀ b : Int, f_leaveT χ (85 + t) q (85 + t) b = if b = 2 then q else χ (85 + t) b := fun b => by rw [ef, f_zero_fr _ _ _ (by omega), st2_ne (by omega), st2_at]
  have xs : ∀ k : Int, 0 ≤ k → k < 100 → f_leaveT χ (85 + t) q (79 + s) k = 0 := fun k k0 k1 => by
    rw [ef]; simp only [f_zero]; rw [if_pos ⟨trivial, k0, k1⟩]
  have mo : ∀ a : Int, a ≠ 19 → a ≠ 26 → m_unlock (st2 τ 19 t q) t 100 a = τ a := fun a h1 h2 => by
    funext b
    simp only [m_unlock]
    rw [if_neg (fun z => h2 z.1), st2_ne h1]
  have m19 : ∀ u : Int, m_unlock (st2 τ 19 t q) t 100 19 u = if u = t then q else τ 19 u := fun u => by
    simp only [m_unlock]
    rw [if_neg (by omega), st2_at]
  have m26 : ∀ u k : Int, 0 ≤ k → k < 100 → m_unlock (st2 τ 19 t q) t 100 26 (100 * u + k) = if u = t then 0 else τ 26 (100 * u + k) := fun u k k0 k1 => by
    simp only [m_unlock]
    by_cases hu : u = t
    · subst hu
      rw [if_pos ⟨trivial, by omega, by omega⟩, if_pos rfl]
    · rw [if_neg (by omega), if_neg hu, st2_ne (by decide)]
  have x1 := xo 1 (by omega) (by omega) (by omega)
  have x11 := xo 11 (by omega) (by omega) (by omega)
  have x85 := xo 85 (by omega) (by omega) (by omega)
  have xu : ∀ u : Int, 1 ≤ u → u ≠ t → f_leaveT χ (85 + t) q (85 + u) = χ (85 + u) := fun u u1 u2 => xo (85 + u) (by omega) (by omega) (by omega)
  have xu5 : ∀ u : Int, 1 ≤ u → ∀ b : Int, b ≠ 2 → f_leaveT χ (85 + t) q (85 + u) b = χ (85 + u) b := fun u u1 b hb => by
    by_cases hu : u = t
    · subst hu; rw [xt, if_neg hb]
    · rw [xu u u1 hu]
  unfold RTx
  rw [x1, x11, mo 1 (by decide) (by decide), mo 21 (by decide) (by decide), mo 22 (by decide) (by decide), mo 23 (by decide) (by decide), mo 24 (by decide) (by decide), mo 25 (by decide) (by decide)]
  refine ⟨a1, fun u u1 u2 => ?_, a3, a4, fun u v u1 u2 v1 v2 => ?_, fun w w0 w1 => ?_, fun u u1 u2 u3 => ?_, fun u k u0 u1 k0 k1 => ?_, a9, a10, fun u u1 u2 => ?_⟩
  · obtain ⟨b1, b2, b3, b4, b5, b6, b7, b8, b9, b10, b11, b12, b13, b14⟩ := a2 u u1 u2
    unfold txE
    rw [x85, x1, m19, mo 1 (by decide) (by decide), mo 20 (by decide) (by decide), mo 21 (by decide) (by decide), mo 22 (by decide) (by decide), mo 23 (by decide) (by decide), mo 24 (by decide) (by decide), mo 25 (by decide) (by decide), xu5 u u1 0 (by decide), xu5 u u1 1 (by decide), xu5 u u1 3 (by decide), xu5 u u1 4 (by decide), xu5 u u1 5 (by decide), xu5 u u1 6 (by decide), xu5 u u1 7 (by decide), xu5 u u1 8 (by decide)]
    by_cases hu : u = t
    · subst hu
      rw [xt, if_pos rfl, if_pos rfl]
      exact ⟨b1, b2, b3, rfl, b5, b6, b7, b8, b9, ⟨by omega, by omega⟩, b11, b12, b13, fun z => by omega⟩
    · rw [xu u u1 hu, if_neg hu]
      exact ⟨b1, b2, b3, b4, b5, b6, b7, b8, b9, b10, b11, b12, b13, b14⟩
  · rw [xu5 u u1 5 (by decide), xu5 v v1 5 (by decide)]
    exact a5 u v u1 u2 v1 v2
  · unfold seatE
    rw [mo 1 (by decide) (by decide), x77]
    by_cases hw : w = s
    · subst hw
      left
      exact ⟨if_pos rfl, fun k k0 k1 => xs k k0 k1⟩
    · rw [if_neg hw, xo (79 + w) (by omega) (by omega) (by omega)]
      rcases a6 w w0 w1 with b | ⟨u, u1, u2, u3, u4, u5, u6⟩
      · exact Or.inl b
      · have hu : u ≠ t := fun z => by rw [z, hs] at u4; omega
        right
        refine ⟨u, u1, u2, u3, by rw [xu u u1 hu]; exact u4, by rw [m19, if_neg hu]; exact u5, fun k k0 k1 => ?_⟩
        rw [m26 u k k0 k1, if_neg hu]; exact u6 k k0 k1
  · rw [m19] at u3
    by_cases hu : u = t
    · rw [if_pos hu] at u3; omega
    · rw [if_neg hu] at u3
      have hsu := a7 u u1 u2 u3
      rw [xu u u1 hu, x77, if_neg (fun z => by rw [z, hseat] at hsu; omega)]
      exact hsu
  · rw [m26 u k k0 k1, m19]
    obtain ⟨c1, c2⟩ := a8 u k u0 u1 k0 k1
    by_cases hu : u = t
    · rw [if_pos hu]; exact ⟨⟨Int.le_refl 0, by decide⟩, fun _ => rfl⟩
    · rw [if_neg hu, if_neg hu]; exact ⟨c1, c2⟩
  · rw [m19]
    by_cases hu : u = t
    · rw [if_pos hu]; exact ⟨fun z => by omega, fun z => by omega⟩
    · rw [if_neg hu]; exact a14 u u1 u2
