-- ===== the log: a record more =====
theorem cK_put {τ τ' : Hp} {N k : Int} (hN : 0 ≤ N) (m2 : ∀ i : Int, τ' 2 i = if i = N + 1 then k else τ 2 i) (c : Int) : (∀ j : Int, j ≤ N → cK τ' c j = cK τ c j) ∧ cK τ' c (N + 1) = cK τ c N + (if k = c then 1 else 0) := by
  have h1 : ∀ j : Int, j ≤ N → cK τ' c j = cK τ c j := fun j hj => cK_congr (fun i _ i2 => by rw [m2, if_neg (by omega)])
  refine ⟨h1, ?_⟩
  rw [cK_s τ' c (show 1 ≤ N + 1 by omega), show N + 1 - 1 = N by omega, h1 N (Int.le_refl N), m2, if_pos rfl]
theorem r_append {N k o y u : Int} {χ τ χ' τ' : Hp} (h : RLg N χ τ) (hN : N < 200) (hk : 1 ≤ k ∧ k ≤ 4) (ho : 0 ≤ o ∧ o ≤ 60) (hy : 0 ≤ y ∧ y < 24)
    (h3 : ∀ i : Int, χ' 3 i = if i = N + 1 then k else χ 3 i) (h4 : ∀ i : Int, χ' 4 i = if i = N + 1 then o else χ 4 i)
    (m2 : ∀ i : Int, τ' 2 i = if i = N + 1 then k else τ 2 i) (m3 : ∀ i : Int, τ' 3 i = if i = N + 1 then o else τ 3 i) (m4 : ∀ i : Int, τ' 4 i = if i = N + 1 then y else τ 4 i)
    (hs : ∀ i : Int, i ≠ N + 1 → χ' 5 i = χ 5 i ∧ χ' 6 i = χ 6 i ∧ χ' 7 i = χ 7 i ∧ χ' 8 i = χ 8 i ∧ χ' 9 i = χ 9 i ∧ τ' 5 i = τ 5 i ∧ τ' 6 i = τ 6 i ∧ τ' 7 i = τ 7 i ∧ τ' 8 i = τ 8 i ∧ τ' 9 i = τ 9 i) (h5b : 0 ≤ χ' 5 (N + 1) ∧ χ' 5 (N + 1) < 24)
    (hn3 : k < 3 → χ' 5 (N + 1) = y ∧ χ' 8 (N + 1) = τ' 7 (N + 1) ∧ χ' 9 (N + 1) = τ' 8 (N + 1) ∧ -1 ≤ τ' 7 (N + 1) ∧ τ' 7 (N + 1) ≤ 99)
    (hn1 : k = 1 → χ' 6 (N + 1) = τ' 5 (N + 1) ∧ χ' 7 (N + 1) = τ' 6 (N + 1) ∧ (-1 ≤ τ' 5 (N + 1) ∧ τ' 5 (N + 1) ≤ 99) ∧ 1 ≤ o)
    (h10 : ∀ i : Int, i ≠ N + 1 → (k = 2 → i ≠ u) → χ' 10 i = χ 10 i) (h10n : k ≠ 2 → χ' 10 (N + 1) = 0) (h10u : k = 2 → χ' 10 (N + 1) = u ∧ τ' 9 (N + 1) = u ∧ 1 ≤ u ∧ u ≤ N ∧ τ 2 u = 1 ∧ χ 10 u = 0 ∧ χ' 10 u = N + 1)
    (h11 : k ≠ 3 → χ' 11 = χ 11) (h11n : k = 3 → (∀ t : Int, χ' 11 t = if t = o then N + 1 else χ 11 t) ∧ 1 ≤ o ∧ o ≤ τ 1 22 ∧ χ 11 o = 0)
    (h13 : χ' 2 13 = χ 2 13 + (if k = 1 then 1 else 0)) (h13b : k = 1 → cK τ 1 N < 60) (h14 : χ' 2 14 = χ 2 14 + (if k = 4 then 1 else 0)) (h14b : k = 4 → cK τ 4 N < 20)
    (h12 : ∀ c : Int, 0 ≤ c → c < 20 → (k = 4 → c ≠ cK τ 4 N) → χ' 12 c = χ 12 c ∧ χ' (14 + c) = χ (14 + c)) (h12n : k = 4 → χ' 12 (cK τ 4 N) = N + 1 ∧ ∀ g : Int, 0 ≤ g → g < 6 → χ' (14 + cK τ 4 N) g = τ' 10 (6 * (N + 1) + g) ∧ 0 ≤ τ' 10 (6 * (N + 1) + g)) (m10 : ∀ b : Int, b < 6 * (N + 1) → τ' 10 b = τ 10 b) (m22 : τ' 1 22 = τ 1 22) : RLg (N + 1) χ' τ' := by
  obtain ⟨⟨n0, n1⟩, l1, l2, l3, l4, l5, l6, l7, l8, ⟨l9, l9b⟩, ⟨l10, l10b⟩, l11⟩ := h
  obtain ⟨c1, c1n⟩ := cK_put n0 m2 1
  obtain ⟨c4, c4n⟩ := cK_put n0 m2 4
  have o2 : ∀ i : Int, i ≤ N → τ' 2 i = τ 2 i := fun i hi => by rw [m2, if_neg (by omega)]
  have o3 : ∀ i : Int, i ≤ N → τ' 3 i = τ 3 i := fun i hi => by rw [m3, if_neg (by omega)]
  have o4 : ∀ i : Int, i ≤ N → τ' 4 i = τ 4 i := fun i hi => by rw [m4, if_neg (by omega)]
  have z2 : τ' 2 (N + 1) = k := by rw [m2, if_pos rfl]
  have z3 : τ' 3 (N + 1) = o := by rw [m3, if_pos rfl]
  have z4 : τ' 4 (N + 1) = y := by rw [m4, if_pos rfl]
  refine ⟨⟨by omega, by omega⟩, fun i i0 => ?_, fun i i1 i2 => ?_, fun i i1 i2 i3 => ?_, fun i i1 i2 i3 => ?_, fun i i1 i2 i3 => ?_, fun i i1 i2 i3 => ?_, fun i i1 i2 i3 => ?_, fun t t0 t1 => ?_, ⟨?_, ?_⟩, ⟨?_, ?_⟩, fun i i1 i2 i3 => ?_⟩
  · obtain ⟨a1, a2, a3, a4⟩ := l1 i i0
    by_cases hi : i = N + 1
    · subst hi
      rw [z4, z3, h4, if_pos rfl]
      exact ⟨h5b, hy, ho, ho⟩
    · rw [(hs i hi).1, m4, m3, h4, if_neg hi, if_neg hi, if_neg hi]
      exact ⟨a1, a2, a3, a4⟩
  · by_cases hi : i = N + 1
    · subst hi
      rw [z2, z3, h3, h4, if_pos rfl, if_pos rfl]
      exact ⟨hk, rfl, rfl, fun h => h10n (by omega)⟩
    · obtain ⟨a1, a2, a3, a4⟩ := l2 i i1 (by omega)
      rw [o2 i (by omega), o3 i (by omega), h3, h4, if_neg hi, if_neg hi]
      refine ⟨a1, a2, a3, fun h => ?_⟩
      rw [h10 i hi (fun hk2 e => by have := (h10u hk2).2.2.2.2.1; rw [← e] at this; omega)]
      exact a4 h
  · by_cases hi : i = N + 1
    · subst hi
      rw [z2] at i3
      rw [z4]
      exact hn3 i3
    · rw [o2 i (by omega)] at i3
      obtain ⟨s5, s6, s7, s8, s9, t5, t6, t7, t8, t9⟩ := hs i hi
      rw [s5, s8, s9, t7, t8, o4 i (by omega)]
      exact l3 i i1 (by omega) i3
  · by_cases hi : i = N + 1
    · subst hi
      rw [z2] at i3
      rw [z3]
      exact hn1 i3
    · rw [o2 i (by omega)] at i3
      obtain ⟨s5, s6, s7, s8, s9, t5, t6, t7, t8, t9⟩ := hs i hi
      rw [s6, s7, t5, t6, o3 i (by omega)]
      exact l4 i i1 (by omega) i3
  · by_cases hi : i = N + 1
    · subst hi
      rw [z2] at i3
      obtain ⟨b1, b2, b3, b4, b5, b6, b7⟩ := h10u i3
      rw [b1, b2, o2 u b4]
      exact ⟨rfl, b3, by omega, b5, b7⟩
    · rw [o2 i (by omega)] at i3
      obtain ⟨a1, a2, a3, a4, a5⟩ := l5 i i1 (by omega) i3
      rw [h10 i hi (fun hk2 e => by have := (h10u hk2).2.2.2.2.1; rw [← e] at this; omega), (hs i hi).2.2.2.2.2.2.2.2.2, o2 (τ 9 i) (by omega), h10 (τ 9 i) (by omega) (fun hk2 e => by have := (h10u hk2).2.2.2.2.2.1; rw [← e] at this; omega)]
      exact ⟨a1, a2, a3, a4, a5⟩
  · by_cases hi : i = N + 1
    · subst hi
      rw [z2] at i3
      left
      exact h10n (by omega)
    · rw [o2 i (by omega)] at i3
      by_cases hu : k = 2 ∧ i = u
      · obtain ⟨b1, b2, b3, b4, b5, b6, b7⟩ := h10u hu.1
        right
        rw [hu.2, b7, z2, b2]
        exact ⟨by omega, by omega, hu.1, rfl⟩
      · rw [h10 i hi (fun hk2 e => hu ⟨hk2, e⟩)]
        rcases l6 i i1 (by omega) i3 with a | ⟨a1, a2, a3, a4⟩
        · exact Or.inl a
        · right
          rw [o2 _ a2, (hs (χ 10 i) (by omega)).2.2.2.2.2.2.2.2.2]
          exact ⟨a1, by omega, a3, a4⟩
  · by_cases hi : i = N + 1
    · subst hi
      rw [z2] at i3
      obtain ⟨b1, b2, b3, b4⟩ := h11n i3
      rw [z3, m22, b1, if_pos rfl]
      exact ⟨b2, b3, rfl⟩
    · rw [o2 i (by omega)] at i3
      obtain ⟨a1, a2, a3⟩ := l7 i i1 (by omega) i3
      rw [o3 i (by omega), m22]
      refine ⟨a1, a2, ?_⟩
      by_cases hk3 : k = 3
      · obtain ⟨b1, b2, b3, b4⟩ := h11n hk3
        rw [b1, if_neg (fun e => by rw [e, b4] at a3; omega)]
        exact a3
      · rw [h11 hk3]; exact a3
  · by_cases hk3 : k = 3
    · obtain ⟨b1, b2, b3, b4⟩ := h11n hk3
      rw [b1]
      by_cases ht : t = o
      · rw [if_pos ht, z2, z3]
        exact Or.inr ⟨by omega, by omega, hk3, ht.symm⟩
      · rw [if_neg ht]
        rcases l8 t t0 t1 with a | ⟨a1, a2, a3, a4⟩
        · exact Or.inl a
        · rw [o2 _ a2, o3 _ a2]
          exact Or.inr ⟨a1, by omega, a3, a4⟩
    · rw [h11 hk3]
      rcases l8 t t0 t1 with a | ⟨a1, a2, a3, a4⟩
      · exact Or.inl a
      · rw [o2 _ a2, o3 _ a2]
        exact Or.inr ⟨a1, by omega, a3, a4⟩
  · rw [h13, c1n, l9]
  · rw [c1n]
    split
    · have := h13b (by assumption); omega
    · omega
  · rw [h14, c4n, l10]
  · rw [c4n]
    split
    · have := h14b (by assumption); omega
    · omega
  · rw [c4 (i - 1) (by omega)]
    by_cases hi : i = N + 1
    · subst hi
      rw [z2] at i3
      rw [show N + 1 - 1 = N by omega]
      exact h12n i3
    · rw [o2 i (by omega)] at i3
      have hlt := cK_lt i1 (show i ≤ N by omega) i3
      have h0 := cK_le τ 4 (show 0 ≤ i - 1 by omega)
      obtain ⟨b1, b2⟩ := h12 (cK τ 4 (i - 1)) (by omega) (by omega) (fun _ => by omega)
      obtain ⟨a1, a2⟩ := l11 i i1 (by omega) i3
      rw [b1, b2]
      refine ⟨a1, fun g g0 g1 => ?_⟩
      rw [m10 _ (by omega)]
      exact a2 g g0 g1
/-- the last record is forgotten -/
theorem r_forget {N : Int} {χ τ : Hp} (h : RLg N χ τ) (hN : 1 ≤ N) : RLg (N - 1) (f_forget χ N) τ := by
  obtain ⟨⟨n0, n1⟩, l1, l2, l3, l4, l5, l6, l7, l8, ⟨l9, l9b⟩, ⟨l10, l10b⟩, l11⟩ := h
  obtain ⟨kN, eN, oN, zN⟩ := l2 N hN (Int.le_refl N)
  have cs := fun c => cK_s τ c hN
  have x3 : f_forget χ N 3 = χ 3 := f_forget_fr _ _ (by decide) (by decide) (by decide)
  have x4 : f_forget χ N 4 = χ 4 := f_forget_fr _ _ (by decide) (by decide) (by decide)
  have x5 : f_forget χ N 5 = χ 5 := f_forget_fr _ _ (by decide) (by decide) (by decide)
  have x6 : f_forget χ N 6 = χ 6 := f_forget_fr _ _ (by decide) (by decide) (by decide)
  have x7 : f_forget χ N 7 = χ 7 := f_forget_fr _ _ (by decide) (by decide) (by decide)
  have x8 : f_forget χ N 8 = χ 8 := f_forget_fr _ _ (by decide) (by decide) (by decide)
  have x9 : f_forget χ N 9 = χ 9 := f_forget_fr _ _ (by decide) (by decide) (by decide)
  have x12 : f_forget χ N 12 = χ 12 := f_forget_fr _ _ (by decide) (by decide) (by decide)
  have x10 : ∀ i : Int, i < N → (τ 2 N = 2 → i ≠ τ 9 N) → f_forget χ N 10 i = χ 10 i := fun i i1 i2 => by
    simp only [f_forget]
    rw [eN]
    by_cases h2 : τ 2 N = 2
    · rw [if_neg (by omega), if_pos h2, (l5 N hN (Int.le_refl N) h2).1, st2_ii (i2 h2)]
    · rcases (show τ 2 N = 1 ∨ τ 2 N = 3 ∨ τ 2 N = 4 by omega) with e | e | e <;> simp [e, st2]
  have x10u : τ 2 N = 2 → f_forget χ N 10 (τ 9 N) = 0 := fun h2 => by
    simp only [f_forget]
    rw [eN, if_neg (by omega), if_pos h2, (l5 N hN (Int.le_refl N) h2).1, st2_eq]
  have x11 : ∀ t : Int, f_forget χ N 11 t = if τ 2 N = 3 ∧ t = τ 3 N then 0 else χ 11 t := fun t => by
    simp only [f_forget]
    rw [eN, oN]
    by_cases h3 : τ 2 N = 3
    · rw [if_neg (by omega), if_neg (by omega), if_pos h3, st2_at]
      by_cases ht : t = τ 3 N
      · rw [if_pos ht, if_pos ⟨h3, ht⟩]
      · rw [if_neg ht, if_neg (fun z => ht z.2)]
    · rcases (show τ 2 N = 1 ∨ τ 2 N = 2 ∨ τ 2 N = 4 by omega) with e | e | e <;> simp [e, st2]
  have x13 : f_forget χ N 2 13 = χ 2 13 - (if τ 2 N = 1 then 1 else 0) ∧ f_forget χ N 2 14 = χ 2 14 - (if τ 2 N = 4 then 1 else 0) := by
    simp only [f_forget]
    rw [eN]
    rcases (show τ 2 N = 1 ∨ τ 2 N = 2 ∨ τ 2 N = 3 ∨ τ 2 N = 4 by omega) with e | e | e | e <;> simp [e, st2]
  refine ⟨⟨by omega, by omega⟩, ?_, fun i i1 i2 => ?_, fun i i1 i2 i3 => ?_, fun i i1 i2 i3 => ?_, fun i i1 i2 i3 => ?_, fun i i1 i2 i3 => ?_, fun i i1 i2 i3 => ?_, fun t t0 t1 => ?_, ⟨?_, ?_⟩, ⟨?_, ?_⟩, fun i i1 i2 i3 => ?_⟩
  · rw [x5, x4]; exact l1
  · obtain ⟨a1, a2, a3, a4⟩ := l2 i i1 (by omega)
    rw [x3, x4]
    refine ⟨a1, a2, a3, fun h => ?_⟩
    rw [x10 i (by omega) (fun h2 e => by have := (l5 N hN (Int.le_refl N) h2).2.2.2.1; rw [← e] at this; omega)]
    exact a4 h
  · rw [x5, x8, x9]; exact l3 i i1 (by omega) i3
  · rw [x6, x7]; exact l4 i i1 (by omega) i3
  · obtain ⟨a1, a2, a3, a4, a5⟩ := l5 i i1 (by omega) i3
    rw [x10 i (by omega) (fun h2 e => by have := (l5 N hN (Int.le_refl N) h2).2.2.2.1; rw [← e] at this; omega), x10 (τ 9 i) (by omega) (fun h2 e => by have := (l5 N hN (Int.le_refl N) h2).2.2.2.2; rw [← e] at this; omega)]
    exact ⟨a1, a2, a3, a4, a5⟩
  · by_cases hu : τ 2 N = 2 ∧ i = τ 9 N
    · left; rw [hu.2]; exact x10u hu.1
    · rw [x10 i (by omega) (fun h2 e => hu ⟨h2, e⟩)]
      rcases l6 i i1 (by omega) i3 with a | ⟨a1, a2, a3, a4⟩
      · exact Or.inl a
      · right
        refine ⟨a1, ?_, a3, a4⟩
        by_cases hc : χ 10 i = N
        · exact absurd ⟨by rw [hc] at a3; exact a3, by rw [hc] at a4; exact a4.symm⟩ hu
        · omega
  · obtain ⟨a1, a2, a3⟩ := l7 i i1 (by omega) i3
    refine ⟨a1, a2, ?_⟩
    rw [x11, if_neg (fun z => by have := (l7 N hN (Int.le_refl N) z.1).2.2; rw [← z.2] at this; omega)]
    exact a3
  · rw [x11]
    by_cases hz : τ 2 N = 3 ∧ t = τ 3 N
    · rw [if_pos hz]; exact Or.inl rfl
    · rw [if_neg hz]
      rcases l8 t t0 t1 with a | ⟨a1, a2, a3, a4⟩
      · exact Or.inl a
      · refine Or.inr ⟨a1, ?_, a3, a4⟩
        by_cases hc : χ 11 t = N
        · exact absurd ⟨by rw [hc] at a3; exact a3, by rw [hc] at a4; exact a4.symm⟩ hz
        · omega
  · rw [x13.1, l9, cs 1]; omega
  · have := cs 1; split at this <;> omega
  · rw [x13.2, l10, cs 4]; omega
  · have := cs 4; split at this <;> omega
  · obtain ⟨a1, a2⟩ := l11 i i1 (by omega) i3
    have hlt := cK_lt i1 (show i ≤ N by omega) i3
    have h0 := cK_le τ 4 (show 0 ≤ i - 1 by omega)
    rw [x12, f_forget_fr χ N (a := 14 + cK τ 4 (i - 1)) (by omega) (by omega) (by omega)]
    exact ⟨a1, a2⟩
