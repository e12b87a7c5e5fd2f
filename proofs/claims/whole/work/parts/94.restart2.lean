-- ===== the restart's end, its units, the call =====
theorem j_fin {B : Int} {n : Nat} {χ τ : Hp} (h : JJ 0 B n χ τ) (hd : dead τ) : JJ 0 B n (f_comeUp χ) (m_finish τ) ∧ dead (m_finish τ) ∧ m_finish τ 1 32 = 0 := by
  obtain ⟨hL, hP, hT, hB⟩ := h
  obtain ⟨⟨a1, a2, a3, a4⟩, b2, b3, b4, b5, b6, b7, b8, b9, ⟨b10, b11, b12, b13⟩, b14⟩ := hT
  have xs : ∀ a : Int, a < 86 → a ≠ 1 → f_comeUp χ a = χ a := fun a h1 h2 => by
    unfold f_comeUp
    rw [f_cu_fr _ _ h1, st2_ne h2]
  have x1 : ∀ i : Int, f_comeUp χ 1 i = if i = 8 then 1 else χ 1 i := fun i => by
    unfold f_comeUp
    rw [f_cu_fr _ _ (by decide), st2_at]
  have xt : ∀ t i : Int, 1 ≤ t → t ≤ τ 1 22 → i ≠ 2 → f_comeUp χ (85 + t) i = χ (85 + t) i := fun t i t1 t2 hi => by
    unfold f_comeUp
    simp only [f_cu]
    rw [if_neg (fun z => hi z.2.2.1), st2_ne (by omega)]
  have x2 : ∀ t : Int, 1 ≤ t → t ≤ τ 1 22 → f_comeUp χ (85 + t) 2 = if τ 19 t = 6 then (if χ 11 t = 0 then 5 else 4) else τ 19 t := fun t t1 t2 => by
    have e := (b2 t t1 t2).2.2.2.1
    unfold f_comeUp
    simp only [f_cu]
    rw [st2_ne (by omega), st2_ne (by decide), e, show 85 + t - 85 = t by omega]
    by_cases h6 : τ 19 t = 6
    · rw [if_pos h6, if_pos ⟨by omega, by omega, trivial, h6⟩]
    · rw [if_neg h6, if_neg (fun z => h6 z.2.2.2)]
  have mo : ∀ a : Int, a ≠ 1 → a ≠ 19 → m_finish τ a = τ a := fun a h1 h2 => by
    funext b
    unfold m_finish
    simp only [m_fin]
    rw [if_neg (fun z => h2 z.1), st2_ne h1]
  have m1 : ∀ i : Int, m_finish τ 1 i = if i = 32 then 0 else τ 1 i := fun i => by
    unfold m_finish
    simp only [m_fin]
    rw [if_neg (fun z => absurd z.1 (by decide)), st2_at]
  have m1o : ∀ i : Int, i ≠ 32 → m_finish τ 1 i = τ 1 i := fun i hi => by rw [m1, if_neg hi]
  have m22 := m1o 22 (by decide)
  have m19 : ∀ t : Int, 1 ≤ t → t ≤ τ 1 22 → m_finish τ 19 t = if τ 19 t = 6 then (if χ 11 t = 0 then 5 else 4) else τ 19 t := fun t t1 t2 => by
    unfold m_finish
    simp only [m_fin]
    rw [st2_ne (by decide)]
    by_cases h6 : τ 19 t = 6
    · rw [if_pos ⟨trivial, t1, by omega, h6⟩, if_pos h6]
      have hc := r_comm hL (t := t) (by omega) (by omega)
      have e : m_committed (st2 τ 1 32 0) t = m_committed τ t := m_committed_c (st2_ii (by decide)) (st2_ne (by decide)) (st2_ne (by decide)) t
      rw [e]
      by_cases hz : χ 11 t = 0
      · rw [if_pos hz, if_neg (fun z => hc.mp z hz)]
      · rw [if_neg hz, if_pos (hc.mpr hz)]
    · rw [if_neg h6, if_neg (fun z => h6 z.2.2.2)]
  have hdd : dead (m_finish τ) := fun t t1 t2 => by
    rw [m22] at t2
    have := hd t t1 t2
    rw [m19 t t1 t2]
    split
    · split <;> decide
    · exact this
  have hr : ∀ t : Int, 1 ≤ t → t ≤ τ 1 22 → 1 ≤ m_finish τ 19 t ∧ m_finish τ 19 t ≤ 6 := fun t t1 t2 => by
    have := (b2 t t1 t2).2.2.2.2.2.2.2.2.2.1
    rw [m19 t t1 t2]
    split
    · split <;> decide
    · exact this
  have x11 := xs 11 (by decide) (by decide)
  refine ⟨⟨⟨?_, ?_⟩, ?_, ?_, ?_⟩, hdd, by rw [m1]; rfl⟩
  · rw [xs 2 (by decide) (by decide), m1o 0 (by decide)]; exact hL.1
  · rw [m1o 0 (by decide)]
    exact RLg_c hL.2 (fun a h1 h2 => xs a (by omega) (by omega)) (by rw [xs 2 (by decide) (by decide)]) (by rw [xs 2 (by decide) (by decide)]) (fun a h1 h2 => mo a (by omega) (by omega)) m22
  · exact RPl_c hP (fun a h1 h2 => xs a (by omega) (by omega)) (by rw [xs 2 (by decide) (by decide)]) (fun a h1 h2 => mo a (by omega) (by omega)) (m1o 1 (by decide)) (by rw [m1o 19 (by decide)]; exact Int.le_refl _) (m1o 20 (by decide)) (m1o 21 (by decide)) (by rw [m1o 0 (by decide)]; exact Int.le_refl _)
  · have e21 := mo 21 (by decide) (by decide)
    have e22 := mo 22 (by decide) (by decide)
    have e23 := mo 23 (by decide) (by decide)
    have e24 := mo 24 (by decide) (by decide)
    have e25 := mo 25 (by decide) (by decide)
    have e26 := mo 26 (by decide) (by decide)
    refine ⟨by rw [m22, x1]; exact ⟨a1, a2, a3, a4⟩, fun t t1 t2 => ?_, ?_, by rw [e22]; exact b4, fun t u t1 t2 u1 u2 => ?_, fun s s0 s1 => ?_, fun t t1 t2 t3 => ?_, fun t k t1 t2 k0 k1 => ?_, Or.inl ⟨by rw [x1]; rfl, by rw [m1]; rfl⟩, ?_, fun t t1 t2 => ?_⟩
    · rw [m22] at t2
      obtain ⟨c1, c2, c3, c4, c5, c6, c7, c8, c9, c10, c11, c12, c13, c14⟩ := b2 t t1 t2
      have hd' := hdd t t1 (by rw [m22]; exact t2)
      unfold txE
      rw [xs 85 (by decide) (by decide), xt t 0 t1 t2 (by decide), xt t 1 t1 t2 (by decide), xt t 3 t1 t2 (by decide), xt t 4 t1 t2 (by decide), xt t 5 t1 t2 (by decide), xt t 6 t1 t2 (by decide), xt t 7 t1 t2 (by decide), xt t 8 t1 t2 (by decide), x2 t t1 t2, ← m19 t t1 t2, mo 20 (by decide) (by decide), e21, e22, e23, e24, e25, m1o 19 (by decide), x1]
      exact ⟨c1, c2, c3, rfl, c5, c6, c7, c8, c9, hr t t1 t2, c11, c12, c13, fun z => by omega⟩
    · rw [m22, e21, e22, e23, e24, e25]; exact b3
    · rw [m22] at t2 u2
      rw [xt t 5 t1 t2 (by decide), xt u 5 u1 u2 (by decide), e25]
      exact b5 t u t1 t2 u1 u2
    · rcases b6 s s0 s1 with ⟨e, e'⟩ | ⟨t, t1, t2, -, -, t5, -⟩
      · left
        rw [xs 77 (by decide) (by decide), xs (79 + s) (by omega) (by omega)]
        exact ⟨e, e'⟩
      · have := hd t t1 t2
        omega
    · have := hdd t t1 t2
      omega
    · rw [e26, m22]
      refine ⟨(b8 t k t1 t2 k0 k1).1, fun _ => (b8 t k t1 t2 k0 k1).2 ?_⟩
      by_cases ht : 1 ≤ t ∧ t ≤ τ 1 22
      · exact Or.inr (Or.inr (hd t ht.1 ht.2))
      · omega
    · rw [x1, x1, m1o 33 (by decide), m1o 19 (by decide)]; exact ⟨b10, b11, b12, b13⟩
    · have := hdd t t1 t2
      exact ⟨fun z => by omega, fun z => by omega⟩
  · rw [m1o 19 (by decide), m1o 20 (by decide), m1o 21 (by decide)]; exact hB
theorem inv_unit {B : Int} {n : Nat} {χ τ : Hp} (h : INV B n χ τ) (hd : ¬ τ 1 32 = 0) : INV (B + 1) n (if f_finished (f_unit χ) = true then f_comeUp (f_unit χ) else f_unit χ) (m_unit τ) := by
  obtain ⟨j1, u2, u3, u4, u5, u6, u7⟩ := un_1 h hd
  unfold m_unit
  generalize f_unit χ = χ1 at *
  generalize m_unit1 τ = τ1 at *
  have hN := j1.1.2.1
  have n1 : ∀ b : Int, b ≠ 35 → m_unit2 τ1 1 b = τ1 1 b := fun b hb => by unfold m_unit2; exact st2_ii hb
  have no : ∀ a : Int, a ≠ 1 → m_unit2 τ1 a = τ1 a := fun a ha => by unfold m_unit2; exact st2_ne ha
  have n35 : m_unit2 τ1 1 35 = if τ1 1 0 < τ1 1 35 then 1000 else τ1 1 35 := by unfold m_unit2; exact st2_eq
  have j2 : JJ 0 (B + 1) n χ1 (m_unit2 τ1) := j_rec j1 (fun _ _ _ => rfl) (fun a a1 _ => no a a1) (fun b _ b2 => n1 b b2)
  have hg := r_gOpen j2.1
  have hd2 : dead (m_unit2 τ1) := fun t t1 t2 => by
    rw [n1 22 (by decide)] at t2
    rw [no 19 (by decide)]
    exact u3 t t1 t2
  have hcase : (m_unit2 τ1 1 35 = 1000 ∧ χ1 83 5 < χ1 83 4) ∨ (1 ≤ m_unit2 τ1 1 35 ∧ m_unit2 τ1 1 35 ≤ τ1 1 0 ∧ χ1 83 4 = m_unit2 τ1 1 35 ∧ χ1 83 5 = τ1 1 0) := by
    rw [n35]
    rcases u7 with ⟨c1, c2⟩ | ⟨c1, c2, c3, c4⟩
    · left
      rw [if_pos (by omega)]
      exact ⟨rfl, c2⟩
    · by_cases hl : τ1 1 0 < τ1 1 35
      · left
        rw [if_pos hl]
        exact ⟨rfl, by omega⟩
      · right
        rw [if_neg hl]
        exact ⟨c1, by omega, c3, c4⟩
  have hiff : f_finished χ1 = true ↔ (m_unit2 τ1 1 35 = 1000 ∧ m_open (m_unit2 τ1) 0 = 0) := by
    unfold f_finished
    simp only [Bool.and_eq_true, decide_eq_true_eq]
    rw [hg]
    rcases hcase with ⟨c1, c2⟩ | ⟨c1, c2, c3, c4⟩
    · constructor
      · rintro ⟨-, z⟩; exact ⟨c1, z⟩
      · rintro ⟨-, z⟩; exact ⟨⟨by omega, c2⟩, z⟩
    · constructor
      · rintro ⟨⟨-, z⟩, -⟩; omega
      · rintro ⟨z, -⟩; omega
  unfold m_unit3
  by_cases hf : f_finished χ1 = true
  · rw [if_pos hf, if_pos (hiff.mp hf)]
    obtain ⟨f1, f2, f3⟩ := j_fin j2 hd2
    exact inv_up f1 (std_dead f1 f2) f3
  · rw [if_neg hf, if_neg (fun z => hf (hiff.mpr z))]
    refine ⟨j2, std_dead j2 hd2, fun _ => hd2, fun _ => ⟨by rw [n1 34 (by decide)]; omega, Or.inr (by rw [n1 34 (by decide)]; exact u5), fun _ => ⟨fun g g0 g1 => by rw [no 28 (by decide)]; exact u6 g g0 g1, ?_⟩⟩⟩
    rcases hcase with ⟨c1, c2⟩ | ⟨c1, c2, c3, c4⟩
    · exact Or.inl ⟨c1, c2, fun z => hf (hiff.mpr ⟨c1, z⟩)⟩
    · rw [n1 0 (by decide)]
      exact Or.inr ⟨c1, c2, c3, c4⟩
theorem ok_XU {B : Int} {n : Nat} {χ τ : Hp} (h : INV B n χ τ) (hd : ¬ τ 1 32 = 0) (hb : B + 10 < 2000000000) : Ok LyX TX y_XR_makeUnit b_XR_makeUnit 1 none 6 0 0 [.inr 83] n χ (pV n (f_unit χ)) ∧ Ok LyX TX y_XR_isFinished b_XR_isFinished 1 (some .boolean) 3 0 0 [.inr 83] n (f_unit χ) (pI n (f_unit χ) (b2i (f_finished (f_unit χ)))) ∧ xF n (f_unit χ) := by
  obtain ⟨hL, hP, hT, hB⟩ := h.1
  obtain ⟨q1, q2, q3⟩ := h.2.2.2 hd
  have hn := (b_n h).1
  have hN := hL.2.1
  have hN' : 0 ≤ χ 2 11 ∧ χ 2 11 ≤ 200 := by rw [hL.1]; exact hN
  have c14 := hL.2.2.2.2.2.2.2.2.2.2.2.1
  have k4 := cK_le τ 4 hN.1
  have hxB := (jx_B h.1 (by omega)).1
  have ho : ∀ i : Int, 1 ≤ i → i ≤ χ 2 11 → 0 ≤ χ 4 i ∧ χ 4 i ≤ 60 := fun i i1 _ => (hL.2.2.1 i (by omega)).2.2.1
  have hU := (un_1 h hd).1
  have hgo := r_gOpen hL
  refine ⟨c_XR_makeUnit hn (fun _ => c_XR_analyse hn hN'.1 hN'.2 (c_XR_fillTable hn hN'.1 hN'.2 (by omega) (by omega) (fun i i0 _ => (hL.2.2.1 i i0).1) (fun hp => ?_))) (fun w1 w2 => ?_) (fun w1 w2 => c_XR_takeBackNext hn hN'.1 hN'.2 ho hxB (fun hz => ?_)), c_XR_isFinished hn (by rw [hU.1.1]; exact hU.1.2.1.1) (by rw [hU.1.1]; exact hU.1.2.1.2) (fun i i1 _ => (hU.1.2.2.1 i (by omega)).2.2.1), jx_F hU.2.2.1⟩
  · have hf := r_first hL
    unfold f_first at hf
    rw [if_neg (by omega)] at hf
    rw [hL.1]
    rcases r_last hL with ⟨a, b⟩ | ⟨a, b, c, d⟩ <;> omega
  · obtain ⟨q4, q5⟩ := q3 (by omega)
    rcases q5 with ⟨-, u2, -⟩ | ⟨u1, u2, u3, u4⟩
    · omega
    · have := (hL.2.2.1 (χ 83 4) (by omega)).1
      exact c_XR_repeatNext hn (by omega) (by omega) this.1 this.2 hxB
  · rw [hgo] at hz ⊢
    rcases m_open_spec τ 0 hN.1 with ⟨a, -⟩ | ⟨a, b, c, -⟩
    · exact absurd a hz
    · obtain ⟨o1, o2, -⟩ := open_of hL a b c
      obtain ⟨-, j2, j3, j4, j5⟩ := j_takeBack h.1 a b o1 o2
      rw [hL.1, j3]
      exact ⟨j2, j4, j5⟩
theorem ok_MU {B : Int} {n : Nat} {χ τ : Hp} (h : INV B n χ τ) (hd : ¬ τ 1 32 = 0) (hb : B + 10 < 2000000000) : Ok LyM TM y_M_unit b_M_unit 1 none 4 0 0 [.inr 1] 28 τ (pV 28 (m_unit τ)) := by
  obtain ⟨hL, hP, hT, hB⟩ := h.1
  obtain ⟨q1, q2, q3⟩ := h.2.2.2 hd
  have hN := hL.2.1
  have hU := (un_1 h hd).1
  have hb1 := hU.2.2.1.1
  have hb0 := hT.1
  have hN1 := hU.1.2.1
  refine c_M_unit hT.1.1 hT.1.2.1 hN.1 (by omega) (jx_B h.1 (by omega)).2 (fun i i0 _ => (hL.2.2.1 i i0).2.1) (fun hz => ?_) ⟨hN1.1, by omega⟩ (by omega)
  rcases (q3 (by omega)).2 with ⟨u1, -⟩ | ⟨u1, -⟩ <;> omega
theorem rs_loop {n : Nat} : ∀ (k : Nat) (x B : Int) (χ τ : Hp), INV B n χ τ → (f_rsL k x χ).1 = (m_rsL k x τ).1 ∧ INV (B + k) n (f_rsL k x χ).2 (m_rsL k x τ).2
  | 0, x, B, χ, τ, h => ⟨rfl, inv_B h (by omega)⟩
  | k + 1, x, B, χ, τ, h => by
    have hf := inv_flag h.1.2.2.1
    unfold f_rsL m_rsL
    by_cases hd : τ 1 32 = 0
    · rw [if_pos hd, if_pos (by omega)]
      exact ⟨rfl, inv_B h (by omega)⟩
    · rw [if_neg hd, if_neg (by omega)]
      obtain ⟨i1, i2⟩ := rs_loop k (x + 1) (B + 1) _ _ (inv_unit h hd)
      exact ⟨i1, inv_B i2 (by omega)⟩
theorem b_restart {B : Int} {n : Nat} {χ τ : Hp} (h : INV B n χ τ) (hb : B + 4000 < 2000000000) (m : Int) : Both B n χ τ y_X_restart b_X_restart 3 (some .int) 0 0 [.inr 1, .inl m] y_M_restart b_M_restart 3 [.inr 1, .inl m] := by
  have hf := inv_flag h.1.2.2.1
  refine ⟨7, 5, _, _, by omega, by omega, c_X_restart (b_n h).1 (fun k σ => ∃ ρ, INV (B + k) n σ ρ) (fun _ => ⟨τ, inv_B h (by omega)⟩) (fun k σ hk hp hz => ?_), c_M_restart (fun k ρ => ∃ σ, INV (B + k) n σ ρ) (fun _ => ⟨χ, inv_B h (by omega)⟩) (fun k ρ hk hp hz => ?_), (by rintro r n' σ' ⟨_, ⟨_, rfl, _⟩ | ⟨_, rfl, _⟩⟩ <;> exact ⟨_, rfl⟩), ?_⟩
  · obtain ⟨ρ, hi⟩ := hp
    have hfl := inv_flag hi.1.2.2.1
    have hd : ¬ ρ 1 32 = 0 := by omega
    obtain ⟨o1, o2, o3⟩ := ok_XU hi hd (by omega)
    exact ⟨o1, o2, fun _ => o3, m_unit ρ, inv_B (inv_unit hi hd) (by omega)⟩
  · obtain ⟨σ, hi⟩ := hp
    exact ⟨ok_MU hi hz (by omega), _, inv_B (inv_unit hi hz) (by omega)⟩
  · rintro r n' χ' r' m' τ' ⟨rfl, hx⟩ ⟨rfl, rfl, rfl⟩
    refine ⟨rfl, ?_⟩
    unfold m_restart
    rcases hx with ⟨a1, rfl, rfl⟩ | ⟨a1, rfl, rfl⟩
    · rw [if_neg (show ¬ (τ 1 32 = 0 ∨ m < 1 ∨ 100 < m) by omega)]
      obtain ⟨i1, i2⟩ := rs_loop m.toNat 0 B χ τ h
      exact ⟨⟨_, rfl, by rw [i1]⟩, inv_B i2 (by omega)⟩
    · rw [if_pos (show τ 1 32 = 0 ∨ m < 1 ∨ 100 < m by omega)]
      exact ⟨⟨-1, rfl, rfl⟩, inv_B h (by omega)⟩
