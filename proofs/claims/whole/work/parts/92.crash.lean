-- ===== a crash =====
/-- all that the transactions have; the flags, the crashes and the commits' places anew -/
theorem RTx_d {e : Int} {n : Nat} {χ τ χ' τ' : Hp} (h : RTx e n χ τ) (hx : ∀ a : Int, 76 ≤ a → a ≠ 83 → a ≠ 84 → χ' a = χ a) (x15 : χ' 1 5 = χ 1 5) (x16 : χ' 1 6 = χ 1 6) (hm : ∀ a : Int, 19 ≤ a → a ≤ 26 → τ' a = τ a) (m22 : τ' 1 22 = τ 1 22) (m19 : τ 1 19 ≤ τ' 1 19) (hfl : (χ' 1 8 = 1 ∧ τ' 1 32 = 0) ∨ (χ' 1 8 = 0 ∧ τ' 1 32 = 1)) (hcr : χ' 1 7 = τ' 1 33 ∧ 0 ≤ τ' 1 33) (hlk : ∀ t : Int, 1 ≤ t → t ≤ τ 1 22 → (τ 19 t = 3 → ¬ χ' 11 t = 0) ∧ (τ 19 t ≤ 2 → χ' 11 t = 0)) : RTx e n χ' τ' := by
  obtain ⟨a1, a2, a3, a4, a5, a6, a7, a8, a9, ⟨a10, a11, a12, a13⟩, a14⟩ := h
  have e19 := hm 19 (by decide) (by decide)
  have e20 := hm 20 (by decide) (by decide)
  have e21 := hm 21 (by decide) (by decide)
  have e22 := hm 22 (by decide) (by decide)
  have e23 := hm 23 (by decide) (by decide)
  have e24 := hm 24 (by decide) (by decide)
  have e25 := hm 25 (by decide) (by decide)
  have e26 := hm 26 (by decide) (by decide)
  have x77 := hx 77 (by decide) (by decide) (by decide)
  have x85 := hx 85 (by decide) (by decide) (by decide)
  unfold RTx
  rw [m22, e19, e21, e22, e23, e24, e25, e26, x15, x16, x77]
  refine ⟨a1, fun t t1 t2 => ?_, a3, a4, fun t u t1 t2 u1 u2 => ?_, fun s s0 s1 => ?_, fun t t1 t2 t3 => ?_, a8, hfl, ⟨hcr.1, hcr.2, a12, by omega⟩, hlk⟩
  · obtain ⟨b1, b2, b3, b4, b5, b6, b7, b8, b9, b10, ⟨b11, b12⟩, b13⟩ := a2 t t1 t2
    unfold txE
    rw [hx (85 + t) (by omega) (by omega) (by omega), e19, e20, e21, e22, e23, e24, e25, x16, x85]
    exact ⟨b1, b2, b3, b4, b5, b6, b7, b8, b9, b10, ⟨b11, by omega⟩, b13⟩
  · rw [hx (85 + t) (by omega) (by omega) (by omega), hx (85 + u) (by omega) (by omega) (by omega)]
    exact a5 t u t1 t2 u1 u2
  · unfold seatE
    rw [x77, hx (79 + s) (by omega) (by omega) (by omega), m22, e19, e26]
    rcases a6 s s0 s1 with b | ⟨t, t1, t2, t3, t4, t5, t6⟩
    · exact Or.inl b
    · exact Or.inr ⟨t, t1, t2, t3, by rw [hx (85 + t) (by omega) (by omega) (by omega)]; exact t4, t5, t6⟩
  · rw [hx (85 + t) (by omega) (by omega) (by omega)]
    exact a7 t t1 t2 t3
theorem r_lose {τ : Hp} : ∀ (j : Nat) (N : Int) (χ : Hp), RLg N χ τ → (j : Int) ≤ N → RLg (N - j) (f_loseL j N χ) τ ∧ (∀ a : Int, a ≠ 2 → a ≠ 10 → a ≠ 11 → f_loseL j N χ a = χ a) ∧ (∀ b : Int, b ≠ 13 → b ≠ 14 → f_loseL j N χ 2 b = χ 2 b)
  | 0, N, χ, h, _ => by
    refine ⟨?_, fun _ _ _ _ => rfl, fun _ _ _ => rfl⟩
    rw [show N - ((0 : Nat) : Int) = N by omega]; exact h
  | j + 1, N, χ, h, hj => by
    have h1 := r_forget h (by omega)
    rw [show N - 1 = N + -1 by omega] at h1
    obtain ⟨i1, i2, i3⟩ := r_lose j (N + -1) (f_forget χ N) h1 (by omega)
    refine ⟨?_, fun a a1 a2 a3 => ?_, fun b b1 b2 => ?_⟩
    · rw [show N - ((j + 1 : Nat) : Int) = N + -1 - (j : Int) by omega]; exact i1
    · show f_loseL j (N + -1) (f_forget χ N) a = χ a
      rw [i2 a a1 a2 a3, f_forget_fr _ _ a1 a2 a3]
    · show f_loseL j (N + -1) (f_forget χ N) 2 b = χ 2 b
      rw [i3 b b1 b2, f_forget_2 _ _ b1 b2]
def m_crS (τ : Hp) (S : Int → Bool) : Hp := fun a b => if a = 19 ∧ S b = true then 6 else if a = 26 ∧ S (b / 100) = true then 0 else τ a b
theorem m_crS_add (τ : Hp) (S : Int → Bool) (t : Int) : m_unlock (st2 (m_crS τ S) 19 t 6) t 100 = m_crS τ (fun u => S u || decide (u = t)) := by
  funext a b
  simp only [m_crS, m_unlock, st2]
  by_cases hb : b / 100 = t
  · have h1 : 100 * t ≤ b ∧ b < 100 * t + 100 := by omega
    grind
  · have h1 : ¬ (100 * t ≤ b ∧ b < 100 * t + 100) := by omega
    grind
theorem m_crS_0 (τ : Hp) (S : Int → Bool) (h : ∀ u, S u = false) : m_crS τ S = τ := by
  funext a b
  simp [m_crS, h]
def Sst (χ τ : Hp) (s : Int) : Int → Bool := fun t => decide (1 ≤ t) && decide (t ≤ τ 1 22) && m_live τ t && decide (χ (85 + t) 1 < s)
theorem Sst_iff {χ τ : Hp} {s t : Int} : Sst χ τ s t = true ↔ 1 ≤ t ∧ t ≤ τ 1 22 ∧ (1 ≤ τ 19 t ∧ τ 19 t ≤ 3) ∧ χ (85 + t) 1 < s := by
  simp only [Sst, m_live, Bool.and_eq_true, decide_eq_true_eq]
  constructor
  · rintro ⟨⟨⟨a, b⟩, c⟩, d⟩; exact ⟨a, b, c, d⟩
  · rintro ⟨a, b, c, d⟩; exact ⟨⟨⟨a, b⟩, c⟩, d⟩
theorem crS_19 {τ : Hp} {S : Int → Bool} {t : Int} : m_crS τ S 19 t = if S t = true then 6 else τ 19 t := by
  by_cases h : S t = true <;> simp [m_crS, h]
theorem crS_o {τ : Hp} {S : Int → Bool} {a : Int} (h1 : a ≠ 19) (h2 : a ≠ 26) : m_crS τ S a = τ a := by
  funext b
  simp [m_crS, h1, h2]
theorem lv_c {σ χ : Hp} {one q : Int} (ho : 86 ≤ one) (hs : 0 ≤ χ one 1 ∧ χ one 1 < 4) (h : ∀ a : Int, 76 ≤ a → σ a = χ a) : (∀ a : Int, 76 ≤ a → f_leaveT σ one q a = f_leaveT χ one q a) ∧ ∀ a : Int, a < 76 ∨ a = 83 ∨ a = 84 → f_leaveT σ one q a = σ a := by
  have h1 : σ one 1 = χ one 1 := by rw [h one (by omega)]
  constructor
  · intro a ha
    unfold f_leaveT
    rw [h1]
    funext b
    simp only [f_zero, st2]
    rw [h a ha]
  · intro a ha
    unfold f_leaveT
    rw [h1, f_zero_fr _ _ _ (by omega), st2_ne (by omega), st2_ne (by omega)]
theorem r_ld {n : Nat} {χ τ : Hp} (hT : RTx 0 n χ τ) : ∀ (k : Nat) (s : Int) (χs σs : Hp), 0 ≤ s → s + k = 4 → RTx 0 n χs (m_crS τ (Sst χ τ s)) → (∀ t : Int, 1 ≤ t → t ≤ τ 1 22 → χs (85 + t) 1 = χ (85 + t) 1) → (∀ a : Int, 76 ≤ a → σs a = χs a) → RTx 0 n (f_ldL k s χs) (m_crS τ (Sst χ τ 4)) ∧ (∀ a : Int, 76 ≤ a → f_ldL k s σs a = f_ldL k s χs a) ∧ (∀ a : Int, a < 76 ∨ a = 83 ∨ a = 84 → f_ldL k s σs a = σs a)
  | 0, s, χs, σs, _, hk, h, _, hc => by
    rw [show s = 4 by omega] at h
    exact ⟨h, hc, fun _ _ => rfl⟩
  | k + 1, s, χs, σs, s0, hk, h, h1, hc => by
    have e22 : m_crS τ (Sst χ τ s) 1 22 = τ 1 22 := by rw [crS_o (by decide) (by decide)]
    have hlive : ∀ t : Int, 1 ≤ t → t ≤ τ 1 22 → (1 ≤ τ 19 t ∧ τ 19 t ≤ 3) → χ (85 + t) 1 = s → χs 77 s = 85 + t := fun t t1 t2 t3 t4 => by
      have := h.2.2.2.2.2.2.1 t t1 (by rw [e22]; exact t2)
      rw [h1 t t1 t2, t4] at this
      refine this ?_
      rw [crS_19, if_neg (fun z => by have := Sst_iff.mp z; omega)]
      exact t3.2
    show RTx 0 n (f_ldL k (s + 1) (if χs 77 s = 0 then χs else f_leaveT χs (χs 77 s) 6)) _ ∧ (∀ a : Int, 76 ≤ a → f_ldL k (s + 1) (if σs 77 s = 0 then σs else f_leaveT σs (σs 77 s) 6) a = f_ldL k (s + 1) (if χs 77 s = 0 then χs else f_leaveT χs (χs 77 s) 6) a) ∧ (∀ a : Int, a < 76 ∨ a = 83 ∨ a = 84 → f_ldL k (s + 1) (if σs 77 s = 0 then σs else f_leaveT σs (σs 77 s) 6) a = σs a)
    rw [hc 77 (by decide)]
    by_cases hz : χs 77 s = 0
    · rw [if_pos hz, if_pos hz]
      refine r_ld hT k (s + 1) χs σs (by omega) (by omega) ?_ h1 hc
      have : Sst χ τ (s + 1) = Sst χ τ s := by
        funext t
        refine bool_iff ⟨fun z => ?_, fun z => ?_⟩
        · obtain ⟨t1, t2, t3, t4⟩ := Sst_iff.mp z
          refine Sst_iff.mpr ⟨t1, t2, t3, ?_⟩
          refine Decidable.byContradiction (fun w => ?_)
          have := hlive t t1 t2 t3 (by omega)
          omega
        · obtain ⟨t1, t2, t3, t4⟩ := Sst_iff.mp z
          exact Sst_iff.mpr ⟨t1, t2, t3, by omega⟩
      rw [this]; exact h
    · rw [if_neg hz, if_neg hz]
      rcases h.2.2.2.2.2.1 s s0 (by omega) with ⟨e, -⟩ | ⟨t, t1, t2, t3, t4, t5, -⟩
      · exact absurd e hz
      · rw [t3]
        rw [e22] at t2
        have hr := r_lv h (q := 6) t1 (by rw [e22]; exact t2) t5 (by decide)
        have hnS : ¬ Sst χ τ s t = true := fun z => by rw [crS_19, if_pos z] at t5; omega
        have ht3 : 1 ≤ τ 19 t ∧ τ 19 t ≤ 3 := by
          rw [crS_19, if_neg hnS] at t5
          exact ⟨(hT.2.1 t t1 t2).2.2.2.2.2.2.2.2.2.1.1, t5⟩
        have hts : χ (85 + t) 1 = s := by rw [← h1 t t1 t2]; exact t4
        have hs4 : 0 ≤ χs (85 + t) 1 ∧ χs (85 + t) 1 < 4 := by omega
        obtain ⟨c1, c2⟩ := lv_c (q := 6) (one := 85 + t) (by omega) hs4 hc
        obtain ⟨r1, r2, r3⟩ := r_ld hT k (s + 1) (f_leaveT χs (85 + t) 6) (f_leaveT σs (85 + t) 6) (by omega) (by omega) (by
          rw [m_crS_add] at hr
          have : Sst χ τ (s + 1) = fun u => Sst χ τ s u || decide (u = t) := by
            funext u
            refine bool_iff ⟨fun z => ?_, fun z => ?_⟩
            · obtain ⟨u1, u2, u3, u4⟩ := Sst_iff.mp z
              simp only [Bool.or_eq_true, decide_eq_true_eq]
              by_cases hu : χ (85 + u) 1 = s
              · right
                have := hlive u u1 u2 u3 hu
                omega
              · left; exact Sst_iff.mpr ⟨u1, u2, u3, by omega⟩
            · simp only [Bool.or_eq_true, decide_eq_true_eq] at z
              rcases z with z | z
              · obtain ⟨u1, u2, u3, u4⟩ := Sst_iff.mp z
                exact Sst_iff.mpr ⟨u1, u2, u3, by omega⟩
              · rw [z]; exact Sst_iff.mpr ⟨t1, t2, ht3, by omega⟩
          rw [this]; exact hr) (fun u u1 u2 => by rw [f_leaveT_T _ (by omega) (by omega) (by decide)]; exact h1 u u1 u2) c1
        exact ⟨r1, r2, fun a ha => by rw [r3 a ha, c2 a ha]⟩
def crN (τ : Hp) (k : Int) : Int := if τ 1 0 - τ 1 1 < k then τ 1 0 else τ 1 1 + k
theorem mc_1 (τ : Hp) (k i : Int) : m_crashS τ k 1 i = if i = 34 then 0 else if i = 32 then 1 else if i = 0 then crN τ k else if i = 1 then crN τ k else if i = 33 then τ 1 33 + 1 else τ 1 i := by
  unfold m_crashS
  rw [m_cr2_fr _ _ (by decide) (by decide), m_cr1_fr _ _ (by decide) (by decide)]
  unfold m_cr0 crN
  simp only [st2]
  grind
theorem mc_o (τ : Hp) (k : Int) {a : Int} (h1 : a ≠ 1) (h17 : a ≠ 17) (h18 : a ≠ 18) (h19 : a ≠ 19) (h26 : a ≠ 26) : m_crashS τ k a = τ a := by
  unfold m_crashS
  rw [m_cr2_fr _ _ h19 h26, m_cr1_fr _ _ h17 h18]
  unfold m_cr0
  simp only [st2_ne h1]
theorem mc_17 (τ : Hp) (k : Int) {p : Int} (p0 : 0 ≤ p) (p1 : p < 6) : m_crashS τ k 17 p = 0 ∧ m_crashS τ k 18 p = 0 := by
  unfold m_crashS
  rw [m_cr2_fr _ _ (by decide) (by decide), m_cr2_fr _ _ (by decide) (by decide)]
  simp [m_cr1, p0, p1]
theorem mc_S {n : Nat} {χ τ : Hp} (hT : RTx 0 n χ τ) (k : Int) {a : Int} (ha : a = 19 ∨ a = 26) : m_crashS τ k a = m_crS τ (Sst χ τ 4) a := by
  have e : ∀ b : Int, b ≠ 1 → b ≠ 17 → b ≠ 18 → m_cr1 (m_cr0 τ k) 6 b = τ b := fun b b1 b2 b3 => by
    rw [m_cr1_fr _ _ b2 b3]
    unfold m_cr0
    simp only [st2_ne b1]
  have hl : ∀ t : Int, (1 ≤ t ∧ t < τ 1 22 + 1 ∧ m_live (m_cr1 (m_cr0 τ k) 6) t = true) ↔ Sst χ τ 4 t = true := fun t => by
    rw [Sst_iff]
    simp only [m_live, Bool.and_eq_true, decide_eq_true_eq]
    rw [e 19 (by decide) (by decide) (by decide)]
    constructor
    · rintro ⟨t1, t2, t3⟩
      exact ⟨t1, by omega, t3, (hT.2.1 t t1 (by omega)).2.2.1.2⟩
    · rintro ⟨t1, t2, t3, -⟩
      exact ⟨t1, by omega, t3⟩
  funext b
  unfold m_crashS m_crS
  simp only [m_cr2]
  rcases ha with rfl | rfl
  · simp only [hl b, e 19 (by decide) (by decide) (by decide)]
    grind
  · have := hl (b / 100)
    simp only [e 26 (by decide) (by decide) (by decide)]
    grind
def dead (τ : Hp) : Prop := ∀ t : Int, 1 ≤ t → t ≤ τ 1 22 → 3 < τ 19 t
theorem std_dead {B : Int} {n : Nat} {χ τ : Hp} (h : JJ 0 B n χ τ) (hd : dead τ) : Std τ := by
  refine std_of h (fun u => ⟨fun z => ?_, fun z => ?_⟩)
  · have := hd u z.1 z.2.1
    have := z.2.2.1
    omega
  · have := hd u z.1 z.2.1
    have := z.2.2.1
    omega
theorem f_cr0_1 (χ : Hp) (k i : Int) : f_cr0 χ k 1 i = if i = 8 then 0 else if i = 7 then χ 1 7 + 1 else χ 1 i := by
  unfold f_cr0
  rw [f_ms_fr _ _ (by decide), st2_at, st2_at]
theorem f_cr0_o (χ : Hp) (k : Int) {a : Int} (h1 : a ≠ 1) (h2 : a ≠ 2) : f_cr0 χ k a = χ a := by
  unfold f_cr0
  rw [f_ms_fr _ _ h2, st2_ne h1, st2_ne h1]
theorem f_cr0_2 (χ : Hp) (k : Int) {b : Int} (h : b ≠ 12) : f_cr0 χ k 2 b = χ 2 b := by
  unfold f_cr0
  rw [f_ms_2 _ _ h, st2_ne (by decide), st2_ne (by decide)]
theorem inv_crash {B : Int} {n : Nat} {χ τ : Hp} (h : INV B n χ τ) {k : Int} (k0 : 0 ≤ k) : INV B n (f_crash χ k) (m_crashS τ k) := by
  obtain ⟨⟨hL, hP, hT, hB⟩, -⟩ := h
  obtain ⟨s1, s2, s3⟩ := hP.2.2.2.2
  have hS : τ 1 1 ≤ crN τ k ∧ crN τ k ≤ τ 1 0 := by unfold crN; split <;> omega
  have x12 : f_cr0 χ k 2 12 = crN τ k := by
    unfold f_cr0 crN
    rw [f_ms_12, st2_ne (by decide), st2_ne (by decide), hL.1, s1]
    split <;> split <;> omega
  have x11 : f_cr0 χ k 2 11 = τ 1 0 := by rw [f_cr0_2 _ _ (by decide)]; exact hL.1
  have hL0 : RLg (τ 1 0) (f_cr0 χ k) τ := RLg_c hL.2 (fun a a1 a2 => f_cr0_o _ _ (by omega) (by omega)) (f_cr0_2 _ _ (by decide)) (f_cr0_2 _ _ (by decide)) (fun _ _ _ => rfl) rfl
  obtain ⟨l1, l2, l3⟩ := r_lose (τ 1 0 - crN τ k).toNat (τ 1 0) (f_cr0 χ k) hL0 (by omega)
  have y12 : f_loseL (τ 1 0 - crN τ k).toNat (τ 1 0) (f_cr0 χ k) 2 12 = crN τ k := by rw [l3 12 (by decide) (by decide)]; exact x12
  have hlose : f_lose (f_cr0 χ k) = st2 (f_loseL (τ 1 0 - crN τ k).toNat (τ 1 0) (f_cr0 χ k)) 2 11 (crN τ k) := by
    unfold f_lose
    rw [x11, x12, y12]
  have z2 : ∀ b : Int, b ≠ 11 → f_lose (f_cr0 χ k) 2 b = f_loseL (τ 1 0 - crN τ k).toNat (τ 1 0) (f_cr0 χ k) 2 b := fun b hb => by rw [hlose, st2_ii hb]
  have zo : ∀ a : Int, a ≠ 2 → f_lose (f_cr0 χ k) a = f_loseL (τ 1 0 - crN τ k).toNat (τ 1 0) (f_cr0 χ k) a := fun a ha => by rw [hlose, st2_ne ha]
  have z11 : f_lose (f_cr0 χ k) 2 11 = crN τ k := by rw [hlose, st2_eq]
  have emp : ∀ a : Int, a ≠ 37 → a ≠ 38 → f_empty (f_lose (f_cr0 χ k)) 6 a = f_lose (f_cr0 χ k) a := fun a h1 h2 => by
    funext b
    simp [f_empty, h1, h2]
  have emp0 : ∀ p : Int, 0 ≤ p → p < 6 → f_empty (f_lose (f_cr0 χ k)) 6 37 p = 0 ∧ f_empty (f_lose (f_cr0 χ k)) 6 38 p = 0 := fun p h1 h2 => by
    simp [f_empty, h1, h2]
  have big : ∀ a : Int, a ≠ 1 → a ≠ 2 → a ≠ 10 → a ≠ 11 → a ≠ 37 → a ≠ 38 → f_empty (f_lose (f_cr0 χ k)) 6 a = χ a := fun a h1 h2 h10 h11 h37 h38 => by
    rw [emp a h37 h38, zo a h2, l2 a h2 h10 h11, f_cr0_o _ _ h1 h2]
  have e1 : ∀ b : Int, f_empty (f_lose (f_cr0 χ k)) 6 1 b = if b = 8 then 0 else if b = 7 then χ 1 7 + 1 else χ 1 b := fun b => by
    rw [emp 1 (by decide) (by decide), zo 1 (by decide), l2 1 (by decide) (by decide) (by decide), f_cr0_1]
  have hT0 : RTx 0 n χ (m_crS τ (Sst χ τ 0)) := by
    rw [m_crS_0]
    · exact hT
    · intro u
      refine Bool.eq_false_iff.mpr (fun z => ?_)
      obtain ⟨u1, u2, u3, u4⟩ := Sst_iff.mp z
      have := (hT.2.1 u u1 u2).2.2.1
      omega
  obtain ⟨d1, d2, d3⟩ := r_ld hT 4 0 χ (f_empty (f_lose (f_cr0 χ k)) 6) (by decide) rfl hT0 (fun _ _ _ => rfl) (fun a ha => big a (by omega) (by omega) (by omega) (by omega) (by omega) (by omega))
  obtain ⟨-, -, d4⟩ := r_ld hT 4 0 χ χ (by decide) rfl hT0 (fun _ _ _ => rfl) (fun a ha => rfl)
  have fo : ∀ a : Int, a ≠ 83 → f_crash χ k a = f_ldL 4 0 (f_empty (f_lose (f_cr0 χ k)) 6) a := fun a ha => by unfold f_crash; rw [st2_ne ha]
  have fs : ∀ a : Int, a < 76 → f_crash χ k a = f_empty (f_lose (f_cr0 χ k)) 6 a := fun a ha => by rw [fo a (by omega), d3 a (Or.inl ha)]
  have f833 : f_crash χ k 83 3 = 0 := by unfold f_crash; exact st2_eq
  have m134 : m_crashS τ k 1 34 = 0 := by rw [mc_1]; rfl
  have m132 : m_crashS τ k 1 32 = 1 := by rw [mc_1]; rfl
  have m10 : m_crashS τ k 1 0 = crN τ k := by rw [mc_1]; rfl
  have m11 : m_crashS τ k 1 1 = crN τ k := by rw [mc_1]; rfl
  have m133 : m_crashS τ k 1 33 = τ 1 33 + 1 := by rw [mc_1]; rfl
  have m119 : m_crashS τ k 1 19 = τ 1 19 := by rw [mc_1]; rfl
  have m120 : m_crashS τ k 1 20 = τ 1 20 := by rw [mc_1]; rfl
  have m121 : m_crashS τ k 1 21 = τ 1 21 := by rw [mc_1]; rfl
  have m122 : m_crashS τ k 1 22 = τ 1 22 := by rw [mc_1]; rfl
  have hd : dead (m_crashS τ k) := fun t t1 t2 => by
    rw [m122] at t2
    rw [mc_S hT k (Or.inl rfl), crS_19]
    have ht := hT.2.1 t t1 t2
    have h19 := ht.2.2.2.2.2.2.2.2.2.1
    have hse := ht.2.2.1
    split
    · decide
    · rename_i hn
      refine Int.not_le.mp (fun w => hn (Sst_iff.mpr ⟨t1, t2, ⟨h19.1, w⟩, hse.2⟩))
  have hJ : JJ 0 B n (f_crash χ k) (m_crashS τ k) := by
    refine ⟨⟨?_, ?_⟩, ?_, ?_, ?_⟩
    · rw [fs 2 (by decide), emp 2 (by decide) (by decide), z11, m10]
    · rw [m10]
      rw [show τ 1 0 - ((τ 1 0 - crN τ k).toNat : Int) = crN τ k by omega] at l1
      exact RLg_c l1 (fun a a1 a2 => by rw [fs a (by omega), emp a (by omega) (by omega), zo a (by omega)]) (by rw [fs 2 (by decide), emp 2 (by decide) (by decide), z2 13 (by decide)]) (by rw [fs 2 (by decide), emp 2 (by decide) (by decide), z2 14 (by decide)]) (fun a a1 a2 => mc_o _ _ (by omega) (by omega) (by omega) (by omega) (by omega)) m122
    · obtain ⟨p1, p2, p3, ⟨q1, q2, q3, q4, q5, q6⟩, -⟩ := hP
      have hz : ∀ p : Int, 0 ≤ p → p < 6 → ¬ 0 < m_crashS τ k 18 p := fun p p0 p1 => by rw [(mc_17 τ k p0 p1).2]; decide
      refine ⟨fun p p0 p6 => ⟨?_, Or.inr ?_⟩, fun p q p0 p1 q0 q1 w => absurd w (hz p p0 p1), ?_, ?_, ?_⟩
      · obtain ⟨⟨d1, d2, d3, ⟨d4, d5⟩, d6⟩, -⟩ := p1 p p0 p6
        unfold dkP
        rw [fs 38 (by decide), (emp0 p p0 p6).2, (mc_17 τ k p0 p6).1, m11, mc_o _ _ (by decide : (13 : Int) ≠ 1) (by decide) (by decide) (by decide) (by decide), mc_o _ _ (by decide : (11 : Int) ≠ 1) (by decide) (by decide) (by decide) (by decide), mc_o _ _ (by decide : (12 : Int) ≠ 1) (by decide) (by decide) (by decide) (by decide), fs (40 + 6 * p) (by omega), fs (40 + 6 * p + 1) (by omega), fs (40 + 6 * p + 2) (by omega), big (40 + 6 * p) (by omega) (by omega) (by omega) (by omega) (by omega) (by omega), big (40 + 6 * p + 1) (by omega) (by omega) (by omega) (by omega) (by omega) (by omega), big (40 + 6 * p + 2) (by omega) (by omega) (by omega) (by omega) (by omega) (by omega)]
        exact ⟨rfl, by decide, d3, ⟨d4, by omega⟩, d6⟩
      · exact ⟨by rw [fs 37 (by decide)]; exact (emp0 p p0 p6).1, (mc_17 τ k p0 p6).2, (mc_17 τ k p0 p6).1⟩
      · unfold nIn
        rw [if_neg (hz 0 (by decide) (by decide)), if_neg (hz 1 (by decide) (by decide)), if_neg (hz 2 (by decide) (by decide)), if_neg (hz 3 (by decide) (by decide)), if_neg (hz 4 (by decide) (by decide)), if_neg (hz 5 (by decide) (by decide))]
        decide
      · rw [fs 34 (by decide), big 34 (by decide) (by decide) (by decide) (by decide) (by decide) (by decide), m119, m120, m121]
        exact ⟨q1, q2, q3, q4, q5, q6⟩
      · rw [fs 2 (by decide), emp 2 (by decide) (by decide), z2 12 (by decide), y12, m10, m11]
        exact ⟨rfl, by omega, by omega⟩
    · have hd' := hd
      unfold dead at hd'
      rw [m122, mc_S hT k (Or.inl rfl)] at hd'
      refine RTx_d d1 (fun a a1 a2 a3 => by rw [fo a a2, d2 a a1]) ?_ ?_ (fun a a1 a2 => ?_) ?_ ?_ ?_ ?_ (fun t t1 t2 => ?_)
      · rw [fs 1 (by decide), e1, d4 1 (Or.inl (by decide))]; rfl
      · rw [fs 1 (by decide), e1, d4 1 (Or.inl (by decide))]; rfl
      · by_cases ha : a = 19 ∨ a = 26
        · exact mc_S hT k ha
        · rw [mc_o _ _ (by omega) (by omega) (by omega) (by omega) (by omega), crS_o (by omega) (by omega)]
      · rw [m122, crS_o (by decide) (by decide)]
      · rw [m119, crS_o (by decide) (by decide)]; exact Int.le_refl _
      · right; exact ⟨by rw [fs 1 (by decide), e1]; rfl, m132⟩
      · rw [m133, fs 1 (by decide), e1]
        have := hT.2.2.2.2.2.2.2.2.2.1
        exact ⟨by show χ 1 7 + 1 = _; omega, by omega⟩
      · rw [crS_o (by decide) (by decide)] at t2
        have := hd' t t1 t2
        exact ⟨fun w => by omega, fun w => by omega⟩
    · rw [m119, m120, m121]; exact hB
  exact ⟨hJ, std_dead hJ hd, fun _ => hd, fun _ => ⟨by rw [f833, m134], Or.inl m134, fun w => by omega⟩⟩
theorem b_crash {B : Int} {n : Nat} {χ τ : Hp} (h : INV B n χ τ) (hb : B + 4000 < 2000000000) (k : Int) : Both B n χ τ y_X_crash b_X_crash 2 (some .int) 0 0 [.inr 1, .inl k] y_M_crash b_M_crash 3 [.inr 1, .inl k] := by
  obtain ⟨hL, hP, hT, hB⟩ := h.1
  obtain ⟨s1, s2, s3⟩ := hP.2.2.2.2
  have hN := hL.2.1
  have hcr := hT.2.2.2.2.2.2.2.2.2.1
  have c13 := hL.2.2.2.2.2.2.2.2.2.2.1
  have c14 := hL.2.2.2.2.2.2.2.2.2.2.2.1
  have k1 := cK_le τ 1 hN.1
  have k4 := cK_le τ 4 hN.1
  have big : ∀ a : Int, 76 ≤ a → f_empty (f_lose (f_cr0 χ k)) 6 a = χ a := fun a ha => by
    have e1 : f_empty (f_lose (f_cr0 χ k)) 6 a = f_lose (f_cr0 χ k) a := by
      funext b
      have h1 : a ≠ 37 := by omega
      have h2 : a ≠ 38 := by omega
      simp [f_empty, h1, h2]
    have e2 : ∀ (j : Nat) (i : Int) (σ : Hp), f_loseL j i σ a = σ a := by
      intro j
      induction j with
      | zero => intro i σ; rfl
      | succ j ih =>
        intro i σ
        show f_loseL j (i + -1) (f_forget σ i) a = σ a
        rw [ih, f_forget_fr _ _ (by omega) (by omega) (by omega)]
    rw [e1]
    unfold f_lose
    rw [st2_ne (by omega), e2, f_cr0_o _ _ (by omega) (by omega)]
  have hS0 := jx_S hT
  have hT0 := jx_T hT
  refine ⟨3, 2, _, _, by omega, by omega, c_X_crash (b_n h).1 (b_n h).2 (by omega) (by rw [s1, hL.1]; exact s3) (by rw [hL.1]; omega) (by omega) (fun i i1 i2 => ?_) (by omega) (by omega) (by omega) (by omega) ?_ ?_, c_M_crash hT.1.1 hT.1.2.1 s2 s3 (by omega) hcr.2.1, (by rintro r n' σ' ⟨_, ⟨_, rfl, _⟩ | ⟨_, rfl, _⟩⟩ <;> exact ⟨_, rfl⟩), ?_⟩
  · rw [hL.1] at i2
    obtain ⟨⟨g1, g2⟩, g3, g4, g5⟩ := hL.2.2.2.1 i i1 i2
    have ho := (hL.2.2.1 i (by omega)).2.2.1
    refine ⟨ho.1, ho.2, ?_⟩
    by_cases h3 : 3 ≤ τ 2 i
    · rw [g5 h3]; decide
    · by_cases h1 : τ 2 i = 1
      · rcases hL.2.2.2.2.2.2.2.1 i i1 i2 h1 with e | ⟨e1, e2, -⟩ <;> omega
      · have := hL.2.2.2.2.2.2.1 i i1 i2 (by omega)
        omega
  · intro s s0 s1
    rw [big 77 (by decide)]; exact hS0 s s0 s1
  · intro v v0 v1
    rw [big v (by omega)]; exact hT0 v v0 v1
  · rintro r n' χ' r' m' τ' ⟨rfl, hx⟩ ⟨rfl, rfl, rfl⟩
    refine ⟨rfl, ?_⟩
    rcases hx with ⟨a1, rfl, rfl⟩ | ⟨a1, rfl, rfl⟩
    · have hc : ¬ (k < 0 ∨ 8 ≤ τ 1 33) := by omega
      rw [if_neg hc, if_neg hc]
      have hi := inv_crash h (k := k) (by omega)
      exact ⟨⟨_, by rw [hi.1.1.1], rfl⟩, inv_B hi (by omega)⟩
    · have hc : k < 0 ∨ 8 ≤ τ 1 33 := by omega
      rw [if_pos hc, if_pos hc]
      exact ⟨⟨-1, rfl, rfl⟩, inv_B h (by omega)⟩
