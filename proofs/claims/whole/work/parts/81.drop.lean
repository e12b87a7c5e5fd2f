-- ===== rolling back =====
theorem cntU_imp {p q : Int → Bool} : ∀ k : Nat, (∀ i, 1 ≤ i → i ≤ (k : Int) → p i = true → q i = true) → cntU p k ≤ cntU q k
  | 0, _ => Int.le_refl _
  | k + 1, h => by
    have h1 := cntU_imp k (fun i a b => h i a (by omega))
    have h2 := h ((k : Int) + 1) (by omega) (by omega)
    unfold cntU
    cases hp : p ((k : Int) + 1) with
    | false => have := b2i_b (q ((k : Int) + 1)); simp [b2i] at *; omega
    | true => rw [h2 hp]; omega
theorem tb_open {χ : Hp} {u : Int} (h5 : 0 ≤ χ 5 u ∧ χ 5 u < 24) (hs : 0 ≤ χ 2 11) (hcl : f_addClr (f_fetch χ (χ 5 u / 4)) u 5 (χ 2 11 + 1) = χ 5 u) : (∀ i : Int, f_takeBack χ u 3 i = if i = χ 2 11 + 1 then 2 else χ 3 i) ∧ (∀ i : Int, f_takeBack χ u 4 i = if i = χ 2 11 + 1 then χ 4 u else χ 4 i) ∧ (∀ i : Int, f_takeBack χ u 10 i = if i = u then χ 2 11 + 1 else if i = χ 2 11 + 1 then u else χ 10 i) ∧ f_takeBack χ u 11 = χ 11 := by
  have p0 : 0 ≤ χ 5 u / 4 := by omega
  have p1 : χ 5 u / 4 < 6 := by omega
  have e11 : f_fetch χ (χ 5 u / 4) 2 11 = χ 2 11 := f_fetch_2 _ p0 (by decide)
  have fr : ∀ a : Int, a < 34 → a ≠ 2 → f_fetch χ (χ 5 u / 4) a = χ a := fun a a1 a2 => f_fetch_fr _ p0 p1 (by omega) a2
  have e3 := fr 3 (by decide) (by decide)
  have e4 := fr 4 (by decide) (by decide)
  have e10 := fr 10 (by decide) (by decide)
  have ea11 := fr 11 (by decide) (by decide)
  unfold f_takeBack
  rw [e11]
  have fa : ∀ a : Int, a < 34 → f_apply (f_addClr (f_fetch χ (χ 5 u / 4)) u) (χ 2 11 + 1) a = f_addClr (f_fetch χ (χ 5 u / 4)) u a := fun a ha => f_apply_fr (by rw [hcl]; exact h5.1) (by omega) (by rw [hcl]; omega) (by rw [hcl]; omega) (by rw [hcl]; omega)
  rw [fa 3 (by decide), fa 4 (by decide), fa 10 (by decide), fa 11 (by decide)]
  generalize f_fetch χ (χ 5 u / 4) = ρ at *
  refine ⟨fun i => ?_, fun i => ?_, fun i => ?_, ?_⟩
  · rw [← e3]; simp [f_addClr, f_append_eq, st2, e11]
  · rw [← e4]; simp [f_addClr, f_append_eq, st2, e11]
  · rw [← e10]; simp [f_addClr, f_append_eq, st2, e11]
    split
    · rfl
    · split
      · rfl
      · rfl
  · rw [f_addClr_c (by decide), ea11]
theorem tb_cl {χ : Hp} {u : Int} (h5 : 0 ≤ χ 5 u ∧ χ 5 u < 24) : f_addClr (f_fetch χ (χ 5 u / 4)) u 5 (χ 2 11 + 1) = χ 5 u := by
  have e11 : f_fetch χ (χ 5 u / 4) 2 11 = χ 2 11 := f_fetch_2 _ (by omega) (by decide)
  have e5 : f_fetch χ (χ 5 u / 4) 5 = χ 5 := f_fetch_fr _ (by omega) (by omega) (by omega) (by omega)
  rw [show χ 5 u = f_fetch χ (χ 5 u / 4) 5 u by rw [e5]]
  rw [← e11]
  rw [e5]
  simp [f_addClr, f_append_eq, st2]
  rw [e5]
theorem tbk_1 (τ : Hp) (u : Int) {i : Int} (h0 : i ≠ 0) (h1 : i ≠ 1) (h2 : i ≠ 19) (h3 : i ≠ 20) (h4 : i ≠ 21) : m_takeBack τ u 1 i = τ 1 i := by
  rw [m_takeBack_eq, m_apply_fr (by decide) (by decide) (by decide) (by decide), m_rec2_b h0, m_fetch_1 _ _ h1 h2 h3 h4]
theorem tb_0 (τ : Hp) (u : Int) : m_takeBack τ u 1 0 = τ 1 0 + 1 := by
  rw [m_takeBack_eq, m_apply_fr (by decide) (by decide) (by decide) (by decide), m_rec2_0, m_fetch_1 _ _ (by decide) (by decide) (by decide) (by decide)]
theorem tb_a (τ : Hp) (u : Int) {a : Int} (h : 18 < a) : m_takeBack τ u a = τ a := by
  rw [m_takeBack_eq, m_apply_fr (by omega) (by omega) (by omega) (by omega), m_rec2_c (by omega) (by omega), m_fetch_fr _ _ (by omega) (by omega)]
theorem open_of {χ τ : Hp} (h : RLog χ τ) {t i : Int} (i1 : 1 ≤ i) (i2 : i ≤ τ 1 0) (hg : m_good τ t i = true) : τ 2 i = 1 ∧ χ 10 i = 0 ∧ (t = 0 ∨ τ 3 i = t) := by
  obtain ⟨g1, g2⟩ := (r_good h i1 i2).mp hg
  have hL := h.2.2.2.1 i i1 i2
  simp only [f_isOpen, Bool.and_eq_true, decide_eq_true_eq] at g2
  exact ⟨by rw [← hL.2.1]; exact g2.1.1, g2.1.2, g1⟩
theorem tb_good {e B : Int} {n : Nat} {χ τ : Hp} (h : JJ e B n χ τ) {t u : Int} (u1 : 1 ≤ u) (u2 : u ≤ τ 1 0) (hu : τ 2 u = 1) (hz : χ 10 u = 0) {i : Int} (i1 : 1 ≤ i) (i2 : i ≤ τ 1 0 + 1) : m_good (m_takeBack τ u) t i = true ↔ (i ≠ u ∧ i ≤ τ 1 0 ∧ m_good τ t i = true) := by
  obtain ⟨j1, hN, e5, x0, x1⟩ := j_takeBack h u1 u2 hu hz
  have h5 : 0 ≤ χ 5 u ∧ χ 5 u < 24 := by omega
  have hs := h.1.2.1.1
  obtain ⟨b1, b2, b3, b4⟩ := tb_open h5 (by rw [h.1.1]; exact hs) (tb_cl h5)
  rw [h.1.1] at b1 b2 b3
  rw [r_good j1.1 i1 (by rw [tb_0]; exact i2)]
  have hi3 : i ≤ τ 1 0 → m_takeBack τ u 3 i = τ 3 i := fun z => by
    have g1 := (h.1.2.2.2.1 i i1 z).2.2.1
    have g2 := (j1.1.2.2.2.1 i i1 (by rw [tb_0]; exact i2)).2.2.1
    rw [b2, if_neg (by omega)] at g2
    omega
  unfold f_isOpen
  rw [b1, b2, b3, b4]
  by_cases hi : i = τ 1 0 + 1
  · rw [if_pos hi]
    simp
    omega
  · have hi2 : i ≤ τ 1 0 := by omega
    rw [if_neg hi, if_neg hi, if_neg hi, hi3 hi2, r_good h.1 i1 hi2]
    unfold f_isOpen
    simp only [Bool.and_eq_true, decide_eq_true_eq]
    by_cases hiu : i = u
    · rw [if_pos hiu]
      constructor
      · rintro ⟨-, ⟨-, z⟩, -⟩; omega
      · rintro ⟨z, -⟩; exact absurd hiu z
    · rw [if_neg hiu]
      constructor
      · intro z; exact ⟨hiu, hi2, z⟩
      · intro z; exact z.2.2
theorem m_open_spec (τ : Hp) (t : Int) (h : 0 ≤ τ 1 0) : (m_open τ t = 0 ∧ ∀ y, 1 ≤ y → y ≤ τ 1 0 → m_good τ t y = false) ∨ (1 ≤ m_open τ t ∧ m_open τ t ≤ τ 1 0 ∧ m_good τ t (m_open τ t) = true ∧ ∀ y, m_open τ t < y → y ≤ τ 1 0 → m_good τ t y = false) := by
  have h2 := srchD_spec (m_good τ t) (τ 1 0).toNat
  have e : srchD (m_good τ t) (τ 1 0).toNat = m_open τ t := rfl
  rw [e] at h2
  rcases h2 with ⟨a, b⟩ | ⟨a, b, c, d⟩
  · exact Or.inl ⟨a, fun y y1 y2 => b y y1 (by omega)⟩
  · exact Or.inr ⟨a, by omega, c, fun y y1 y2 => d y y1 (by omega)⟩
theorem j_rb {n : Nat} {t : Int} : ∀ (k fuel : Nat) (B : Int) (χ τ : Hp), JJ 0 B n χ τ → 1 ≤ t → t ≤ τ 1 22 → (k : Int) ≤ τ 1 0 → (∀ i : Int, (k : Int) < i → i ≤ τ 1 0 → m_good τ t i = false) → cntU (m_good τ t) k ≤ (fuel : Int) → JJ 0 (B + fuel) n (f_rbL (85 + t) k χ) (m_dropL τ t fuel) ∧ (∀ a : Int, 18 < a → m_dropL τ t fuel a = τ a) ∧ (∀ b : Int, b ≠ 0 → b ≠ 1 → b ≠ 19 → b ≠ 20 → b ≠ 21 → m_dropL τ t fuel 1 b = τ 1 b)
  | 0, fuel, B, χ, τ, h, t1, t2, hk, hg, hc => by
    have hN := h.1.2.1.1
    have ho : m_open τ t = 0 := by
      rcases m_open_spec τ t hN with ⟨a, -⟩ | ⟨a, b, c, -⟩
      · exact a
      · rw [hg _ (by omega) b] at c; cases c
    have hd : m_dropL τ t fuel = τ := by
      cases fuel with
      | zero => rfl
      | succ f => unfold m_dropL; rw [if_neg (by omega)]
    rw [hd]
    exact ⟨JJ_up h (by omega), fun _ _ => rfl, fun _ _ _ _ _ _ => rfl⟩
  | k + 1, fuel, B, χ, τ, h, t1, t2, hk, hg, hc => by
    have hN := h.1.2.1.1
    have e0 : χ (85 + t) 0 = t := (h.2.2.1.2.1 t t1 t2).2.1
    have hL := h.1.2.2.2.1 ((k : Int) + 1) (by omega) (by omega)
    have hiff : (χ 4 ((k : Int) + 1) = χ (85 + t) 0 ∧ f_isOpen χ ((k : Int) + 1) = true) ↔ m_good τ t ((k : Int) + 1) = true := by
      rw [r_good h.1 (by omega) (by omega), e0, hL.2.2.1]
      constructor
      · rintro ⟨a, b⟩; exact ⟨Or.inr a, b⟩
      · rintro ⟨a | a, b⟩
        · omega
        · exact ⟨a, b⟩
    rw [show f_rbL (85 + t) (k + 1) χ = f_rbL (85 + t) k (if χ 4 ((k : Int) + 1) = χ (85 + t) 0 ∧ f_isOpen χ ((k : Int) + 1) = true then f_takeBack χ ((k : Int) + 1) else χ) from rfl]
    have hcs : cntU (m_good τ t) (k + 1) = cntU (m_good τ t) k + b2i (m_good τ t ((k : Int) + 1)) := rfl
    by_cases hgd : m_good τ t ((k : Int) + 1) = true
    · rw [if_pos (hiff.mpr hgd)]
      rw [hcs, hgd] at hc
      have hc0 := (cntU_le (m_good τ t) k).1
      have hb1 : b2i true = 1 := rfl
      obtain ⟨f, rfl⟩ : ∃ f, fuel = f + 1 := ⟨fuel - 1, by omega⟩
      have ho : m_open τ t = (k : Int) + 1 := by
        rcases m_open_spec τ t hN with ⟨a, b⟩ | ⟨a, b, c, d⟩
        · rw [b _ (by omega) (by omega)] at hgd; cases hgd
        · by_cases hlt : m_open τ t < (k : Int) + 1
          · rw [d _ hlt (by omega)] at hgd; cases hgd
          · by_cases hgt : (k : Int) + 1 < m_open τ t
            · rw [hg _ (by omega) b] at c; cases c
            · omega
      rw [show m_dropL τ t (f + 1) = if 0 < m_open τ t then m_dropL (m_takeBack τ (m_open τ t)) t f else τ from rfl, if_pos (by omega), ho]
      obtain ⟨g1, g2, -⟩ := open_of h.1 (show 1 ≤ (k : Int) + 1 by omega) (by omega) hgd
      have j1 := (j_takeBack h (show 1 ≤ (k : Int) + 1 by omega) (by omega) g1 g2).1
      have tg := fun i i1 i2 => tb_good h (t := t) (show 1 ≤ (k : Int) + 1 by omega) (by omega) g1 g2 (i := i) i1 i2
      have hgf : ∀ i : Int, (k : Int) < i → i ≤ m_takeBack τ ((k : Int) + 1) 1 0 → m_good (m_takeBack τ ((k : Int) + 1)) t i = false := fun i i1 i2 => by
        rw [tb_0] at i2
        cases hm : m_good (m_takeBack τ ((k : Int) + 1)) t i with
        | false => rfl
        | true =>
          obtain ⟨z1, z2, z3⟩ := (tg i (by omega) i2).mp hm
          rw [hg i (by omega) z2] at z3; cases z3
      have hcf : cntU (m_good (m_takeBack τ ((k : Int) + 1)) t) k ≤ (f : Int) := by
        have := cntU_imp (p := m_good (m_takeBack τ ((k : Int) + 1)) t) (q := m_good τ t) k (fun i i1 i2 hp => ((tg i i1 (by omega)).mp hp).2.2)
        omega
      obtain ⟨r1, r2, r3⟩ := j_rb k f (B + 1) _ _ j1 t1 (by rw [tbk_1 _ _ (by decide) (by decide) (by decide) (by decide) (by decide)]; exact t2) (by rw [tb_0]; omega) hgf hcf
      refine ⟨?_, fun a ha => by rw [r2 a ha, tb_a _ _ ha], fun b b0 b1 b2 b3 b4 => by rw [r3 b b0 b1 b2 b3 b4, tbk_1 _ _ b0 b1 b2 b3 b4]⟩
      rw [show B + ((f + 1 : Nat) : Int) = B + 1 + (f : Int) by omega]
      exact r1
    · have hgd2 : m_good τ t ((k : Int) + 1) = false := by simpa using hgd
      rw [if_neg (fun z => hgd (hiff.mp z))]
      rw [hcs, hgd2] at hc
      have hb0 : b2i false = 0 := rfl
      refine j_rb k fuel B χ τ h t1 t2 (by omega) (fun i i1 i2 => ?_) (by omega)
      by_cases hi : i = (k : Int) + 1
      · rw [hi]; exact hgd2
      · exact hg i (by omega) i2
