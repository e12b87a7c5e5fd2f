-- ===== who stands in whose way =====
def bt (x s : Int) : Bool := x.toNat.testBit s.toNat
theorem bt_iff {x s : Int} : bsr x s % 2 = 1 ↔ bt x s = true := by
  unfold bsr bt
  rw [Nat.testBit_eq_decide_div_mod_eq, decide_eq_true_eq]
  omega
theorem bt_or {a b s : Int} : bt (bor a b) s = (bt a s || bt b s) := by
  unfold bt bor
  rw [Int.toNat_natCast, Nat.testBit_or]
theorem bt_sh {k s : Int} (k0 : 0 ≤ k) (s0 : 0 ≤ s) : bt (bsh k) s = decide (s = k) := by
  unfold bt bsh
  rw [Int.toNat_natCast, Nat.testBit_two_pow]
  by_cases h : s = k
  · subst h; simp
  · have : ¬ k.toNat = s.toNat := by omega
    simp [h, this]
theorem bt_0 {s : Int} : bt 0 s = false := by
  unfold bt
  simp
theorem bt_z : ∀ x : Fin 16, (∀ s : Fin 4, x.val.testBit s.val = false) → x.val = 0 := by decide +kernel
theorem bt_zero {x : Int} (x0 : 0 ≤ x) (x1 : x < 16) : x = 0 ↔ ∀ s : Int, 0 ≤ s → s < 4 → bt x s = false := by
  constructor
  · rintro rfl s _ _; exact bt_0
  · intro h
    have := bt_z ⟨x.toNat, by omega⟩ (fun s => by
      have := h (s.val : Int) (by omega) (by have := s.isLt; omega)
      unfold bt at this
      simpa using this)
    simp at this
    omega
theorem f_obs_bt (χ : Hp) (one : Int) : ∀ (k : Nat) (s : Int), 0 ≤ s → (bt (f_obs χ one k) s = true ↔ s < (k : Int) ∧ f_ob χ one s = true)
  | 0, s, h => by
    rw [show f_obs χ one 0 = 0 from rfl, bt_0]
    constructor
    · intro z; cases z
    · rintro ⟨z, -⟩; omega
  | k + 1, s, h => by
    have ih := f_obs_bt χ one k s h
    unfold f_obs
    by_cases hk : f_ob χ one (k : Int) = true
    · rw [if_pos hk, bt_or, Bool.or_eq_true, ih, bt_sh (by omega) h, decide_eq_true_eq]
      constructor
      · rintro (⟨a, b⟩ | a)
        · exact ⟨by omega, b⟩
        · exact ⟨by omega, by rw [a]; exact hk⟩
      · rintro ⟨a, b⟩
        by_cases e : s = (k : Int)
        · exact Or.inr e
        · exact Or.inl ⟨by omega, b⟩
    · rw [if_neg hk, ih]
      constructor
      · rintro ⟨a, b⟩; exact ⟨by omega, b⟩
      · rintro ⟨a, b⟩
        by_cases e : s = (k : Int)
        · rw [e] at b; exact absurd b hk
        · exact ⟨by omega, b⟩
def m_ed (τ : Hp) (t u : Int) : Bool := m_conflicts τ t u || (decide (m_lk τ t (τ 22 t) = 0) && m_ahead τ t u)
/-- the seat of a live transaction, and its row of locks -/
theorem r_seat {e : Int} {n : Nat} {χ τ : Hp} (h : RTx e n χ τ) {t : Int} (t1 : 1 ≤ t) (t2 : t ≤ τ 1 22) (hl : τ 19 t ≤ 3) : χ 77 (χ (85 + t) 1) = 85 + t ∧ (0 ≤ χ (85 + t) 1 ∧ χ (85 + t) 1 < 4) ∧ ∀ k : Int, 0 ≤ k → k < 100 → χ (79 + χ (85 + t) 1) k = τ 26 (100 * t + k) := by
  have hs := (h.2.1 t t1 t2).2.2.1
  have hseat := h.2.2.2.2.2.2.1 t t1 t2 hl
  refine ⟨hseat, hs, ?_⟩
  rcases h.2.2.2.2.2.1 _ hs.1 hs.2 with ⟨c1, c2⟩ | ⟨u, u1, u2, u3, u4, u5, u6⟩
  · omega
  · have : u = t := by omega
    subst this; exact u6
theorem m_ed_dead {e : Int} {n : Nat} {χ τ : Hp} (h : RTx e n χ τ) {t u : Int} (t1 : 1 ≤ t) (t2 : t ≤ τ 1 22) (u1 : 1 ≤ u) (u2 : u ≤ τ 1 22) (hd : 3 < τ 19 u) : m_ed τ t u = false := by
  have hw := h.2.2.2.1 t (by omega) (by have := h.1.2.1; omega)
  have hz := (h.2.2.2.2.2.2.2.1 u (τ 22 t) (by omega) (by have := h.1.2.1; omega) hw.1 (by omega)).2 (Or.inr (Or.inr hd))
  have hn : ¬ τ 19 u = 2 := by omega
  simp [m_ed, m_conflicts, m_ahead, m_lk, hz, hn]
theorem r_ob {e : Int} {n : Nat} {χ τ : Hp} (h : RTx e n χ τ) {t s : Int} (t1 : 1 ≤ t) (t2 : t ≤ τ 1 22) (hl : τ 19 t ≤ 3) (s0 : 0 ≤ s) (s1 : s < 4) : (χ 77 s = 0 ∧ f_ob χ (85 + t) s = false) ∨ ∃ u : Int, 1 ≤ u ∧ u ≤ τ 1 22 ∧ χ 77 s = 85 + u ∧ χ (85 + u) 1 = s ∧ τ 19 u ≤ 3 ∧ f_ob χ (85 + t) s = m_ed τ t u := by
  rcases h.2.2.2.2.2.1 s s0 s1 with ⟨a, -⟩ | ⟨u, u1, u2, u3, u4, u5, u6⟩
  · left
    refine ⟨a, ?_⟩
    simp [f_ob, a]
  · right
    refine ⟨u, u1, u2, u3, u4, u5, ?_⟩
    have hw := h.2.2.2.1 t (by omega) (by have := h.1.2.1; omega)
    obtain ⟨b1, b2, b3, b4, b5, b6, b7, b8, b9, b10⟩ := h.2.1 t t1 t2
    obtain ⟨d1, d2, d3, d4, d5, d6, d7, d8, d9, d10⟩ := h.2.1 u u1 u2
    have hi := (h.2.2.2.2.1 u t u1 u2 t1 t2).1
    obtain ⟨-, -, hrow⟩ := r_seat h t1 t2 hl
    have hlk := (h.2.2.2.2.2.2.2.1 u (τ 22 t) (by omega) (by have := h.1.2.1; omega) hw.1 (by omega)).1
    have hr := hrow (τ 22 t) hw.1 (by omega)
    have hu6 := u6 (τ 22 t) hw.1 (by omega)
    have hc : f_conf (τ 26 (100 * u + τ 22 t)) (τ 23 t) = (decide (0 < τ 26 (100 * u + τ 22 t)) && (decide (τ 26 (100 * u + τ 22 t) = 2) || decide (τ 23 t = 2))) := by
      unfold f_conf
      rcases (show τ 26 (100 * u + τ 22 t) = 0 ∨ τ 26 (100 * u + τ 22 t) = 1 ∨ τ 26 (100 * u + τ 22 t) = 2 by omega) with z | z | z <;> simp [z]
    have he : f_earl χ (85 + t) (85 + u) = (decide (τ 19 u = 2) && decide (τ 22 u = τ 22 t) && decide (τ 25 u < τ 25 t)) := by
      unfold f_earl
      rw [d4, d7, b7, decide_eq_decide.mpr hi]
    have hne : (85 + u = 85 + t) ↔ u = t := by omega
    have hz : ¬ (85 + u = 0) := by omega
    unfold f_ob m_ed m_conflicts m_ahead m_lk
    rw [u3, b7, b8, hu6, hr, hc, he]
    by_cases hut : u = t
    · subst hut; simp
    · simp [hut, hz, hne]
theorem r_edge {e : Int} {n : Nat} {χ τ : Hp} (h : RTx e n χ τ) {t : Int} (t1 : 1 ≤ t) (t2 : t ≤ τ 1 22) (hl : τ 19 t ≤ 3) : anyU (m_ed τ t) 1 (τ 1 22).toNat = true ↔ ∃ s : Int, 0 ≤ s ∧ s < 4 ∧ f_ob χ (85 + t) s = true := by
  have hb := h.1.1
  rw [anyU_iff]
  constructor
  · rintro ⟨u, u1, u2, u3⟩
    have hu2 : u ≤ τ 1 22 := by omega
    have hlu : τ 19 u ≤ 3 := by
      rcases Int.lt_or_le 3 (τ 19 u) with z | z
      · rw [m_ed_dead h t1 t2 u1 hu2 z] at u3; cases u3
      · exact z
    obtain ⟨p1, p2, p3⟩ := r_seat h u1 hu2 hlu
    refine ⟨χ (85 + u) 1, p2.1, p2.2, ?_⟩
    rcases r_ob h t1 t2 hl p2.1 p2.2 with ⟨z, -⟩ | ⟨v, v1, v2, v3, v4, v5, v6⟩
    · omega
    · have : v = u := by omega
      subst this
      rw [v6]; exact u3
  · rintro ⟨s, s0, s1, s2⟩
    rcases r_ob h t1 t2 hl s0 s1 with ⟨-, z⟩ | ⟨v, v1, v2, v3, v4, v5, v6⟩
    · rw [z] at s2; cases s2
    · exact ⟨v, v1, by omega, by rw [← v6]; exact s2⟩
theorem r_fit {e : Int} {n : Nat} {χ τ : Hp} (h : RTx e n χ τ) {t : Int} (t1 : 1 ≤ t) (t2 : t ≤ τ 1 22) (hl : τ 19 t ≤ 3) : f_isFit χ (85 + t) = m_fit τ t := by
  obtain ⟨b1, b2, b3, b4, b5, b6, b7, b8, b9, b10⟩ := h.2.1 t t1 t2
  have hw := h.2.2.2.1 t (by omega) (by have := h.1.2.1; omega)
  obtain ⟨-, -, hrow⟩ := r_seat h t1 t2 hl
  have hr := hrow (τ 22 t) hw.1 (by omega)
  have hE := r_edge h t1 t2 hl
  have hlt := f_obs_lt χ (85 + t) 4 (by omega)
  have h0 : f_obs χ (85 + t) 4 = 0 ↔ anyU (m_ed τ t) 1 (τ 1 22).toNat = false := by
    rw [bt_zero hlt.1 hlt.2]
    constructor
    · intro z
      cases ha : anyU (m_ed τ t) 1 (τ 1 22).toNat with
      | false => rfl
      | true =>
        obtain ⟨s, s0, s1, s2⟩ := hE.mp ha
        have := (f_obs_bt χ (85 + t) 4 s s0).mpr ⟨s1, s2⟩
        rw [z s s0 s1] at this; cases this
    · intro z s s0 s1
      cases hb : bt (f_obs χ (85 + t) 4) s with
      | false => rfl
      | true =>
        have := (f_obs_bt χ (85 + t) 4 s s0).mp hb
        rw [hE.mpr ⟨s, s0, s1, this.2⟩] at z; cases z
  unfold f_isFit m_fit m_lk
  rw [b7, b8, hr]
  show (decide (τ 23 t ≤ τ 26 (100 * t + τ 22 t)) || decide (f_obs χ (85 + t) 4 = 0)) = (decide (τ 23 t ≤ τ 26 (100 * t + τ 22 t)) || !anyU (m_ed τ t) 1 (τ 1 22).toNat)
  cases ha : anyU (m_ed τ t) 1 (τ 1 22).toNat with
  | false => rw [decide_eq_true (h0.mpr ha)]; rfl
  | true =>
    have hne : ¬ f_obs χ (85 + t) 4 = 0 := fun z => by rw [h0.mp z] at ha; cases ha
    rw [decide_eq_false hne]; rfl
