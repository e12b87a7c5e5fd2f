-- ===== the restart =====
theorem j_rec {B : Int} {n : Nat} {χ τ χ' τ' : Hp} (h : JJ 0 B n χ τ) (hx : ∀ a : Int, a ≠ 83 → a ≠ 84 → χ' a = χ a) (hm : ∀ a : Int, a ≠ 1 → a ≠ 28 → τ' a = τ a) (h1 : ∀ b : Int, b ≠ 34 → b ≠ 35 → τ' 1 b = τ 1 b) : JJ 0 B n χ' τ' := by
  obtain ⟨hL, hP, hT, hB⟩ := h
  have x1 := hx 1 (by decide) (by decide)
  have x2 := hx 2 (by decide) (by decide)
  have x11 := hx 11 (by decide) (by decide)
  have m0 := h1 0 (by decide) (by decide)
  have m22 := h1 22 (by decide) (by decide)
  have m19 := h1 19 (by decide) (by decide)
  refine ⟨⟨by rw [x2, m0]; exact hL.1, ?_⟩, ?_, ?_, ?_⟩
  · rw [m0]
    exact RLg_c hL.2 (fun a a1 a2 => hx a (by omega) (by omega)) (by rw [x2]) (by rw [x2]) (fun a a1 a2 => hm a (by omega) (by omega)) m22
  · exact RPl_c hP (fun a a1 a2 => hx a (by omega) (by omega)) (by rw [x2]) (fun a a1 a2 => hm a (by omega) (by omega)) (h1 1 (by decide) (by decide)) (by rw [m19]; exact Int.le_refl _) (h1 20 (by decide) (by decide)) (h1 21 (by decide) (by decide)) (by rw [m0]; exact Int.le_refl _)
  · refine RTx_d hT (fun a a1 a2 a3 => hx a a2 a3) (by rw [x1]) (by rw [x1]) (fun a a1 a2 => hm a (by omega) (by omega)) m22 (by rw [m19]; exact Int.le_refl _) ?_ ?_ (fun t t1 t2 => ?_)
    · rw [x1, h1 32 (by decide) (by decide)]; exact inv_flag hT
    · rw [x1, h1 33 (by decide) (by decide)]
      have := hT.2.2.2.2.2.2.2.2.2.1
      exact ⟨this.1, this.2.1⟩
    · rw [x11]; exact hT.2.2.2.2.2.2.2.2.2.2 t t1 t2
  · rw [m19, h1 20 (by decide) (by decide), h1 21 (by decide) (by decide)]; exact hB
theorem cK_none {τ : Hp} {k a b : Int} (h : a ≤ b) (h0 : 0 ≤ a) (hn : ∀ i : Int, a < i → i ≤ b → ¬ τ 2 i = k) : cK τ k b = cK τ k a := by
  have key : ∀ d : Nat, a + d ≤ b → cK τ k (a + d) = cK τ k a := by
    intro d
    induction d with
    | zero => intro _; rw [show a + ((0 : Nat) : Int) = a by omega]
    | succ d ih =>
      intro hd
      rw [cK_s τ k (show 1 ≤ a + ((d + 1 : Nat) : Int) by omega), if_neg (hn _ (by omega) hd), show a + ((d + 1 : Nat) : Int) - 1 = a + (d : Int) by omega, ih (by omega)]
      omega
  have := key (b - a).toNat (by omega)
  rw [show a + ((b - a).toNat : Int) = b by omega] at this
  exact this
theorem r_last {χ τ : Hp} (h : RLog χ τ) : (m_lastCk τ = 0 ∧ χ 2 14 = 0) ∨ (1 ≤ m_lastCk τ ∧ m_lastCk τ ≤ τ 1 0 ∧ τ 2 (m_lastCk τ) = 4 ∧ cK τ 4 (m_lastCk τ - 1) = χ 2 14 - 1) := by
  have hN := h.2.1.1
  have h14 := h.2.2.2.2.2.2.2.2.2.2.2.1.1
  have hs := srchD_spec (fun i => decide (τ 2 i = 4)) (τ 1 0).toNat
  have e : srchD (fun i => decide (τ 2 i = 4)) (τ 1 0).toNat = m_lastCk τ := rfl
  rw [e] at hs
  rcases hs with ⟨a, b⟩ | ⟨a, b, c, d⟩
  · left
    refine ⟨a, ?_⟩
    rw [h14, cK_none hN (Int.le_refl 0) (fun i i1 i2 => by simpa using b i (by omega) (by omega))]
    rfl
  · right
    have c : τ 2 (m_lastCk τ) = 4 := by simpa using c
    refine ⟨a, by omega, c, ?_⟩
    have h1 := cK_none (τ := τ) (k := 4) (a := m_lastCk τ) (b := τ 1 0) (by omega) (by omega) (fun i i1 i2 => by simpa using d i (by omega) (by omega))
    have h2 := cK_s τ 4 a
    rw [if_pos c] at h2
    omega
def f_chg (σ : Hp) (g i : Int) : Bool := f_isChange σ i && decide (σ 5 i / 4 = g)
theorem f_ftL_84 (g : Int) : ∀ (k : Nat) (i : Int) (σ : Hp), 1 ≤ i → f_ftL k i σ 84 g = if σ 84 g = 0 then (if srch (f_chg σ g) i k < 0 then 0 else srch (f_chg σ g) i k) else σ 84 g
  | 0, i, σ, _ => by
    show σ 84 g = if σ 84 g = 0 then (if (-1 : Int) < 0 then 0 else -1) else σ 84 g
    by_cases h : σ 84 g = 0
    · rw [if_pos h, h]; rfl
    · rw [if_neg h]
  | k + 1, i, σ, hi => by
    unfold f_ftL
    rw [f_ftL_84 g k (i + 1) _ (by omega)]
    have hch : ∀ (ρ : Hp), ρ 3 = σ 3 → ρ 5 = σ 5 → f_chg ρ g = f_chg σ g := fun ρ h3 h5 => by
      funext j
      unfold f_chg f_isChange
      rw [h3, h5]
    have hsr : srch (f_chg σ g) i (k + 1) = if f_chg σ g i = true then i else srch (f_chg σ g) (i + 1) k := rfl
    rw [hsr]
    by_cases hc : f_isChange σ i = true ∧ σ 84 (σ 5 i / 4) = 0
    · rw [if_pos hc, hch _ (st2_ne (by decide)) (st2_ne (by decide)), st2_at]
      by_cases hg : g = σ 5 i / 4
      · have h1 : f_chg σ g i = true := by simp [f_chg, hc.1, hg]
        rw [if_pos hg, if_pos h1, if_neg (by omega), hg, if_pos hc.2, if_neg (by omega)]
      · have h1 : ¬ f_chg σ g i = true := by
          simp only [f_chg, Bool.and_eq_true, decide_eq_true_eq]
          exact fun z => hg z.2.symm
        rw [if_neg hg, if_neg h1]
    · rw [if_neg hc]
      by_cases h1 : f_chg σ g i = true
      · have h2 : f_isChange σ i = true ∧ σ 5 i / 4 = g := by simpa [f_chg] using h1
        have h3 : ¬ σ 84 g = 0 := fun z => hc ⟨h2.1, by rw [h2.2]; exact z⟩
        rw [if_neg h3, if_neg h3]
      · rw [if_neg h1]
theorem r_first {χ τ : Hp} (h : RLog χ τ) : f_first χ = m_lastCk τ + 1 := by
  unfold f_first
  rcases r_last h with ⟨a, b⟩ | ⟨a, b, c, d⟩
  · rw [if_pos (by omega), a]; rfl
  · have h0 := cK_le τ 4 (show 0 ≤ m_lastCk τ - 1 by omega)
    rw [if_neg (by omega), ← d, (h.2.2.2.2.2.2.2.2.2.2.2.2 _ a b c).1]
theorem m_chg_srch {χ τ σ : Hp} (h : RLog χ τ) (h3 : σ 3 = χ 3) (h5 : σ 5 = χ 5) (g c : Int) (c0 : 0 ≤ c) (k : Nat) (hk : c + k ≤ τ 1 0) : srch (f_chg σ g) (c + 1) k = srch (m_chg τ g) (c + 1) k := by
  refine srch_congr k (c + 1) (fun y y1 y2 => bool_iff ?_)
  obtain ⟨⟨g1, g2⟩, g3, -⟩ := h.2.2.2.1 y (by omega) (by omega)
  unfold f_chg f_isChange m_chg
  rw [h3, h5, g3]
  simp only [Bool.and_eq_true, Bool.or_eq_true, decide_eq_true_eq]
  constructor
  · rintro ⟨a, b⟩
    have := (h.2.2.2.2.1 y (by omega) (by omega) (by omega)).1
    rw [this] at b
    exact ⟨by omega, b⟩
  · rintro ⟨a, b⟩
    have := (h.2.2.2.2.1 y (by omega) (by omega) (by omega)).1
    rw [this]
    exact ⟨by omega, b⟩
theorem r_fill {χ τ : Hp} (h : RLog χ τ) {g : Int} (g0 : 0 ≤ g) (g1 : g < 6) : f_fill χ 84 g = m_tab τ (m_lastCk τ) g ∧ 0 ≤ m_tab τ (m_lastCk τ) g := by
  have hN := h.2.1
  have hf := r_first h
  have hc0 : 0 ≤ m_lastCk τ ∧ m_lastCk τ ≤ τ 1 0 := by
    rcases r_last h with ⟨a, b⟩ | ⟨a, b, c, d⟩ <;> omega
  have ht : f_ft1 χ 6 84 g = if 0 < m_lastCk τ then τ 10 (6 * m_lastCk τ + g) else 0 := by
    simp only [f_ft1]
    rw [if_pos ⟨trivial, g0, g1⟩]
    rcases r_last h with ⟨a, b⟩ | ⟨a, b, c, d⟩
    · rw [if_pos (by omega), if_neg (by omega)]
    · have h0 := cK_le τ 4 (show 0 ≤ m_lastCk τ - 1 by omega)
      rw [if_neg (by omega), if_pos (by omega), ← d]
      exact ((h.2.2.2.2.2.2.2.2.2.2.2.2 _ a b c).2 g g0 g1).1
  have hpos : 0 < m_lastCk τ → 0 ≤ τ 10 (6 * m_lastCk τ + g) := fun hp => by
    rcases r_last h with ⟨a, b⟩ | ⟨a, b, c, d⟩
    · omega
    · exact ((h.2.2.2.2.2.2.2.2.2.2.2.2 _ a b c).2 g g0 g1).2
  have hk : (χ 2 11 + 1 - f_first χ).toNat = (τ 1 0 - m_lastCk τ).toNat := by rw [hf, h.1]; congr 1; omega
  have hsr : srch (f_chg (f_ft1 χ 6) g) (m_lastCk τ + 1) (τ 1 0 - m_lastCk τ).toNat = srch (m_chg τ g) (m_lastCk τ + 1) (τ 1 0 - m_lastCk τ).toNat :=
    m_chg_srch h (f_ft1_fr _ _ (by decide)) (f_ft1_fr _ _ (by decide)) g _ hc0.1 _ (by omega)
  have e : f_fill χ 84 g = m_tab τ (m_lastCk τ) g := by
    unfold f_fill
    rw [hk, hf, f_ftL_84 g _ _ _ (by omega), hsr, ht]
    unfold m_tab m_firstCh
    by_cases hp : 0 < m_lastCk τ
    · rw [if_pos hp]
      by_cases hz : τ 10 (6 * m_lastCk τ + g) = 0
      · rw [if_pos hz, if_neg (show ¬ (0 < m_lastCk τ ∧ ¬ τ 10 (6 * m_lastCk τ + g) = 0) from fun w => w.2 hz)]
      · rw [if_neg hz, if_pos ⟨hp, hz⟩]
    · rw [if_neg hp, if_pos rfl, if_neg (show ¬ (0 < m_lastCk τ ∧ ¬ τ 10 (6 * m_lastCk τ + g) = 0) from fun w => hp w.1)]
  refine ⟨e, ?_⟩
  unfold m_tab m_firstCh
  split
  · rename_i w
    exact hpos w.1
  · split
    · decide
    · omega
theorem f_fill_fr (χ : Hp) {a : Int} (h : a ≠ 84) : f_fill χ a = χ a := by
  unfold f_fill
  rw [f_ftL_fr _ _ _ h, f_ft1_fr _ _ h]
theorem r_nx {χ τ σ : Hp} (h : RLog χ τ) (h2 : σ 2 11 = χ 2 11) (h84 : σ 84 = f_fill χ 84) : ∀ k : Nat, k ≤ 6 → f_nx σ k = m_nxt τ (m_lastCk τ) k ∧ 1 ≤ m_nxt τ (m_lastCk τ) k ∧ m_nxt τ (m_lastCk τ) k ≤ τ 1 0 + 1
  | 0, _ => by
    have hN := h.2.1.1
    refine ⟨?_, ?_, ?_⟩
    · show σ 2 11 + 1 = τ 1 0 + 1
      rw [h2, h.1]
    · show 1 ≤ τ 1 0 + 1
      omega
    · exact Int.le_refl _
  | k + 1, hk => by
    obtain ⟨i1, i2, i3⟩ := r_nx h h2 h84 k (by omega)
    obtain ⟨e, e0⟩ := r_fill h (g := (k : Int)) (by omega) (by omega)
    unfold f_nx m_nxt
    rw [h84, e, i1]
    by_cases hz : m_tab τ (m_lastCk τ) (k : Int) = 0
    · rw [if_pos hz, if_neg (by omega)]
      exact ⟨rfl, i2, i3⟩
    · rw [if_neg hz]
      by_cases hl : m_tab τ (m_lastCk τ) (k : Int) < m_nxt τ (m_lastCk τ) k
      · rw [if_pos hl, if_pos ⟨by omega, hl⟩]
        exact ⟨rfl, by omega, by omega⟩
      · rw [if_neg hl, if_neg (fun w => hl w.2)]
        exact ⟨rfl, i2, i3⟩
/-- what a unit of the restart leaves, before the reference looks whether it was the last -/
def Un1 (B : Int) (n : Nat) (χ τ : Hp) : Prop := JJ 0 B n χ τ ∧ τ 1 32 = 1 ∧ dead τ ∧ χ 83 3 = 1 ∧ τ 1 34 = 1 ∧ (∀ g : Int, 0 ≤ g → g < 6 → χ 84 g = τ 28 g ∧ 0 ≤ τ 28 g) ∧ ((τ 1 35 = 1000 ∧ χ 83 5 < χ 83 4) ∨ (1 ≤ τ 1 35 ∧ τ 1 35 ≤ τ 1 0 + 1 ∧ χ 83 4 = τ 1 35 ∧ χ 83 5 = τ 1 0))
theorem m_an_b (τ : Hp) (x : Nat) (b : Int) : m_an τ x 1 b = if b = 35 then m_nxt τ (m_lastCk τ) x else τ 1 b := by
  by_cases hb : b = 35 <;> simp [m_an, hb]
theorem un_analyse {B : Int} {n : Nat} {χ τ : Hp} (h : INV B n χ τ) (hd : τ 1 32 = 1) : Un1 (B + 1) n (f_analyse χ) (m_analyse τ) := by
  have hL := h.1.1
  have xo : ∀ a : Int, a ≠ 83 → a ≠ 84 → f_analyse χ a = χ a := fun a h1 h2 => by
    unfold f_analyse f_an0
    rw [st2_ne h1, st2_ne h1, st2_ne h1, f_fill_fr _ h2]
  have mo : ∀ a : Int, a ≠ 1 → a ≠ 28 → m_analyse τ a = τ a := fun a h1 h2 => by
    unfold m_analyse
    rw [st2_ne h1, m_an_fr _ _ h2 h1]
  have m1 : ∀ b : Int, m_analyse τ 1 b = if b = 34 then 1 else if b = 35 then m_nxt τ (m_lastCk τ) 6 else τ 1 b := fun b => by
    unfold m_analyse
    rw [st2_at, m_an_b]
  have m1o : ∀ b : Int, b ≠ 34 → b ≠ 35 → m_analyse τ 1 b = τ 1 b := fun b h1 h2 => by rw [m1, if_neg h1, if_neg h2]
  have hj := j_rec h.1 xo mo m1o
  have e2 : f_an0 χ 2 11 = χ 2 11 := by
    unfold f_an0
    rw [st2_ne (by decide), f_fill_fr _ (by decide)]
  have e84 : f_an0 χ 84 = f_fill χ 84 := by
    unfold f_an0
    rw [st2_ne (by decide)]
  have hnx := r_nx hL e2 e84 6 (by decide)
  have x833 : f_analyse χ 83 3 = 1 := by unfold f_analyse; exact st2_eq
  have x834 : f_analyse χ 83 4 = m_nxt τ (m_lastCk τ) 6 := by
    unfold f_analyse
    rw [st2_ii (by decide), st2_eq]; exact hnx.1
  have x835 : f_analyse χ 83 5 = τ 1 0 := by
    unfold f_analyse f_an0
    rw [st2_ii (by decide), st2_ii (by decide), st2_eq, f_fill_fr _ (by decide)]; exact hL.1
  have m135 : m_analyse τ 1 35 = m_nxt τ (m_lastCk τ) 6 := by rw [m1]; rfl
  refine ⟨JJ_up hj (by omega), by rw [m1o 32 (by decide) (by decide)]; exact hd, ?_, x833, by rw [m1]; rfl, fun g g0 g1 => ?_, Or.inr ⟨by omega, ?_, by omega, ?_⟩⟩
  · intro t t1 t2
    rw [m1o 22 (by decide) (by decide)] at t2
    rw [mo 19 (by decide) (by decide)]
    exact h.2.2.1 (by omega) t t1 t2
  · have e : f_analyse χ 84 g = f_fill χ 84 g := by
      unfold f_analyse f_an0
      rw [st2_ne (by decide), st2_ne (by decide), st2_ne (by decide)]
    have em : m_analyse τ 28 g = m_tab τ (m_lastCk τ) g := by
      unfold m_analyse
      rw [st2_ne (by decide)]
      simp [m_an, g0, g1]
    rw [e, em]
    exact r_fill hL g0 g1
  · rw [m135, m1o 0 (by decide) (by decide)]; omega
  · rw [x835, m1o 0 (by decide) (by decide)]
theorem un_redo {B : Int} {n : Nat} {χ τ : Hp} (h : INV B n χ τ) (hd : τ 1 32 = 1) (hp : τ 1 34 = 1) (h1 : 1 ≤ τ 1 35) (h2 : τ 1 35 ≤ τ 1 0) (h4 : χ 83 4 = τ 1 35) (h5 : χ 83 5 = τ 1 0) (h83 : χ 83 3 = 1) (htb : ∀ g : Int, 0 ≤ g → g < 6 → χ 84 g = τ 28 g ∧ 0 ≤ τ 28 g) : Un1 (B + 1) n (f_repeat χ) (st2 (m_redo τ (τ 1 35)) 1 35 (m_redo τ (τ 1 35) 1 35 + 1)) := by
  have hL := h.1.1
  have hdd : dead τ := h.2.2.1 (by omega)
  obtain ⟨⟨g1, g2⟩, g3, g4, -⟩ := hL.2.2.2.1 _ h1 h2
  obtain ⟨r5, r4, -⟩ := hL.2.2.1 (τ 1 35) (by omega)
  have hj0 : JJ 0 B n (st2 χ 83 4 (χ 83 4 + 1)) τ := j_rec h.1 (fun a h1 _ => st2_ne h1) (fun _ _ _ => rfl) (fun _ _ _ => rfl)
  have e3 : st2 χ 83 4 (χ 83 4 + 1) 3 = χ 3 := st2_ne (by decide)
  have e5 : st2 χ 83 4 (χ 83 4 + 1) 5 = χ 5 := st2_ne (by decide)
  have e84 : st2 χ 83 4 (χ 83 4 + 1) 84 = χ 84 := st2_ne (by decide)
  have main : ∃ χ1 τ1 : Hp, f_repeat χ = χ1 ∧ m_redo τ (τ 1 35) = τ1 ∧ JJ 0 (B + 1) n χ1 τ1 ∧ χ1 83 = st2 χ 83 4 (χ 83 4 + 1) 83 ∧ χ1 84 = χ 84 ∧ τ1 28 = τ 28 ∧ τ1 19 = τ 19 ∧ (∀ b : Int, b ≠ 1 → b ≠ 19 → b ≠ 20 → b ≠ 21 → τ1 1 b = τ 1 b) := by
    have hiff : (f_isChange (st2 χ 83 4 (χ 83 4 + 1)) (χ 83 4) = true ∧ ¬ st2 χ 83 4 (χ 83 4 + 1) 84 (st2 χ 83 4 (χ 83 4 + 1) 5 (χ 83 4) / 4) = 0 ∧ st2 χ 83 4 (χ 83 4 + 1) 84 (st2 χ 83 4 (χ 83 4 + 1) 5 (χ 83 4) / 4) ≤ χ 83 4) ↔ (τ 2 (τ 1 35) < 3 ∧ 0 < τ 28 (τ 4 (τ 1 35) / 4) ∧ τ 28 (τ 4 (τ 1 35) / 4) ≤ τ 1 35) := by
      unfold f_isChange
      rw [e84, e5, e3, h4, g3]
      simp only [Bool.or_eq_true, decide_eq_true_eq]
      constructor
      · rintro ⟨a, b, c⟩
        have e := (hL.2.2.2.2.1 _ h1 h2 (by omega)).1
        rw [e] at b c
        have ht := htb (τ 4 (τ 1 35) / 4) (by omega) (by omega)
        rw [ht.1] at b c
        exact ⟨by omega, by omega, c⟩
      · rintro ⟨a, b, c⟩
        have e := (hL.2.2.2.2.1 _ h1 h2 (by omega)).1
        have ht := htb (τ 4 (τ 1 35) / 4) (by omega) (by omega)
        rw [e, ht.1]
        exact ⟨by omega, by omega, c⟩
    by_cases hc : τ 2 (τ 1 35) < 3 ∧ 0 < τ 28 (τ 4 (τ 1 35) / 4) ∧ τ 28 (τ 4 (τ 1 35) / 4) ≤ τ 1 35
    · have eX : f_repeat χ = f_redo (st2 χ 83 4 (χ 83 4 + 1)) (χ 83 4) := by
        unfold f_repeat
        exact if_pos (hiff.mpr hc)
      have eM : m_redo τ (τ 1 35) = if m_fetch τ (τ 4 (τ 1 35) / 4) 16 (τ 4 (τ 1 35) / 4) < τ 1 35 then m_apply (m_fetch τ (τ 4 (τ 1 35) / 4)) (τ 1 35) else m_fetch τ (τ 4 (τ 1 35) / 4) := by
        unfold m_redo
        exact if_pos hc
      have e := (hL.2.2.2.2.1 _ h1 h2 hc.1).1
      rw [eX, eM]
      unfold f_redo
      rw [e5, h4, e]
      rw [h4] at hj0
      obtain ⟨j1, j2⟩ := j_fetch hj0 (p := τ 4 (τ 1 35) / 4) (by omega) (by omega)
      have hin : f_fetch (st2 χ 83 4 (τ 1 35 + 1)) (τ 4 (τ 1 35) / 4) (43 + 6 * (τ 4 (τ 1 35) / 4)) 2 = m_fetch τ (τ 4 (τ 1 35) / 4) 16 (τ 4 (τ 1 35) / 4) := by
        rcases (j1.2.1.1 (τ 4 (τ 1 35) / 4) (by omega) (by omega)).2 with ⟨-, -, -, -, q, -⟩ | ⟨-, q, -⟩
        · exact q
        · omega
      rw [hin]
      have f83 : f_fetch (st2 χ 83 4 (τ 1 35 + 1)) (τ 4 (τ 1 35) / 4) 83 = st2 χ 83 4 (τ 1 35 + 1) 83 := f_fetch_fr _ (by omega) (by omega) (by omega) (by omega)
      have f84 : f_fetch (st2 χ 83 4 (τ 1 35 + 1)) (τ 4 (τ 1 35) / 4) 84 = χ 84 := by
        rw [f_fetch_fr _ (by omega) (by omega) (by omega) (by omega), st2_ne (by decide)]
      have f5 : f_fetch (st2 χ 83 4 (τ 1 35 + 1)) (τ 4 (τ 1 35) / 4) 5 = χ 5 := by
        rw [f_fetch_fr _ (by omega) (by omega) (by omega) (by omega), st2_ne (by decide)]
      have m28 : m_fetch τ (τ 4 (τ 1 35) / 4) 28 = τ 28 := m_fetch_fr _ _ (by omega) (by omega)
      have m19 : m_fetch τ (τ 4 (τ 1 35) / 4) 19 = τ 19 := m_fetch_fr _ _ (by omega) (by omega)
      have m4 : m_fetch τ (τ 4 (τ 1 35) / 4) 4 = τ 4 := m_fetch_fr _ _ (by omega) (by omega)
      have m2 : m_fetch τ (τ 4 (τ 1 35) / 4) 2 = τ 2 := m_fetch_fr _ _ (by omega) (by omega)
      have m1 : ∀ b : Int, b ≠ 1 → b ≠ 19 → b ≠ 20 → b ≠ 21 → m_fetch τ (τ 4 (τ 1 35) / 4) 1 b = τ 1 b := fun b b1 b2 b3 b4 => m_fetch_1 _ _ b1 b2 b3 b4
      by_cases hl : m_fetch τ (τ 4 (τ 1 35) / 4) 16 (τ 4 (τ 1 35) / 4) < τ 1 35
      · rw [if_pos hl, if_pos hl]
        have j3 := j_apply j1 (r := τ 1 35) h1 (by rw [m1 0 (by decide) (by decide) (by decide) (by decide)]; exact h2) (by rw [m2]; exact hc.1) (by rw [m4]; exact j2)
        have fa : ∀ a : Int, 76 ≤ a → f_apply (f_fetch (st2 χ 83 4 (τ 1 35 + 1)) (τ 4 (τ 1 35) / 4)) (τ 1 35) a = f_fetch (st2 χ 83 4 (τ 1 35 + 1)) (τ 4 (τ 1 35) / 4) a := fun a ha => f_apply_fr (by rw [f5]; omega) (by omega) (by rw [f5]; omega) (by rw [f5]; omega) (by rw [f5]; omega)
        refine ⟨_, _, rfl, rfl, j3, by rw [fa 83 (by decide), f83], by rw [fa 84 (by decide), f84], by rw [m_apply_fr (by decide) (by decide) (by decide) (by decide), m28], by rw [m_apply_fr (by decide) (by decide) (by decide) (by decide), m19], fun b b1 b2 b3 b4 => ?_⟩
        rw [m_apply_fr (by decide) (by decide) (by decide) (by decide)]; exact m1 b b1 b2 b3 b4
      · rw [if_neg hl, if_neg hl]
        exact ⟨_, _, rfl, rfl, j1, f83, f84, m28, m19, m1⟩
    · have eX : f_repeat χ = st2 χ 83 4 (χ 83 4 + 1) := by
        unfold f_repeat
        exact if_neg (fun z => hc (hiff.mp z))
      have eM : m_redo τ (τ 1 35) = τ := by
        unfold m_redo
        exact if_neg hc
      exact ⟨_, _, eX, eM, JJ_up hj0 (by omega), rfl, e84, rfl, rfl, fun _ _ _ _ _ => rfl⟩
  obtain ⟨χ1, τ1, eX, eM, j1, x83, x84, m28, m19, m1⟩ := main
  rw [eX, eM]
  have n1 : ∀ b : Int, b ≠ 35 → st2 τ1 1 35 (τ1 1 35 + 1) 1 b = τ1 1 b := fun b hb => st2_ii hb
  have no : ∀ a : Int, a ≠ 1 → st2 τ1 1 35 (τ1 1 35 + 1) a = τ1 a := fun a ha => st2_ne ha
  have n35 : st2 τ1 1 35 (τ1 1 35 + 1) 1 35 = τ 1 35 + 1 := by rw [st2_eq, m1 35 (by decide) (by decide) (by decide) (by decide)]
  refine ⟨j_rec j1 (fun _ _ _ => rfl) (fun a a1 _ => no a a1) (fun b _ b2 => n1 b b2), ?_, ?_, ?_, ?_, fun g g0 g6 => ?_, Or.inr ⟨by omega, ?_, ?_, ?_⟩⟩
  · rw [n1 32 (by decide), m1 32 (by decide) (by decide) (by decide) (by decide)]; exact hd
  · intro t t1 t2
    rw [n1 22 (by decide), m1 22 (by decide) (by decide) (by decide) (by decide)] at t2
    rw [no 19 (by decide), m19]
    exact hdd t t1 t2
  · rw [x83, st2_ii (by decide)]; exact h83
  · rw [n1 34 (by decide), m1 34 (by decide) (by decide) (by decide) (by decide)]; exact hp
  · rw [x84, no 28 (by decide), m28]; exact htb g g0 g6
  · rw [n35, n1 0 (by decide), m1 0 (by decide) (by decide) (by decide) (by decide)]; omega
  · rw [x83, st2_eq, n35, h4]
  · rw [x83, st2_ii (by decide), n1 0 (by decide), m1 0 (by decide) (by decide) (by decide) (by decide)]; exact h5
theorem tb_fr {χ : Hp} {u : Int} (h5 : 0 ≤ χ 5 u ∧ χ 5 u < 24) {a : Int} (ha : 76 ≤ a) : f_takeBack χ u a = χ a := by
  have hcl := tb_cl h5
  have e11 : f_fetch χ (χ 5 u / 4) 2 11 = χ 2 11 := f_fetch_2 _ (by omega) (by decide)
  unfold f_takeBack
  rw [e11, f_apply_fr (by rw [hcl]; omega) (by omega) (by rw [hcl]; omega) (by rw [hcl]; omega) (by rw [hcl]; omega), f_addClr_c (by omega), f_fetch_fr _ (by omega) (by omega) (by omega) (by omega)]
theorem un_undo {B : Int} {n : Nat} {χ τ : Hp} (h : INV B n χ τ) (hd : τ 1 32 = 1) (hp : τ 1 34 = 1) (h1 : τ 1 35 = 1000) (h45 : χ 83 5 < χ 83 4) (ho : ¬ m_open τ 0 = 0) (h83 : χ 83 3 = 1) (htb : ∀ g : Int, 0 ≤ g → g < 6 → χ 84 g = τ 28 g ∧ 0 ≤ τ 28 g) : Un1 (B + 1) n (f_undo χ) (m_takeBack τ (m_open τ 0)) := by
  have hL := h.1.1
  have hdd : dead τ := h.2.2.1 (by omega)
  have hg := r_gOpen hL
  unfold f_undo
  rw [hg, if_neg ho]
  rcases m_open_spec τ 0 hL.2.1.1 with ⟨a, -⟩ | ⟨a, b, c, -⟩
  · exact absurd a ho
  · obtain ⟨o1, o2, -⟩ := open_of hL a b c
    obtain ⟨j1, j2, j3, j4, j5⟩ := j_takeBack h.1 a b o1 o2
    have fr : ∀ a : Int, 76 ≤ a → f_takeBack χ (m_open τ 0) a = χ a := fun a ha => tb_fr (by omega) ha
    have m1 : ∀ b : Int, b ≠ 0 → b ≠ 1 → b ≠ 19 → b ≠ 20 → b ≠ 21 → m_takeBack τ (m_open τ 0) 1 b = τ 1 b := fun b b0 b1 b2 b3 b4 => tbk_1 _ _ b0 b1 b2 b3 b4
    refine ⟨j1, by rw [m1 32 (by decide) (by decide) (by decide) (by decide) (by decide)]; exact hd, ?_, by rw [fr 83 (by decide)]; exact h83, by rw [m1 34 (by decide) (by decide) (by decide) (by decide) (by decide)]; exact hp, fun g g0 g6 => ?_, Or.inl ⟨by rw [m1 35 (by decide) (by decide) (by decide) (by decide) (by decide)]; exact h1, by rw [fr 83 (by decide)]; exact h45⟩⟩
    · intro t t1 t2
      rw [m1 22 (by decide) (by decide) (by decide) (by decide) (by decide)] at t2
      rw [tb_a _ _ (by decide)]
      exact hdd t t1 t2
    · rw [fr 84 (by decide), tb_a _ _ (by decide)]; exact htb g g0 g6
theorem un_1 {B : Int} {n : Nat} {χ τ : Hp} (h : INV B n χ τ) (hd : ¬ τ 1 32 = 0) : Un1 (B + 1) n (f_unit χ) (m_unit1 τ) := by
  have hf := inv_flag h.1.2.2.1
  obtain ⟨q1, q2, q3⟩ := h.2.2.2 hd
  have hN := h.1.1.2.1
  unfold f_unit m_unit1
  by_cases hp : τ 1 34 = 0
  · rw [if_pos (by omega), if_pos hp]
    exact un_analyse h (by omega)
  · have hp1 := q2.resolve_left hp
    obtain ⟨q4, q5⟩ := q3 hp1
    rw [if_neg (show ¬ χ 83 3 = 0 by omega), if_neg hp]
    rcases q5 with ⟨u1, u2, u3⟩ | ⟨u1, u2, u3, u4⟩
    · rw [if_neg (by omega), if_neg (by omega)]
      exact un_undo h (by omega) hp1 u1 u2 u3 (by omega) q4
    · rw [if_pos (by omega), if_pos ⟨u2, by omega⟩]
      exact un_redo h (by omega) hp1 u1 u2 u3 u4 (by omega) q4
