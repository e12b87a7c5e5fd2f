-- ===== the pool: fetching =====
theorem nIn_st {τ : Hp} {p v : Int} (p0 : 0 ≤ p) (p1 : p < 6) : nIn (st2 τ 18 p v) = nIn τ - (if 0 < τ 18 p then 1 else 0) + (if 0 < v then 1 else 0) := by
  have : p = 0 ∨ p = 1 ∨ p = 2 ∨ p = 3 ∨ p = 4 ∨ p = 5 := by omega
  rcases this with rfl | rfl | rfl | rfl | rfl | rfl <;> simp [nIn, st2] <;> omega
/-- a page leaves -/
theorem r_out {χ τ : Hp} (h : RPl χ τ) {p : Int} (p0 : 0 ≤ p) (p1 : p < 6) (hin : 0 < τ 18 p) (hc : τ 17 p = 0) : RPl (st2 χ 37 p 0) (st2 τ 18 p 0) ∧ nIn (st2 τ 18 p 0) = nIn τ - 1 := by
  obtain ⟨h1, h2, h3, h4, h5⟩ := h
  have hn : nIn (st2 τ 18 p 0) = nIn τ - 1 := by
    rw [nIn_st p0 p1, if_pos hin, if_neg (by omega)]; omega
  refine ⟨⟨fun q a1 a2 => ?_, ?_, by omega, ?_, ?_⟩, hn⟩
  · obtain ⟨dq, hiq⟩ := h1 q a1 a2
    unfold dkP inP outP at *
    rw [st2_ne (by omega : (38 : Int) ≠ 37), st2_ne (by omega : (40 + 6 * q) ≠ 37), st2_ne (by omega : (40 + 6 * q + 1) ≠ 37), st2_ne (by omega : (40 + 6 * q + 2) ≠ 37), st2_ne (by omega : (43 + 6 * q) ≠ 37), st2_ne (by omega : (43 + 6 * q + 1) ≠ 37), st2_ne (by omega : (43 + 6 * q + 2) ≠ 37), st2_ne (by omega : (39 : Int) ≠ 37), st2_ne (by omega : (34 : Int) ≠ 37),
      st2_ne (by omega : (17 : Int) ≠ 18), st2_ne (by omega : (13 : Int) ≠ 18), st2_ne (by omega : (11 : Int) ≠ 18), st2_ne (by omega : (12 : Int) ≠ 18), st2_ne (by omega : (14 : Int) ≠ 18), st2_ne (by omega : (15 : Int) ≠ 18), st2_ne (by omega : (16 : Int) ≠ 18), st2_ne (by omega : (1 : Int) ≠ 18)]
    refine ⟨dq, ?_⟩
    by_cases hq : q = p
    · subst hq
      rw [st2_eq, st2_eq]
      exact Or.inr ⟨rfl, rfl, hc⟩
    · rw [st2_ii hq, st2_ii hq]
      exact hiq
  · intro a b a1 a2 b1 b2 c1 c2
    rw [st2_ne (by omega : (39 : Int) ≠ 37)]
    rw [st2_at] at c1 c2 ⊢
    rw [st2_at]
    by_cases ha : a = p
    · rw [if_pos ha] at c1; omega
    · by_cases hb : b = p
      · rw [if_pos hb] at c2; omega
      · rw [if_neg ha] at c1 ⊢
        rw [if_neg hb] at c2 ⊢
        exact h2 a b a1 a2 b1 b2 c1 c2
  · rw [st2_ne (by omega : (34 : Int) ≠ 37), st2_ne (by omega : (1 : Int) ≠ 18)]; exact h4
  · rw [st2_ne (by omega : (2 : Int) ≠ 37), st2_ne (by omega : (1 : Int) ≠ 18)]; exact h5
theorem r_evict {χ τ : Hp} (h : RPl χ τ) {p : Int} (p0 : 0 ≤ p) (p1 : p < 6) (hout : τ 18 p = 0) : RPl (f_evict χ) (m_evict τ) ∧ nIn (m_evict τ) ≤ 2 ∧ m_evict τ 18 p = 0 ∧ (m_evict τ 1 21 = τ 1 21 ∨ m_evict τ 1 21 = τ 1 21 + 1) := by
  have hsc := r_scan h 6 (by omega)
  have hsp := m_scan_spec τ 6
  have hn := nIn_eq τ
  have h3 := h.2.2.1
  by_cases hf : (m_scan τ 6).1 = 3
  · have hl : f_leave χ = (m_scan τ 6).2 := by
      unfold f_leave
      rw [hsc, if_neg (by omega)]
    rcases hsp.2.2 with ⟨b1, -⟩ | ⟨b1, b2, b3, b4, b5⟩
    · omega
    · generalize ho : (m_scan τ 6).2 = o at hl b2 b3 b4 b5
      have hop : p ≠ o := fun e => by rw [← e] at b4; omega
      have he1 : f_evict χ = st2 (if χ 38 o = 0 then χ else f_writeOut χ o) 37 o 0 := by
        unfold f_evict
        rw [hl, if_neg (by omega)]
      have he2 : m_evict τ = st2 (if 0 < τ 17 o then m_spill τ o else τ) 18 o 0 := by
        unfold m_evict
        rw [if_pos hf]
        simp only [ho]
      obtain ⟨d, -⟩ := h.1 o b2 (by omega)
      rw [he1, he2, d.1]
      by_cases hz : τ 17 o = 0
      · rw [if_pos hz, if_neg (by omega)]
        obtain ⟨r1, r2⟩ := r_out h b2 (by omega) b4 hz
        refine ⟨r1, by omega, by rw [st2_ii hop]; exact hout, Or.inl ?_⟩
        rw [st2_ne (by decide)]
      · have hz2 : 0 < τ 17 o := by have := d.2.1; omega
        rw [if_neg hz, if_pos hz2]
        have hs := r_spill h b2 (by omega) b4
        have m18 := (ms_o τ o).2.2.2
        obtain ⟨r1, r2⟩ := r_out hs b2 (by omega) (by rw [m18]; exact b4) (by rw [(ms_13 τ o o).2, if_pos rfl])
        have hn2 : nIn (m_spill τ o) = nIn τ := by unfold nIn; rw [m18]
        refine ⟨r1, by omega, by rw [st2_ii hop, m18]; exact hout, Or.inr ?_⟩
        rw [st2_ne (by decide), m_spill_o]
  · have he1 : f_evict χ = χ := by
      unfold f_evict f_leave
      have hlt : (m_scan τ 6).1 < 3 := by omega
      simp only [hsc, if_pos hlt]
      trivial
    have he2 : m_evict τ = τ := by
      unfold m_evict
      rw [if_neg hf]
    rw [he1, he2]
    exact ⟨h, by omega, hout, Or.inl rfl⟩
/-- the page p comes in, or is stamped anew -/
theorem r_touch {χ τ χ' τ' : Hp} (h : RPl χ τ) {p : Int} (p0 : 0 ≤ p) (p1 : p < 6)
    (hx : ∀ a : Int, 34 < a → a < 76 → a ≠ 37 → a ≠ 39 → a ≠ 43 + 6 * p → a ≠ 43 + 6 * p + 1 → a ≠ 43 + 6 * p + 2 → χ' a = χ a)
    (x37 : ∀ q : Int, χ' 37 q = if q = p then 1 else χ 37 q) (x39 : ∀ q : Int, χ' 39 q = if q = p then χ 34 6 + 1 else χ 39 q) (x346 : χ' 34 6 = χ 34 6 + 1) (x348 : χ' 34 8 = χ 34 8) (x212 : χ' 2 12 = χ 2 12)
    (hm : ∀ a : Int, 11 ≤ a → a ≤ 13 → τ' a = τ a) (m17 : ∀ q : Int, q ≠ p → τ' 17 q = τ 17 q) (m17p : χ 38 p = τ' 17 p ∧ 0 ≤ τ' 17 p) (m14 : ∀ q : Int, ¬ (4 * p ≤ q ∧ q < 4 * p + 4) → τ' 14 q = τ 14 q ∧ τ' 15 q = τ 15 q) (m16 : ∀ q : Int, q ≠ p → τ' 16 q = τ 16 q) (m18 : ∀ q : Int, τ' 18 q = if q = p then τ' 1 19 else τ 18 q) (m119 : τ 1 19 < τ' 1 19) (h19 : 0 ≤ τ 1 19) (m10 : τ' 1 0 = τ 1 0) (m11 : τ' 1 1 = τ 1 1) (m121 : τ' 1 21 = τ 1 21) (m120 : χ' 34 7 = τ' 1 20 ∧ 0 ≤ τ' 1 20) (hn : nIn τ' ≤ 3)
    (hc : χ' (43 + 6 * p) 2 = τ' 16 p ∧ (0 ≤ τ' 16 p ∧ τ' 16 p ≤ τ 1 0) ∧ ∀ s : Int, 0 ≤ s → s < 4 → χ' (43 + 6 * p + 1) s = τ' 14 (4 * p + s) ∧ χ' (43 + 6 * p + 2) s = τ' 15 (4 * p + s) ∧ -1 ≤ τ' 14 (4 * p + s) ∧ τ' 14 (4 * p + s) ≤ 99) : RPl χ' τ' := by
  obtain ⟨h1, h2, h3, ⟨q1, q2, q3, q4, q5, q6⟩, s1, s2, s3⟩ := h
  have hx38 := hx 38 (by omega) (by omega) (by omega) (by omega) (by omega) (by omega) (by omega)
  refine ⟨fun q a1 a2 => ?_, ?_, hn, ?_, ?_⟩
  · obtain ⟨dq, hiq⟩ := h1 q a1 a2
    obtain ⟨d1, d2, d3, d4, d5⟩ := dq
    have hd : dkP χ' τ' q := by
      unfold dkP
      rw [hx38, hx (40 + 6 * q) (by omega) (by omega) (by omega) (by omega) (by omega) (by omega) (by omega), hx (40 + 6 * q + 1) (by omega) (by omega) (by omega) (by omega) (by omega) (by omega) (by omega), hx (40 + 6 * q + 2) (by omega) (by omega) (by omega) (by omega) (by omega) (by omega) (by omega), hm 11 (by omega) (by omega), hm 12 (by omega) (by omega), hm 13 (by omega) (by omega), m11]
      by_cases hq : q = p
      · subst hq
        exact ⟨m17p.1, m17p.2, d3, d4, d5⟩
      · rw [m17 q hq]
        exact ⟨d1, d2, d3, d4, d5⟩
    refine ⟨hd, ?_⟩
    by_cases hq : q = p
    · subst hq
      left
      refine ⟨by rw [x37, if_pos rfl], by rw [m18, if_pos rfl]; omega, by rw [m18, if_pos rfl]; exact Int.le_refl _, by rw [x39, if_pos rfl, x346]; exact Int.le_refl _, hc.1, ?_, hc.2.2⟩
      rw [m10]; exact hc.2.1
    · unfold inP outP
      rw [x37, x39, m18, if_neg hq, if_neg hq, if_neg hq, m17 q hq, m16 q hq, x346, m10, hx (43 + 6 * q) (by omega) (by omega) (by omega) (by omega) (by omega) (by omega) (by omega), hx (43 + 6 * q + 1) (by omega) (by omega) (by omega) (by omega) (by omega) (by omega) (by omega), hx (43 + 6 * q + 2) (by omega) (by omega) (by omega) (by omega) (by omega) (by omega) (by omega)]
      rcases hiq with ⟨e1, e2, e3, e4, e5, e6, e7⟩ | hiq
      · refine Or.inl ⟨e1, e2, by omega, by omega, e5, e6, fun s b1 b2 => ?_⟩
        rw [(m14 (4 * q + s) (by omega)).1, (m14 (4 * q + s) (by omega)).2]
        exact e7 s b1 b2
      · exact Or.inr hiq
  · intro a b a1 a2 b1 b2 c1 c2
    rw [m18] at c1 c2
    rw [x39, x39, m18, m18]
    by_cases ha : a = p
    · by_cases hb : b = p
      · rw [if_pos ha, if_pos hb, if_pos ha, if_pos hb]; omega
      · rw [if_neg hb] at c2
        have hb2 := (h1 b b1 b2).2.resolve_right (fun q => by have := q.2.1; omega)
        have e1 := hb2.2.2.1
        have e2 := hb2.2.2.2.1
        rw [if_pos ha, if_neg hb, if_pos ha, if_neg hb]; omega
    · rw [if_neg ha] at c1
      have ha2 := (h1 a a1 a2).2.resolve_right (fun q => by have := q.2.1; omega)
      have e1 := ha2.2.2.1
      have e2 := ha2.2.2.2.1
      by_cases hb : b = p
      · rw [if_neg ha, if_pos hb, if_neg ha, if_pos hb]; omega
      · rw [if_neg hb] at c2
        rw [if_neg ha, if_neg hb, if_neg ha, if_neg hb]
        exact h2 a b a1 a2 b1 b2 c1 c2
  · rw [x346, x348, m121]
    exact ⟨m120.1, q2, by omega, by omega, m120.2, q6⟩
  · rw [x212, m11, m10]
    exact ⟨s1, s2, s3⟩
theorem m_scan_c {τ τ' : Hp} (h : τ' 18 = τ 18) : ∀ k : Nat, m_scan τ' k = m_scan τ k
  | 0 => rfl
  | k + 1 => by
    unfold m_scan
    rw [m_scan_c h k, h]
theorem m_spill_st (τ : Hp) (o v : Int) : m_spill (st2 τ 1 19 v) o = st2 (m_spill τ o) 1 19 v := by
  funext a b
  simp only [m_spill, st2, m_cp]
  grind
theorem m_evict_st (τ : Hp) (v : Int) : m_evict (st2 τ 1 19 v) = st2 (m_evict τ) 1 19 v := by
  have h18 : st2 τ 1 19 v 18 = τ 18 := st2_ne (by decide)
  have h17 : st2 τ 1 19 v 17 = τ 17 := st2_ne (by decide)
  have hc : ∀ (ρ : Hp) (o : Int), st2 (st2 ρ 1 19 v) 18 o 0 = st2 (st2 ρ 18 o 0) 1 19 v := fun ρ o => by
    funext a b
    simp only [st2]
    grind
  unfold m_evict
  rw [m_scan_c h18]
  split
  · simp only [h17]
    split
    · rw [m_spill_st, hc]
    · rw [hc]
  · rfl
theorem ml_14 (τ : Hp) (g b : Int) : m_load τ g 14 b = (if 4 * g ≤ b ∧ b < 4 * g + 4 then τ 11 b else τ 14 b) ∧ m_load τ g 15 b = (if 4 * g ≤ b ∧ b < 4 * g + 4 then τ 12 b else τ 15 b) := by
  constructor <;> simp [m_load, st2, m_cp]
theorem ml_16 (τ : Hp) (g b : Int) : m_load τ g 16 b = (if b = g then τ 13 g else τ 16 b) ∧ m_load τ g 17 b = (if b = g then 0 else τ 17 b) := by
  constructor <;> simp [m_load, st2, m_cp]
theorem ml_o (τ : Hp) (g : Int) : m_load τ g 11 = τ 11 ∧ m_load τ g 12 = τ 12 ∧ m_load τ g 13 = τ 13 ∧ m_load τ g 18 = τ 18 := by
  refine ⟨?_, ?_, ?_, ?_⟩ <;> (funext b; simp [m_load, st2, m_cp])
theorem ml_20 (τ : Hp) (g : Int) : m_load τ g 1 20 = τ 1 20 + 1 := by
  simp [m_load, st2, m_cp]
theorem r_fetch {χ τ : Hp} (h : RPl χ τ) {p : Int} (p0 : 0 ≤ p) (p1 : p < 6) (h19 : 0 ≤ τ 1 19) : RPl (f_fetch χ p) (m_fetch τ p) ∧ 0 < m_fetch τ p 18 p ∧ m_fetch τ p 1 19 = τ 1 19 + 1 ∧ (m_fetch τ p 1 20 = τ 1 20 ∨ m_fetch τ p 1 20 = τ 1 20 + 1) ∧ (m_fetch τ p 1 21 = τ 1 21 ∨ m_fetch τ p 1 21 = τ 1 21 + 1) := by
  obtain ⟨dp, hip⟩ := h.1 p p0 p1
  rcases hip with hip | hip
  · have a1 := hip.1
    have a2 := hip.2.1
    have ef : f_fetch χ p = st2 (st2 χ 34 6 (χ 34 6 + 1)) 39 p (χ 34 6 + 1) := by
      simp only [f_fetch]
      rw [if_neg (by omega), st2_eq]
    have em : m_fetch τ p = st2 (st2 τ 1 19 (τ 1 19 + 1)) 18 p (τ 1 19 + 1) := by
      simp only [m_fetch]
      rw [st2_ne (by decide : (18 : Int) ≠ 1), if_neg (by omega), st2_eq]
    rw [ef, em]
    have e119 : st2 (st2 τ 1 19 (τ 1 19 + 1)) 18 p (τ 1 19 + 1) 1 19 = τ 1 19 + 1 := by rw [st2_ne (by decide), st2_eq]
    refine ⟨?_, by rw [st2_eq]; omega, e119, Or.inl (by rw [st2_ne (by decide), st2_ii (by decide)]), Or.inl (by rw [st2_ne (by decide), st2_ii (by decide)])⟩
    have hn : nIn (st2 (st2 τ 1 19 (τ 1 19 + 1)) 18 p (τ 1 19 + 1)) = nIn τ := by
      have e : nIn (st2 τ 1 19 (τ 1 19 + 1)) = nIn τ := by unfold nIn; rw [st2_ne (by decide : (18 : Int) ≠ 1)]
      rw [nIn_st p0 p1, st2_ne (by decide : (18 : Int) ≠ 1), if_pos a2, if_pos (by omega), e]
      omega
    have hh := h
    obtain ⟨h1, h2, h3, ⟨q1, q2, q3, q4, q5, q6⟩, s1, s2, s3⟩ := hh
    refine r_touch h p0 p1 (fun a b1 b2 b3 b4 _ _ _ => by rw [st2_ne b4, st2_ne (by omega)]) (fun q => ?_) (fun q => ?_) ?_ ?_ ?_ (fun a b1 b2 => by rw [st2_ne (by omega), st2_ne (by omega)]) (fun q hq => ?_) ?_ (fun q hq => ?_) (fun q hq => ?_) (fun q => ?_) ?_ h19 ?_ ?_ ?_ ?_ (by omega) ?_
    · rw [st2_ne (by decide), st2_ne (by decide)]
      split
      · rename_i e; rw [e]; exact a1
      · rfl
    · rw [st2_at, st2_ne (by decide)]
    · rw [st2_ne (by decide), st2_eq]
    · rw [st2_ne (by decide), st2_ii (by decide)]
    · rw [st2_ne (by decide), st2_ne (by decide)]
    · rw [st2_ne (by decide), st2_ne (by decide)]
    · rw [st2_ne (by decide), st2_ne (by decide)]; exact ⟨dp.1, dp.2.1⟩
    · rw [st2_ne (by decide), st2_ne (by decide), st2_ne (by decide), st2_ne (by decide)]; exact ⟨rfl, rfl⟩
    · rw [st2_ne (by decide), st2_ne (by decide)]
    · rw [e119, st2_at, st2_ne (by decide)]
    · rw [e119]; omega
    · rw [st2_ne (by decide), st2_ii (by decide)]
    · rw [st2_ne (by decide), st2_ii (by decide)]
    · rw [st2_ne (by decide), st2_ii (by decide)]
    · rw [st2_ne (by decide : (34 : Int) ≠ 39), st2_ii (by decide : (7 : Int) ≠ 6), st2_ne (by decide : (1 : Int) ≠ 18), st2_ii (by decide : (20 : Int) ≠ 19)]; exact ⟨q1, q5⟩
    · rw [st2_ne (by omega : 43 + 6 * p ≠ 39), st2_ne (by omega : 43 + 6 * p ≠ 34), st2_ne (by omega : 43 + 6 * p + 1 ≠ 39), st2_ne (by omega : 43 + 6 * p + 1 ≠ 34), st2_ne (by omega : 43 + 6 * p + 2 ≠ 39), st2_ne (by omega : 43 + 6 * p + 2 ≠ 34), st2_ne (by decide : (16 : Int) ≠ 18), st2_ne (by decide : (16 : Int) ≠ 1), st2_ne (by decide : (14 : Int) ≠ 18), st2_ne (by decide : (14 : Int) ≠ 1), st2_ne (by decide : (15 : Int) ≠ 18), st2_ne (by decide : (15 : Int) ≠ 1)]
      exact ⟨hip.2.2.2.2.1, hip.2.2.2.2.2.1, hip.2.2.2.2.2.2⟩
  · obtain ⟨a1, a2, a3⟩ := hip
    obtain ⟨hE, hn2, hout, ho⟩ := r_evict h p0 p1 a2
    have k19 : m_evict τ 1 19 = τ 1 19 := m_evict_1 _ (by decide) (by decide)
    have k20 : m_evict τ 1 20 = τ 1 20 := m_evict_1 _ (by decide) (by decide)
    have em : m_fetch τ p = st2 (m_load (st2 (m_evict τ) 1 19 (τ 1 19 + 1)) p) 18 p (τ 1 19 + 1) := by
      simp only [m_fetch]
      rw [st2_ne (by decide : (18 : Int) ≠ 1), if_pos a2, m_evict_st, m_load_1 _ _ (by decide), st2_eq]
    have e346 : st2 (st2 (f_copy (f_evict χ) (43 + 6 * p) (40 + 6 * p)) 37 p 1) 34 7 (st2 (f_copy (f_evict χ) (43 + 6 * p) (40 + 6 * p)) 37 p 1 34 7 + 1) 34 6 = f_evict χ 34 6 := by
      rw [st2_ii (by decide), st2_ne (by decide), f_copy_fr _ _ _ (by omega) (by omega) (by omega)]
    have ef : f_fetch χ p = st2 (st2 (st2 (st2 (f_copy (f_evict χ) (43 + 6 * p) (40 + 6 * p)) 37 p 1) 34 7 (f_evict χ 34 7 + 1)) 34 6 (f_evict χ 34 6 + 1)) 39 p (f_evict χ 34 6 + 1) := by
      simp only [f_fetch]
      rw [if_pos a1]
      simp only [f_load]
      rw [e346, st2_eq, st2_ne (by decide : (34 : Int) ≠ 37), f_copy_fr _ _ _ (by omega) (by omega) (by omega)]
    generalize f_evict χ = χe at hE ef
    generalize m_evict τ = τe at hE hn2 hout ho k19 k20 em
    rw [ef, em]
    have e119 : st2 (m_load (st2 τe 1 19 (τ 1 19 + 1)) p) 18 p (τ 1 19 + 1) 1 19 = τ 1 19 + 1 := by rw [st2_ne (by decide), m_load_1 _ _ (by decide), st2_eq]
    have e120 : st2 (m_load (st2 τe 1 19 (τ 1 19 + 1)) p) 18 p (τ 1 19 + 1) 1 20 = τe 1 20 + 1 := by rw [st2_ne (by decide), ml_20, st2_ii (by decide)]
    have e1o : ∀ i : Int, i ≠ 19 → i ≠ 20 → st2 (m_load (st2 τe 1 19 (τ 1 19 + 1)) p) 18 p (τ 1 19 + 1) 1 i = τe 1 i := fun i i1 i2 => by rw [st2_ne (by decide), m_load_1 _ _ i2, st2_ii i1]
    have mo : ∀ a : Int, a ≠ 1 → st2 τe 1 19 (τ 1 19 + 1) a = τe a := fun a ha => st2_ne ha
    have hn : nIn (st2 (m_load (st2 τe 1 19 (τ 1 19 + 1)) p) 18 p (τ 1 19 + 1)) ≤ 3 := by
      have e : nIn (m_load (st2 τe 1 19 (τ 1 19 + 1)) p) = nIn τe := by unfold nIn; rw [(ml_o _ p).2.2.2, mo 18 (by decide)]
      rw [nIn_st p0 p1, (ml_o _ p).2.2.2, mo 18 (by decide), if_neg (by omega), if_pos (by omega), e]
      omega
    obtain ⟨h1, h2, h3, ⟨q1, q2, q3, q4, q5, q6⟩, s1, s2, s3⟩ := id hE
    obtain ⟨⟨d1, d2, d3, d4, d5⟩, hio⟩ := h1 p p0 p1
    have hio : outP χe τe p := hio.resolve_left (fun q => by have := q.2.1; omega)
    refine ⟨?_, by rw [st2_eq]; omega, e119, Or.inr (by rw [e120, k20]), by rw [e1o 21 (by decide) (by decide)]; exact ho⟩
    refine r_touch hE p0 p1 (fun a b1 b2 b3 b4 b5 b6 b7 => by rw [st2_ne b4, st2_ne (by omega), st2_ne (by omega), st2_ne b3, f_copy_fr _ _ _ b5 b6 b7]) (fun q => ?_) (fun q => ?_) ?_ ?_ ?_ (fun a b1 b2 => ?_) (fun q hq => ?_) ?_ (fun q hq => ?_) (fun q hq => ?_) (fun q => ?_) ?_ (by omega) ?_ ?_ ?_ ?_ hn ?_
    · rw [st2_ne (by decide), st2_ne (by decide), st2_ne (by decide), st2_at, f_copy_fr _ _ _ (by omega) (by omega) (by omega)]
    · rw [st2_at, st2_ne (by decide), st2_ne (by decide), st2_ne (by decide), f_copy_fr _ _ _ (by omega) (by omega) (by omega)]
    · rw [st2_ne (by decide), st2_eq]
    · rw [st2_ne (by decide), st2_ii (by decide), st2_ii (by decide), st2_ne (by decide), f_copy_fr _ _ _ (by omega) (by omega) (by omega)]
    · rw [st2_ne (by decide), st2_ne (by decide), st2_ne (by decide), st2_ne (by decide), f_copy_fr _ _ _ (by omega) (by omega) (by omega)]
    · obtain ⟨o1, o2, o3, o4⟩ := ml_o (st2 τe 1 19 (τ 1 19 + 1)) p
      rw [st2_ne (by omega)]
      rcases (show a = 11 ∨ a = 12 ∨ a = 13 by omega) with rfl | rfl | rfl
      · rw [o1, mo _ (by decide)]
      · rw [o2, mo _ (by decide)]
      · rw [o3, mo _ (by decide)]
    · rw [st2_ne (by decide), (ml_16 _ p q).2, if_neg hq, mo _ (by decide)]
    · rw [st2_ne (by decide), (ml_16 _ p p).2, if_pos rfl, d1, hio.2.2]; exact ⟨rfl, Int.le_refl 0⟩
    · rw [st2_ne (by decide), st2_ne (by decide), (ml_14 _ p q).1, (ml_14 _ p q).2, if_neg hq, if_neg hq, mo _ (by decide), mo _ (by decide)]; exact ⟨rfl, rfl⟩
    · rw [st2_ne (by decide), (ml_16 _ p q).1, if_neg hq, mo _ (by decide)]
    · rw [e119, st2_at, (ml_o _ p).2.2.2, mo _ (by decide)]
    · rw [e119]; omega
    · rw [e1o 0 (by decide) (by decide)]
    · rw [e1o 1 (by decide) (by decide)]
    · rw [e1o 21 (by decide) (by decide)]
    · rw [st2_ne (by decide : (34 : Int) ≠ 39), st2_ii (by decide : (7 : Int) ≠ 6), st2_eq, e120]; exact ⟨by omega, by omega⟩
    · rw [st2_ne (by omega : 43 + 6 * p ≠ 39), st2_ne (by omega : 43 + 6 * p ≠ 34), st2_ne (by omega : 43 + 6 * p ≠ 34), st2_ne (by omega : 43 + 6 * p ≠ 37), f_copy_0 (by omega) (by omega), st2_ne (by decide : (16 : Int) ≠ 18), (ml_16 _ p p).1, if_pos rfl, mo _ (by decide)]
      refine ⟨d3, ⟨d4.1, by omega⟩, fun s b1 b2 => ?_⟩
      rw [st2_ne (by omega : 43 + 6 * p + 1 ≠ 39), st2_ne (by omega : 43 + 6 * p + 1 ≠ 34), st2_ne (by omega : 43 + 6 * p + 1 ≠ 34), st2_ne (by omega : 43 + 6 * p + 1 ≠ 37), f_copy_1 b1 b2, st2_ne (by omega : 43 + 6 * p + 2 ≠ 39), st2_ne (by omega : 43 + 6 * p + 2 ≠ 34), st2_ne (by omega : 43 + 6 * p + 2 ≠ 34), st2_ne (by omega : 43 + 6 * p + 2 ≠ 37), f_copy_2 b1 b2, st2_ne (by decide : (14 : Int) ≠ 18), st2_ne (by decide : (15 : Int) ≠ 18), (ml_14 _ p _).1, (ml_14 _ p _).2, if_pos (by omega), if_pos (by omega), mo _ (by decide), mo _ (by decide)]
      exact d5 s b1 b2
