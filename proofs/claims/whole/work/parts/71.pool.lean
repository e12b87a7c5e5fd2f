-- ===== the pool: reading, writing out, fetching =====
theorem r_keyAt {χ τ : Hp} (h : RPl χ τ) {x : Int} (x0 : 0 ≤ x) (x1 : x < 24) : f_keyAt χ x = m_keyAt τ x ∧ f_valueAt χ x = m_valueAt τ x ∧ -1 ≤ m_keyAt τ x ∧ m_keyAt τ x ≤ 99 := by
  obtain ⟨d, hio⟩ := h.1 (x / 4) (by omega) (by omega)
  have e : 4 * (x / 4) + x % 4 = x := by omega
  unfold f_keyAt f_valueAt m_keyAt m_valueAt f_seen
  rcases hio with ⟨a1, a2, a3, a4, a5, a6, a7⟩ | ⟨a1, a2, a3⟩
  · obtain ⟨b1, b2, b3, b4⟩ := a7 (x % 4) (by omega) (by omega)
    rw [e] at b1 b2 b3 b4
    rw [if_pos a2, if_neg (by omega), if_pos a2]
    exact ⟨b1, b2, b3, b4⟩
  · obtain ⟨b1, b2, b3, b4⟩ := d.2.2.2.2 (x % 4) (by omega) (by omega)
    rw [e] at b1 b2 b3 b4
    have a4 : ¬ 0 < τ 18 (x / 4) := by omega
    rw [if_pos a1, if_neg a4, if_neg a4]
    exact ⟨b1, b2, b3, b4⟩
theorem r_find {χ τ : Hp} (h : RPl χ τ) (key : Int) : f_placeOf χ key = m_find τ key :=
  srch_congr 24 0 (fun y h1 h2 => by rw [(r_keyAt h h1 (by omega)).1])
theorem nIn_eq (τ : Hp) : nIn τ = (m_scan τ 6).1 := by
  simp [m_scan, nIn]
theorem r_scan {χ τ : Hp} (h : RPl χ τ) : ∀ k : Nat, k ≤ 6 → f_scan χ k = m_scan τ k
  | 0, _ => rfl
  | k + 1, hk => by
    have ih := r_scan h k (by omega)
    have hs := m_scan_spec τ k
    obtain ⟨d, hio⟩ := h.1 (k : Int) (by omega) (by omega)
    rw [show f_scan χ (k + 1) = if χ 37 (k : Int) = 0 then f_scan χ k else ((f_scan χ k).1 + 1, if (f_scan χ k).2 = -1 ∨ χ 39 (k : Int) < χ 39 (f_scan χ k).2 then (k : Int) else (f_scan χ k).2) from rfl,
      show m_scan τ (k + 1) = ((m_scan τ k).1 + (if 0 < τ 18 (k : Int) then 1 else 0), if 0 < τ 18 (k : Int) ∧ ((m_scan τ k).2 < 0 ∨ τ 18 (k : Int) < τ 18 (m_scan τ k).2) then (k : Int) else (m_scan τ k).2) from rfl, ih]
    rcases hio with ⟨a1, a2, -⟩ | ⟨a1, a2, a3⟩
    · rw [if_neg (by omega), if_pos a2]
      have hiff : ((m_scan τ k).2 = -1 ∨ χ 39 (k : Int) < χ 39 (m_scan τ k).2) ↔ (0 < τ 18 (k : Int) ∧ ((m_scan τ k).2 < 0 ∨ τ 18 (k : Int) < τ 18 (m_scan τ k).2)) := by
        rcases hs.2.2 with ⟨b1, b2, b3⟩ | ⟨b1, b2, b3, b4, b5⟩
        · exact ⟨fun _ => ⟨a2, Or.inl (by omega)⟩, fun _ => Or.inl b2⟩
        · have hi := h.2.1 (k : Int) (m_scan τ k).2 (by omega) (by omega) b2 (by omega) a2 b4
          constructor
          · rintro (c | c)
            · omega
            · exact ⟨a2, Or.inr (hi.mp c)⟩
          · rintro ⟨-, c | c⟩
            · omega
            · exact Or.inr (hi.mpr c)
      by_cases hc : (m_scan τ k).2 = -1 ∨ χ 39 (k : Int) < χ 39 (m_scan τ k).2
      · rw [if_pos hc, if_pos (hiff.mp hc)]
      · rw [if_neg hc, if_neg (fun q => hc (hiff.mpr q))]
    · rw [if_pos a1, if_neg (by omega), if_neg (by omega)]
      rw [Int.add_zero]
theorem f_copy_1 {σ : Hp} {a b i : Int} (h0 : 0 ≤ i) (h1 : i < 4) : f_copy σ a b (a + 1) i = σ (b + 1) i := by
  simp only [f_copy]
  rw [st2_ne (by omega)]
  simp only [f_cp]
  rw [if_pos ⟨h0, h1⟩, if_pos trivial]
theorem f_copy_2 {σ : Hp} {a b i : Int} (h0 : 0 ≤ i) (h1 : i < 4) : f_copy σ a b (a + 2) i = σ (b + 2) i := by
  simp only [f_copy]
  rw [st2_ne (by omega)]
  simp only [f_cp]
  rw [if_pos ⟨h0, h1⟩, if_neg (by omega), if_pos trivial]
theorem f_copy_0 {σ : Hp} {a b : Int} (h1 : b ≠ a + 1) (h2 : b ≠ a + 2) : f_copy σ a b a 2 = σ b 2 := by
  simp only [f_copy]
  rw [st2_eq]
  simp only [f_cp]
  rw [if_pos (by omega), if_neg h1, if_neg h2]
-- writing out: the class
theorem fw_38 {χ : Hp} {p q : Int} (hp : 0 ≤ p) : f_writeOut χ p 38 q = if q = p then 0 else χ 38 q := by
  simp only [f_writeOut]
  rw [st2_ne (by decide), st2_at, f_copy_fr _ _ _ (by omega) (by omega) (by omega), f_ms_fr _ _ (by decide)]
theorem fw_348 {χ : Hp} {p : Int} (hp : 0 ≤ p) : f_writeOut χ p 34 8 = χ 34 8 + 1 := by
  simp only [f_writeOut]
  rw [st2_eq, st2_ne (by decide), f_copy_fr _ _ _ (by omega) (by omega) (by omega), f_ms_fr _ _ (by decide)]
theorem fw_o {χ : Hp} {p a : Int} (h2 : a ≠ 2) (h34 : a ≠ 34) (h38 : a ≠ 38) (h40 : a ≠ 40 + 6 * p) (h41 : a ≠ 40 + 6 * p + 1) (h42 : a ≠ 40 + 6 * p + 2) : f_writeOut χ p a = χ a := by
  simp only [f_writeOut]
  rw [st2_ne h34, st2_ne h38, f_copy_fr _ _ _ h40 h41 h42, f_ms_fr _ _ h2]
theorem fw_212 {χ : Hp} {p : Int} (hp : 0 ≤ p) : f_writeOut χ p 2 12 = if χ 2 12 < χ (43 + 6 * p) 2 then χ (43 + 6 * p) 2 else χ 2 12 := by
  simp only [f_writeOut]
  rw [st2_ne (by decide), st2_ne (by decide), f_copy_fr _ _ _ (by omega) (by omega) (by omega), f_ms_12]
theorem fw_40 {χ : Hp} {p : Int} (hp : 0 ≤ p) : f_writeOut χ p (40 + 6 * p) 2 = χ (43 + 6 * p) 2 := by
  simp only [f_writeOut]
  rw [st2_ne (by omega), st2_ne (by omega), f_copy_0 (by omega) (by omega), f_ms_fr _ _ (by omega)]
theorem fw_41 {χ : Hp} {p s : Int} (hp : 0 ≤ p) (h0 : 0 ≤ s) (h1 : s < 4) : f_writeOut χ p (40 + 6 * p + 1) s = χ (43 + 6 * p + 1) s ∧ f_writeOut χ p (40 + 6 * p + 2) s = χ (43 + 6 * p + 2) s := by
  simp only [f_writeOut]
  rw [st2_ne (by omega), st2_ne (by omega), f_copy_1 h0 h1, f_ms_fr _ _ (by omega), st2_ne (by omega), st2_ne (by omega), f_copy_2 h0 h1, f_ms_fr _ _ (by omega)]
  exact ⟨rfl, rfl⟩
-- spilling: the reference
theorem ms_11 (τ : Hp) (g b : Int) : m_spill τ g 11 b = (if 4 * g ≤ b ∧ b < 4 * g + 4 then τ 14 b else τ 11 b) ∧ m_spill τ g 12 b = (if 4 * g ≤ b ∧ b < 4 * g + 4 then τ 15 b else τ 12 b) := by
  constructor <;> simp [m_spill, st2, m_cp]
theorem ms_13 (τ : Hp) (g b : Int) : m_spill τ g 13 b = (if b = g then τ 16 g else τ 13 b) ∧ m_spill τ g 17 b = (if b = g then 0 else τ 17 b) := by
  constructor <;> simp [m_spill, st2, m_cp]
theorem ms_o (τ : Hp) (g : Int) : m_spill τ g 14 = τ 14 ∧ m_spill τ g 15 = τ 15 ∧ m_spill τ g 16 = τ 16 ∧ m_spill τ g 18 = τ 18 := by
  refine ⟨?_, ?_, ?_, ?_⟩ <;> (funext b; simp [m_spill, st2, m_cp])
theorem ms_1 (τ : Hp) (g : Int) : m_spill τ g 1 1 = if τ 1 1 < τ 16 g then τ 16 g else τ 1 1 := by
  simp [m_spill, st2, m_cp]
theorem r_spill {χ τ : Hp} (h : RPl χ τ) {p : Int} (p0 : 0 ≤ p) (p1 : p < 6) (hin : 0 < τ 18 p) : RPl (f_writeOut χ p) (m_spill τ p) := by
  obtain ⟨h1, h2, h3, ⟨q1, q2, q3, q4, q5, q6⟩, s1, s2, s3⟩ := h
  obtain ⟨m14, m15, m16, m18⟩ := ms_o τ p
  obtain ⟨dp, hip⟩ := h1 p p0 p1
  have hip : inP χ τ p := hip.resolve_right (fun q => by have := q.2.1; omega)
  have hst : τ 1 1 ≤ m_spill τ p 1 1 ∧ τ 16 p ≤ m_spill τ p 1 1 ∧ m_spill τ p 1 1 ≤ τ 1 0 := by
    have := hip.2.2.2.2.2.1
    rw [ms_1]; split <;> omega
  have x37 : f_writeOut χ p 37 = χ 37 := fw_o (by omega) (by omega) (by omega) (by omega) (by omega) (by omega)
  have x39 : f_writeOut χ p 39 = χ 39 := fw_o (by omega) (by omega) (by omega) (by omega) (by omega) (by omega)
  have x346 : f_writeOut χ p 34 6 = χ 34 6 := f_writeOut_34 _ p0 (by decide)
  have x347 : f_writeOut χ p 34 7 = χ 34 7 := f_writeOut_34 _ p0 (by decide)
  have m119 : m_spill τ p 1 19 = τ 1 19 := m_spill_1 _ _ (by decide) (by decide)
  have m10 : m_spill τ p 1 0 = τ 1 0 := m_spill_1 _ _ (by decide) (by decide)
  have m120 : m_spill τ p 1 20 = τ 1 20 := m_spill_1 _ _ (by decide) (by decide)
  refine ⟨fun q a1 a2 => ?_, ?_, ?_, ?_, ?_⟩
  · obtain ⟨dq, hiq⟩ := h1 q a1 a2
    obtain ⟨d1, d2, d3, d4, d5⟩ := dq
    have hfr : f_writeOut χ p (43 + 6 * q) = χ (43 + 6 * q) ∧ f_writeOut χ p (43 + 6 * q + 1) = χ (43 + 6 * q + 1) ∧ f_writeOut χ p (43 + 6 * q + 2) = χ (43 + 6 * q + 2) := ⟨fw_o (by omega) (by omega) (by omega) (by omega) (by omega) (by omega), fw_o (by omega) (by omega) (by omega) (by omega) (by omega) (by omega), fw_o (by omega) (by omega) (by omega) (by omega) (by omega) (by omega)⟩
    constructor
    · unfold dkP
      rw [fw_38 p0, (ms_13 τ p q).2, (ms_13 τ p q).1]
      by_cases hq : q = p
      · subst hq
        rw [if_pos rfl, if_pos rfl, if_pos rfl, fw_40 p0]
        obtain ⟨e1, e2, e3, e4, e5, ⟨e6, e7⟩, e8⟩ := hip
        refine ⟨rfl, Int.le_refl 0, e5, ⟨e6, hst.2.1⟩, fun s b1 b2 => ?_⟩
        rw [(fw_41 p0 b1 b2).1, (fw_41 p0 b1 b2).2, (ms_11 τ q _).1, (ms_11 τ q _).2, if_pos (by omega), if_pos (by omega)]
        exact e8 s b1 b2
      · rw [if_neg hq, if_neg hq, if_neg hq, fw_o (a := 40 + 6 * q) (by omega) (by omega) (by omega) (by omega) (by omega) (by omega)]
        refine ⟨d1, d2, d3, ⟨d4.1, by omega⟩, fun s b1 b2 => ?_⟩
        rw [fw_o (a := 40 + 6 * q + 1) (by omega) (by omega) (by omega) (by omega) (by omega) (by omega), fw_o (a := 40 + 6 * q + 2) (by omega) (by omega) (by omega) (by omega) (by omega) (by omega), (ms_11 τ p _).1, (ms_11 τ p _).2, if_neg (by omega), if_neg (by omega)]
        exact d5 s b1 b2
    · unfold inP outP
      rw [hfr.1, hfr.2.1, hfr.2.2, x37, x39, x346, m14, m15, m16, m18, m119, m10, (ms_13 τ p q).2]
      rcases hiq with hiq | ⟨e1, e2, e3⟩
      · exact Or.inl hiq
      · right
        refine ⟨e1, e2, ?_⟩
        split <;> omega
  · unfold isoP; rw [x39, m18]; exact h2
  · unfold nIn; rw [m18]; exact h3
  · rw [x347, fw_348 p0, x346, m120, m_spill_o, m119]
    exact ⟨q1, by omega, q3, q4, q5, by omega⟩
  · have hl := hip.2.2.2.2.1
    rw [fw_212 p0, ms_1, m10, hl, s1]
    refine ⟨rfl, ?_, ?_⟩
    · split <;> omega
    · have := hip.2.2.2.2.2.1
      split <;> omega
