-- ===== more facts of the reference's functions =====
theorem m_put_eq (τ : Hp) (k t x : Int) : m_put τ k t x = fun a b => if a = 1 ∧ b = 0 then τ 1 0 + 1 else if b = τ 1 0 + 1 then (if a = 2 then k else if a = 3 then t else if a = 4 then x else τ a b) else τ a b := by
  funext a b
  simp only [m_put, st2]
  grind
theorem m_put_0 (τ : Hp) (k t x : Int) : m_put τ k t x 1 0 = τ 1 0 + 1 := by simp [m_put_eq]
theorem m_put_4 (τ : Hp) (k t x : Int) : m_put τ k t x 4 (τ 1 0 + 1) = x := by simp [m_put_eq]
theorem m_spill_fr (τ : Hp) (g : Int) {a : Int} (h : a < 11 ∨ 18 < a) (h1 : a ≠ 1) : m_spill τ g a = τ a := by
  funext b
  simp only [m_spill, st2, m_cp]
  grind
theorem m_evict_fr (τ : Hp) {a : Int} (h : a < 11 ∨ 18 < a) (h1 : a ≠ 1) : m_evict τ a = τ a := by
  simp only [m_evict]
  have h18 : a ≠ 18 := by omega
  split
  · split
    · rw [st2_ne h18, m_spill_fr _ _ h h1]
    · rw [st2_ne h18]
  · rfl
theorem m_load_fr (τ : Hp) (g : Int) {a : Int} (h : a < 11 ∨ 18 < a) (h1 : a ≠ 1) : m_load τ g a = τ a := by
  funext b
  simp only [m_load, st2, m_cp]
  grind
theorem m_load_1 (τ : Hp) (g : Int) {i : Int} (h : i ≠ 20) : m_load τ g 1 i = τ 1 i := by
  simp only [m_load, st2, m_cp]
  grind
theorem m_fetch_fr (τ : Hp) (g : Int) {a : Int} (h : a < 11 ∨ 18 < a) (h1 : a ≠ 1) : m_fetch τ g a = τ a := by
  have h18 : a ≠ 18 := by omega
  simp only [m_fetch]
  rw [st2_ne h18]
  split
  · rw [m_load_fr _ _ h h1, m_evict_fr _ h h1, st2_ne h1]
  · rw [st2_ne h1]
theorem m_fetch_1 (τ : Hp) (g : Int) {i : Int} (h1 : i ≠ 1) (h2 : i ≠ 19) (h3 : i ≠ 20) (h4 : i ≠ 21) : m_fetch τ g 1 i = τ 1 i := by
  simp only [m_fetch]
  rw [st2_ne (by decide)]
  split
  · rw [m_load_1 _ _ h3, m_evict_1 _ h1 h4, st2_ii h2]
  · rw [st2_ii h2]
theorem m_waitsFor_fr {σ τ : Hp} (h : ∀ a : Int, a ≠ 27 → τ a = σ a) (t u : Int) : m_waitsFor τ t u = m_waitsFor σ t u := by
  unfold m_waitsFor m_conflicts m_ahead m_lk
  rw [h 19 (by decide), h 22 (by decide), h 23 (by decide), h 25 (by decide), h 26 (by decide)]
def mL (σ : Hp) : Prop := 0 ≤ σ 1 22 ∧ σ 1 22 ≤ 60 ∧ ∀ u : Int, 0 ≤ u → u ≤ 60 → 0 ≤ σ 22 u ∧ σ 22 u ≤ 99
theorem m_unlock_0 (τ : Hp) (t : Int) : m_unlock τ t 0 = τ := by
  funext a b
  simp only [m_unlock]
  grind
theorem m_unlock_step {τ : Hp} {t x : Int} (h : 0 ≤ x) : st2 (m_unlock τ t x) 26 (100 * t + x) 0 = m_unlock τ t (x + 1) := by
  funext a b
  simp only [m_unlock, st2]
  grind
