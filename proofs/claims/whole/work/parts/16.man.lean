-- ===== the analysis: facts =====
theorem m_an_0 (τ : Hp) : m_an τ 0 = st2 τ 1 35 (τ 1 0 + 1) := by
  funext a b
  simp only [m_an, st2, m_nxt]
  grind
theorem m_an_fr (τ : Hp) (x : Nat) {a : Int} (h1 : a ≠ 28) (h2 : a ≠ 1) : m_an τ x a = τ a := by
  funext b
  simp [m_an, h1, h2]
theorem m_an_1 (τ : Hp) (x : Nat) {b : Int} (h : b ≠ 35) : m_an τ x 1 b = τ 1 b := by
  simp [m_an, h]
theorem m_an_step (τ : Hp) (x : Nat) : st2 (st2 (m_an τ x) 28 (x : Int) (m_tab τ (m_lastCk τ) (x : Int))) 1 35 (m_nxt τ (m_lastCk τ) (x + 1)) = m_an τ (x + 1) := by
  funext a b
  simp only [m_an, st2]
  by_cases ha : a = 28
  · subst ha
    by_cases hb : b = (x : Int)
    · subst hb
      simp; omega
    · have h1 : (0 ≤ b ∧ b < (x : Int)) ↔ (0 ≤ b ∧ b < ((x + 1 : Nat) : Int)) := by omega
      simp [hb, h1]
  · simp [ha]
    grind
theorem srch_dn {p : Int → Bool} {i n : Int} (h1 : i ≤ n) : (if srch p i (n + 1 - i).toNat < 0 then 0 else srch p i (n + 1 - i).toNat) = if p i = true then (if i < 0 then 0 else i) else (if srch p (i + 1) (n - i).toNat < 0 then 0 else srch p (i + 1) (n - i).toNat) := by
  rw [show (n + 1 - i).toNat = (n - i).toNat + 1 by omega]
  rw [show srch p i ((n - i).toNat + 1) = if p i = true then i else srch p (i + 1) (n - i).toNat from rfl]
  split <;> rfl
