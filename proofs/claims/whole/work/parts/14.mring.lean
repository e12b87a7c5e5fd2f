-- ===== the ring: literally =====
def m_r0 (t : Int) : Nat → Int → Hp → Hp
  | 0, _, τ => τ
  | k + 1, u, τ => m_r0 t k (u + 1) (st2 τ 27 u (b2i (m_waitsFor τ t u)))
def m_rv (u : Int) : Nat → Int → Hp → Hp
  | 0, _, τ => τ
  | k + 1, v, τ => if τ 27 u = 0 then τ else m_rv u k (v + 1) (st2 τ 27 v (if ¬ τ 27 v = 0 ∨ m_waitsFor τ u v = true then 1 else 0))
def m_ru (B : Nat) : Nat → Int → Hp → Hp
  | 0, _, τ => τ
  | k + 1, u, τ => m_ru B k (u + 1) (m_rv u B 1 τ)
def m_rr (B : Nat) : Nat → Hp → Hp
  | 0, τ => τ
  | k + 1, τ => m_rr B k (m_ru B B 1 τ)
def m_ring (τ : Hp) (t : Int) : Hp := m_rr (τ 1 22).toNat 4 (m_r0 t (τ 1 22).toNat 1 τ)
theorem st2_fr {σ τ : Hp} (h : ∀ a : Int, a ≠ 27 → τ a = σ a) (i v : Int) : ∀ a : Int, a ≠ 27 → st2 τ 27 i v a = σ a := fun a ha => by rw [st2_ne ha]; exact h a ha
theorem m_r0_fr {σ : Hp} {t : Int} : ∀ (k : Nat) (u : Int) (τ : Hp), (∀ a : Int, a ≠ 27 → τ a = σ a) → ∀ a : Int, a ≠ 27 → m_r0 t k u τ a = σ a
  | 0, _, _, h => h
  | k + 1, u, τ, h => m_r0_fr k (u + 1) _ (st2_fr h _ _)
theorem m_rv_fr {σ : Hp} {u : Int} : ∀ (k : Nat) (v : Int) (τ : Hp), (∀ a : Int, a ≠ 27 → τ a = σ a) → ∀ a : Int, a ≠ 27 → m_rv u k v τ a = σ a
  | 0, _, _, h => h
  | k + 1, v, τ, h => by
    intro a ha
    unfold m_rv
    split
    · exact h a ha
    · exact m_rv_fr k (v + 1) _ (st2_fr h _ _) a ha
theorem m_ru_fr {σ : Hp} {B : Nat} : ∀ (k : Nat) (u : Int) (τ : Hp), (∀ a : Int, a ≠ 27 → τ a = σ a) → ∀ a : Int, a ≠ 27 → m_ru B k u τ a = σ a
  | 0, _, _, h => h
  | k + 1, u, τ, h => m_ru_fr k (u + 1) _ (m_rv_fr B 1 τ h)
theorem m_rr_fr {σ : Hp} {B : Nat} : ∀ (k : Nat) (τ : Hp), (∀ a : Int, a ≠ 27 → τ a = σ a) → ∀ a : Int, a ≠ 27 → m_rr B k τ a = σ a
  | 0, _, h => h
  | k + 1, τ, h => m_rr_fr k _ (m_ru_fr B 1 τ h)
theorem m_ff_le (τ : Hp) : ∀ k : Nat, 0 ≤ m_ff τ k ∧ m_ff τ k ≤ (k : Int)
  | 0 => ⟨Int.le_refl 0, Int.le_refl 0⟩
  | k + 1 => by
    have h := m_ff_le τ k
    unfold m_ff
    split <;> omega
theorem m_lock_fr (σ : Hp) (t : Int) {a : Int} (h1 : a ≠ 19) (h2 : a ≠ 20) (h3 : a ≠ 26) : m_lock σ t a = σ a := by
  simp only [m_lock]
  rw [st2_ne h2, st2_ne h1]
  split
  · rw [st2_ne h3]
  · rfl
