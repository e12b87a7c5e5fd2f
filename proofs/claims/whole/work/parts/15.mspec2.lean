-- ===== the reference's public calls, the restart: literally =====
def m_req2 (τ1 : Hp) (t : Int) : Hp := if m_fit τ1 t = true then m_grant τ1 t else if m_ring (m_wait τ1 t) t 27 t = 0 then m_ring (m_wait τ1 t) t else m_drop (st2 (m_ring (m_wait τ1 t) t) 20 t 2) t
def m_request (τ : Hp) (t key what v : Int) : Int × Hp := if m_isIn τ t 1 = true ∧ 0 ≤ key ∧ key ≤ 99 then (m_req2 (m_ask τ t key what v) t 20 t, m_settle (m_req2 (m_ask τ t key what v) t)) else (-1, τ)
def m_ck0 (τ : Hp) (x : Int) : Hp := fun a b => if a = 10 ∧ 6 * τ 1 0 ≤ b ∧ b < 6 * τ 1 0 + x then (if 0 < τ 18 (b - 6 * τ 1 0) then τ 17 (b - 6 * τ 1 0) else 0) else τ a b
def m_cr0 (τ : Hp) (k : Int) : Hp :=
  let τ1 := st2 τ 1 33 (τ 1 33 + 1)
  let τ2 := st2 τ1 1 1 (if τ1 1 0 - τ1 1 1 < k then τ1 1 0 else τ1 1 1 + k)
  let τ3 := st2 τ2 1 0 (τ2 1 1)
  st2 (st2 τ3 1 32 1) 1 34 0
def m_cr1 (τ : Hp) (x : Int) : Hp := fun a b => if (a = 17 ∨ a = 18) ∧ 0 ≤ b ∧ b < x then 0 else τ a b
def m_cr2 (τ : Hp) (x : Int) : Hp := fun a b => if a = 19 ∧ 1 ≤ b ∧ b < x ∧ m_live τ b = true then 6 else if a = 26 ∧ 1 ≤ b / 100 ∧ b / 100 < x ∧ m_live τ (b / 100) = true then 0 else τ a b
def m_crashS (τ : Hp) (k : Int) : Hp := m_cr2 (m_cr1 (m_cr0 τ k) 6) (τ 1 22 + 1)
def m_lastCk (τ : Hp) : Int := srchD (fun i => decide (τ 2 i = 4)) (τ 1 0).toNat
def m_chg (τ : Hp) (g i : Int) : Bool := decide (τ 2 i < 3) && decide (τ 4 i / 4 = g)
def m_firstCh (τ : Hp) (c g : Int) : Int := if srch (m_chg τ g) (c + 1) (τ 1 0 - c).toNat < 0 then 0 else srch (m_chg τ g) (c + 1) (τ 1 0 - c).toNat
def m_tab (τ : Hp) (c g : Int) : Int := if 0 < c ∧ ¬ τ 10 (6 * c + g) = 0 then τ 10 (6 * c + g) else m_firstCh τ c g
def m_nxt (τ : Hp) (c : Int) : Nat → Int
  | 0 => τ 1 0 + 1
  | g + 1 => if 0 < m_tab τ c (g : Int) ∧ m_tab τ c (g : Int) < m_nxt τ c g then m_tab τ c (g : Int) else m_nxt τ c g
def m_an (τ : Hp) (x : Nat) : Hp := fun a b => if a = 28 ∧ 0 ≤ b ∧ b < (x : Int) then m_tab τ (m_lastCk τ) b else if a = 1 ∧ b = 35 then m_nxt τ (m_lastCk τ) x else τ a b
def m_analyse (τ : Hp) : Hp := st2 (m_an τ 6) 1 34 1
def m_redo (τ : Hp) (i : Int) : Hp :=
  if τ 2 i < 3 ∧ 0 < τ 28 (τ 4 i / 4) ∧ τ 28 (τ 4 i / 4) ≤ i then (if m_fetch τ (τ 4 i / 4) 16 (τ 4 i / 4) < i then m_apply (m_fetch τ (τ 4 i / 4)) i else m_fetch τ (τ 4 i / 4)) else τ
def m_fin (τ : Hp) (x : Int) : Hp := fun a b => if a = 19 ∧ 1 ≤ b ∧ b < x ∧ τ 19 b = 6 then (if m_committed τ b = true then 4 else 5) else τ a b
def m_finish (τ : Hp) : Hp := m_fin (st2 τ 1 32 0) (τ 1 22 + 1)
def m_unit1 (τ : Hp) : Hp :=
  if τ 1 34 = 0 then m_analyse τ
  else if τ 1 35 ≤ τ 1 0 ∧ τ 1 35 < 1000 then st2 (m_redo τ (τ 1 35)) 1 35 (m_redo τ (τ 1 35) 1 35 + 1)
  else m_takeBack τ (m_open τ 0)
def m_unit2 (τ : Hp) : Hp := st2 τ 1 35 (if τ 1 0 < τ 1 35 then 1000 else τ 1 35)
def m_unit3 (τ : Hp) : Hp := if τ 1 35 = 1000 ∧ m_open τ 0 = 0 then m_finish τ else τ
def m_unit (τ : Hp) : Hp := m_unit3 (m_unit2 (m_unit1 τ))
def m_rsL : Nat → Int → Hp → Int × Hp
  | 0, x, τ => (x, τ)
  | k + 1, x, τ => if τ 1 32 = 0 then (x, τ) else m_rsL k (x + 1) (m_unit τ)
def m_restart (τ : Hp) (n : Int) : Int × Hp := if τ 1 32 = 0 ∨ n < 1 ∨ 100 < n then (-1, τ) else m_rsL n.toNat 0 τ
def m_place (τ : Hp) (key : Int) : Int := if key < 0 ∨ 99 < key then -1 else m_find τ key
def m_known (τ : Hp) (t : Int) : Bool := decide (1 ≤ t) && decide (t ≤ τ 1 22)
def m_afterA (τ : Hp) (key : Int) : Int := if τ 1 32 = 0 then m_after τ key else -1
def m_pageA (τ : Hp) (p w : Int) : Int := if p < 0 ∨ 5 < p ∨ w < 0 ∨ 2 < w then -1 else if w = 2 then τ 13 p else if τ 18 p = 0 then -1 else if w = 0 then τ 17 p else τ 16 p
theorem m_find_lt (τ : Hp) (key : Int) : -1 ≤ m_find τ key ∧ m_find τ key < 24 := by
  have h := srch_spec (fun x => decide (m_keyAt τ x = key)) 24 0
  have e : srch (fun x => decide (m_keyAt τ x = key)) 0 24 = m_find τ key := rfl
  rw [e] at h
  rcases h with ⟨a, -⟩ | ⟨a, b, -⟩ <;> omega
theorem m_open_le (τ : Hp) (t : Int) (h : 0 ≤ τ 1 0) : 0 ≤ m_open τ t ∧ m_open τ t ≤ τ 1 0 := by
  have h2 := srchD_spec (m_good τ t) (τ 1 0).toNat
  have e : srchD (m_good τ t) (τ 1 0).toNat = m_open τ t := rfl
  rw [e] at h2
  rcases h2 with ⟨a, -⟩ | ⟨a, b, -⟩ <;> omega
theorem m_ck0_0 (τ : Hp) : m_ck0 τ 0 = τ := by
  funext a b
  simp only [m_ck0]
  grind
theorem m_ck0_step {τ : Hp} {x : Int} (h : 0 ≤ x) : st2 (m_ck0 τ x) 10 (6 * τ 1 0 + x) (if 0 < τ 18 x then τ 17 x else 0) = m_ck0 τ (x + 1) := by
  funext a b
  simp only [m_ck0, st2]
  by_cases hb : b = 6 * τ 1 0 + x
  · have : b - 6 * τ 1 0 = x := by omega
    rw [this]
    grind
  · grind
theorem m_ck0_fr (τ : Hp) (x : Int) {a : Int} (h : a ≠ 10) : m_ck0 τ x a = τ a := by
  funext b
  simp [m_ck0, h]
theorem m_cr1_0 (τ : Hp) : m_cr1 τ 0 = τ := by
  funext a b
  simp only [m_cr1]
  grind
theorem m_cr1_step {τ : Hp} {x : Int} (h : 0 ≤ x) : st2 (st2 (m_cr1 τ x) 18 x 0) 17 x 0 = m_cr1 τ (x + 1) := by
  funext a b
  simp only [m_cr1, st2]
  grind
theorem m_cr1_fr (τ : Hp) (x : Int) {a : Int} (h1 : a ≠ 17) (h2 : a ≠ 18) : m_cr1 τ x a = τ a := by
  funext b
  simp [m_cr1, h1, h2]
theorem m_cr2_1 (τ : Hp) : m_cr2 τ 1 = τ := by
  funext a b
  simp only [m_cr2]
  grind
theorem m_cr2_no {τ : Hp} {x : Int} (h : m_live τ x = false) : m_cr2 τ x = m_cr2 τ (x + 1) := by
  funext a b
  simp only [m_cr2]
  by_cases hb : b = x
  · subst hb
    by_cases hc : b / 100 = b
    · rw [hc]; grind
    · grind
  · by_cases hc : b / 100 = x
    · rw [hc]; grind
    · grind
theorem m_cr2_yes {τ : Hp} {x : Int} (h1 : 1 ≤ x) (h : m_live τ x = true) : m_unlock (st2 (m_cr2 τ x) 19 x 6) x 100 = m_cr2 τ (x + 1) := by
  funext a b
  simp only [m_cr2, st2, m_unlock]
  by_cases hb : b = x
  · subst hb
    by_cases hc : b / 100 = b
    · rw [hc]; grind
    · grind
  · by_cases hc : b / 100 = x
    · rw [hc]; grind
    · grind
theorem m_cr2_fr (τ : Hp) (x : Int) {a : Int} (h1 : a ≠ 19) (h2 : a ≠ 26) : m_cr2 τ x a = τ a := by
  funext b
  simp [m_cr2, h1, h2]
theorem m_cr2_ge {τ : Hp} {x y : Int} (h : x ≤ y) : m_cr2 τ x 19 y = τ 19 y := by
  simp only [m_cr2]
  grind
theorem m_fin_1 (τ : Hp) : m_fin τ 1 = τ := by
  funext a b
  simp only [m_fin]
  grind
theorem m_committed_c {σ τ : Hp} (h1 : τ 1 0 = σ 1 0) (h2 : τ 2 = σ 2) (h3 : τ 3 = σ 3) (t : Int) : m_committed τ t = m_committed σ t := by
  unfold m_committed
  rw [h1, h2, h3]
theorem m_rsL_x (k : Nat) : ∀ (x : Int) (τ : Hp), 0 ≤ x → x ≤ (m_rsL k x τ).1 ∧ (m_rsL k x τ).1 ≤ x + k := by
  induction k with
  | zero => intro x τ h; exact ⟨Int.le_refl _, by simp [m_rsL]⟩
  | succ k ih =>
    intro x τ h
    unfold m_rsL
    split
    · exact ⟨Int.le_refl _, by show x ≤ x + _; omega⟩
    · have := ih (x + 1) (m_unit τ) (by omega)
      omega
