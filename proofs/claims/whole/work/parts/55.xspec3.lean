-- ===== the class's live table as functions =====
def xS (n : Nat) (σ : Hp) : Prop := ∀ s : Int, 0 ≤ s → s < 4 → σ 77 s = 0 ∨ (86 ≤ σ 77 s ∧ σ 77 s ≤ (n : Int))
def xT (n : Nat) (σ : Hp) : Prop := ∀ v : Int, 86 ≤ v → v ≤ (n : Int) → (0 ≤ σ v 0 ∧ σ v 0 ≤ 60) ∧ (0 ≤ σ v 1 ∧ σ v 1 < 4) ∧ (0 ≤ σ v 6 ∧ σ v 6 ≤ 99)
def f_freeSeat (σ : Hp) : Int := srch (fun s => decide (σ 77 s = 0)) 0 4
def f_enter (σ : Hp) (one : Int) : Hp := st2 σ 77 (σ one 1) one
def f_zero (σ : Hp) (s x : Int) : Hp := fun v i => if v = 79 + s ∧ 0 ≤ i ∧ i < x then 0 else σ v i
def f_leaveT (σ : Hp) (one q : Int) : Hp := f_zero (st2 (st2 σ one 2 q) 77 (σ one 1) 0) (σ one 1) 100
def f_ldL : Nat → Int → Hp → Hp
  | 0, _, σ => σ
  | k + 1, s, σ => f_ldL k (s + 1) (if σ 77 s = 0 then σ else f_leaveT σ (σ 77 s) 6)
def f_hold (σ : Hp) (one : Int) : Hp := st2 σ (79 + σ one 1) (σ one 6) (if σ (79 + σ one 1) (σ one 6) < σ one 7 then σ one 7 else σ (79 + σ one 1) (σ one 6))
def f_conf (h w : Int) : Bool := decide (h = 2) || (decide (h = 1) && decide (w = 2))
def f_earl (σ : Hp) (one o : Int) : Bool := decide (σ o 2 = 2) && decide (σ o 6 = σ one 6) && decide (σ o 5 < σ one 5)
def f_ob (σ : Hp) (one s : Int) : Bool := decide (¬ σ 77 s = 0) && decide (¬ σ 77 s = one) && (f_conf (σ (79 + s) (σ one 6)) (σ one 7) || (decide (σ (79 + σ one 1) (σ one 6) = 0) && f_earl σ one (σ 77 s)))
def f_obs (σ : Hp) (one : Int) : Nat → Int
  | 0 => 0
  | s + 1 => if f_ob σ one (s : Int) = true then bor (f_obs σ one s) (bsh (s : Int)) else f_obs σ one s
def f_isFit (σ : Hp) (one : Int) : Bool := decide (σ one 7 ≤ σ (79 + σ one 1) (σ one 6)) || decide (f_obs σ one 4 = 0)
def f_stp (σ : Hp) (m : Int) : Nat → Int
  | 0 => 0
  | s + 1 => if bsr m (s : Int) % 2 = 1 ∧ ¬ σ 77 (s : Int) = 0 ∧ σ (σ 77 (s : Int)) 2 = 2 then bor (f_stp σ m s) (f_obs σ (σ 77 (s : Int)) 4) else f_stp σ m s
def f_rch (σ : Hp) : Nat → Int → Int
  | 0, m => m
  | k + 1, m => f_rch σ k (bor m (f_stp σ m 4))
def f_wfi (σ : Hp) (one : Int) : Bool := decide (bsr (f_rch σ 3 (f_obs σ one 4)) (σ one 1) % 2 = 1)
def f_lsc (σ : Hp) : Nat → Int
  | 0 => 0
  | s + 1 => if ¬ σ 77 (s : Int) = 0 ∧ σ (σ 77 (s : Int)) 2 = 3 ∧ σ 11 (σ (σ 77 (s : Int)) 0) ≤ σ 2 12 ∧ (f_lsc σ s = 0 ∨ σ 11 (σ (σ 77 (s : Int)) 0) < σ 11 (σ (f_lsc σ s) 0)) then σ 77 (s : Int) else f_lsc σ s
def f_ffw (σ : Hp) : Nat → Int
  | 0 => 0
  | s + 1 => if ¬ σ 77 (s : Int) = 0 ∧ σ (σ 77 (s : Int)) 2 = 2 ∧ (f_ffw σ s = 0 ∨ σ (σ 77 (s : Int)) 5 < σ (f_ffw σ s) 5) ∧ f_isFit σ (σ 77 (s : Int)) = true then σ 77 (s : Int) else f_ffw σ s
theorem f_obs_lt (σ : Hp) (one : Int) : ∀ k : Nat, k ≤ 4 → 0 ≤ f_obs σ one k ∧ f_obs σ one k < 16
  | 0, _ => ⟨Int.le_refl 0, by show (0 : Int) < 16; decide⟩
  | k + 1, h => by
    have h1 := f_obs_lt σ one k (by omega)
    unfold f_obs
    split
    · exact bor_lt h1.2 (bsh_lt (by omega) (by omega)).2
    · exact h1
theorem f_stp_lt (σ : Hp) (m : Int) : ∀ k : Nat, k ≤ 4 → 0 ≤ f_stp σ m k ∧ f_stp σ m k < 16
  | 0, _ => ⟨Int.le_refl 0, by show (0 : Int) < 16; decide⟩
  | k + 1, h => by
    have h1 := f_stp_lt σ m k (by omega)
    unfold f_stp
    split
    · exact bor_lt h1.2 (f_obs_lt σ _ 4 (by omega)).2
    · exact h1
theorem f_zero_0 (σ : Hp) (s : Int) : f_zero σ s 0 = σ := by
  funext v i
  simp only [f_zero]
  rw [if_neg (by omega)]
theorem f_zero_step {σ : Hp} {s x : Int} (h : 0 ≤ x) : st2 (f_zero σ s x) (79 + s) x 0 = f_zero σ s (x + 1) := by
  funext v i
  simp only [f_zero, st2]
  grind
theorem f_zero_fr (σ : Hp) (s x : Int) {v : Int} (h : v ≠ 79 + s) : f_zero σ s x v = σ v := by
  funext i
  simp [f_zero, h]
theorem f_lsc_b {n : Nat} {σ : Hp} (hS : xS n σ) : ∀ k : Nat, k ≤ 4 → f_lsc σ k = 0 ∨ (86 ≤ f_lsc σ k ∧ f_lsc σ k ≤ (n : Int))
  | 0, _ => Or.inl rfl
  | k + 1, h => by
    have h1 := f_lsc_b hS k (by omega)
    unfold f_lsc
    split
    · exact hS (k : Int) (by omega) (by omega)
    · exact h1
theorem f_ffw_b {n : Nat} {σ : Hp} (hS : xS n σ) : ∀ k : Nat, k ≤ 4 → f_ffw σ k = 0 ∨ (86 ≤ f_ffw σ k ∧ f_ffw σ k ≤ (n : Int))
  | 0, _ => Or.inl rfl
  | k + 1, h => by
    have h1 := f_ffw_b hS k (by omega)
    unfold f_ffw
    split
    · exact hS (k : Int) (by omega) (by omega)
    · exact h1
theorem f_leaveT_77 (σ : Hp) {one q : Int} (h : 86 ≤ one) (hs : 0 ≤ σ one 1) : f_leaveT σ one q 77 = st2 σ 77 (σ one 1) 0 77 := by
  rw [f_leaveT, f_zero_fr _ _ _ (by omega)]
  funext b
  have h7 : ¬ (77 : Int) = one := by omega
  simp [st2, h7]
theorem f_leaveT_T (σ : Hp) {one q v : Int} (h : 86 ≤ v) (hs : σ one 1 < 4) {b : Int} (hb : b ≠ 2) : f_leaveT σ one q v b = σ v b := by
  rw [f_leaveT, f_zero_fr _ _ _ (by omega), st2_ne (by omega)]
  simp [st2, hb]
