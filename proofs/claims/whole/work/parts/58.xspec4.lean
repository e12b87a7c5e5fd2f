-- ===== the class's calls as functions =====
def xF (n : Nat) (σ : Hp) : Prop := 85 ≤ n ∧ n ≤ 145 ∧ σ 1 5 = (n : Int) - 85 ∧ ∀ t : Int, 1 ≤ t → t ≤ σ 1 5 → σ 85 t = 85 + t
def f_find (σ : Hp) (t : Int) : Int := if 1 ≤ t ∧ t ≤ σ 1 5 then 85 + t else 0
def f_readFor (σ : Hp) (one : Int) : Hp :=
  if f_placeOf σ (σ one 6) = -1 then st2 (st2 σ one 4 0) one 3 0
  else st2 (st2 (f_fetch σ (f_placeOf σ (σ one 6) / 4)) one 4 (f_valueAt (f_fetch σ (f_placeOf σ (σ one 6) / 4)) (f_placeOf σ (σ one 6)))) one 3 0
def f_target (σ : Hp) (one : Int) : Int := if f_placeOf σ (σ one 6) = -1 then f_placeOf σ (-1) else f_placeOf σ (σ one 6)
def f_upd (σ : Hp) (one x : Int) : Hp :=
  let a := f_fetch σ (x / 4)
  st2 (f_apply (f_addUpdate a (a one 0) x (f_keyAt a x) (f_valueAt a x) (a one 6) (a one 8)) (a 2 11 + 1)) one 3 0
def f_writeFor (σ : Hp) (one : Int) : Hp := if 60 ≤ σ 2 13 ∨ f_target σ one = -1 then st2 σ one 3 3 else f_upd σ one (f_target σ one)
def f_grant (σ : Hp) (one : Int) : Hp := if st2 (f_hold σ one) one 2 1 one 7 = 1 then f_readFor (st2 (f_hold σ one) one 2 1) one else f_writeFor (st2 (f_hold σ one) one 2 1) one
def f_rbL (one : Int) : Nat → Hp → Hp
  | 0, σ => σ
  | k + 1, σ => f_rbL one k (if σ 4 ((k : Int) + 1) = σ one 0 ∧ f_isOpen σ ((k : Int) + 1) = true then f_takeBack σ ((k : Int) + 1) else σ)
def f_rollBack (σ : Hp) (one : Int) : Hp := f_leaveT (f_rbL one (σ 2 11).toNat σ) one 5
def f_stL : Nat → Hp → Hp
  | 0, σ => σ
  | k + 1, σ => if f_lsc σ 4 = 0 then (if f_ffw σ 4 = 0 then σ else f_stL k (f_grant σ (f_ffw σ 4))) else f_stL k (f_leaveT σ (f_lsc σ 4) 4)
def f_settle (σ : Hp) : Hp := f_stL 4 σ
def f_cu (σ : Hp) (x : Int) : Hp := fun v i => if 86 ≤ v ∧ v < 85 + x ∧ i = 2 ∧ σ v 2 = 6 then (if σ 11 (v - 85) = 0 then 5 else 4) else σ v i
def f_comeUp (σ : Hp) : Hp := f_cu (st2 σ 1 8 1) (σ 1 5 + 1)
def f_req2 (σ : Hp) (one : Int) : Hp := if f_isFit σ one = true then f_grant σ one else if f_wfi (st2 (st2 σ one 2 2) one 3 1) one = true then f_rollBack (st2 (st2 (st2 σ one 2 2) one 3 1) one 3 2) one else st2 (st2 σ one 2 2) one 3 1
def f_ask1 (σ : Hp) (one k w v : Int) : Hp := f_ask (st2 σ 1 6 (σ 1 6 + 1)) one (st2 σ 1 6 (σ 1 6 + 1) 1 6) k w v
def f_isAct (σ : Hp) (t : Int) : Prop := 1 ≤ t ∧ t ≤ σ 1 5 ∧ σ (85 + t) 2 = 1
def f_rsL : Nat → Int → Hp → Int × Hp
  | 0, x, σ => (x, σ)
  | k + 1, x, σ => if ¬ σ 1 8 = 0 then (x, σ) else f_rsL k (x + 1) (if f_finished (f_unit σ) = true then f_comeUp (f_unit σ) else f_unit σ)
theorem f_placeOf_b (σ : Hp) (key : Int) : f_placeOf σ key = -1 ∨ (0 ≤ f_placeOf σ key ∧ f_placeOf σ key < 24) := by
  have h := srch_spec (fun x => decide (f_keyAt σ x = key)) 24 0
  have e : srch (fun x => decide (f_keyAt σ x = key)) 0 24 = f_placeOf σ key := rfl
  rw [e] at h
  rcases h with ⟨a, -⟩ | ⟨a, b, -⟩
  · left; exact a
  · right; omega
theorem f_addUpdate_5 (σ : Hp) (o pl kb vb k v : Int) : f_addUpdate σ o pl kb vb k v 5 (σ 2 11 + 1) = pl := by
  simp [f_addUpdate, st2]
theorem f_cu_1 (σ : Hp) : f_cu σ 1 = σ := by
  funext v i
  simp only [f_cu]
  rw [if_neg (by omega)]
theorem f_cu_fr (σ : Hp) (x : Int) {v : Int} (h : v < 86) : f_cu σ x v = σ v := by
  funext i
  simp only [f_cu]
  rw [if_neg (by omega)]
theorem f_ms_12 (σ : Hp) (u : Int) : f_ms σ u 2 12 = if σ 2 12 < u then u else σ 2 12 := by
  simp only [f_ms]; split
  · exact st2_eq
  · rfl
