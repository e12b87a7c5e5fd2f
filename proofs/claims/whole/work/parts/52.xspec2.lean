-- ===== the class's pool and recovery as functions =====
def f_writeOut (σ : Hp) (p : Int) : Hp :=
  let τ1 := f_ms σ (σ (43 + 6 * p) 2)
  let τ2 := f_copy τ1 (40 + 6 * p) (43 + 6 * p)
  let τ3 := st2 τ2 38 p 0
  st2 τ3 34 8 (τ3 34 8 + 1)
def f_scan (σ : Hp) : Nat → Int × Int
  | 0 => (0, -1)
  | k + 1 => if σ 37 (k : Int) = 0 then f_scan σ k else ((f_scan σ k).1 + 1, if (f_scan σ k).2 = -1 ∨ σ 39 (k : Int) < σ 39 (f_scan σ k).2 then (k : Int) else (f_scan σ k).2)
def f_leave (σ : Hp) : Int := if (f_scan σ 6).1 < 3 then -1 else (f_scan σ 6).2
def f_evict (σ : Hp) : Hp := if f_leave σ = -1 then σ else st2 (if σ 38 (f_leave σ) = 0 then σ else f_writeOut σ (f_leave σ)) 37 (f_leave σ) 0
def f_load (σ : Hp) (p : Int) : Hp :=
  let τ1 := f_copy (f_evict σ) (43 + 6 * p) (40 + 6 * p)
  let τ2 := st2 τ1 37 p 1
  st2 τ2 34 7 (τ2 34 7 + 1)
def f_fetch (σ : Hp) (p : Int) : Hp :=
  let τ := if σ 37 p = 0 then f_load σ p else σ
  let τ1 := st2 τ 34 6 (τ 34 6 + 1)
  st2 τ1 39 p (τ1 34 6)
def f_empty (σ : Hp) (x : Int) : Hp := fun v i => if (v = 37 ∨ v = 38) ∧ 0 ≤ i ∧ i < x then 0 else σ v i
def f_seen (σ : Hp) (p : Int) : Int := if σ 37 p = 0 then 40 + 6 * p else 43 + 6 * p
def f_keyAt (σ : Hp) (x : Int) : Int := σ (f_seen σ (x / 4) + 1) (x % 4)
def f_valueAt (σ : Hp) (x : Int) : Int := σ (f_seen σ (x / 4) + 2) (x % 4)
def f_placeOf (σ : Hp) (key : Int) : Int := srch (fun x => decide (f_keyAt σ x = key)) 0 24
def f_lka (σ : Hp) (b : Int) : Nat → Int
  | 0 => -1
  | k + 1 => if ¬ f_keyAt σ (k : Int) = -1 ∧ b < f_keyAt σ (k : Int) ∧ (f_lka σ b k = -1 ∨ f_keyAt σ (k : Int) < f_lka σ b k) then f_keyAt σ (k : Int) else f_lka σ b k
def f_apply (σ : Hp) (r : Int) : Hp :=
  let p := σ 5 r / 4
  let s := σ 5 r % 4
  let τ1 := st2 σ (43 + 6 * p + 1) s (σ 8 r)
  let τ2 := st2 τ1 (43 + 6 * p + 2) s (τ1 9 r)
  let τ3 := st2 τ2 (43 + 6 * p) 2 r
  if τ3 38 p = 0 then st2 τ3 38 p r else τ3
def f_takeBack (σ : Hp) (u : Int) : Hp := f_apply (f_addClr (f_fetch σ (σ 5 u / 4)) u) (f_fetch σ (σ 5 u / 4) 2 11 + 1)
def f_redo (σ : Hp) (i : Int) : Hp := if f_fetch σ (σ 5 i / 4) (43 + 6 * (σ 5 i / 4)) 2 < i then f_apply (f_fetch σ (σ 5 i / 4)) i else f_fetch σ (σ 5 i / 4)
def f_ft1 (σ : Hp) (x : Int) : Hp := fun v i => if v = 84 ∧ 0 ≤ i ∧ i < x then (if σ 2 14 - 1 < 0 then 0 else σ (14 + (σ 2 14 - 1)) i) else σ v i
def f_ftL : Nat → Int → Hp → Hp
  | 0, _, σ => σ
  | k + 1, i, σ => f_ftL k (i + 1) (if f_isChange σ i = true ∧ σ 84 (σ 5 i / 4) = 0 then st2 σ 84 (σ 5 i / 4) i else σ)
def f_first (σ : Hp) : Int := if σ 2 14 - 1 < 0 then 1 else σ 12 (σ 2 14 - 1) + 1
def f_fill (σ : Hp) : Hp := f_ftL (σ 2 11 + 1 - f_first σ).toNat (f_first σ) (f_ft1 σ 6)
def f_nx (σ : Hp) : Nat → Int
  | 0 => σ 2 11 + 1
  | k + 1 => if σ 84 (k : Int) = 0 then f_nx σ k else (if σ 84 (k : Int) < f_nx σ k then σ 84 (k : Int) else f_nx σ k)
def f_an0 (σ : Hp) : Hp := st2 (f_fill σ) 83 5 (f_fill σ 2 11)
def f_analyse (σ : Hp) : Hp := st2 (st2 (f_an0 σ) 83 4 (f_nx (f_an0 σ) 6)) 83 3 1
def f_repeat (σ : Hp) : Hp :=
  let i := σ 83 4
  let τ := st2 σ 83 4 (σ 83 4 + 1)
  if f_isChange τ i = true ∧ ¬ τ 84 (τ 5 i / 4) = 0 ∧ τ 84 (τ 5 i / 4) ≤ i then f_redo τ i else τ
def f_undo (σ : Hp) : Hp := if f_gOpen σ = 0 then σ else f_takeBack σ (f_gOpen σ)
def f_unit (σ : Hp) : Hp := if σ 83 3 = 0 then f_analyse σ else if σ 83 4 ≤ σ 83 5 then f_repeat σ else f_undo σ
def f_finished (σ : Hp) : Bool := decide (¬ σ 83 3 = 0) && decide (σ 83 5 < σ 83 4) && decide (f_gOpen σ = 0)
theorem f_ms_fr (σ : Hp) (u : Int) {a : Int} (h : a ≠ 2) : f_ms σ u a = σ a := by
  simp only [f_ms]; split
  · rw [st2_ne h]
  · rfl
theorem f_ms_2 (σ : Hp) (u : Int) {b : Int} (h : b ≠ 12) : f_ms σ u 2 b = σ 2 b := by
  simp only [f_ms]; split
  · rw [st2_ii h]
  · rfl
theorem f_copy_fr (σ : Hp) (a b : Int) {v : Int} (h1 : v ≠ a) (h2 : v ≠ a + 1) (h3 : v ≠ a + 2) : f_copy σ a b v = σ v := by
  funext i
  simp only [f_copy]
  rw [st2_ne h1]
  simp [f_cp, h2, h3]
theorem f_writeOut_fr (σ : Hp) {p v : Int} (h0 : v < 40 ∨ 76 ≤ v) (hp : 0 ≤ p) (hp2 : p < 6) (h1 : v ≠ 2) (h2 : v ≠ 34) (h3 : v ≠ 38) : f_writeOut σ p v = σ v := by
  simp only [f_writeOut]
  rw [st2_ne h2, st2_ne h3, f_copy_fr _ _ _ (by omega) (by omega) (by omega), f_ms_fr _ _ h1]
theorem f_writeOut_2 (σ : Hp) {p b : Int} (hp : 0 ≤ p) (hb : b ≠ 12) : f_writeOut σ p 2 b = σ 2 b := by
  simp only [f_writeOut]
  rw [st2_ne (by decide), st2_ne (by decide), f_copy_fr _ _ _ (by omega) (by omega) (by omega), f_ms_2 _ _ hb]
theorem f_writeOut_34 (σ : Hp) {p b : Int} (hp : 0 ≤ p) (hb : b ≠ 8) : f_writeOut σ p 34 b = σ 34 b := by
  simp only [f_writeOut]
  rw [st2_ii hb, st2_ne (by decide), f_copy_fr _ _ _ (by omega) (by omega) (by omega), f_ms_fr _ _ (by decide)]
theorem f_scan_spec (σ : Hp) : ∀ k : Nat, 0 ≤ (f_scan σ k).1 ∧ (f_scan σ k).1 ≤ (k : Int) ∧ (((f_scan σ k).1 = 0 ∧ (f_scan σ k).2 = -1) ∨ (0 < (f_scan σ k).1 ∧ 0 ≤ (f_scan σ k).2 ∧ (f_scan σ k).2 < (k : Int)))
  | 0 => ⟨Int.le_refl 0, Int.le_refl 0, Or.inl ⟨rfl, rfl⟩⟩
  | k + 1 => by
    obtain ⟨h1, h2, h3⟩ := f_scan_spec σ k
    unfold f_scan
    split
    · exact ⟨h1, by omega, by omega⟩
    · dsimp only
      refine ⟨by omega, by omega, Or.inr ⟨by omega, ?_⟩⟩
      split <;> omega
theorem f_leave_b (σ : Hp) : f_leave σ = -1 ∨ (0 ≤ f_leave σ ∧ f_leave σ < 6) := by
  have h := f_scan_spec σ 6
  simp only [f_leave]
  split
  · left; rfl
  · right; omega
theorem f_evict_fr (σ : Hp) {v : Int} (h0 : v < 34 ∨ v = 35 ∨ v = 36 ∨ v = 39 ∨ 76 ≤ v) (h1 : v ≠ 2) : f_evict σ v = σ v := by
  simp only [f_evict]
  have h := f_leave_b σ
  split
  · rfl
  · rw [st2_ne (by omega)]
    split
    · rfl
    · rw [f_writeOut_fr _ (by omega) (by omega) (by omega) h1 (by omega) (by omega)]
theorem f_evict_2 (σ : Hp) {b : Int} (hb : b ≠ 12) : f_evict σ 2 b = σ 2 b := by
  simp only [f_evict]
  have h := f_leave_b σ
  split
  · rfl
  · rw [st2_ne (by decide)]
    split
    · rfl
    · rw [f_writeOut_2 _ (by omega) hb]
theorem f_evict_34 (σ : Hp) {b : Int} (hb : b ≠ 8) : f_evict σ 34 b = σ 34 b := by
  simp only [f_evict]
  have h := f_leave_b σ
  split
  · rfl
  · rw [st2_ne (by decide)]
    split
    · rfl
    · rw [f_writeOut_34 _ (by omega) hb]
theorem f_fetch_fr (σ : Hp) {p v : Int} (hp : 0 ≤ p) (hp2 : p < 6) (h0 : v < 34 ∨ v = 35 ∨ v = 36 ∨ 76 ≤ v) (h1 : v ≠ 2) : f_fetch σ p v = σ v := by
  simp only [f_fetch]
  rw [st2_ne (by omega), st2_ne (by omega)]
  split
  · simp only [f_load]
    rw [st2_ne (by omega), st2_ne (by omega), f_copy_fr _ _ _ (by omega) (by omega) (by omega), f_evict_fr _ (by omega) h1]
  · rfl
theorem f_fetch_2 (σ : Hp) {p b : Int} (hp : 0 ≤ p) (hb : b ≠ 12) : f_fetch σ p 2 b = σ 2 b := by
  simp only [f_fetch]
  rw [st2_ne (by decide), st2_ne (by decide)]
  split
  · simp only [f_load]
    rw [st2_ne (by decide), st2_ne (by decide), f_copy_fr _ _ _ (by omega) (by omega) (by omega), f_evict_2 _ hb]
  · rfl
theorem f_seen_b (σ : Hp) {p : Int} (h0 : 0 ≤ p) (h1 : p < 6) : 40 ≤ f_seen σ p ∧ f_seen σ p < 76 ∧ (f_seen σ p - 40) % 3 = 0 := by
  simp only [f_seen]; split <;> omega
theorem f_empty_0 (σ : Hp) : f_empty σ 0 = σ := by
  funext v i
  simp only [f_empty]
  rw [if_neg (by omega)]
theorem f_empty_step {σ : Hp} {x : Int} (h : 0 ≤ x) : st2 (st2 (f_empty σ x) 37 x 0) 38 x 0 = f_empty σ (x + 1) := by
  funext v i
  simp only [f_empty, st2]
  grind
theorem f_ft1_0 (σ : Hp) : f_ft1 σ 0 = σ := by
  funext v i
  simp only [f_ft1]
  rw [if_neg (by omega)]
theorem f_ft1_fr (σ : Hp) (x : Int) {v : Int} (h : v ≠ 84) : f_ft1 σ x v = σ v := by
  funext i
  simp [f_ft1, h]
theorem f_ft1_step {σ : Hp} {x : Int} (h : 0 ≤ x) : st2 (f_ft1 σ x) 84 x (if σ 2 14 - 1 < 0 then 0 else σ (14 + (σ 2 14 - 1)) x) = f_ft1 σ (x + 1) := by
  funext v i
  simp only [f_ft1, st2]
  by_cases hi : i = x
  · subst hi; grind
  · grind
theorem f_ftL_fr : ∀ (k : Nat) (i : Int) (σ : Hp) {v : Int}, v ≠ 84 → f_ftL k i σ v = σ v
  | 0, _, _, _, _ => rfl
  | k + 1, i, σ, v, h => by
    unfold f_ftL
    rw [f_ftL_fr k (i + 1) _ h]
    split
    · rw [st2_ne h]
    · rfl
def xB (σ : Hp) : Prop := 0 ≤ σ 34 6 ∧ σ 34 6 < 2000000000 ∧ 0 ≤ σ 34 7 ∧ σ 34 7 < 2000000000 ∧ 0 ≤ σ 34 8 ∧ σ 34 8 < 2000000000
