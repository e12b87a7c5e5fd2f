-- ===== the reference's methods as functions of its heap =====
-- cell 1 is its object (slots: 0 size, 1 stable, 19 clock, 20 ins, 21 outs, 22 begun, 32 down, 33 crashes, 34 phase, 35 next);
-- arrays: 2 kind, 3 who, 4 spot, 5 oldKey, 6 oldValue, 7 newKey, 8 newValue, 9 back, 10 named, 11 diskKey, 12 diskValue, 13 diskLsn, 14 poolKey, 15 poolValue, 16 poolLsn, 17 rec, 18 fetched,
-- 19 state, 20 outcome, 21 value, 22 wantKey, 23 want, 24 wantValue, 25 made, 26 lock, 27 reach, 28 table
def b2i (b : Bool) : Int := if b = true then 1 else 0
def srch (p : Int → Bool) (x : Int) : Nat → Int
  | 0 => -1
  | k + 1 => if p x = true then x else srch p (x + 1) k
def srchD (p : Int → Bool) : Nat → Int
  | 0 => 0
  | k + 1 => if p ((k : Int) + 1) = true then (k : Int) + 1 else srchD p k
def anyU (p : Int → Bool) (x : Int) : Nat → Bool
  | 0 => false
  | k + 1 => p x || anyU p (x + 1) k
def cntU (p : Int → Bool) : Nat → Int
  | 0 => 0
  | k + 1 => cntU p k + b2i (p ((k : Int) + 1))
def m_keyAt (τ : Hp) (x : Int) : Int := if 0 < τ 18 (x / 4) then τ 14 x else τ 11 x
def m_valueAt (τ : Hp) (x : Int) : Int := if 0 < τ 18 (x / 4) then τ 15 x else τ 12 x
def m_find (τ : Hp) (key : Int) : Int := srch (fun x => decide (m_keyAt τ x = key)) 0 24
/-- the copy of a page's four places, from arrays f, f + 1 to arrays t, t + 1, as far as place x -/
def m_cp (τ : Hp) (f t g x : Int) : Hp := fun a b => if 4 * g ≤ b ∧ b < x then (if a = t then τ f b else if a = t + 1 then τ (f + 1) b else τ a b) else τ a b
def m_spill (τ : Hp) (g : Int) : Hp :=
  let τ1 := st2 τ 1 1 (if τ 1 1 < τ 16 g then τ 16 g else τ 1 1)
  let τ2 := m_cp τ1 14 11 g (4 * g + 4)
  let τ3 := st2 τ2 13 g (τ2 16 g)
  let τ4 := st2 τ3 17 g 0
  st2 τ4 1 21 (τ4 1 21 + 1)
def m_scan (τ : Hp) : Nat → Int × Int
  | 0 => (0, -1)
  | k + 1 => ((m_scan τ k).1 + (if 0 < τ 18 (k : Int) then 1 else 0), if 0 < τ 18 (k : Int) ∧ ((m_scan τ k).2 < 0 ∨ τ 18 (k : Int) < τ 18 (m_scan τ k).2) then (k : Int) else (m_scan τ k).2)
def m_evict (τ : Hp) : Hp :=
  if (m_scan τ 6).1 = 3 then
    let o := (m_scan τ 6).2
    let τ1 := if 0 < τ 17 o then m_spill τ o else τ
    st2 τ1 18 o 0
  else τ
def m_load (τ : Hp) (g : Int) : Hp :=
  let τ2 := m_cp τ 11 14 g (4 * g + 4)
  let τ3 := st2 τ2 16 g (τ2 13 g)
  let τ4 := st2 τ3 17 g 0
  st2 τ4 1 20 (τ4 1 20 + 1)
def m_fetch (τ : Hp) (g : Int) : Hp :=
  let τ0 := st2 τ 1 19 (τ 1 19 + 1)
  let τ1 := if τ0 18 g = 0 then m_load (m_evict τ0) g else τ0
  st2 τ1 18 g (τ1 1 19)
def m_apply (τ : Hp) (r : Int) : Hp :=
  let x := τ 4 r
  let g := x / 4
  let τ1 := st2 τ 14 x (τ 7 r)
  let τ2 := st2 τ1 15 x (τ1 8 r)
  let τ3 := st2 τ2 16 g r
  st2 τ3 17 g (if τ3 17 g = 0 then r else τ3 17 g)
def m_put (τ : Hp) (k t x : Int) : Hp :=
  let τ1 := st2 τ 1 0 (τ 1 0 + 1)
  let τ2 := st2 τ1 2 (τ1 1 0) k
  let τ3 := st2 τ2 3 (τ2 1 0) t
  st2 τ3 4 (τ3 1 0) x
def m_countOf (τ : Hp) (k : Int) : Int := cntU (fun i => decide (τ 2 i = k)) (τ 1 0).toNat
def m_committed (τ : Hp) (t : Int) : Bool := anyU (fun i => decide (τ 2 i = 3) && decide (τ 3 i = t)) 1 (τ 1 0).toNat
def m_taken (τ : Hp) (i : Int) : Bool := anyU (fun j => decide (τ 2 j = 2) && decide (τ 9 j = i)) (i + 1) (τ 1 0 - i).toNat
def m_good (τ : Hp) (t i : Int) : Bool := decide (τ 2 i = 1) && (decide (t = 0) || decide (τ 3 i = t)) && !m_committed τ (τ 3 i) && !m_taken τ i
def m_open (τ : Hp) (t : Int) : Int := srchD (m_good τ t) (τ 1 0).toNat
def m_takeBack (τ : Hp) (r : Int) : Hp :=
  let τ1 := m_fetch τ (τ 4 r / 4)
  let τ2 := m_put τ1 2 (τ1 3 r) (τ1 4 r)
  let q := τ2 1 0
  let τ3 := st2 τ2 9 q r
  let τ4 := st2 τ3 7 q (τ3 5 r)
  let τ5 := st2 τ4 8 q (τ4 6 r)
  m_apply τ5 q
def m_live (τ : Hp) (t : Int) : Bool := decide (1 ≤ τ 19 t) && decide (τ 19 t ≤ 3)
def m_unlock (τ : Hp) (t k : Int) : Hp := fun a b => if a = 26 ∧ 100 * t ≤ b ∧ b < 100 * t + k then 0 else τ a b
def m_lk (τ : Hp) (t key : Int) : Int := τ 26 (100 * t + key)
def m_conflicts (τ : Hp) (t u : Int) : Bool := decide (¬ u = t) && decide (0 < m_lk τ u (τ 22 t)) && (decide (m_lk τ u (τ 22 t) = 2) || decide (τ 23 t = 2))
def m_ahead (τ : Hp) (t u : Int) : Bool := decide (¬ u = t) && decide (τ 19 u = 2) && decide (τ 22 u = τ 22 t) && decide (τ 25 u < τ 25 t)
def m_waitsFor (τ : Hp) (t u : Int) : Bool := decide (τ 19 t = 2) && (m_conflicts τ t u || (decide (m_lk τ t (τ 22 t) = 0) && m_ahead τ t u))
def m_fit (τ : Hp) (t : Int) : Bool := decide (τ 23 t ≤ m_lk τ t (τ 22 t)) || !anyU (fun u => m_conflicts τ t u || (decide (m_lk τ t (τ 22 t) = 0) && m_ahead τ t u)) 1 (τ 1 22).toNat
def m_reachN (τ : Hp) (t : Int) : Nat → Int → Prop
  | 0, v => m_waitsFor τ t v = true
  | k + 1, v => m_reachN τ t k v ∨ ∃ u : Int, 1 ≤ u ∧ u ≤ τ 1 22 ∧ m_reachN τ t k u ∧ m_waitsFor τ u v = true
def m_lock (τ : Hp) (t : Int) : Hp :=
  let τ1 := if m_lk τ t (τ 22 t) < τ 23 t then st2 τ 26 (100 * t + τ 22 t) (τ 23 t) else τ
  st2 (st2 τ1 19 t 1) 20 t 0
def m_readFor (τ : Hp) (t : Int) : Hp :=
  let x := m_find τ (τ 22 t)
  if 0 ≤ x then
    let τ1 := m_fetch τ (x / 4)
    st2 τ1 21 t (τ1 15 x)
  else st2 τ 21 t 0
def m_upd (τ : Hp) (t x : Int) : Hp :=
  let τ1 := m_fetch τ (x / 4)
  let τ2 := m_put τ1 1 t x
  let r := τ2 1 0
  let τ3 := st2 τ2 5 r (τ2 14 x)
  let τ4 := st2 τ3 6 r (τ3 15 x)
  let τ5 := st2 τ4 7 r (τ 22 t)
  let τ6 := st2 τ5 8 r (τ5 24 t)
  m_apply τ6 r
def m_target (τ : Hp) (t : Int) : Int := if m_find τ (τ 22 t) < 0 then m_find τ (-1) else m_find τ (τ 22 t)
def m_writeFor (τ : Hp) (t : Int) : Hp :=
  let x := m_target τ t
  if x < 0 ∨ 60 ≤ m_countOf τ 1 then st2 τ 20 t 3 else m_upd τ t x
def m_grant (τ : Hp) (t : Int) : Hp :=
  let τ1 := m_lock τ t
  if τ1 23 t = 1 then m_readFor τ1 t else m_writeFor τ1 t
def m_dropL (τ : Hp) (t : Int) : Nat → Hp
  | 0 => τ
  | k + 1 => if 0 < m_open τ t then m_dropL (m_takeBack τ (m_open τ t)) t k else τ
def m_drop (τ : Hp) (t : Int) : Hp := m_unlock (st2 (m_dropL τ t 60) 19 t 5) t 100
def m_firm (τ : Hp) : Int :=
  let i := srch (fun i => decide (τ 2 i = 3) && decide (τ 19 (τ 3 i) = 3)) 1 (τ 1 1).toNat
  if i < 0 then 0 else τ 3 i
def m_ff (τ : Hp) : Nat → Int
  | 0 => 0
  | k + 1 => if τ 19 ((k : Int) + 1) = 2 ∧ (m_ff τ k = 0 ∨ τ 25 ((k : Int) + 1) < τ 25 (m_ff τ k)) ∧ m_fit τ ((k : Int) + 1) = true then (k : Int) + 1 else m_ff τ k
def m_firstFit (τ : Hp) : Int := m_ff τ (τ 1 22).toNat
def m_settleL (τ : Hp) : Nat → Hp
  | 0 => τ
  | k + 1 => if 0 < m_firm τ then m_settleL (m_unlock (st2 τ 19 (m_firm τ) 4) (m_firm τ) 100) k else if 0 < m_firstFit τ then m_settleL (m_grant τ (m_firstFit τ)) k else τ
def m_settle (τ : Hp) : Hp := m_settleL τ 1000
def m_isIn (τ : Hp) (t s : Int) : Bool := decide (τ 1 32 = 0) && decide (1 ≤ t) && decide (t ≤ τ 1 22) && decide (τ 19 t = s)
-- the public calls: what they answer, and the heap behind them
def m_begin (τ : Hp) : Int × Hp :=
  if ¬ τ 1 32 = 0 ∨ 4 ≤ cntU (m_live τ) (τ 1 22).toNat ∨ 60 ≤ τ 1 22 then (-1, τ) else
    let τ1 := st2 τ 1 22 (τ 1 22 + 1)
    let τ2 := st2 τ1 19 (τ1 1 22) 1
    let τ3 := st2 τ2 20 (τ2 1 22) (-1)
    (τ3 1 22, τ3)
def m_ask (τ : Hp) (t key what v : Int) : Hp :=
  let τ1 := st2 τ 1 19 (τ 1 19 + 1)
  let τ2 := st2 τ1 22 t key
  let τ3 := st2 τ2 23 t what
  let τ4 := st2 τ3 24 t v
  st2 τ4 25 t (τ4 1 19)
def m_wait (τ : Hp) (t : Int) : Hp := st2 (st2 τ 19 t 2) 20 t 1
def m_crash (τ : Hp) (k : Int) : Hp :=
  let τ1 := st2 τ 1 33 (τ 1 33 + 1)
  let τ2 := st2 τ1 1 1 (if τ1 1 0 - τ1 1 1 < k then τ1 1 0 else τ1 1 1 + k)
  let τ3 := st2 τ2 1 0 (τ2 1 1)
  let τ4 := st2 τ3 1 32 1
  let τ5 := st2 τ4 1 34 0
  fun a b => if (a = 17 ∨ a = 18) ∧ 0 ≤ b ∧ b < 6 then 0
    else if a = 19 ∧ 1 ≤ b ∧ b ≤ τ 1 22 ∧ m_live τ b = true then 6
    else if a = 26 ∧ 1 ≤ b / 100 ∧ b / 100 ≤ τ 1 22 ∧ m_live τ (b / 100) = true then 0
    else τ5 a b
def m_commit (τ : Hp) (t : Int) : Hp := m_settle (st2 (m_put τ 3 t 0) 19 t 3)
def m_checkpoint (τ : Hp) : Hp :=
  let τ1 := m_put τ 4 0 0
  let r := τ1 1 0
  m_settle (fun a b => if a = 10 ∧ 6 * r ≤ b ∧ b < 6 * r + 6 then (if 0 < τ1 18 (b - 6 * r) then τ1 17 (b - 6 * r) else 0) else τ1 a b)
def m_after (τ : Hp) (key : Int) : Int := srch (fun k => decide (0 ≤ m_find τ k)) (if key < 0 then 0 else if 99 ≤ key then 100 else key + 1) (if key < 0 then 100 else if 99 ≤ key then 0 else (99 - key).toNat)
-- ===== searching and counting =====
theorem b2i_b (b : Bool) : b2i b = 0 ∨ b2i b = 1 := by cases b <;> simp [b2i]
theorem srch_spec (p : Int → Bool) : ∀ (k : Nat) (x : Int), (srch p x k = -1 ∧ ∀ y, x ≤ y → y < x + k → p y = false) ∨ (x ≤ srch p x k ∧ srch p x k < x + k ∧ p (srch p x k) = true ∧ ∀ y, x ≤ y → y < srch p x k → p y = false)
  | 0, x => Or.inl ⟨rfl, fun y h1 h2 => by omega⟩
  | k + 1, x => by
    unfold srch
    by_cases h : p x = true
    · rw [if_pos h]
      exact Or.inr ⟨by omega, by omega, h, fun y h1 h2 => by omega⟩
    · rw [if_neg h]
      have hx : p x = false := by simpa using h
      rcases srch_spec p k (x + 1) with ⟨h1, h2⟩ | ⟨h1, h2, h3, h4⟩
      · refine Or.inl ⟨h1, fun y h3 h4 => ?_⟩
        by_cases hy : y = x
        · rw [hy]; exact hx
        · exact h2 y (by omega) (by omega)
      · refine Or.inr ⟨by omega, by omega, h3, fun y h5 h6 => ?_⟩
        by_cases hy : y = x
        · rw [hy]; exact hx
        · exact h4 y (by omega) (by omega)
theorem srchD_spec (p : Int → Bool) : ∀ k : Nat, (srchD p k = 0 ∧ ∀ y, 1 ≤ y → y ≤ (k : Int) → p y = false) ∨ (1 ≤ srchD p k ∧ srchD p k ≤ (k : Int) ∧ p (srchD p k) = true ∧ ∀ y, srchD p k < y → y ≤ (k : Int) → p y = false)
  | 0 => Or.inl ⟨rfl, fun y h1 h2 => by omega⟩
  | k + 1 => by
    unfold srchD
    by_cases h : p ((k : Int) + 1) = true
    · rw [if_pos h]
      exact Or.inr ⟨by omega, by omega, h, fun y h1 h2 => by omega⟩
    · rw [if_neg h]
      have hx : p ((k : Int) + 1) = false := by simpa using h
      rcases srchD_spec p k with ⟨h1, h2⟩ | ⟨h1, h2, h3, h4⟩
      · refine Or.inl ⟨h1, fun y h3 h4 => ?_⟩
        by_cases hy : y = (k : Int) + 1
        · rw [hy]; exact hx
        · exact h2 y (by omega) (by omega)
      · refine Or.inr ⟨by omega, by omega, h3, fun y h5 h6 => ?_⟩
        by_cases hy : y = (k : Int) + 1
        · rw [hy]; exact hx
        · exact h4 y (by omega) (by omega)
theorem anyU_iff (p : Int → Bool) : ∀ (k : Nat) (x : Int), anyU p x k = true ↔ ∃ y, x ≤ y ∧ y < x + k ∧ p y = true
  | 0, x => by
    constructor
    · intro h; cases h
    · rintro ⟨y, h1, h2, -⟩; omega
  | k + 1, x => by
    unfold anyU
    rw [Bool.or_eq_true, anyU_iff p k (x + 1)]
    constructor
    · rintro (h | ⟨y, h1, h2, h3⟩)
      · exact ⟨x, by omega, by omega, h⟩
      · exact ⟨y, by omega, by omega, h3⟩
    · rintro ⟨y, h1, h2, h3⟩
      by_cases hy : y = x
      · left; rw [← hy]; exact h3
      · right; exact ⟨y, by omega, by omega, h3⟩
theorem anyU_false {p : Int → Bool} {k : Nat} {x : Int} : anyU p x k = false ↔ ∀ y, x ≤ y → y < x + k → p y = false := by
  constructor
  · intro h y h1 h2
    cases hp : p y with
    | false => rfl
    | true =>
      have := (anyU_iff p k x).mpr ⟨y, h1, h2, hp⟩
      rw [h] at this; cases this
  · intro h
    cases ha : anyU p x k with
    | false => rfl
    | true =>
      obtain ⟨y, h1, h2, h3⟩ := (anyU_iff p k x).mp ha
      rw [h y h1 h2] at h3; cases h3
theorem cntU_le (p : Int → Bool) : ∀ k : Nat, 0 ≤ cntU p k ∧ cntU p k ≤ (k : Int)
  | 0 => ⟨Int.le_refl 0, Int.le_refl 0⟩
  | k + 1 => by
    have h := cntU_le p k
    have h2 := b2i_b (p ((k : Int) + 1))
    unfold cntU
    omega
theorem cntU_congr {p q : Int → Bool} : ∀ k : Nat, (∀ i, 1 ≤ i → i ≤ (k : Int) → p i = q i) → cntU p k = cntU q k
  | 0, _ => rfl
  | k + 1, h => by
    unfold cntU
    rw [cntU_congr k (fun i h1 h2 => h i h1 (by omega)), h ((k : Int) + 1) (by omega) (by omega)]
theorem cntU_rm {q q' : Int → Bool} {t : Int} (hq : q t = true) (hq' : q' t = false) (ho : ∀ i, i ≠ t → q' i = q i) (h1 : 1 ≤ t) : ∀ N : Nat, t ≤ (N : Int) → cntU q' N = cntU q N - 1
  | 0, h => by omega
  | N + 1, h => by
    unfold cntU
    by_cases ht : t = (N : Int) + 1
    · rw [cntU_congr (p := q') (q := q) N (fun i _ h3 => ho i (by omega)), ← ht, hq, hq']
      simp [b2i]
    · rw [cntU_rm hq hq' ho h1 N (by omega), ho ((N : Int) + 1) (by omega)]
      omega
theorem cntU_inj (f : Int → Int) {N : Nat} : ∀ (p : Nat) (P Q : Int → Bool), (∀ i, 1 ≤ i → i ≤ (p : Int) → P i = true → 1 ≤ f i ∧ f i ≤ (N : Int) ∧ Q (f i) = true) → (∀ i j, 1 ≤ i → i ≤ (p : Int) → 1 ≤ j → j ≤ (p : Int) → P i = true → P j = true → f i = f j → i = j) → cntU P p ≤ cntU Q N
  | 0, P, Q, _, _ => (cntU_le Q N).1
  | p + 1, P, Q, h, hi => by
    rw [show cntU P (p + 1) = cntU P p + b2i (P ((p : Int) + 1)) from rfl]
    cases hp : P ((p : Int) + 1) with
    | false =>
      have := cntU_inj f p P Q (fun i h1 h2 h3 => h i h1 (by omega) h3) (fun i j a1 a2 a3 a4 => hi i j a1 (by omega) a3 (by omega))
      simp [b2i]; omega
    | true =>
      obtain ⟨g1, g2, g3⟩ := h ((p : Int) + 1) (by omega) (by omega) hp
      have h4 := cntU_rm (q := Q) (q' := fun i => Q i && !decide (i = f ((p : Int) + 1))) (t := f ((p : Int) + 1)) g3 (by simp) (fun i hne => by simp [hne]) g1 N g2
      have h5 := cntU_inj f p P (fun i => Q i && !decide (i = f ((p : Int) + 1))) (fun i h1 h2 h3 => by
        obtain ⟨k1, k2, k3⟩ := h i h1 (by omega) h3
        refine ⟨k1, k2, ?_⟩
        have hne : ¬ f i = f ((p : Int) + 1) := fun e => by
          have := hi i ((p : Int) + 1) h1 (by omega) (by omega) (by omega) h3 hp e
          omega
        simp [k3, hne]) (fun i j a1 a2 a3 a4 => hi i j a1 (by omega) a3 (by omega))
      simp [b2i]; omega
theorem cntU_four {f : Int → Int} : ∀ p : Nat, (∀ i, 1 ≤ i → i ≤ (p : Int) → 1 ≤ f i ∧ f i ≤ 4) → (p : Int) = cntU (fun i => decide (f i = 1)) p + cntU (fun i => decide (f i = 2)) p + cntU (fun i => decide (f i = 3)) p + cntU (fun i => decide (f i = 4)) p
  | 0, _ => rfl
  | p + 1, h => by
    have h1 := cntU_four p (fun i a b => h i a (by omega))
    have h2 := h ((p : Int) + 1) (by omega) (by omega)
    unfold cntU
    have h3 : f ((p : Int) + 1) = 1 ∨ f ((p : Int) + 1) = 2 ∨ f ((p : Int) + 1) = 3 ∨ f ((p : Int) + 1) = 4 := by omega
    rcases h3 with h3 | h3 | h3 | h3 <;> simp [h3, b2i] <;> omega
