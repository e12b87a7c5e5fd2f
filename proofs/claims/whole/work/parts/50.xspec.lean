-- ===== the class's methods as functions of its heap =====
-- cells: 1 LogStore (5 begun, 6 requests, 7 crashes, 8 isUp), 2 Log (11 size, 12 stable, 13 updates, 14 checkpoints), 3 kinds, 4 owners, 5 places, 6 keysBefore, 7 valuesBefore, 8 keysThen, 9 valuesThen, 10 partners, 11 commits, 12 checkpointLsns, 14 + c its recs,
-- 34 Pool (6 fetches, 7 cameIn, 8 written), 37 isIn, 38 recs, 39 fetchedAt, 40 + 6 p disk page p (keys + 1, values + 2, its slot 2 the lsn), 43 + 6 p its frame, 77 seats, 79 + s the locks of seat s, 83 Recovery (3 isAnalysed, 4 nextRedo, 5 lastRedo), 84 table,
-- 85 transactions, 85 + t transaction t (0 number, 1 seat, 2 state, 3 outcome, 4 valueRead, 5 requestNumber, 6 key, 7 lock, 8 newValue)
def f_append (σ : Hp) (k o : Int) : Hp :=
  let τ1 := st2 σ 2 11 (σ 2 11 + 1)
  let τ2 := st2 τ1 3 (τ1 2 11) k
  let τ3 := st2 τ2 4 (τ2 2 11) o
  st2 τ3 10 (τ3 2 11) 0
def f_addUpdate (σ : Hp) (o pl kb vb k v : Int) : Hp :=
  let r := σ 2 11 + 1
  let τ1 := st2 (f_append σ 1 o) 5 r pl
  let τ2 := st2 (st2 τ1 6 r kb) 7 r vb
  let τ3 := st2 (st2 τ2 8 r k) 9 r v
  st2 τ3 2 13 (τ3 2 13 + 1)
def f_addClr (σ : Hp) (u : Int) : Hp :=
  let r := σ 2 11 + 1
  let τ := f_append σ 2 (σ 4 u)
  let τ1 := st2 τ 5 r (τ 5 u)
  let τ2 := st2 τ1 8 r (τ1 6 u)
  let τ3 := st2 τ2 9 r (τ2 7 u)
  st2 (st2 τ3 10 r u) 10 u r
def f_addCommit (σ : Hp) (o : Int) : Hp := st2 (f_append σ 3 o) 11 o (σ 2 11 + 1)
def f_addCk (σ : Hp) : Hp :=
  let τ := f_append σ 4 0
  let τ1 := cp6 τ 38 (14 + τ 2 14)
  let τ2 := st2 τ1 12 (τ1 2 14) (σ 2 11 + 1)
  st2 τ2 2 14 (τ2 2 14 + 1)
def f_isChange (σ : Hp) (i : Int) : Bool := decide (σ 3 i = 1) || decide (σ 3 i = 2)
def f_isOpen (σ : Hp) (i : Int) : Bool := decide (σ 3 i = 1) && decide (σ 10 i = 0) && decide (σ 11 (σ 4 i) = 0)
def f_gOpen (σ : Hp) : Int := srchD (f_isOpen σ) (σ 2 11).toNat
def f_ms (σ : Hp) (u : Int) : Hp := if σ 2 12 < u then st2 σ 2 12 u else σ
def f_forget (σ : Hp) (i : Int) : Hp := if σ 3 i = 1 then st2 σ 2 13 (σ 2 13 - 1) else if σ 3 i = 2 then st2 σ 10 (σ 10 i) 0 else if σ 3 i = 3 then st2 σ 11 (σ 4 i) 0 else st2 σ 2 14 (σ 2 14 - 1)
def f_loseL : Nat → Int → Hp → Hp
  | 0, _, σ => σ
  | k + 1, i, σ => f_loseL k (i + -1) (f_forget σ i)
def f_lose (σ : Hp) : Hp := st2 (f_loseL (σ 2 11 - σ 2 12).toNat (σ 2 11) σ) 2 11 (f_loseL (σ 2 11 - σ 2 12).toNat (σ 2 11) σ 2 12)
def f_cp (σ : Hp) (a b x : Int) : Hp := fun v i => if 0 ≤ i ∧ i < x then (if v = a + 1 then σ (b + 1) i else if v = a + 2 then σ (b + 2) i else σ v i) else σ v i
def f_copy (σ : Hp) (a b : Int) : Hp := st2 (f_cp σ a b 4) a 2 (f_cp σ a b 4 b 2)
def f_ask (σ : Hp) (one r k w v : Int) : Hp := st2 (st2 (st2 (st2 σ one 5 r) one 6 k) one 7 w) one 8 v
theorem f_append_eq (σ : Hp) (k o : Int) : f_append σ k o = fun a b => if a = 2 ∧ b = 11 then σ 2 11 + 1 else if b = σ 2 11 + 1 then (if a = 3 then k else if a = 4 then o else if a = 10 then 0 else σ a b) else σ a b := by
  funext a b
  simp only [f_append, st2]
  grind
theorem f_cp_0 (σ : Hp) (a b : Int) : f_cp σ a b 0 = σ := by
  funext v i
  simp only [f_cp]
  rw [if_neg (by omega)]
theorem f_cp_step {σ : Hp} {a b x : Int} (h0 : 0 ≤ x) (h1 : b + 1 ≠ a + 1) (h2 : b + 1 ≠ a + 2) (h3 : b + 2 ≠ a + 1) (h4 : b + 2 ≠ a + 2) : st2 (st2 (f_cp σ a b x) (a + 1) x (f_cp σ a b x (b + 1) x)) (a + 2) x (st2 (f_cp σ a b x) (a + 1) x (f_cp σ a b x (b + 1) x) (b + 2) x) = f_cp σ a b (x + 1) := by
  funext v i
  simp only [st2, f_cp]
  grind
theorem f_forget_fr (σ : Hp) (i : Int) {a : Int} (h1 : a ≠ 2) (h2 : a ≠ 10) (h3 : a ≠ 11) : f_forget σ i a = σ a := by
  simp only [f_forget]
  split
  · rw [st2_ne h1]
  · split
    · rw [st2_ne h2]
    · split
      · rw [st2_ne h3]
      · rw [st2_ne h1]
theorem f_forget_2 (σ : Hp) (i : Int) {b : Int} (h1 : b ≠ 13) (h2 : b ≠ 14) : f_forget σ i 2 b = σ 2 b := by
  simp only [f_forget]
  split
  · rw [st2_ii h1]
  · split
    · rw [st2_ne (by decide)]
    · split
      · rw [st2_ne (by decide)]
      · rw [st2_ii h2]
theorem f_forget_n (σ : Hp) (i : Int) : (f_forget σ i 2 13 = σ 2 13 ∨ f_forget σ i 2 13 = σ 2 13 - 1) ∧ (f_forget σ i 2 14 = σ 2 14 ∨ f_forget σ i 2 14 = σ 2 14 - 1) := by
  simp only [f_forget]
  split
  · exact ⟨Or.inr st2_eq, Or.inl (st2_ii (by decide))⟩
  · split
    · exact ⟨Or.inl (by rw [st2_ne (by decide)]), Or.inl (by rw [st2_ne (by decide)])⟩
    · split
      · exact ⟨Or.inl (by rw [st2_ne (by decide)]), Or.inl (by rw [st2_ne (by decide)])⟩
      · exact ⟨Or.inl (st2_ii (by decide)), Or.inr st2_eq⟩
theorem f_forget_10 (σ : Hp) (i j : Int) : f_forget σ i 10 j = σ 10 j ∨ f_forget σ i 10 j = 0 := by
  simp only [f_forget]
  split
  · left; rw [st2_ne (by decide)]
  · split
    · rw [st2_at]; split
      · right; rfl
      · left; rfl
    · left; split <;> rw [st2_ne (by decide)]
