-- ===== abstract values, heaps, cells: every number is an Int, every reference an Int (0: null; v: cell v of 1 .. n) =====
abbrev AV : Type := Int ⊕ Int
abbrev Hp : Type := Int → Int → Int
abbrev LK : Type := (Nat × List Nat) ⊕ (Nat × Nat)
def iI (x : Int) : Int32 := Int32.ofInt x
abbrev R3 (x : Int) : Prop := -2147483648 ≤ x ∧ x ≤ 2147483647
theorem iI_t {x : Int} (h : R3 x) : (iI x).toInt = x := Int32.toInt_ofInt_of_le (by have := h.1; omega) (by have := h.2; omega)
theorem iI_lt {x y : Int} (hx : R3 x) (hy : R3 y) : iI x < iI y ↔ x < y := by rw [Int32.lt_iff_toInt_lt, iI_t hx, iI_t hy]
theorem iI_le {x y : Int} (hx : R3 x) (hy : R3 y) : iI x ≤ iI y ↔ x ≤ y := by rw [Int32.le_iff_toInt_le, iI_t hx, iI_t hy]
theorem iI_eq {x y : Int} (hx : R3 x) (hy : R3 y) : iI x = iI y ↔ x = y := by rw [← Int32.toInt_inj, iI_t hx, iI_t hy]
theorem iI_0 : iI 0 = 0 := by decide
theorem iI_of (x : Int32) : iI x.toInt = x := Int32.ofInt_toInt x
theorem iI_R (x : Int32) : R3 x.toInt := ⟨by have := x.le_toInt; omega, by have := x.toInt_lt; omega⟩
theorem iI_add (x y : Int) : iI x + iI y = iI (x + y) := (Int32.ofInt_add x y).symm
theorem iI_sub (x y : Int) : iI x - iI y = iI (x - y) := (Int32.ofInt_sub x y).symm
theorem iI_mul (x y : Int) : iI x * iI y = iI (x * y) := (Int32.ofInt_mul x y).symm
theorem iI_cl {x : Int} (h : R3 x) : (iI x).toNatClampNeg = x.toNat := Int32.toNatClampNeg_ofInt_of_le (by have := h.1; omega) (by have := h.2; omega)
theorem iI_in {x : Int} {len : Nat} (h : R3 x) (h0 : 0 ≤ x) (h1 : x < (len : Int)) : vp_in (iI x) len := vp_in_iff.mpr ⟨by rw [iI_t h]; exact h0, by rw [iI_t h]; exact h1⟩
theorem iI_div {x y : Int} (hx : R3 x) (hy : R3 y) (h0 : 0 ≤ x) (h1 : 0 < y) : iI x / iI y = iI (x / y) := by
  have hr : R3 (x / y) := ⟨by have := Int.ediv_nonneg h0 (Int.le_of_lt h1); omega, by have := Int.ediv_le_self y h0; omega⟩
  apply Int32.toInt_inj.mp
  rw [iI_t hr, Int32.toInt_div_of_ne_right _ _ (fun h => ?_), iI_t hx, iI_t hy, Int.tdiv_eq_ediv_of_nonneg h0]
  have h2 := congrArg Int32.toInt h
  rw [iI_t hy] at h2
  have h3 : (-1 : Int32).toInt = -1 := by decide
  omega
theorem iI_rem {x y : Int} (hx : R3 x) (hy : R3 y) (h0 : 0 ≤ x) (h1 : 0 < y) : iI x - iI x / iI y * iI y = iI (x % y) := by
  rw [iI_div hx hy h0 h1, iI_mul, iI_sub]
  congr 1
  have := Int.emod_add_mul_ediv x y
  have h2 : x / y * y = y * (x / y) := Int.mul_comm _ _
  omega
def cv (ad : Int → Nat) (v : AV) : Value := match v with
  | .inl x => .int (iI x)
  | .inr k => if k = 0 then .null else .ref (ad k)
theorem cv_r {ad : Int → Nat} {v : Int} (h : ¬ v = 0) : cv ad (.inr v) = .ref (ad v) := if_neg h
theorem cv_cat (ad : Int → Nat) (v : AV) : (cv ad v).category = 1 := by
  cases v with
  | inl x => rfl
  | inr k => by_cases h : k = 0 <;> simp [cv, h, Value.category]
def orf (ad : Int → Nat) (v : Int) : Option Nat := if v = 0 then none else some (ad v)
theorem rf_orf (ad : Int → Nat) (v : Int) : va_rf (orf ad v) = cv ad (.inr v) := by
  by_cases h : v = 0 <;> simp [orf, cv, va_rf, h]
def ov (n : Nat) (v : AV) : Prop := match v with
  | .inl x => R3 x
  | .inr k => 0 ≤ k ∧ k ≤ (n : Int)
theorem ov_up {n n' : Nat} {v : AV} (h : n ≤ n') (hv : ov n v) : ov n' v := by
  cases v with
  | inl x => exact hv
  | inr k => exact ⟨hv.1, by have := hv.2; omega⟩
def agr (n : Nat) (ad ad' : Int → Nat) : Prop := ∀ v : Int, 1 ≤ v → v ≤ (n : Int) → ad' v = ad v
theorem cv_ag {n : Nat} {ad ad' : Int → Nat} (h : agr n ad ad') {v : AV} (hv : ov n v) : cv ad' v = cv ad v := by
  cases v with
  | inl x => rfl
  | inr k =>
    by_cases h0 : k = 0
    · simp [cv, h0]
    · rw [cv_r h0, cv_r h0, h k (by have := hv.1; omega) hv.2]
def oks (n : Nat) (st : List AV) : Prop := ∀ v ∈ st, ov n v
theorem oks_c {n : Nat} {v : AV} {st : List AV} : oks n (v :: st) ↔ ov n v ∧ oks n st := List.forall_mem_cons
theorem oks_up {n n' : Nat} {st : List AV} (h : n ≤ n') (hs : oks n st) : oks n' st := fun v hv => ov_up h (hs v hv)
theorem map_ag {n : Nat} {ad ad' : Int → Nat} (h : agr n ad ad') {st : List AV} (hs : oks n st) : st.map (cv ad') = st.map (cv ad) :=
  List.map_congr_left fun v hv => cv_ag h (hs v hv)
theorem sum_cat (ad : Int → Nat) (st : List AV) : ((st.map (cv ad)).map fun v => v.category).sum = st.length := by
  induction st with
  | nil => rfl
  | cons a t ih => simp only [List.map_cons, List.sum_cons, List.length_cons, ih, cv_cat]; omega
-- what a cell holds
def fvl (ad : Int → Nat) (t : Nat) (v : Int) : Value := if t = 2 then cv ad (.inr v) else .int (iI v)
def ctn (ca : Nat → ClassId) (lk : LK) (ad : Int → Nat) (f : Int → Int) : va_E := match lk with
  | .inl (ci, ts) => .inr (ci, ts.zipIdx.map fun q => fvl ad q.1 (f (q.2 : Nat)))
  | .inr (a, len) => .inl (ca a, len, if a ≤ 2 then .inl (fun i => iI (f (i : Nat))) else .inr (.inr (.inr (.inr (fun i => orf ad (f (i : Nat)))))))
def cls (ca : Nat → ClassId) (Ly : Int → LK) (ad : Int → Nat) (n : Nat) (σ : Hp) : va_W := (List.range n).map fun (k : Nat) => (ad ((k : Int) + 1), ctn ca (Ly ((k : Int) + 1)) ad (σ ((k : Int) + 1)))
theorem cls_at {ca : Nat → ClassId} {Ly : Int → LK} {ad : Int → Nat} {n : Nat} {σ : Hp} {v : Int} (h1 : 1 ≤ v) (h2 : v ≤ (n : Int)) : (cls ca Ly ad n σ)[(v - 1).toNat]? = some (ad v, ctn ca (Ly v) ad (σ v)) := by
  have h3 : (v - 1).toNat < n := by omega
  have h4 : (((v - 1).toNat : Nat) : Int) + 1 = v := by omega
  unfold cls
  rw [List.getElem?_map, List.getElem?_range h3, Option.map_some, h4]
theorem cls_set {ca : Nat → ClassId} {Ly : Int → LK} {ad : Int → Nat} {n : Nat} {σ σ' : Hp} {v : Int} (h1 : 1 ≤ v) (h2 : v ≤ (n : Int)) {e : va_E} (he : ctn ca (Ly v) ad (σ' v) = e) (ho : ∀ u : Int, u ≠ v → σ' u = σ u) : (cls ca Ly ad n σ).set (v - 1).toNat (ad v, e) = cls ca Ly ad n σ' := by
  have hl : ∀ τ : Hp, (cls ca Ly ad n τ).length = n := fun τ => by simp [cls]
  apply List.ext_getElem?
  intro i
  by_cases hi : i = (v - 1).toNat
  · subst hi
    rw [List.getElem?_set_self (by rw [hl]; omega), cls_at h1 h2, he]
  · rw [List.getElem?_set_ne (Ne.symm hi)]
    by_cases hin : i < n
    · have h5 : (i : Int) + 1 ≠ v := by omega
      have h6 := cls_at (ca := ca) (Ly := Ly) (ad := ad) (n := n) (σ := σ) (v := (i : Int) + 1) (by omega) (by omega)
      have h7 := cls_at (ca := ca) (Ly := Ly) (ad := ad) (n := n) (σ := σ') (v := (i : Int) + 1) (by omega) (by omega)
      have h8 : ((i : Int) + 1 - 1).toNat = i := by omega
      rw [h8] at h6 h7
      rw [h6, h7, ho _ h5]
    · rw [List.getElem?_eq_none (by rw [hl]; omega), List.getElem?_eq_none (by rw [hl]; omega)]
def st2 (σ : Hp) (k i v : Int) : Hp := fun a b => if a = k then (if b = i then v else σ a b) else σ a b
theorem st2_ne {σ : Hp} {k i v u : Int} (h : u ≠ k) : st2 σ k i v u = σ u := by
  funext b; simp [st2, h]
theorem st2_eq {σ : Hp} {k i v : Int} : st2 σ k i v k i = v := by simp [st2]
theorem st2_ii {σ : Hp} {k i v b : Int} (h : b ≠ i) : st2 σ k i v k b = σ k b := by simp [st2, h]
theorem st2_at {σ : Hp} {k i v b : Int} : st2 σ k i v k b = if b = i then v else σ k b := by simp [st2]
-- the kinds of the places: 0 an int, 1 a boolean, 2 a reference, 3 a byte
def kdA (a : Nat) : Nat := if a = 0 then 0 else if a = 1 then 3 else if a = 2 then 1 else 2
def kdL (lk : LK) (i : Int) : Nat := match lk with
  | .inl (_, ts) => ts.getD i.toNat 0
  | .inr (a, _) => kdA a
def okh (Ly : Int → LK) (n : Nat) (σ : Hp) : Prop := ∀ v i : Int, 1 ≤ v → v ≤ (n : Int) → 0 ≤ i → R3 (σ v i) ∧ (kdL (Ly v) i = 2 → 0 ≤ σ v i ∧ σ v i ≤ (n : Int))
def fxd (T : Int → Int → Option Int) (n : Nat) (σ : Hp) : Prop := ∀ v i t : Int, 1 ≤ v → v ≤ (n : Int) → T v i = some t → σ v i = t
theorem okh_st {Ly : Int → LK} {n : Nat} {σ : Hp} (h : okh Ly n σ) {k i v : Int} (hr : R3 v) (hk : kdL (Ly k) i = 2 → 0 ≤ v ∧ v ≤ (n : Int)) : okh Ly n (st2 σ k i v) := by
  intro a b h1 h2 h3
  by_cases ha : a = k
  · subst ha
    by_cases hb : b = i
    · subst hb; rw [st2_eq]; exact ⟨hr, hk⟩
    · rw [st2_ii hb]; exact h a b h1 h2 h3
  · rw [st2_ne ha]; exact h a b h1 h2 h3
theorem fxd_st {T : Int → Int → Option Int} {n : Nat} {σ : Hp} (h : fxd T n σ) {k i v : Int} (ht : T k i = none) : fxd T n (st2 σ k i v) := by
  intro a b t h1 h2 h3
  by_cases ha : a = k
  · subst ha
    by_cases hb : b = i
    · subst hb; rw [ht] at h3; cases h3
    · rw [st2_ii hb]; exact h a b t h1 h2 h3
  · rw [st2_ne ha]; exact h a b t h1 h2 h3
-- the locals
def lvs (n : Nat) (ad : Int → Nat) (ls : Array Slot) (nL : Nat) (lv : List (Option AV)) : Prop := lv.length = nL ∧ ls.size = nL ∧ lv_wf ls ∧ ∀ (i : Nat) (v : AV), lv[i]? = some (some v) → ls[i]? = some (.val (cv ad v)) ∧ ov n v
def lvp (ad : Int → Nat) (lv : List (Option AV)) : List (Nat × Value) := (List.range lv.length).filterMap fun i => match lv[i]? with
  | some (some v) => some (i, cv ad v)
  | _ => none
theorem lvp_in {ad : Int → Nat} {lv : List (Option AV)} {q : Nat × Value} : q ∈ lvp ad lv ↔ ∃ v, lv[q.1]? = some (some v) ∧ q.2 = cv ad v := by
  unfold lvp
  rw [List.mem_filterMap]
  constructor
  · rintro ⟨i, hi, h⟩
    cases hq : lv[i]? with
    | none => rw [hq] at h; cases h
    | some o =>
      cases o with
      | none => rw [hq] at h; cases h
      | some v => rw [hq] at h; cases h; exact ⟨v, hq, rfl⟩
  · rintro ⟨v, h1, h2⟩
    refine ⟨q.1, List.mem_range.mpr (List.getElem?_eq_some_iff.mp h1).1, ?_⟩
    rw [h1]
    show some (q.1, cv ad v) = some q
    rw [← h2]
theorem lvs_has {n : Nat} {ad : Int → Nat} {ls : Array Slot} {nL : Nat} {lv : List (Option AV)} (h : lvs n ad ls nL lv) : lv_has ls nL (lvp ad lv) :=
  ⟨h.2.1, h.2.2.1, fun q hq => by
    obtain ⟨v, h1, h2⟩ := lvp_in.mp hq
    rw [h2]; exact (h.2.2.2 _ _ h1).1⟩
theorem lvs_set {n : Nat} {ad : Int → Nat} {ls ls' : Array Slot} {nL : Nat} {lv : List (Option AV)} {i : Nat} {v : AV} {w : Value} (h : lvs n ad ls nL lv) (hi : i < nL) (hv : ov n v) (hw : w = cv ad v) (h' : lv_has ls' nL ((i, w) :: (lvp ad lv).filter (fun q => !(q.1 == i) && !(q.1 + 1 == i && q.2.category == 2)))) : lvs n ad ls' nL (lv.set i (some v)) := by
  subst hw
  refine ⟨by rw [List.length_set]; exact h.1, h'.1, h'.2.1, fun j u hj => ?_⟩
  by_cases hji : j = i
  · subst hji
    rw [List.getElem?_set_self (by rw [h.1]; exact hi)] at hj
    cases hj
    exact ⟨h'.2.2 (j, cv ad v) List.mem_cons_self, hv⟩
  · rw [List.getElem?_set_ne (Ne.symm hji)] at hj
    refine ⟨h'.2.2 (j, cv ad u) (List.mem_cons_of_mem _ (List.mem_filter.mpr ⟨lvp_in.mpr ⟨u, hj, rfl⟩, ?_⟩)), (h.2.2.2 j u hj).2⟩
    simp [hji, cv_cat]
theorem lvs_up {n n' : Nat} {ad ad' : Int → Nat} {ls : Array Slot} {nL : Nat} {lv : List (Option AV)} (h : lvs n ad ls nL lv) (hn : n ≤ n') (ha : agr n ad ad') : lvs n' ad' ls nL lv :=
  ⟨h.1, h.2.1, h.2.2.1, fun i v hi => ⟨by rw [cv_ag ha (h.2.2.2 i v hi).2]; exact (h.2.2.2 i v hi).1, ov_up hn (h.2.2.2 i v hi).2⟩⟩
