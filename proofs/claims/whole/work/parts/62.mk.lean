-- ===== making objects and arrays =====
def Nmi (K : XK) : Prop := match K with
  | (_, _, _, _, _, _, _, _, meth, _, _, _, _, _, _, _, _) => meth.name = "<init>"
theorem ok_mkI {Ly : Int → LK} {T : Int → Int → Option Int} {y : MethodName} {cc : ByteArray} {maxL : Nat} {ret : Option FieldType} {d mc ms : Nat} {as : List AV} {n : Nat} {σ : Hp} {Post : Option AV → Nat → Hp → Prop} (hy : plainName y.cls = true) (hlen : as.length ≤ maxL)
    (hyn : y.name = "<init>") (body : ∀ K : XK, Cx K cc maxL y.cls d mc ms → Nmi K → RetK Ly T K cc ret mc ms Post → oks n as → okh Ly n σ → fxd T n σ → XW Ly T K n σ 0 0 0 (as.map some ++ List.replicate (maxL - as.length) none) []) : Ok Ly T y cc maxL ret d mc ms as n σ Post := by
  intro has l D ca ad sz
  refine Met.ofW (cc := cc) (maxL := maxL) (ret := ret) hy rfl ?_
  intro p e s m args below meth c s₁ B hml hv
  obtain ⟨rfl, hsz, hP, hG, hD0, hok, hfx⟩ := hv
  have hx := B.exec
  have hb := B.bytes
  have hr := B.returns
  have hts0 := atoms_spec (ws := MWd y cc maxL ret) B.pre
  have hts : ∀ w ∈ AW, w.before (as.map (cv ad)).toArray s = true := fun w hw => hts0 w (List.mem_cons_of_mem _ hw)
  have hown : s.vm.findClass y.cls = some m.cls := findClass_of_methodNamed B.named
  have hlk := B.notSynchronized
  have hin : meth.name = "<init>" := (name_of_methodNamed B.named B.method).1.trans hyn
  subst hsz
  have hD := hD0.self (sz := s.heap.size)
  have hA : ∀ q, s.heap.size ≤ q → va_A (cls ca Ly ad n σ) s.heap.size q := fun q h => Or.inr h
  have hl := lv_entry (as.map (cv ad)) (n := maxL) (by rw [lg_len]; exact hlen)
  rw [lg_entry_eq]
  have hlv : lvs n ad (lg_sl (as.map (cv ad)) ++ List.replicate (maxL - (lg_sl (as.map (cv ad))).length) Slot.unset).toArray c.maxLocals (as.map some ++ List.replicate (maxL - as.length) none) := by
    refine ⟨by rw [hml]; simp; omega, by rw [hml]; exact hl.1, hl.2.1, fun i v hi => ?_⟩
    by_cases hil : i < as.length
    · rw [List.getElem?_append_left (by simpa using hil), List.getElem?_map] at hi
      cases ha : as[i]? with
      | none => rw [ha] at hi; cases hi
      | some w =>
        rw [ha] at hi
        cases hi
        have h1 := hl.2.2 _ (lva_in (ad := ad) as 0 i v ha)
        rw [Nat.zero_add] at h1
        exact ⟨h1, has v (List.mem_of_getElem? ha)⟩
    · rw [List.getElem?_append_right (by simpa using hil)] at hi
      have := List.mem_of_getElem? hi
      rw [List.mem_replicate] at this
      exact absurd this.2 (by simp)
  refine body (p, l, e, rmd d mc ms, s, m, _, below, meth, c, MQ below (QQ Ly T D ca ad n σ s.heap.size Post) _ s mc ms (va_A (cls ca Ly ad n σ) s.heap.size), D, ca, va_A (cls ca Ly ad n σ) s.heap.size, s.heap, ad, n) ⟨hx, hb, hml, hown, hts, hG, hA, hlk, rfl⟩ hin ?_ has hok hfx ad s.heap [] _ ⟨hP, hD, va_S.rf, hok, hfx, Nat.le_refl _, agr_rf⟩ hlv (fun v h => by cases h)
  refine ⟨?_, ?_, ?_⟩
  · intro pc n' σ' bc bs lv r hrt hd hc1 hc2 hp ad' H' locs' ls' hW' hl' hs'
    obtain ⟨hP', hD', hS', hok', hfx', hn', hag'⟩ := hW'
    refine W.widen (k := mc) (n := ms) hc1 hc2 ?_
    have hq : ∀ t : State, t.heap = H' → s.WarmedH t.vm → QQ Ly T D ca ad n σ s.heap.size Post (as.map (cv ad)).toArray s (.returned (some (.int (iI r)))) t := fun t ht _ =>
      ⟨⟨some (.inl r), ad', n', σ', rfl, hp, hn', hag', hs', by rw [ht]; exact hP', hD', hok', hfx'⟩, hS'.F ht⟩
    rcases hrt with hrt | ⟨hrt, r0, r1⟩
    · exact W.iret hx hb (by rw [hr]; exact hrt) hq hS'.2.2 hd hlk
    · exact W.zret hx hb (by rw [hr]; exact hrt) (iI_z r0 r1).1 hq hS'.2.2 hd hlk
  · intro pc n' σ' bc bs lv hrt hd hc1 hc2 hp ad' H' locs' ls' hW' hl' hs'
    obtain ⟨hP', hD', hS', hok', hfx', hn', hag'⟩ := hW'
    refine W.widen (k := mc) (n := ms) hc1 hc2 ?_
    exact W.vret hx hb (by rw [hr]; exact hrt) (fun t ht _ => ⟨⟨none, ad', n', σ', rfl, hp, hn', hag', (fun v h => by cases h), by rw [ht]; exact hP', hD', hok', hfx'⟩, hS'.F ht⟩) hS'.2.2 hd hlk
  · intro pc n' σ' bc bs lv r nm hrt hd hc1 hc2 hp ad' H' locs' ls' hW' hl' hs'
    obtain ⟨hP', hD', hS', hok', hfx', hn', hag'⟩ := hW'
    refine W.widen (k := mc) (n := ms) hc1 hc2 ?_
    refine W.aret hx hb (by rw [hr]; exact hrt) (Or.inl ⟨nm, rfl⟩) ?_ (fun t ht _ => ⟨⟨some (.inr r), ad', n', σ', rfl, hp, hn', hag', hs', by rw [ht]; exact hP', hD', hok', hfx'⟩, hS'.F ht⟩) hS'.2.2 hd hlk
    by_cases h0 : r = 0
    · left; simp [cv, h0]
    · right; exact ⟨ad' r, cv_r h0⟩

def grw (ad : Int → Nat) (n q : Nat) : Int → Nat := fun v => if v = (n : Int) + 1 then q else ad v
theorem grw_ag {ad : Int → Nat} {n q : Nat} : agr n ad (grw ad n q) := fun v _ h => if_neg (by omega)
theorem grw_eq {ad : Int → Nat} {n q : Nat} : grw ad n q ((n : Int) + 1) = q := if_pos rfl
theorem orf_ag {n : Nat} {ad ad' : Int → Nat} (h : agr n ad ad') {v : Int} (h0 : 0 ≤ v) (h1 : v ≤ (n : Int)) : orf ad' v = orf ad v := by
  unfold orf
  by_cases hv : v = 0
  · rw [if_pos hv, if_pos hv]
  · rw [if_neg hv, if_neg hv, h v (by omega) h1]
theorem ctn_ag {ca : Nat → ClassId} {Ly : Int → LK} {n : Nat} {ad ad' : Int → Nat} {σ : Hp} (ha : agr n ad ad') (ho : okh Ly n σ) {v : Int} (h1 : 1 ≤ v) (h2 : v ≤ (n : Int)) : ctn ca (Ly v) ad' (σ v) = ctn ca (Ly v) ad (σ v) := by
  have hk := ho v
  generalize Ly v = lk at hk
  cases lk with
  | inl q =>
    obtain ⟨ci, ts⟩ := q
    simp only [ctn]
    refine congrArg (fun f => (Sum.inr (ci, f) : va_E)) (List.map_congr_left ?_)
    rintro ⟨t, i⟩ hm
    have ht : ts[i]? = some t := by simpa using List.mem_zipIdx_iff_getElem?.mp hm
    simp only [fvl]
    by_cases h : t = 2
    · rw [if_pos h, if_pos h]
      exact cv_ag ha ((hk i h1 h2 (by omega)).2 (by simp [kdL, ht, h]))
    · rw [if_neg h, if_neg h]
  | inr q =>
    obtain ⟨a, len⟩ := q
    simp only [ctn]
    by_cases h : a ≤ 2
    · rw [if_pos h, if_pos h]
    · rw [if_neg h, if_neg h]
      refine congrArg (fun f => (Sum.inl (ca a, len, Sum.inr (Sum.inr (Sum.inr (Sum.inr f)))) : va_E)) (funext fun i => ?_)
      obtain ⟨r1, r2⟩ := hk i h1 h2 (by omega)
      have r3 := r2 (by simp only [kdL, kdA]; rw [if_neg (by omega), if_neg (by omega), if_neg (by omega)])
      exact orf_ag ha r3.1 r3.2
theorem cls_new {ca : Nat → ClassId} {Ly : Int → LK} {n q : Nat} {ad : Int → Nat} {σ σ' : Hp} (ho : okh Ly n σ) (hσ : ∀ a : Int, a ≠ (n : Int) + 1 → σ' a = σ a) : cls ca Ly (grw ad n q) (n + 1) σ' = cls ca Ly ad n σ ++ [(q, ctn ca (Ly ((n : Int) + 1)) (grw ad n q) (σ' ((n : Int) + 1)))] := by
  unfold cls
  rw [List.range_succ, List.map_append, List.map_cons, List.map_nil, grw_eq]
  congr 1
  apply List.map_congr_left
  intro k hk
  have hk := List.mem_range.mp hk
  rw [hσ _ (by omega), grw_ag _ (by omega) (by omega), ctn_ag grw_ag ho (by omega) (by omega)]
theorem wd_new {Ly : Int → LK} {T : Int → Int → Option Int} {D : va_G} {ca : Nat → ClassId} {A : Nat → Prop} {H0 : Heap} {ad0 : Int → Nat} {n0 n q : Nat} {σ σ' : Hp} {ad : Int → Nat} {H H1 : Heap} {locs : List Loc} {e : va_E} (hW : Wd Ly T D ca A H0 ad0 n0 n σ ad H locs) (hσ : ∀ a : Int, a ≠ (n : Int) + 1 → σ' a = σ a) (h0 : ∀ i : Int, σ' ((n : Int) + 1) i = 0) (hT : ∀ i t : Int, T ((n : Int) + 1) i = some t → t = 0) (he : ctn ca (Ly ((n : Int) + 1)) (grw ad n q) (σ' ((n : Int) + 1)) = e)
    (hP1 : va_P D CL (cls ca Ly ad n σ ++ [(q, e)]) H1) (hD1 : va_D A (cls ca Ly ad n σ ++ [(q, e)])) (hS1 : va_S A H0 H1 locs) : Wd Ly T D ca A H0 ad0 n0 (n + 1) σ' (grw ad n q) H1 locs := by
  obtain ⟨hP, hD, hS, hok, hfx, hn0, hag⟩ := hW
  rw [← he, ← cls_new hok hσ] at hP1 hD1
  refine ⟨hP1, hD1, hS1, ?_, ?_, by omega, agr_tr hag grw_ag hn0⟩
  · intro v i h1 h2 h3
    by_cases hv : v = (n : Int) + 1
    · rw [hv, h0]; exact ⟨r3_0, fun _ => ⟨by omega, by omega⟩⟩
    · rw [hσ v hv]
      obtain ⟨a1, a2⟩ := hok v i h1 (by omega) h3
      exact ⟨a1, fun h => ⟨(a2 h).1, by have := (a2 h).2; omega⟩⟩
  · intro v i t h1 h2 h3
    by_cases hv : v = (n : Int) + 1
    · rw [hv] at h3 ⊢; rw [h0, hT i t h3]
    · rw [hσ v hv]
      exact hfx v i t h1 (by omega) h3
theorem st_new {n q : Nat} {ad : Int → Nat} {st : List AV} (hs : oks n st) : (.inr ((n : Int) + 1) :: st).map (cv (grw ad n q)) = .ref q :: st.map (cv ad) := by
  rw [List.map_cons, cv_r (by omega), grw_eq, map_ag grw_ag hs]
theorem oks_new {n : Nat} {st : List AV} (hs : oks n st) : oks (n + 1) (.inr ((n : Int) + 1) :: st) := oks_c.mpr ⟨⟨by omega, by omega⟩, oks_up (Nat.le_succ n) hs⟩
section XN
variable {Ly : Int → LK} {T : Int → Int → Option Int} {K : XK} {n : Nat} {σ : Hp} {bc bs pc nL d mc ms : Nat} {lv : List (Option AV)} {st : List AV} {cc : ByteArray} {own : String}
theorem x_objInit (C : Cx K cc nL own d mc ms) {idx : Nat} {v : Int} (h1 : Cond.methodLink own idx Lib.objectInit ∈ AW) (h2 : Cond.instanceMethod Lib.objectInit ∈ AW) (h3 : Cond.code Lib.objectInit ⟨#[0xb1]⟩ 1 none ∈ AW) (hd : decode cc pc = .ok (.invokespecial idx, 3)) (hv : ¬ v = 0) (hdd : 1 ≤ d) (hsl : st.length ≤ 8) (k : XW Ly T K n σ bc bs (pc + 3) lv st) : XW Ly T K n σ bc bs pc lv (.inr v :: st) := by
  obtain ⟨p, l, e, R, s, m, args, below, meth, c, Q, D, ca, A, H0, ad0, n0⟩ := K
  obtain ⟨hx, hb, hml, ho, hts, ⟨hK, hN, hO⟩, hA, hlk, hR⟩ := C
  intro ad H locs ls hW hl hs
  subst hR
  obtain ⟨-, hs⟩ := oks_c.mp hs
  have hro : 2 * (F0 m pc ls ((.inr v :: st).map (cv ad))).monitorRoom + ((st.map (cv ad)).map fun v => v.category).sum ≤ 8 := lv_room (by rw [sum_cat]; exact hsl)
  refine W.objInit (R := rmd d mc ms) hx hb ho (hts _ h1) (hts _ h2) (hts _ h3) (g := F0 m pc ls ((.inr v :: st).map (cv ad))) rfl hl.2.1 (by show _ :: _ = _; rw [cv_r hv]) hd hdd (by show _ ≤ 28 * d + 30; omega) ?_
  exact k ad H locs ls hW hl hs
theorem x_new (C : Cx K cc nL own d mc ms) {ci idx N : Nat} {cn : String} {F : u_T} {ts : List Nat} {ty : Nat → FieldType} (n' : Nat) (v : Int) (σ' : Hp) (hn' : n + 1 = n') (hv : (n : Int) + 1 = v) (cf : CF ci cn F N ts ty) (h1 : Cond.classLink own idx cn ∈ AW) (h2 : Cond.instantiable cn N ∈ AW) (h3 : Cond.initialized cn ∈ AW) (hd : decode cc pc = .ok (.new idx, 3)) (hL : Ly v = .inl (ci, ts)) (hdf : ∀ j, j < N → defaultValue (ty j) = if ts.getD j 0 = 2 then .null else .int 0) (hσ : ∀ a : Int, a ≠ v → σ' a = σ a) (h0 : ∀ i : Int, σ' v i = 0) (hT : ∀ i t : Int, T v i = some t → t = 0) (hb1 : bc + 1 ≤ mc) (hb2 : bs + N ≤ ms) (k : XW Ly T K n' σ' (bc + 1) (bs + N) (pc + 3) lv (.inr v :: st)) : XW Ly T K n σ bc bs pc lv st := by
  obtain ⟨p, l, e, R, s, m, args, below, meth, c, Q, D, ca, A, H0, ad0, n0⟩ := K
  obtain ⟨hx, hb, hml, ho, hts, ⟨hK, hN, hO⟩, hA, hlk, hR⟩ := C
  intro ad H locs ls hW hl hs
  subst hR
  subst hv
  subst hn'
  have hW0 := hW
  obtain ⟨hP, hD, hS, hok, hfx, hn0, hag⟩ := hW
  obtain ⟨c1, c2, c3, c4, c5, c6⟩ := cf
  refine va_new (fs := ts.zipIdx.map fun q => fvl ad q.1 0) hx hb hts c2 ty c4 ho (hts _ h1) (hts _ h2) (hts _ h3) hK hP hD hS hA c1 (fun j hj => ?_) hb1 hb2 hd (fun q H1 hP1 hD1 hS1 => ?_)
  · have hjt : ts[j]? = some (ts.getD j 0) := by
      rw [List.getD_eq_getElem?_getD, List.getElem?_eq_getElem (by omega)]; rfl
    rw [hdf j hj]
    show _ = (List.getD _ j Value.null)
    generalize ts.getD j 0 = t at hjt ⊢
    rw [List.getD_eq_getElem?_getD, List.getElem?_map, List.getElem?_zipIdx, hjt]
    simp only [Option.map_some, Option.getD_some, fvl, cv]
    split
    · rfl
    · rw [iI_0]
  · rw [← st_new hs]
    refine k (grw ad n q) H1 locs ls (wd_new hW0 hσ h0 hT ?_ hP1 hD1 hS1) (lvs_up hl (Nat.le_succ n) grw_ag) (oks_new hs)
    rw [hL]
    simp only [ctn]
    refine congrArg (fun f => (Sum.inr (ci, f) : va_E)) (List.map_congr_left fun x _ => ?_)
    rw [h0]
    simp only [fvl, cv]
    rfl
/-- an array of numbers: kind 0 int, 1 byte, 2 boolean -/
theorem x_newa (C : Cx K cc nL own d mc ms) {a len : Nat} {at0 : ArrayType} {x : Int} (n' : Nat) (v : Int) (σ' : Hp) (hn' : n + 1 = n') (hv : (n : Int) + 1 = v) (ha : (a = 0 ∧ at0 = .int) ∨ (a = 1 ∧ at0 = .byte) ∨ (a = 2 ∧ at0 = .boolean)) (h1 : Cond.arrayClass (newarray.typeOf at0) ∈ AW) (hd : decode cc pc = .ok (.newarray at0, 2)) (hL : Ly v = .inr (a, len)) (hlen : x = (len : Int)) (hl0 : len ≤ 100000) (hσ : ∀ a : Int, a ≠ v → σ' a = σ a) (h0 : ∀ i : Int, σ' v i = 0) (hT : ∀ i t : Int, T v i = some t → t = 0) (hb1 : bc + 1 ≤ mc) (hb2 : bs + len ≤ ms) (k : XW Ly T K n' σ' (bc + 1) (bs + len) (pc + 2) lv (.inr v :: st)) : XW Ly T K n σ bc bs pc lv (.inl x :: st) := by
  obtain ⟨p, l, e, R, s, m, args, below, meth, c, Q, D, ca, A, H0, ad0, n0⟩ := K
  obtain ⟨hx, hb, hml, ho, hts, ⟨hK, hN, hO⟩, hA, hlk, hR⟩ := C
  intro ad H locs ls hW hl hs
  subst hR
  subst hv
  subst hn'
  subst hlen
  obtain ⟨hr, hs⟩ := oks_c.mp hs
  have hW0 := hW
  obtain ⟨hP, hD, hS, hok, hfx, hn0, hag⟩ := hW
  have hlt : ¬ iI (len : Int) < 0 := by
    rw [← iI_0, iI_lt hr r3_0]; omega
  have hcl : (iI (len : Int)).toNatClampNeg = len := by rw [iI_cl hr]; omega
  have fin : ∀ (q : Nat) (cA : ClassId) (H1 : Heap), cA = ca a → va_P D CL (cls ca Ly ad n σ ++ [(q, .inl (cA, len, .inl fun _ => (0 : Int32)))]) H1 → va_D A (cls ca Ly ad n σ ++ [(q, .inl (cA, len, .inl fun _ => (0 : Int32)))]) → va_S A H0 H1 locs → W p l e (rmd d mc ms) s m args below meth c H1 locs (bc + 1) (bs + len) Q (F0 m (pc + 2) ls (.ref q :: st.map (cv ad))) := by
    intro q cA H1 hcA hP1 hD1 hS1
    rw [← st_new hs]
    refine k (grw ad n q) H1 locs ls (wd_new hW0 hσ h0 hT ?_ hP1 hD1 hS1) (lvs_up hl (Nat.le_succ n) grw_ag) (oks_new hs)
    rw [hL, hcA]
    simp only [ctn]
    rw [if_pos (by omega)]
    refine congrArg (fun f => (Sum.inl (ca a, len, Sum.inl f) : va_E)) (funext fun i => ?_)
    rw [h0, iI_0]
  rcases ha with ⟨rfl, rfl⟩ | ⟨rfl, rfl⟩ | ⟨rfl, rfl⟩
  · refine va_newa (ty := .int) (a0 := (len, .inl fun _ => (0 : Int32))) hx hb (hts _ h1) rfl hK hP hD hS hA (fun _ => rfl) hlt hcl (by show len * 4 ≤ _; omega) hb1 hb2 hd (fun q cA H1 hK1 hP1 hD1 hS1 => fin q cA H1 ?_ hP1 hD1 hS1)
    have e1 := (hK1.2 6 _ rfl).2
    have e2 := (hK.2 0 _ rfl).2
    exact Option.some.inj (e1.symm.trans e2)
  · refine va_newa (ty := .byte) (a0 := (len, .inl fun _ => (0 : Int32))) hx hb (hts _ h1) rfl hK hP hD hS hA (fun _ => rfl) hlt hcl (by show len * 1 ≤ _; omega) hb1 hb2 hd (fun q cA H1 hK1 hP1 hD1 hS1 => fin q cA H1 ?_ hP1 hD1 hS1)
    have e1 := (hK1.2 6 _ rfl).2
    have e2 := (hK.2 1 _ rfl).2
    exact Option.some.inj (e1.symm.trans e2)
  · refine va_newa (ty := .boolean) (a0 := (len, .inl fun _ => (0 : Int32))) hx hb (hts _ h1) rfl hK hP hD hS hA (fun _ => rfl) hlt hcl (by show len * 1 ≤ _; omega) hb1 hb2 hd (fun q cA H1 hK1 hP1 hD1 hS1 => fin q cA H1 ?_ hP1 hD1 hS1)
    have e1 := (hK1.2 6 _ rfl).2
    have e2 := (hK.2 2 _ rfl).2
    exact Option.some.inj (e1.symm.trans e2)
/-- an array of references: kind 3 transactions, 4 contents -/
theorem x_anew (C : Cx K cc nL own d mc ms) {a len idx : Nat} {x : Int} {cn : String} (n' : Nat) (v : Int) (σ' : Hp) (hn' : n + 1 = n') (hv : (n : Int) + 1 = v) (ha : (a = 3 ∧ cn = "LogStore$Transaction") ∨ (a = 4 ∧ cn = "LogStore$Contents")) (h1 : Cond.classLink own idx cn ∈ AW) (hd : decode cc pc = .ok (.anewarray idx, 3)) (hL : Ly v = .inr (a, len)) (hlen : x = (len : Int)) (hl0 : len ≤ 100000) (hσ : ∀ a : Int, a ≠ v → σ' a = σ a) (h0 : ∀ i : Int, σ' v i = 0) (hT : ∀ i t : Int, T v i = some t → t = 0) (hb1 : bc + 1 ≤ mc) (hb2 : bs + len ≤ ms) (k : XW Ly T K n' σ' (bc + 1) (bs + len) (pc + 3) lv (.inr v :: st)) : XW Ly T K n σ bc bs pc lv (.inl x :: st) := by
  obtain ⟨p, l, e, R, s, m, args, below, meth, c, Q, D, ca, A, H0, ad0, n0⟩ := K
  obtain ⟨hx, hb, hml, ho, hts, ⟨hK, hN, hO⟩, hA, hlk, hR⟩ := C
  intro ad H locs ls hW hl hs
  subst hR
  subst hv
  subst hn'
  subst hlen
  obtain ⟨hr, hs⟩ := oks_c.mp hs
  have hW0 := hW
  obtain ⟨hP, hD, hS, hok, hfx, hn0, hag⟩ := hW
  have hlt : ¬ iI (len : Int) < 0 := by
    rw [← iI_0, iI_lt hr r3_0]; omega
  have hcl : (iI (len : Int)).toNatClampNeg = len := by rw [iI_cl hr]; omega
  have fin : ∀ (q : Nat) (cA : ClassId) (H1 : Heap), cA = ca a → va_P D CL (cls ca Ly ad n σ ++ [(q, .inl (cA, len, .inr (.inr (.inr (.inr fun _ => none)))))]) H1 → va_D A (cls ca Ly ad n σ ++ [(q, .inl (cA, len, .inr (.inr (.inr (.inr fun _ => none)))))]) → va_S A H0 H1 locs → W p l e (rmd d mc ms) s m args below meth c H1 locs (bc + 1) (bs + len) Q (F0 m (pc + 3) ls (.ref q :: st.map (cv ad))) := by
    intro q cA H1 hcA hP1 hD1 hS1
    rw [← st_new hs]
    refine k (grw ad n q) H1 locs ls (wd_new hW0 hσ h0 hT ?_ hP1 hD1 hS1) (lvs_up hl (Nat.le_succ n) grw_ag) (oks_new hs)
    rw [hL, hcA]
    simp only [ctn]
    rw [if_neg (by omega)]
    refine congrArg (fun f => (Sum.inl (ca a, len, Sum.inr (Sum.inr (Sum.inr (Sum.inr f)))) : va_E)) (funext fun i => ?_)
    rw [h0]
    rfl
  rcases ha with ⟨rfl, rfl⟩ | ⟨rfl, rfl⟩
  · refine va_newq hx hb ho (hts _ h1) hO.1 hK hP hD hS hA hlt hcl (by omega) hb1 hb2 hd (fun q cA H1 hK1 hP1 hD1 hS1 => fin q cA H1 ?_ hP1 hD1 hS1)
    obtain ⟨_, _, _, _, _, e1⟩ := (hK1.2 6 _ rfl).2
    obtain ⟨_, _, _, _, _, e2⟩ := (hK.2 3 _ rfl).2
    exact Option.some.inj (e1.symm.trans e2)
  · refine va_newq hx hb ho (hts _ h1) hO.2.1 hK hP hD hS hA hlt hcl (by omega) hb1 hb2 hd (fun q cA H1 hK1 hP1 hD1 hS1 => fin q cA H1 ?_ hP1 hD1 hS1)
    obtain ⟨_, _, _, _, _, e1⟩ := (hK1.2 6 _ rfl).2
    obtain ⟨_, _, _, _, _, e2⟩ := (hK.2 4 _ rfl).2
    exact Option.some.inj (e1.symm.trans e2)
/-- a final field, in the constructor -/
theorem x_putF (C : Cx K cc nL own d mc ms) (hin : Nmi K) {ci idx j t N : Nat} {cn : String} {F : u_T} {ts : List Nat} {ty : Nat → FieldType} {v x : Int} (ji : Int) (hji : (j : Int) = ji) (hnb : (n : Int) ≤ 2147483647) (cf : CF ci cn F N ts ty) (fl : Cond.fieldLink own idx cn (F j).2.1 (F j).2.2.1 ∈ AW) (hd : decode cc pc = .ok (.putfield idx, 3)) (hj : ts[j]? = some t) (ht : (ty j = .int ∧ t = 0) ∨ (t = 2 ∧ ∀ ad : Int → Nat, narrow (ty j) (cv ad (.inr x)) = cv ad (.inr x) ∧ fits (ty j) (cv ad (.inr x)) = true)) (hfin : (F j).2.2.2 = true) (hown : own = cn) (hT : T v ji = none) (hL : Ly v = .inl (ci, ts)) (h1 : 1 ≤ v) (h2 : v ≤ (n : Int)) (k : XW Ly T K n (st2 σ v ji x) bc bs (pc + 3) lv st) : XW Ly T K n σ bc bs pc lv (fav t x :: .inr v :: st) := by
  obtain ⟨p, l, e, R, s, m, args, below, meth, c, Q, D, ca, A, H0, ad0, n0⟩ := K
  obtain ⟨hx, hb, hml, ho, hts, ⟨hK, hN, hO⟩, hA, hlk, hR⟩ := C
  intro ad H locs ls hW hl hs
  subst hji
  obtain ⟨hr, hs⟩ := oks_c.mp hs
  obtain ⟨-, hs⟩ := oks_c.mp hs
  obtain ⟨c1, c2, c3, c4, c5, c6⟩ := cf
  have hjN : j < N := by rw [← c3]; exact (List.getElem?_eq_some_iff.mp hj).1
  obtain ⟨hP, hD, hS, hok, hfx, hn0, hag⟩ := hW
  have he := cls_at (ca := ca) (Ly := Ly) (ad := ad) (σ := σ) h1 h2
  rw [hL] at he
  have hnf : narrow (ty j) (fvl ad t x) = fvl ad t x ∧ fits (ty j) (fvl ad t x) = true := by
    rcases ht with ⟨h, h'⟩ | ⟨h, h'⟩
    · rw [h, h']; exact ⟨rfl, rfl⟩
    · have := h' ad
      simp only [fvl, if_pos h]
      exact this
  have hR3 : R3 x ∧ (t = 2 → 0 ≤ x ∧ x ≤ (n : Int)) := by
    rcases ht with ⟨h, h'⟩ | ⟨h, h'⟩
    · subst h'
      exact ⟨hr, fun h => by omega⟩
    · subst h
      have h0 : 0 ≤ x ∧ x ≤ (n : Int) := hr
      exact ⟨⟨by omega, by omega⟩, fun _ => h0⟩
  have hset : ctn ca (Ly v) ad (st2 σ v j x v) = .inr (ci, (ts.zipIdx.map fun q => fvl ad q.1 (σ v (q.2 : Nat))).set j (fvl ad t x)) := by
    rw [hL]
    show Sum.inr (ci, _) = Sum.inr (ci, _)
    rw [ctn_obj hj (f := σ v) (f' := st2 σ v j x v) (fun b => st2_at)]
  show W p l e R s m args below meth c H locs bc bs Q (F0 m pc ls (cv ad (fav t x) :: cv ad (.inr v) :: st.map (cv ad)))
  rw [cv_r (by omega), cv_fav]
  have hlen : j < (ts.zipIdx.map fun q => fvl ad q.1 (σ v (q.2 : Nat))).length := by simp; omega
  refine va_putF hx hb hts c2 ty c4 c5 ho hK hP hD hS _ he c1 j hjN (hts _ fl) (fun x h => by rw [c6 j hjN] at h; exact h) hfin hin (by rw [c6 j hjN, hown]) (c4 j hjN) hnf.1 hnf.2 hlen hd (fun H1 locs1 hP1 hD1 hS1 => ?_)
  rw [cls_set h1 h2 hset (fun u hu => st2_ne hu)] at hP1 hD1
  exact k ad H1 locs1 ls ⟨hP1, hD1, hS1, okh_st hok hR3.1 (fun h => hR3.2 (by rw [hL] at h; simpa [kdL, hj] using h)), fxd_st hfx hT, hn0, hag⟩ hl hs
theorem x_heap {σ' : Hp} (h : σ = σ') (k : XW Ly T K n σ' bc bs pc lv st) : XW Ly T K n σ bc bs pc lv st := h ▸ k
/-- the outer array behind the fill (begun from the claim's NAMES text) -/
theorem mn_outer (c : ClassId) (N h0 : Nat) : ∀ i : Nat, Jvm.Free.Multi.outerC c N h0 i = arrV c N (fun j => va_rf (if j < i then some (h0 + 1 + j) else none))
  | 0 => by
    show ({ cls := c, slots := Array.replicate N .null, vm := .none } : Cell) = _
    rw [arrV_new]
    refine congrArg (arrV c N) (funext fun j => ?_)
    simp [va_rf]
  | i + 1 => by
    show (Jvm.Free.Multi.outerC c N h0 i).setSlot i (.ref (h0 + 1 + i)) = _
    rw [mn_outer c N h0 i, arrV_store]
    refine congrArg (arrV c N) (funext fun j => ?_)
    by_cases e : j = i
    · subst e
      simp [updV, va_rf]
    · by_cases h : j < i
      · simp [updV, e, h, Nat.lt_succ_of_lt h]
      · simp [updV, e, h, show ¬ j < i + 1 by omega]
def grm (ad : Int → Nat) (n h : Nat) : Int → Nat := fun v => if (n : Int) + 1 ≤ v then h + (v - ((n : Int) + 1)).toNat else ad v
theorem grm_ag {ad : Int → Nat} {n h : Nat} : agr n ad (grm ad n h) := fun v _ h => if_neg (by omega)
theorem grm_ge {ad : Int → Nat} {n h : Nat} {v : Int} (hv : (n : Int) + 1 ≤ v) : grm ad n h v = h + (v - ((n : Int) + 1)).toNat := if_pos hv
theorem AIs.over {A : Array Value} {U : State} (h : AIs U) : (Cond.arrayOver (.array .int)).before A U = true := by
  obtain ⟨comp, c, k, h1, h2, h3, h4, h5⟩ := h
  have e1 : (FieldType.array .int).toString = "[I" := rfl
  have e2 : "[" ++ (FieldType.array .int).toString = "[[I" := rfl
  unfold Cond.before Cond.holds Cond.value
  simp only [e1, h1, Option.bind_some]
  erw [h2]
  simp only [Option.bind_some, h3, Option.map_some, h4]
  rw [show U.vm.findClass ("[" ++ "[I") = some c from h5]
  simp
/-- new int[N][M] -/
theorem x_mna (C : Cx K cc nL own d mc ms) {N M idx : Nat} {x y : Int} (n' : Nat) (v : Int) (σ' : Hp) (hn' : n + 1 + N = n') (hv : (n : Int) + 1 = v) (h1 : Cond.classLink own idx "[[I" ∈ AW) (h2 : Cond.arrayClass .int ∈ AW) (hd : decode cc pc = .ok (.multianewarray idx 2, 4)) (hL : Ly v = .inr (5, N)) (hL2 : ∀ j : Int, 0 ≤ j → j < (N : Int) → Ly (v + 1 + j) = .inr (0, M)) (hx0 : x = (N : Int)) (hy0 : y = (M : Int)) (hl0 : N ≤ 1000) (hm0 : M ≤ 1000) (hnb : n ≤ 1000) (hσ : ∀ a : Int, a < v → σ' a = σ a) (h0 : ∀ i : Int, 0 ≤ i → i < (N : Int) → σ' v i = v + 1 + i) (h00 : ∀ i : Int, (N : Int) ≤ i → σ' v i = 0) (h01 : ∀ a i : Int, v < a → a ≤ v + (N : Int) → σ' a i = 0) (hT : ∀ a i t : Int, v ≤ a → T a i = none) (hb1 : bc + (1 + N) ≤ mc) (hb2 : bs + (N + N * M) ≤ ms) (k : XW Ly T K n' σ' (bc + 1 + N) (bs + N + N * M) (pc + 4) lv (.inr v :: st)) : XW Ly T K n σ bc bs pc lv (.inl y :: .inl x :: st) := by
  obtain ⟨p, l, e, R, s, m, args, below, meth, c, Q, D, ca, A, H0, ad0, n0⟩ := K
  obtain ⟨hx, hb, hml, ho, hts, ⟨hK, hN, hO⟩, hA, hlk, hR⟩ := C
  intro ad H locs ls hW hl hs
  subst hR
  subst hv
  subst hn'
  subst hx0
  subst hy0
  obtain ⟨hry, hs⟩ := oks_c.mp hs
  obtain ⟨hrx, hs⟩ := oks_c.mp hs
  obtain ⟨hP, hD, hS, hok, hfx, hn0, hag⟩ := hW
  have hlx : ¬ iI (N : Int) < 0 := by rw [← iI_0, iI_lt hrx r3_0]; omega
  have hly : ¬ iI (M : Int) < 0 := by rw [← iI_0, iI_lt hry r3_0]; omega
  have hcx : (iI (N : Int)).toNatClampNeg = N := by rw [iI_cl hrx]; omega
  have hcy : (iI (M : Int)).toNatClampNeg = M := by rw [iI_cl hry]; omega
  intro T0 hT0 Xs
  obtain ⟨vm₁, cA, comp, -, fA, fC, -, -, X', step⟩ := Xs.multianewarray2F hx ho (ty := .int) (hts _ h1) (AIs.over hO.2.2) (hts _ h2) (g := F0 m pc ls (.int (iI (M : Int)) :: .int (iI (N : Int)) :: st.map (cv ad))) rfl (by rw [hb]; exact hd) rfl hlx hly (by rw [hcx]; omega) (by rw [hcy]; show M * 4 ≤ _; omega) (by rw [hcy]; omega) rfl rfl (by rw [hcx]; exact hb1) (by rw [hcx, hcy]; exact hb2)
  rw [hcx, hcy] at X' step
  have eA : ca 5 = cA := Option.some.inj (((hK.2 5 _ rfl).2 : s.vm.findClass _ = some (ca 5)).symm.trans fA)
  have eI : ca 0 = comp := Option.some.inj (((hK.2 0 _ rfl).2 : s.vm.findClass _ = some (ca 0)).symm.trans fC)
  subst eA
  subst eI
  generalize hF : Jvm.Free.Multi.fill (T0.setVm vm₁) (ca 5) (ca 0) N M (defaultValue .int) N = F at X' step
  have hTh : (T0.setVm vm₁).heap = H := hT0
  obtain ⟨f1, f2, -, -⟩ := Jvm.Free.Multi.fill_facts (T0.setVm vm₁) (ca 5) (ca 0) N M (defaultValue .int) N
  rw [hF, hTh] at f1 f2
  have hold : ∀ x : Nat, x < H.size → F.heap[x]? = H[x]? := fun x hx => by
    have := Jvm.Free.Multi.fill_old (T0.setVm vm₁) (ca 5) (ca 0) N M (defaultValue .int) (a := x) (by rw [hTh]; exact hx) N
    rw [hF, hTh] at this
    exact this
  have hrow : ∀ j : Nat, j < N → F.heap[H.size + 1 + j]? = some (vp_cell (ca 0) (M, .inl fun _ => (0 : Int32))) := fun j hj => by
    have := Jvm.Free.Multi.fill_inner (T0.setVm vm₁) (ca 5) (ca 0) N M (defaultValue .int) N j hj
    rw [hF, hTh] at this
    rw [this]
    show some ({ cls := ca 0, slots := Array.replicate M (.int 0), vm := .none } : Cell) = _
    rw [arrV_new]
    rfl
  rw [mn_outer] at f2
  -- the new cells, one by one
  have hat : ∀ v : Int, (n : Int) + 1 ≤ v → v ≤ (n : Int) + 1 + (N : Int) → F.heap[grm ad n H.size v]? = some (match ctn ca (Ly v) (grm ad n H.size) (σ' v) with | .inl a => vp_cell a.1 a.2 | .inr _ => arrV 0 0 (fun _ => .null)) := by
    intro v v1 v2
    rw [grm_ge v1]
    by_cases hv : v = (n : Int) + 1
    · subst hv
      rw [hL, show H.size + (((n : Int) + 1 - ((n : Int) + 1))).toNat = H.size by omega, f2]
      simp only [ctn]
      rw [if_neg (by omega)]
      show _ = some (vp_cell _ _)
      rw [vp_cell_q]
      refine congrArg some ?_
      unfold arrV
      congr 1
      refine congrArg Array.ofFn (funext fun j => ?_)
      have hj := j.isLt
      show va_rf (if (j : Nat) < N then some (H.size + 1 + (j : Nat)) else none) = va_rf (orf (grm ad n H.size) (σ' ((n : Int) + 1) ((j : Nat) : Int)))
      rw [if_pos hj, h0 _ (by omega) (by omega)]
      unfold orf
      rw [if_neg (by omega), grm_ge (by omega)]
      congr 2
      omega
    · have hlr := hL2 (v - ((n : Int) + 1) - 1) (by omega) (by omega)
      rw [show (n : Int) + 1 + 1 + (v - ((n : Int) + 1) - 1) = v by omega] at hlr
      rw [hlr, show H.size + (v - ((n : Int) + 1)).toNat = H.size + 1 + ((v - ((n : Int) + 1)).toNat - 1) by omega, hrow _ (by omega)]
      simp only [ctn]
      rw [if_pos (by omega)]
      refine congrArg (fun f => some (vp_cell (ca 0) (M, Sum.inl f))) (funext fun i => ?_)
      rw [h01 v _ (by omega) (by omega), iI_0]
  have hinl : ∀ v : Int, (n : Int) + 1 ≤ v → v ≤ (n : Int) + 1 + (N : Int) → ∃ a, ctn ca (Ly v) (grm ad n H.size) (σ' v) = .inl a := by
    intro v v1 v2
    by_cases hv : v = (n : Int) + 1
    · subst hv
      rw [hL]; exact ⟨_, rfl⟩
    · have hlr := hL2 (v - ((n : Int) + 1) - 1) (by omega) (by omega)
      rw [show (n : Int) + 1 + 1 + (v - ((n : Int) + 1) - 1) = v by omega] at hlr
      rw [hlr]; exact ⟨_, rfl⟩
  have hget : ∀ (k9 : Nat) (q : Nat × va_E), (cls ca Ly (grm ad n H.size) (n + 1 + N) σ')[k9]? = some q → k9 < n + 1 + N ∧ q = (grm ad n H.size ((k9 : Int) + 1), ctn ca (Ly ((k9 : Int) + 1)) (grm ad n H.size) (σ' ((k9 : Int) + 1))) := by
    intro k9 q hq
    have hk : k9 < n + 1 + N := by
      have := (List.getElem?_eq_some_iff.mp hq).1
      simpa [cls] using this
    have h6 := cls_at (ca := ca) (Ly := Ly) (ad := grm ad n H.size) (n := n + 1 + N) (σ := σ') (v := (k9 : Int) + 1) (by omega) (by omega)
    rw [show ((k9 : Int) + 1 - 1).toNat = k9 by omega, hq] at h6
    exact ⟨hk, Option.some.inj h6⟩
  have hlow : ∀ v : Int, 1 ≤ v → v ≤ (n : Int) → grm ad n H.size v = ad v ∧ ctn ca (Ly v) (grm ad n H.size) (σ' v) = ctn ca (Ly v) ad (σ v) := fun v v1 v2 => ⟨grm_ag v v1 v2, by rw [hσ v (by omega)]; exact ctn_ag grm_ag hok v1 v2⟩
  have hlt : ∀ v : Int, 1 ≤ v → v ≤ (n : Int) → ad v < H.size := fun v v1 v2 => (hP _ _ (cls_at v1 v2)).lt
  have hP1 : va_P D CL (cls ca Ly (grm ad n H.size) (n + 1 + N) σ') F.heap := by
    intro k9 q hq
    obtain ⟨hk, rfl⟩ := hget k9 q hq
    by_cases hkn : k9 < n
    · obtain ⟨g1, g2⟩ := hlow ((k9 : Int) + 1) (by omega) (by omega)
      rw [g1, g2]
      have h7 := cls_at (ca := ca) (Ly := Ly) (ad := ad) (n := n) (σ := σ) (v := (k9 : Int) + 1) (by omega) (by omega)
      exact (hP _ _ h7).kept (hold _ (hlt _ (by omega) (by omega)))
    · have g1 := hat ((k9 : Int) + 1) (by omega) (by omega)
      obtain ⟨a9, g2⟩ := hinl ((k9 : Int) + 1) (by omega) (by omega)
      rw [g2] at g1 ⊢
      exact g1
  have hD1 : va_D A (cls ca Ly (grm ad n H.size) (n + 1 + N) σ') := by
    refine ⟨fun i j p q hp hq hpq => ?_, fun k9 q hq => ?_⟩
    · obtain ⟨hi, rfl⟩ := hget i p hp
      obtain ⟨hj, rfl⟩ := hget j q hq
      have hpq : grm ad n H.size ((i : Int) + 1) = grm ad n H.size ((j : Int) + 1) := hpq
      by_cases h1 : i < n <;> by_cases h2 : j < n
      · rw [(hlow ((i : Int) + 1) (by omega) (by omega)).1, (hlow ((j : Int) + 1) (by omega) (by omega)).1] at hpq
        have := ad_inj hD (by omega) (by omega) (by omega) (by omega) hpq
        omega
      · rw [(hlow ((i : Int) + 1) (by omega) (by omega)).1, grm_ge (v := (j : Int) + 1) (by omega)] at hpq
        have := hlt ((i : Int) + 1) (by omega) (by omega)
        omega
      · rw [(hlow ((j : Int) + 1) (by omega) (by omega)).1, grm_ge (v := (i : Int) + 1) (by omega)] at hpq
        have := hlt ((j : Int) + 1) (by omega) (by omega)
        omega
      · rw [grm_ge (v := (i : Int) + 1) (by omega), grm_ge (v := (j : Int) + 1) (by omega)] at hpq
        omega
    · obtain ⟨hk, rfl⟩ := hget k9 q hq
      show A (grm ad n H.size ((k9 : Int) + 1))
      by_cases h1 : k9 < n
      · rw [(hlow ((k9 : Int) + 1) (by omega) (by omega)).1]
        exact hD.2 _ _ (cls_at (ca := ca) (Ly := Ly) (ad := ad) (n := n) (σ := σ) (v := (k9 : Int) + 1) (by omega) (by omega))
      · rw [grm_ge (by omega)]
        exact hA _ (by have := hS.1; omega)
  have hS1 : va_S A H0 F.heap locs := ⟨by rw [f1]; have := hS.1; omega, fun x h1 h2 => (hold x (Nat.lt_of_lt_of_le h1 hS.1)).trans (hS.2.1 x h1 h2), hS.2.2⟩
  have hok1 : okh Ly (n + 1 + N) σ' := by
    intro a i a1 a2 i0
    by_cases ha : a < (n : Int) + 1
    · rw [hσ a ha]
      obtain ⟨g1, g2⟩ := hok a i a1 (by omega) i0
      exact ⟨g1, fun h => ⟨(g2 h).1, by have := (g2 h).2; omega⟩⟩
    · by_cases ha2 : a = (n : Int) + 1
      · rw [ha2]
        by_cases hi : i < (N : Int)
        · rw [h0 i i0 hi]
          exact ⟨⟨by omega, by omega⟩, fun _ => ⟨by omega, by omega⟩⟩
        · rw [h00 i (by omega)]
          exact ⟨r3_0, fun _ => ⟨by omega, by omega⟩⟩
      · rw [h01 a i (by omega) (by omega)]
        exact ⟨r3_0, fun _ => ⟨by omega, by omega⟩⟩
  have hfx1 : fxd T (n + 1 + N) σ' := by
    intro a i t a1 a2 h3
    by_cases ha : a < (n : Int) + 1
    · rw [hσ a ha]; exact hfx a i t a1 (by omega) h3
    · rw [hT a i t (by omega)] at h3; cases h3
  obtain ⟨t, a1, b1⟩ := k (grm ad n H.size) F.heap locs ls ⟨hP1, hD1, hS1, hok1, hfx1, by omega, agr_tr hag grm_ag hn0⟩ (lvs_up hl (by omega) grm_ag) (oks_c.mpr ⟨⟨by omega, by omega⟩, oks_up (by omega) hs⟩) F rfl X'
  refine ⟨t, step t ?_, b1⟩
  have e1 : T0.heap.size = H.size := by rw [hT0]
  rw [e1]
  have hst : (.inr ((n : Int) + 1) :: st).map (cv (grm ad n H.size)) = .ref H.size :: st.map (cv ad) := by
    rw [List.map_cons, cv_r (by omega), grm_ge (by omega), map_ag grm_ag hs, show H.size + ((n : Int) + 1 - ((n : Int) + 1)).toNat = H.size by omega]
  rw [hst] at a1
  exact a1
end XN
