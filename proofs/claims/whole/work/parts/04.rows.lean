
-- small facts that the rows use
theorem r3_0 : R3 0 := ⟨by decide, by decide⟩
theorem iI_b {x : Int} (h1 : -128 ≤ x) (h2 : x ≤ 127) : (iI x).toInt8.toInt32 = iI x := by
  apply Int32.toInt_inj.mp
  have hr : R3 x := ⟨by omega, by omega⟩
  rw [Int8.toInt_toInt32, Int32.toInt_toInt8, iI_t hr]
  rw [Int.bmod_eq_of_le (by omega) (by omega)]
theorem iI_nb {x : Int} (h1 : -128 ≤ x) (h2 : x ≤ 127) : vp_nar .byte (iI x) = iI x := iI_b h1 h2
theorem iI_nz {x : Int} (h1 : 0 ≤ x) (h2 : x ≤ 1) : vp_nar .boolean (iI x) = iI x := by
  rcases (show x = 0 ∨ x = 1 by omega) with rfl | rfl <;> decide
theorem iI_z {x : Int} (h1 : 0 ≤ x) (h2 : x ≤ 1) : narrow .boolean (.int (iI x)) = .int (iI x) ∧ fits .boolean (.int (iI x)) = true := by
  rcases (show x = 0 ∨ x = 1 by omega) with rfl | rfl <;> exact ⟨by decide, by decide⟩
def fav (t : Nat) (x : Int) : AV := if t = 2 then .inr x else .inl x
theorem cv_fav (ad : Int → Nat) (t : Nat) (x : Int) : cv ad (fav t x) = fvl ad t x := by
  by_cases h : t = 2 <;> simp [fav, fvl, h, cv]
theorem ctn_obj {ad : Int → Nat} {ts : List Nat} {j t : Nat} {x : Int} {f f' : Int → Int} (hj : ts[j]? = some t) (hf : ∀ b : Int, f' b = if b = (j : Int) then x else f b) : (ts.zipIdx.map fun q => fvl ad q.1 (f' (q.2 : Nat))) = (ts.zipIdx.map fun q => fvl ad q.1 (f (q.2 : Nat))).set j (fvl ad t x) := by
  apply List.ext_getElem?
  intro i
  by_cases hi : i = j
  · subst hi
    have hl : i < (ts.zipIdx.map fun q => fvl ad q.1 (f (q.2 : Nat))).length := by simp; exact (List.getElem?_eq_some_iff.mp hj).1
    rw [List.getElem?_set_self hl, List.getElem?_map, List.getElem?_zipIdx, hj]
    simp [hf]
  · rw [List.getElem?_set_ne (Ne.symm hi), List.getElem?_map, List.getElem?_map, List.getElem?_zipIdx]
    cases ts[i]? with
    | none => rfl
    | some t' =>
      have h5 : ¬ ((i : Nat) : Int) = (j : Int) := by omega
      simp [hf, h5]
theorem ctn_arr {f f' : Int → Int} {i x : Int} (hr : R3 i) (h0 : 0 ≤ i) (hf : ∀ b : Int, f' b = if b = i then x else f b) : (fun q : Nat => iI (f' (q : Nat))) = upd (fun q => iI (f (q : Nat))) (iI i).toNatClampNeg (iI x) := by
  funext q
  rw [iI_cl hr]
  by_cases h : q = i.toNat
  · have h2 : ((q : Nat) : Int) = i := by omega
    show iI (f' (q : Nat)) = _
    rw [hf, if_pos h2]
    simp [upd, h]
  · have h2 : ¬ ((q : Nat) : Int) = i := by omega
    show iI (f' (q : Nat)) = _
    rw [hf, if_neg h2]
    simp [upd, h]
theorem ad_inj {ca : Nat → ClassId} {Ly : Int → LK} {ad : Int → Nat} {n : Nat} {σ : Hp} {A : Nat → Prop} (hD : va_D A (cls ca Ly ad n σ)) {v w : Int} (v1 : 1 ≤ v) (v2 : v ≤ (n : Int)) (w1 : 1 ≤ w) (w2 : w ≤ (n : Int)) (h : ad v = ad w) : v = w := by
  have := hD.1 _ _ _ _ (cls_at v1 v2) (cls_at w1 w2) h
  omega
theorem orf_inj {ca : Nat → ClassId} {Ly : Int → LK} {ad : Int → Nat} {n : Nat} {σ : Hp} {A : Nat → Prop} (hD : va_D A (cls ca Ly ad n σ)) {v w : Int} (hv : ov n (.inr v)) (hw : ov n (.inr w)) (h : orf ad v = orf ad w) : v = w := by
  unfold orf at h
  by_cases h0 : v = 0
  · rw [if_pos h0] at h
    by_cases h1 : w = 0
    · omega
    · rw [if_neg h1] at h; cases h
  · rw [if_neg h0] at h
    by_cases h1 : w = 0
    · rw [if_pos h1] at h; cases h
    · rw [if_neg h1] at h
      exact ad_inj hD (by have := hv.1; omega) hv.2 (by have := hw.1; omega) hw.2 (Option.some.inj h)
-- what is known of a class, and of a place where a field is named
def CF (ci : Nat) (cn : String) (F : u_T) (N : Nat) (ts : List Nat) (ty : Nat → FieldType) : Prop := CL[ci]? = some (cn, F, N) ∧ (∀ w ∈ u_ws cn F N, w ∈ AW) ∧ ts.length = N ∧ (∀ k, k < N → parseFieldDescriptor (F k).2.2.1 = some (ty k)) ∧ (∀ a, a < N → ∀ b, b < N → a ≠ b → (F a).2.1 ≠ (F b).2.1) ∧ ∀ k, k < N → (F k).1 = cn
def FLk (own : String) (idx : Nat) (cn : String) (F : u_T) (j : Nat) : Prop := Cond.fieldLink own idx cn (F j).2.1 (F j).2.2.1 ∈ AW ∨ ∃ host, Cond.fieldLinkNest own idx cn (F j).2.1 (F j).2.2.1 host ∈ NW

-- ===== the walk's own judgement: XW (a frame at pc with abstract locals and stack over an abstract heap comes to its end) =====
def tysL (ca : Nat → ClassId) : List (ClassId × FieldType) := [(ca 0, .int), (ca 1, .byte), (ca 2, .boolean), (ca 3, .object "LogStore$Transaction"), (ca 4, .object "LogStore$Contents"), (ca 5, .array .int)]
def rmd (d mc ms : Nat) : Room := { frames := d, cells := mc, slots := ms, locals := 28 * d + 30 }
abbrev XK : Type := Program × Launch × Env × Room × State × MethodId × Array Value × List Frame × Method × Code × (State → Prop) × va_G × (Nat → ClassId) × (Nat → Prop) × Heap × (Int → Nat) × Nat
def Wd (Ly : Int → LK) (T : Int → Int → Option Int) (D : va_G) (ca : Nat → ClassId) (A : Nat → Prop) (H0 : Heap) (ad0 : Int → Nat) (n0 n : Nat) (σ : Hp) (ad : Int → Nat) (H : Heap) (locs : List Loc) : Prop :=
  va_P D CL (cls ca Ly ad n σ) H ∧ va_D A (cls ca Ly ad n σ) ∧ va_S A H0 H locs ∧ okh Ly n σ ∧ fxd T n σ ∧ n0 ≤ n ∧ agr n0 ad0 ad
def XW (Ly : Int → LK) (T : Int → Int → Option Int) (K : XK) (n : Nat) (σ : Hp) (bc bs pc : Nat) (lv : List (Option AV)) (st : List AV) : Prop := match K with
  | (p, l, e, R, s, m, args, below, meth, c, Q, D, ca, A, H0, ad0, n0) => ∀ (ad : Int → Nat) (H : Heap) (locs : List Loc) (ls : Array Slot), Wd Ly T D ca A H0 ad0 n0 n σ ad H locs → lvs n ad ls c.maxLocals lv → oks n st → W p l e R s m args below meth c H locs bc bs Q (F0 m pc ls (st.map (cv ad)))
def Gst (D : va_G) (ca : Nat → ClassId) (U : State) : Prop := va_K D CL (tysL ca) U ∧ (∀ w ∈ NW, va_Nw w U) ∧ AOs U
def Cx (K : XK) (cc : ByteArray) (nL : Nat) (own : String) (d mc ms : Nat) : Prop := match K with
  | (p, _, _, R, s, m, args, _, meth, c, _, D, ca, A, H0, _, _) => p.tables.exec = Jvm.exec ∧ c.code = cc ∧ c.maxLocals = nL ∧ s.vm.findClass own = some m.cls ∧ (∀ w ∈ AW, w.before args s = true) ∧ Gst D ca s ∧ (∀ q, H0.size ≤ q → A q) ∧ meth.locks = false ∧ R = rmd d mc ms
section XR
variable {Ly : Int → LK} {T : Int → Int → Option Int} {K : XK} {n : Nat} {σ : Hp} {bc bs pc nL d mc ms : Nat} {lv : List (Option AV)} {st : List AV} {cc : ByteArray} {own : String}
theorem x_iconst (C : Cx K cc nL own d mc ms) {z : Int} (hd : decode cc pc = .ok (.iconst z, 1)) (hr : R3 z) (k : XW Ly T K n σ bc bs (pc + 1) lv (.inl z :: st)) : XW Ly T K n σ bc bs pc lv st := by
  obtain ⟨p, l, e, R, s, m, args, below, meth, c, Q, D, ca, A, H0, ad0, n0⟩ := K
  obtain ⟨hx, hb, hml, ho, hts, ⟨hK, hN, hO⟩, hA, hlk, hR⟩ := C
  intro ad H locs ls hW hl hs
  exact lv_iconst hx hb hd rfl (k ad H locs ls hW hl (oks_c.mpr ⟨hr, hs⟩))

theorem x_bipush (C : Cx K cc nL own d mc ms) {z : Int} (hd : decode cc pc = .ok (.bipush z, 2)) (hv : (Int8.ofInt z).toInt32 = iI z) (hr : R3 z) (k : XW Ly T K n σ bc bs (pc + 2) lv (.inl z :: st)) : XW Ly T K n σ bc bs pc lv st := by
  obtain ⟨p, l, e, R, s, m, args, below, meth, c, Q, D, ca, A, H0, ad0, n0⟩ := K
  obtain ⟨hx, hb, hml, ho, hts, ⟨hK, hN, hO⟩, hA, hlk, hR⟩ := C
  intro ad H locs ls hW hl hs
  exact lv_bipush hx hb hd hv (k ad H locs ls hW hl (oks_c.mpr ⟨hr, hs⟩))

theorem x_sipush (C : Cx K cc nL own d mc ms) {z : Int} (hd : decode cc pc = .ok (.sipush z, 3)) (hv : (Int16.ofInt z).toInt32 = iI z) (hr : R3 z) (k : XW Ly T K n σ bc bs (pc + 3) lv (.inl z :: st)) : XW Ly T K n σ bc bs pc lv st := by
  obtain ⟨p, l, e, R, s, m, args, below, meth, c, Q, D, ca, A, H0, ad0, n0⟩ := K
  obtain ⟨hx, hb, hml, ho, hts, ⟨hK, hN, hO⟩, hA, hlk, hR⟩ := C
  intro ad H locs ls hW hl hs
  exact lv_sipush hx hb hd hv (k ad H locs ls hW hl (oks_c.mpr ⟨hr, hs⟩))

theorem x_null (C : Cx K cc nL own d mc ms) (hd : decode cc pc = .ok (.aconst_null, 1)) (k : XW Ly T K n σ bc bs (pc + 1) lv (.inr 0 :: st)) : XW Ly T K n σ bc bs pc lv st := by
  obtain ⟨p, l, e, R, s, m, args, below, meth, c, Q, D, ca, A, H0, ad0, n0⟩ := K
  obtain ⟨hx, hb, hml, ho, hts, ⟨hK, hN, hO⟩, hA, hlk, hR⟩ := C
  intro ad H locs ls hW hl hs
  exact lv_null hx hb hd (k ad H locs ls hW hl (oks_c.mpr ⟨⟨Int.le_refl 0, by omega⟩, hs⟩))

theorem x_iload_n (C : Cx K cc nL own d mc ms) {q : Fin 4} {i : Nat} (hd : decode cc pc = .ok (.iload_n q, 1)) (hi : (q : Nat) = i) {x : Int} (hv : lv[i]? = some (some (.inl x))) (k : XW Ly T K n σ bc bs (pc + 1) lv (.inl x :: st)) : XW Ly T K n σ bc bs pc lv st := by
  obtain ⟨p, l, e, R, s, m, args, below, meth, c, Q, D, ca, A, H0, ad0, n0⟩ := K
  obtain ⟨hx, hb, hml, ho, hts, ⟨hK, hN, hO⟩, hA, hlk, hR⟩ := C
  intro ad H locs ls hW hl hs
  obtain ⟨h1, h2⟩ := hl.2.2.2 i _ hv
  exact lv_iload_n hx hb hd hi h1 (k ad H locs ls hW hl (oks_c.mpr ⟨h2, hs⟩))

theorem x_iload (C : Cx K cc nL own d mc ms) {i : Nat} (hd : decode cc pc = .ok (.iload i, 2))  {x : Int} (hv : lv[i]? = some (some (.inl x))) (k : XW Ly T K n σ bc bs (pc + 2) lv (.inl x :: st)) : XW Ly T K n σ bc bs pc lv st := by
  obtain ⟨p, l, e, R, s, m, args, below, meth, c, Q, D, ca, A, H0, ad0, n0⟩ := K
  obtain ⟨hx, hb, hml, ho, hts, ⟨hK, hN, hO⟩, hA, hlk, hR⟩ := C
  intro ad H locs ls hW hl hs
  obtain ⟨h1, h2⟩ := hl.2.2.2 i _ hv
  exact lv_iload hx hb hd  h1 (k ad H locs ls hW hl (oks_c.mpr ⟨h2, hs⟩))

theorem x_aload_n (C : Cx K cc nL own d mc ms) {q : Fin 4} {i : Nat} (hd : decode cc pc = .ok (.aload_n q, 1)) (hi : (q : Nat) = i) {v : Int} (hv : lv[i]? = some (some (.inr v))) (k : XW Ly T K n σ bc bs (pc + 1) lv (.inr v :: st)) : XW Ly T K n σ bc bs pc lv st := by
  obtain ⟨p, l, e, R, s, m, args, below, meth, c, Q, D, ca, A, H0, ad0, n0⟩ := K
  obtain ⟨hx, hb, hml, ho, hts, ⟨hK, hN, hO⟩, hA, hlk, hR⟩ := C
  intro ad H locs ls hW hl hs
  obtain ⟨h1, h2⟩ := hl.2.2.2 i _ hv
  have k1 := k ad H locs ls hW hl (oks_c.mpr ⟨h2, hs⟩)
  by_cases h0 : v = 0
  · subst h0
    exact lv_aload_nN hx hb hd hi h1 k1
  · rw [cv_r h0] at h1
    have k1 : W p l e R s m args below meth c H locs bc bs Q (F0 m (pc + 1) ls (cv ad (.inr v) :: st.map (cv ad))) := k1
    rw [cv_r h0] at k1
    exact lv_aload_n hx hb hd hi h1 k1

theorem x_aload (C : Cx K cc nL own d mc ms) {i : Nat} (hd : decode cc pc = .ok (.aload i, 2))  {v : Int} (hv : lv[i]? = some (some (.inr v))) (k : XW Ly T K n σ bc bs (pc + 2) lv (.inr v :: st)) : XW Ly T K n σ bc bs pc lv st := by
  obtain ⟨p, l, e, R, s, m, args, below, meth, c, Q, D, ca, A, H0, ad0, n0⟩ := K
  obtain ⟨hx, hb, hml, ho, hts, ⟨hK, hN, hO⟩, hA, hlk, hR⟩ := C
  intro ad H locs ls hW hl hs
  obtain ⟨h1, h2⟩ := hl.2.2.2 i _ hv
  have k1 := k ad H locs ls hW hl (oks_c.mpr ⟨h2, hs⟩)
  by_cases h0 : v = 0
  · subst h0
    exact lv_aloadN hx hb hd  h1 k1
  · rw [cv_r h0] at h1
    have k1 : W p l e R s m args below meth c H locs bc bs Q (F0 m (pc + 2) ls (cv ad (.inr v) :: st.map (cv ad))) := k1
    rw [cv_r h0] at k1
    exact lv_aload hx hb hd  h1 k1

theorem x_istore_n (C : Cx K cc nL own d mc ms) {q : Fin 4} {i : Nat} (hd : decode cc pc = .ok (.istore_n q, 1)) (hi : (q : Nat) = i) (hn : i < nL) {x : Int} (k : XW Ly T K n σ bc bs (pc + 1) (lv.set i (some (.inl x))) st) : XW Ly T K n σ bc bs pc lv (.inl x :: st) := by
  obtain ⟨p, l, e, R, s, m, args, below, meth, c, Q, D, ca, A, H0, ad0, n0⟩ := K
  obtain ⟨hx, hb, hml, ho, hts, ⟨hK, hN, hO⟩, hA, hlk, hR⟩ := C
  intro ad H locs ls hW hl hs
  obtain ⟨h2, hs⟩ := oks_c.mp hs
  refine lv_istore_n hx hb hd hi (lvs_has hl) (by rw [hml]; exact hn) rfl (fun ls' hl' => k ad H locs ls' hW (lvs_set hl (by rw [hml]; exact hn) h2 rfl hl') hs)

theorem x_istore (C : Cx K cc nL own d mc ms) {i : Nat} (hd : decode cc pc = .ok (.istore i, 2))  (hn : i < nL) {x : Int} (k : XW Ly T K n σ bc bs (pc + 2) (lv.set i (some (.inl x))) st) : XW Ly T K n σ bc bs pc lv (.inl x :: st) := by
  obtain ⟨p, l, e, R, s, m, args, below, meth, c, Q, D, ca, A, H0, ad0, n0⟩ := K
  obtain ⟨hx, hb, hml, ho, hts, ⟨hK, hN, hO⟩, hA, hlk, hR⟩ := C
  intro ad H locs ls hW hl hs
  obtain ⟨h2, hs⟩ := oks_c.mp hs
  refine lv_istore hx hb hd  (lvs_has hl) (by rw [hml]; exact hn) rfl (fun ls' hl' => k ad H locs ls' hW (lvs_set hl (by rw [hml]; exact hn) h2 rfl hl') hs)

theorem x_astore_n (C : Cx K cc nL own d mc ms) {q : Fin 4} {i : Nat} (hd : decode cc pc = .ok (.astore_n q, 1)) (hi : (q : Nat) = i) (hn : i < nL) {v : Int} (k : XW Ly T K n σ bc bs (pc + 1) (lv.set i (some (.inr v))) st) : XW Ly T K n σ bc bs pc lv (.inr v :: st) := by
  obtain ⟨p, l, e, R, s, m, args, below, meth, c, Q, D, ca, A, H0, ad0, n0⟩ := K
  obtain ⟨hx, hb, hml, ho, hts, ⟨hK, hN, hO⟩, hA, hlk, hR⟩ := C
  intro ad H locs ls hW hl hs
  obtain ⟨h2, hs2⟩ := oks_c.mp hs
  by_cases h0 : v = 0
  · subst h0
    exact lv_astore_nN hx hb hd hi (lvs_has hl) (by rw [hml]; exact hn) rfl (fun ls' hl' => k ad H locs ls' hW (lvs_set hl (by rw [hml]; exact hn) h2 rfl hl') hs2)
  · show W p l e R s m args below meth c H locs bc bs Q (F0 m pc ls (cv ad (.inr v) :: st.map (cv ad)))
    rw [cv_r h0]
    exact lv_astore_n hx hb hd hi (lvs_has hl) (by rw [hml]; exact hn) rfl (fun ls' hl' => k ad H locs ls' hW (lvs_set hl (by rw [hml]; exact hn) h2 (cv_r h0).symm hl') hs2)

theorem x_astore (C : Cx K cc nL own d mc ms) {i : Nat} (hd : decode cc pc = .ok (.astore i, 2))  (hn : i < nL) {v : Int} (k : XW Ly T K n σ bc bs (pc + 2) (lv.set i (some (.inr v))) st) : XW Ly T K n σ bc bs pc lv (.inr v :: st) := by
  obtain ⟨p, l, e, R, s, m, args, below, meth, c, Q, D, ca, A, H0, ad0, n0⟩ := K
  obtain ⟨hx, hb, hml, ho, hts, ⟨hK, hN, hO⟩, hA, hlk, hR⟩ := C
  intro ad H locs ls hW hl hs
  obtain ⟨h2, hs2⟩ := oks_c.mp hs
  by_cases h0 : v = 0
  · subst h0
    exact lv_astoreN hx hb hd  (lvs_has hl) (by rw [hml]; exact hn) rfl (fun ls' hl' => k ad H locs ls' hW (lvs_set hl (by rw [hml]; exact hn) h2 rfl hl') hs2)
  · show W p l e R s m args below meth c H locs bc bs Q (F0 m pc ls (cv ad (.inr v) :: st.map (cv ad)))
    rw [cv_r h0]
    exact lv_astore hx hb hd  (lvs_has hl) (by rw [hml]; exact hn) rfl (fun ls' hl' => k ad H locs ls' hW (lvs_set hl (by rw [hml]; exact hn) h2 (cv_r h0).symm hl') hs2)

theorem x_iinc (C : Cx K cc nL own d mc ms) {i : Nat} {z : Int} (hd : decode cc pc = .ok (.iinc i z, 3)) (hn : i < nL) {x : Int} (hv : lv[i]? = some (some (.inl x))) (hr : R3 (x + z)) (k : XW Ly T K n σ bc bs (pc + 3) (lv.set i (some (.inl (x + z)))) st) : XW Ly T K n σ bc bs pc lv st := by
  obtain ⟨p, l, e, R, s, m, args, below, meth, c, Q, D, ca, A, H0, ad0, n0⟩ := K
  obtain ⟨hx, hb, hml, ho, hts, ⟨hK, hN, hO⟩, hA, hlk, hR⟩ := C
  intro ad H locs ls hW hl hs
  obtain ⟨kk, hkk⟩ := List.getElem?_of_mem (lvp_in (ad := ad) (q := (i, .int (iI x))).mpr ⟨_, hv, rfl⟩)
  exact lv_iinc hx hb hd (lvs_has hl) hkk (iI_add x z) (by rw [hml]; exact hn) rfl (fun ls' hl' => k ad H locs ls' hW (lvs_set hl (by rw [hml]; exact hn) (show ov n (.inl (x + z)) from hr) rfl hl') hs)

theorem x_iadd (C : Cx K cc nL own d mc ms) {x y : Int} (hd : decode cc pc = .ok (.iadd, 1)) (hr : R3 (x + y)) (k : XW Ly T K n σ bc bs (pc + 1) lv (.inl (x + y) :: st)) : XW Ly T K n σ bc bs pc lv (.inl y :: .inl x :: st) := by
  obtain ⟨p, l, e, R, s, m, args, below, meth, c, Q, D, ca, A, H0, ad0, n0⟩ := K
  obtain ⟨hx, hb, hml, ho, hts, ⟨hK, hN, hO⟩, hA, hlk, hR⟩ := C
  intro ad H locs ls hW hl hs
  have k1 : W p l e R s m args below meth c H locs bc bs Q (F0 m (pc + 1) ls (.int (iI (x + y)) :: st.map (cv ad))) := k ad H locs ls hW hl (oks_c.mpr ⟨hr, (oks_c.mp (oks_c.mp hs).2).2⟩)
  rw [← iI_add] at k1
  exact lv_iadd hx hb hd k1

theorem x_isub (C : Cx K cc nL own d mc ms) {x y : Int} (hd : decode cc pc = .ok (.isub, 1)) (hr : R3 (x - y)) (k : XW Ly T K n σ bc bs (pc + 1) lv (.inl (x - y) :: st)) : XW Ly T K n σ bc bs pc lv (.inl y :: .inl x :: st) := by
  obtain ⟨p, l, e, R, s, m, args, below, meth, c, Q, D, ca, A, H0, ad0, n0⟩ := K
  obtain ⟨hx, hb, hml, ho, hts, ⟨hK, hN, hO⟩, hA, hlk, hR⟩ := C
  intro ad H locs ls hW hl hs
  have k1 : W p l e R s m args below meth c H locs bc bs Q (F0 m (pc + 1) ls (.int (iI (x - y)) :: st.map (cv ad))) := k ad H locs ls hW hl (oks_c.mpr ⟨hr, (oks_c.mp (oks_c.mp hs).2).2⟩)
  rw [← iI_sub] at k1
  exact lv_isub hx hb hd k1

theorem x_imul (C : Cx K cc nL own d mc ms) {x y : Int} (hd : decode cc pc = .ok (.imul, 1)) (hr : R3 (x * y)) (k : XW Ly T K n σ bc bs (pc + 1) lv (.inl (x * y) :: st)) : XW Ly T K n σ bc bs pc lv (.inl y :: .inl x :: st) := by
  obtain ⟨p, l, e, R, s, m, args, below, meth, c, Q, D, ca, A, H0, ad0, n0⟩ := K
  obtain ⟨hx, hb, hml, ho, hts, ⟨hK, hN, hO⟩, hA, hlk, hR⟩ := C
  intro ad H locs ls hW hl hs
  have k1 : W p l e R s m args below meth c H locs bc bs Q (F0 m (pc + 1) ls (.int (iI (x * y)) :: st.map (cv ad))) := k ad H locs ls hW hl (oks_c.mpr ⟨hr, (oks_c.mp (oks_c.mp hs).2).2⟩)
  rw [← iI_mul] at k1
  exact lv_imul hx hb hd k1

theorem x_idiv (C : Cx K cc nL own d mc ms) {x y : Int} (hd : decode cc pc = .ok (.idiv, 1)) (h0 : 0 ≤ x) (h1 : 0 < y) (k : XW Ly T K n σ bc bs (pc + 1) lv (.inl (x / y) :: st)) : XW Ly T K n σ bc bs pc lv (.inl y :: .inl x :: st) := by
  obtain ⟨p, l, e, R, s, m, args, below, meth, c, Q, D, ca, A, H0, ad0, n0⟩ := K
  obtain ⟨hx, hb, hml, ho, hts, ⟨hK, hN, hO⟩, hA, hlk, hR⟩ := C
  intro ad H locs ls hW hl hs
  obtain ⟨hy, hs⟩ := oks_c.mp hs
  obtain ⟨hxx, hs⟩ := oks_c.mp hs
  have hr : R3 (x / y) := ⟨by have := Int.ediv_nonneg h0 (Int.le_of_lt h1); omega, by have := Int.ediv_le_self y h0; have := hxx.2; omega⟩
  have k1 : W p l e R s m args below meth c H locs bc bs Q (F0 m (pc + 1) ls (.int (iI (x / y)) :: st.map (cv ad))) := k ad H locs ls hW hl (oks_c.mpr ⟨hr, hs⟩)
  rw [← iI_div hxx hy h0 h1] at k1
  refine lv_idiv hx hb hd (fun h => ?_) k1
  rw [← iI_0, iI_eq hy ⟨by decide, by decide⟩] at h
  omega

theorem x_irem (C : Cx K cc nL own d mc ms) {x y : Int} (hd : decode cc pc = .ok (.irem, 1)) (h0 : 0 ≤ x) (h1 : 0 < y) (k : XW Ly T K n σ bc bs (pc + 1) lv (.inl (x % y) :: st)) : XW Ly T K n σ bc bs pc lv (.inl y :: .inl x :: st) := by
  obtain ⟨p, l, e, R, s, m, args, below, meth, c, Q, D, ca, A, H0, ad0, n0⟩ := K
  obtain ⟨hx, hb, hml, ho, hts, ⟨hK, hN, hO⟩, hA, hlk, hR⟩ := C
  intro ad H locs ls hW hl hs
  obtain ⟨hy, hs⟩ := oks_c.mp hs
  obtain ⟨hxx, hs⟩ := oks_c.mp hs
  have hr : R3 (x % y) := ⟨by have := Int.emod_nonneg x (by omega : y ≠ 0); omega, by have := Int.emod_lt_of_pos x h1; have := hy.2; omega⟩
  have k1 : W p l e R s m args below meth c H locs bc bs Q (F0 m (pc + 1) ls (.int (iI (x % y)) :: st.map (cv ad))) := k ad H locs ls hW hl (oks_c.mpr ⟨hr, hs⟩)
  rw [← iI_rem hxx hy h0 h1] at k1
  refine lv_irem hx hb hd (fun h => ?_) k1
  rw [← iI_0, iI_eq hy ⟨by decide, by decide⟩] at h
  omega

theorem x_i2b (C : Cx K cc nL own d mc ms) {x : Int} (hd : decode cc pc = .ok (.i2b, 1)) (h1 : -128 ≤ x) (h2 : x ≤ 127) (k : XW Ly T K n σ bc bs (pc + 1) lv (.inl x :: st)) : XW Ly T K n σ bc bs pc lv (.inl x :: st) := by
  obtain ⟨p, l, e, R, s, m, args, below, meth, c, Q, D, ca, A, H0, ad0, n0⟩ := K
  obtain ⟨hx, hb, hml, ho, hts, ⟨hK, hN, hO⟩, hA, hlk, hR⟩ := C
  intro ad H locs ls hW hl hs
  exact lv_i2b hx hb hd (iI_b h1 h2) (k ad H locs ls hW hl hs)

theorem x_dup (C : Cx K cc nL own d mc ms) {v : AV} (hd : decode cc pc = .ok (.dup, 1)) (k : XW Ly T K n σ bc bs (pc + 1) lv (v :: v :: st)) : XW Ly T K n σ bc bs pc lv (v :: st) := by
  obtain ⟨p, l, e, R, s, m, args, below, meth, c, Q, D, ca, A, H0, ad0, n0⟩ := K
  obtain ⟨hx, hb, hml, ho, hts, ⟨hK, hN, hO⟩, hA, hlk, hR⟩ := C
  intro ad H locs ls hW hl hs
  exact lv_dup hx hb hd (cv_cat ad v) (k ad H locs ls hW hl (oks_c.mpr ⟨(oks_c.mp hs).1, hs⟩))

theorem x_pop (C : Cx K cc nL own d mc ms) {v : AV} (hd : decode cc pc = .ok (.pop, 1)) (k : XW Ly T K n σ bc bs (pc + 1) lv st) : XW Ly T K n σ bc bs pc lv (v :: st) := by
  obtain ⟨p, l, e, R, s, m, args, below, meth, c, Q, D, ca, A, H0, ad0, n0⟩ := K
  obtain ⟨hx, hb, hml, ho, hts, ⟨hK, hN, hO⟩, hA, hlk, hR⟩ := C
  intro ad H locs ls hW hl hs
  exact lv_pop hx hb hd (cv_cat ad v) (k ad H locs ls hW hl (oks_c.mp hs).2)

theorem x_dup_x1 (C : Cx K cc nL own d mc ms) {v w : AV} (hd : decode cc pc = .ok (.dup_x1, 1)) (k : XW Ly T K n σ bc bs (pc + 1) lv (v :: w :: v :: st)) : XW Ly T K n σ bc bs pc lv (v :: w :: st) := by
  obtain ⟨p, l, e, R, s, m, args, below, meth, c, Q, D, ca, A, H0, ad0, n0⟩ := K
  obtain ⟨hx, hb, hml, ho, hts, ⟨hK, hN, hO⟩, hA, hlk, hR⟩ := C
  intro ad H locs ls hW hl hs
  obtain ⟨a1, hs⟩ := oks_c.mp hs
  obtain ⟨a2, hs⟩ := oks_c.mp hs
  exact lv_dup_x1 hx hb hd (cv_cat ad v) (cv_cat ad w) (k ad H locs ls hW hl (oks_c.mpr ⟨a1, oks_c.mpr ⟨a2, oks_c.mpr ⟨a1, hs⟩⟩⟩))

theorem x_dup2 (C : Cx K cc nL own d mc ms) {v w : AV} (hd : decode cc pc = .ok (.dup2, 1)) (k : XW Ly T K n σ bc bs (pc + 1) lv (v :: w :: v :: w :: st)) : XW Ly T K n σ bc bs pc lv (v :: w :: st) := by
  obtain ⟨p, l, e, R, s, m, args, below, meth, c, Q, D, ca, A, H0, ad0, n0⟩ := K
  obtain ⟨hx, hb, hml, ho, hts, ⟨hK, hN, hO⟩, hA, hlk, hR⟩ := C
  intro ad H locs ls hW hl hs
  obtain ⟨a1, hs1⟩ := oks_c.mp hs
  obtain ⟨a2, hs2⟩ := oks_c.mp hs1
  exact lv_dup2_11 hx hb hd (cv_cat ad v) (cv_cat ad w) (k ad H locs ls hW hl (oks_c.mpr ⟨a1, oks_c.mpr ⟨a2, hs⟩⟩))

theorem x_icmp_eq (C : Cx K cc nL own d mc ms) {x y off : Int} {tgt : Nat} (hd : decode cc pc = .ok (.if_icmp .eq off, 3)) (ht : (pc : Int) + off = (tgt : Int)) (kt : x = y → XW Ly T K n σ bc bs tgt lv st) (kf : ¬ x = y → XW Ly T K n σ bc bs (pc + 3) lv st) : XW Ly T K n σ bc bs pc lv (.inl y :: .inl x :: st) := by
  obtain ⟨p, l, e, R, s, m, args, below, meth, c, Q, D, ca, A, H0, ad0, n0⟩ := K
  obtain ⟨hx, hb, hml, ho, hts, ⟨hK, hN, hO⟩, hA, hlk, hR⟩ := C
  intro ad H locs ls hW hl hs
  obtain ⟨hy, hs⟩ := oks_c.mp hs
  obtain ⟨hxx, hs⟩ := oks_c.mp hs
  exact lv_icmp_eq hx hb hd ht (fun h => kt ((iI_eq hxx hy).mp h) ad H locs ls hW hl hs) (fun h => kf (fun q => h ((iI_eq hxx hy).mpr q)) ad H locs ls hW hl hs)

theorem x_if_eq (C : Cx K cc nL own d mc ms) {x off : Int} {tgt : Nat} (hd : decode cc pc = .ok (.ifCond .eq off, 3)) (ht : (pc : Int) + off = (tgt : Int)) (kt : x = 0 → XW Ly T K n σ bc bs tgt lv st) (kf : ¬ x = 0 → XW Ly T K n σ bc bs (pc + 3) lv st) : XW Ly T K n σ bc bs pc lv (.inl x :: st) := by
  obtain ⟨p, l, e, R, s, m, args, below, meth, c, Q, D, ca, A, H0, ad0, n0⟩ := K
  obtain ⟨hx, hb, hml, ho, hts, ⟨hK, hN, hO⟩, hA, hlk, hR⟩ := C
  intro ad H locs ls hW hl hs
  obtain ⟨hxx, hs⟩ := oks_c.mp hs
  exact lv_if_eq hx hb hd ht (fun h => kt ((iI_eq hxx r3_0).mp h) ad H locs ls hW hl hs) (fun h => kf (fun q => h ((iI_eq hxx r3_0).mpr q)) ad H locs ls hW hl hs)

theorem x_icmp_ne (C : Cx K cc nL own d mc ms) {x y off : Int} {tgt : Nat} (hd : decode cc pc = .ok (.if_icmp .ne off, 3)) (ht : (pc : Int) + off = (tgt : Int)) (kt : ¬ x = y → XW Ly T K n σ bc bs tgt lv st) (kf : x = y → XW Ly T K n σ bc bs (pc + 3) lv st) : XW Ly T K n σ bc bs pc lv (.inl y :: .inl x :: st) := by
  obtain ⟨p, l, e, R, s, m, args, below, meth, c, Q, D, ca, A, H0, ad0, n0⟩ := K
  obtain ⟨hx, hb, hml, ho, hts, ⟨hK, hN, hO⟩, hA, hlk, hR⟩ := C
  intro ad H locs ls hW hl hs
  obtain ⟨hy, hs⟩ := oks_c.mp hs
  obtain ⟨hxx, hs⟩ := oks_c.mp hs
  exact lv_icmp_ne hx hb hd ht (fun h => kt (fun q => h ((iI_eq hxx hy).mpr q)) ad H locs ls hW hl hs) (fun h => kf ((iI_eq hxx hy).mp h) ad H locs ls hW hl hs)

theorem x_if_ne (C : Cx K cc nL own d mc ms) {x off : Int} {tgt : Nat} (hd : decode cc pc = .ok (.ifCond .ne off, 3)) (ht : (pc : Int) + off = (tgt : Int)) (kt : ¬ x = 0 → XW Ly T K n σ bc bs tgt lv st) (kf : x = 0 → XW Ly T K n σ bc bs (pc + 3) lv st) : XW Ly T K n σ bc bs pc lv (.inl x :: st) := by
  obtain ⟨p, l, e, R, s, m, args, below, meth, c, Q, D, ca, A, H0, ad0, n0⟩ := K
  obtain ⟨hx, hb, hml, ho, hts, ⟨hK, hN, hO⟩, hA, hlk, hR⟩ := C
  intro ad H locs ls hW hl hs
  obtain ⟨hxx, hs⟩ := oks_c.mp hs
  exact lv_if_ne hx hb hd ht (fun h => kt (fun q => h ((iI_eq hxx r3_0).mpr q)) ad H locs ls hW hl hs) (fun h => kf ((iI_eq hxx r3_0).mp h) ad H locs ls hW hl hs)

theorem x_icmp_lt (C : Cx K cc nL own d mc ms) {x y off : Int} {tgt : Nat} (hd : decode cc pc = .ok (.if_icmp .lt off, 3)) (ht : (pc : Int) + off = (tgt : Int)) (kt : x < y → XW Ly T K n σ bc bs tgt lv st) (kf : y ≤ x → XW Ly T K n σ bc bs (pc + 3) lv st) : XW Ly T K n σ bc bs pc lv (.inl y :: .inl x :: st) := by
  obtain ⟨p, l, e, R, s, m, args, below, meth, c, Q, D, ca, A, H0, ad0, n0⟩ := K
  obtain ⟨hx, hb, hml, ho, hts, ⟨hK, hN, hO⟩, hA, hlk, hR⟩ := C
  intro ad H locs ls hW hl hs
  obtain ⟨hy, hs⟩ := oks_c.mp hs
  obtain ⟨hxx, hs⟩ := oks_c.mp hs
  exact lv_icmp_lt hx hb hd ht (fun h => kt ((iI_lt hxx hy).mp h) ad H locs ls hW hl hs) (fun h => kf (Int.not_lt.mp (fun q => h ((iI_lt hxx hy).mpr q))) ad H locs ls hW hl hs)

theorem x_if_lt (C : Cx K cc nL own d mc ms) {x off : Int} {tgt : Nat} (hd : decode cc pc = .ok (.ifCond .lt off, 3)) (ht : (pc : Int) + off = (tgt : Int)) (kt : x < 0 → XW Ly T K n σ bc bs tgt lv st) (kf : 0 ≤ x → XW Ly T K n σ bc bs (pc + 3) lv st) : XW Ly T K n σ bc bs pc lv (.inl x :: st) := by
  obtain ⟨p, l, e, R, s, m, args, below, meth, c, Q, D, ca, A, H0, ad0, n0⟩ := K
  obtain ⟨hx, hb, hml, ho, hts, ⟨hK, hN, hO⟩, hA, hlk, hR⟩ := C
  intro ad H locs ls hW hl hs
  obtain ⟨hxx, hs⟩ := oks_c.mp hs
  exact lv_if_lt hx hb hd ht (fun h => kt ((iI_lt hxx r3_0).mp h) ad H locs ls hW hl hs) (fun h => kf (Int.not_lt.mp (fun q => h ((iI_lt hxx r3_0).mpr q))) ad H locs ls hW hl hs)

theorem x_icmp_ge (C : Cx K cc nL own d mc ms) {x y off : Int} {tgt : Nat} (hd : decode cc pc = .ok (.if_icmp .ge off, 3)) (ht : (pc : Int) + off = (tgt : Int)) (kt : y ≤ x → XW Ly T K n σ bc bs tgt lv st) (kf : x < y → XW Ly T K n σ bc bs (pc + 3) lv st) : XW Ly T K n σ bc bs pc lv (.inl y :: .inl x :: st) := by
  obtain ⟨p, l, e, R, s, m, args, below, meth, c, Q, D, ca, A, H0, ad0, n0⟩ := K
  obtain ⟨hx, hb, hml, ho, hts, ⟨hK, hN, hO⟩, hA, hlk, hR⟩ := C
  intro ad H locs ls hW hl hs
  obtain ⟨hy, hs⟩ := oks_c.mp hs
  obtain ⟨hxx, hs⟩ := oks_c.mp hs
  exact lv_icmp_ge hx hb hd ht (fun h => kt ((iI_le hy hxx).mp h) ad H locs ls hW hl hs) (fun h => kf (Int.not_le.mp (fun q => h ((iI_le hy hxx).mpr q))) ad H locs ls hW hl hs)

theorem x_if_ge (C : Cx K cc nL own d mc ms) {x off : Int} {tgt : Nat} (hd : decode cc pc = .ok (.ifCond .ge off, 3)) (ht : (pc : Int) + off = (tgt : Int)) (kt : 0 ≤ x → XW Ly T K n σ bc bs tgt lv st) (kf : x < 0 → XW Ly T K n σ bc bs (pc + 3) lv st) : XW Ly T K n σ bc bs pc lv (.inl x :: st) := by
  obtain ⟨p, l, e, R, s, m, args, below, meth, c, Q, D, ca, A, H0, ad0, n0⟩ := K
  obtain ⟨hx, hb, hml, ho, hts, ⟨hK, hN, hO⟩, hA, hlk, hR⟩ := C
  intro ad H locs ls hW hl hs
  obtain ⟨hxx, hs⟩ := oks_c.mp hs
  exact lv_if_ge hx hb hd ht (fun h => kt ((iI_le r3_0 hxx).mp h) ad H locs ls hW hl hs) (fun h => kf (Int.not_le.mp (fun q => h ((iI_le r3_0 hxx).mpr q))) ad H locs ls hW hl hs)

theorem x_icmp_gt (C : Cx K cc nL own d mc ms) {x y off : Int} {tgt : Nat} (hd : decode cc pc = .ok (.if_icmp .gt off, 3)) (ht : (pc : Int) + off = (tgt : Int)) (kt : y < x → XW Ly T K n σ bc bs tgt lv st) (kf : x ≤ y → XW Ly T K n σ bc bs (pc + 3) lv st) : XW Ly T K n σ bc bs pc lv (.inl y :: .inl x :: st) := by
  obtain ⟨p, l, e, R, s, m, args, below, meth, c, Q, D, ca, A, H0, ad0, n0⟩ := K
  obtain ⟨hx, hb, hml, ho, hts, ⟨hK, hN, hO⟩, hA, hlk, hR⟩ := C
  intro ad H locs ls hW hl hs
  obtain ⟨hy, hs⟩ := oks_c.mp hs
  obtain ⟨hxx, hs⟩ := oks_c.mp hs
  exact lv_icmp_gt hx hb hd ht (fun h => kt ((iI_lt hy hxx).mp h) ad H locs ls hW hl hs) (fun h => kf (Int.not_lt.mp (fun q => h ((iI_lt hy hxx).mpr q))) ad H locs ls hW hl hs)

theorem x_if_gt (C : Cx K cc nL own d mc ms) {x off : Int} {tgt : Nat} (hd : decode cc pc = .ok (.ifCond .gt off, 3)) (ht : (pc : Int) + off = (tgt : Int)) (kt : 0 < x → XW Ly T K n σ bc bs tgt lv st) (kf : x ≤ 0 → XW Ly T K n σ bc bs (pc + 3) lv st) : XW Ly T K n σ bc bs pc lv (.inl x :: st) := by
  obtain ⟨p, l, e, R, s, m, args, below, meth, c, Q, D, ca, A, H0, ad0, n0⟩ := K
  obtain ⟨hx, hb, hml, ho, hts, ⟨hK, hN, hO⟩, hA, hlk, hR⟩ := C
  intro ad H locs ls hW hl hs
  obtain ⟨hxx, hs⟩ := oks_c.mp hs
  exact lv_if_gt hx hb hd ht (fun h => kt ((iI_lt r3_0 hxx).mp h) ad H locs ls hW hl hs) (fun h => kf (Int.not_lt.mp (fun q => h ((iI_lt r3_0 hxx).mpr q))) ad H locs ls hW hl hs)

theorem x_icmp_le (C : Cx K cc nL own d mc ms) {x y off : Int} {tgt : Nat} (hd : decode cc pc = .ok (.if_icmp .le off, 3)) (ht : (pc : Int) + off = (tgt : Int)) (kt : x ≤ y → XW Ly T K n σ bc bs tgt lv st) (kf : y < x → XW Ly T K n σ bc bs (pc + 3) lv st) : XW Ly T K n σ bc bs pc lv (.inl y :: .inl x :: st) := by
  obtain ⟨p, l, e, R, s, m, args, below, meth, c, Q, D, ca, A, H0, ad0, n0⟩ := K
  obtain ⟨hx, hb, hml, ho, hts, ⟨hK, hN, hO⟩, hA, hlk, hR⟩ := C
  intro ad H locs ls hW hl hs
  obtain ⟨hy, hs⟩ := oks_c.mp hs
  obtain ⟨hxx, hs⟩ := oks_c.mp hs
  exact lv_icmp_le hx hb hd ht (fun h => kt ((iI_le hxx hy).mp h) ad H locs ls hW hl hs) (fun h => kf (Int.not_le.mp (fun q => h ((iI_le hxx hy).mpr q))) ad H locs ls hW hl hs)

theorem x_if_le (C : Cx K cc nL own d mc ms) {x off : Int} {tgt : Nat} (hd : decode cc pc = .ok (.ifCond .le off, 3)) (ht : (pc : Int) + off = (tgt : Int)) (kt : x ≤ 0 → XW Ly T K n σ bc bs tgt lv st) (kf : 0 < x → XW Ly T K n σ bc bs (pc + 3) lv st) : XW Ly T K n σ bc bs pc lv (.inl x :: st) := by
  obtain ⟨p, l, e, R, s, m, args, below, meth, c, Q, D, ca, A, H0, ad0, n0⟩ := K
  obtain ⟨hx, hb, hml, ho, hts, ⟨hK, hN, hO⟩, hA, hlk, hR⟩ := C
  intro ad H locs ls hW hl hs
  obtain ⟨hxx, hs⟩ := oks_c.mp hs
  exact lv_if_le hx hb hd ht (fun h => kt ((iI_le hxx r3_0).mp h) ad H locs ls hW hl hs) (fun h => kf (Int.not_le.mp (fun q => h ((iI_le hxx r3_0).mpr q))) ad H locs ls hW hl hs)

theorem x_goto (C : Cx K cc nL own d mc ms) {off : Int} {tgt : Nat} (hd : decode cc pc = .ok (.goto off, 3)) (ht : (pc : Int) + off = (tgt : Int)) (k : XW Ly T K n σ bc bs tgt lv st) : XW Ly T K n σ bc bs pc lv st := by
  obtain ⟨p, l, e, R, s, m, args, below, meth, c, Q, D, ca, A, H0, ad0, n0⟩ := K
  obtain ⟨hx, hb, hml, ho, hts, ⟨hK, hN, hO⟩, hA, hlk, hR⟩ := C
  intro ad H locs ls hW hl hs
  exact lv_goto hx hb hd ht (k ad H locs ls hW hl hs)

theorem x_ifnull (C : Cx K cc nL own d mc ms) {v off : Int} {tgt : Nat} (hd : decode cc pc = .ok (.ifnull off, 3)) (ht : (pc : Int) + off = (tgt : Int)) (kt : v = 0 → XW Ly T K n σ bc bs tgt lv st) (kf : ¬ v = 0 → XW Ly T K n σ bc bs (pc + 3) lv st) : XW Ly T K n σ bc bs pc lv (.inr v :: st) := by
  obtain ⟨p, l, e, R, s, m, args, below, meth, c, Q, D, ca, A, H0, ad0, n0⟩ := K
  obtain ⟨hx, hb, hml, ho, hts, ⟨hK, hN, hO⟩, hA, hlk, hR⟩ := C
  intro ad H locs ls hW hl hs
  obtain ⟨h2, hs2⟩ := oks_c.mp hs
  by_cases h0 : v = 0
  · subst h0
    exact lv_ifnullN hx hb hd ht (kt rfl ad H locs ls hW hl hs2)
  · show W p l e R s m args below meth c H locs bc bs Q (F0 m pc ls (cv ad (.inr v) :: st.map (cv ad)))
    rw [cv_r h0]
    exact lv_ifnull hx hb hd (kf h0 ad H locs ls hW hl hs2)

theorem x_ifnonnull (C : Cx K cc nL own d mc ms) {v off : Int} {tgt : Nat} (hd : decode cc pc = .ok (.ifnonnull off, 3)) (ht : (pc : Int) + off = (tgt : Int)) (kt : ¬ v = 0 → XW Ly T K n σ bc bs tgt lv st) (kf : v = 0 → XW Ly T K n σ bc bs (pc + 3) lv st) : XW Ly T K n σ bc bs pc lv (.inr v :: st) := by
  obtain ⟨p, l, e, R, s, m, args, below, meth, c, Q, D, ca, A, H0, ad0, n0⟩ := K
  obtain ⟨hx, hb, hml, ho, hts, ⟨hK, hN, hO⟩, hA, hlk, hR⟩ := C
  intro ad H locs ls hW hl hs
  obtain ⟨h2, hs2⟩ := oks_c.mp hs
  by_cases h0 : v = 0
  · subst h0
    exact lv_ifnonnullN hx hb hd (kf rfl ad H locs ls hW hl hs2)
  · show W p l e R s m args below meth c H locs bc bs Q (F0 m pc ls (cv ad (.inr v) :: st.map (cv ad)))
    rw [cv_r h0]
    exact lv_ifnonnull hx hb hd ht (kt h0 ad H locs ls hW hl hs2)

theorem x_acmp_eq (C : Cx K cc nL own d mc ms) {v w off : Int} {tgt : Nat} (hd : decode cc pc = .ok (.if_acmp .eq off, 3)) (ht : (pc : Int) + off = (tgt : Int)) (kt : v = w → XW Ly T K n σ bc bs tgt lv st) (kf : ¬ v = w → XW Ly T K n σ bc bs (pc + 3) lv st) : XW Ly T K n σ bc bs pc lv (.inr w :: .inr v :: st) := by
  obtain ⟨p, l, e, R, s, m, args, below, meth, c, Q, D, ca, A, H0, ad0, n0⟩ := K
  obtain ⟨hx, hb, hml, ho, hts, ⟨hK, hN, hO⟩, hA, hlk, hR⟩ := C
  intro ad H locs ls hW hl hs
  obtain ⟨h3, hs⟩ := oks_c.mp hs
  obtain ⟨h2, hs⟩ := oks_c.mp hs
  show W p l e R s m args below meth c H locs bc bs Q (F0 m pc ls (cv ad (.inr w) :: cv ad (.inr v) :: st.map (cv ad)))
  rw [← rf_orf, ← rf_orf]
  exact lv_acmp_eq hx hb hd ht (fun h => kt (orf_inj hW.2.1 h2 h3 h) ad H locs ls hW hl hs) (fun h => kf (fun q => h (by rw [q])) ad H locs ls hW hl hs)

theorem x_acmp_ne (C : Cx K cc nL own d mc ms) {v w off : Int} {tgt : Nat} (hd : decode cc pc = .ok (.if_acmp .ne off, 3)) (ht : (pc : Int) + off = (tgt : Int)) (kt : ¬ v = w → XW Ly T K n σ bc bs tgt lv st) (kf : v = w → XW Ly T K n σ bc bs (pc + 3) lv st) : XW Ly T K n σ bc bs pc lv (.inr w :: .inr v :: st) := by
  obtain ⟨p, l, e, R, s, m, args, below, meth, c, Q, D, ca, A, H0, ad0, n0⟩ := K
  obtain ⟨hx, hb, hml, ho, hts, ⟨hK, hN, hO⟩, hA, hlk, hR⟩ := C
  intro ad H locs ls hW hl hs
  obtain ⟨h3, hs⟩ := oks_c.mp hs
  obtain ⟨h2, hs⟩ := oks_c.mp hs
  show W p l e R s m args below meth c H locs bc bs Q (F0 m pc ls (cv ad (.inr w) :: cv ad (.inr v) :: st.map (cv ad)))
  rw [← rf_orf, ← rf_orf]
  exact lv_acmp_ne hx hb hd ht (fun h => kt (fun q => h (by rw [q])) ad H locs ls hW hl hs) (fun h => kf (orf_inj hW.2.1 h2 h3 h) ad H locs ls hW hl hs)



theorem x_getf (C : Cx K cc nL own d mc ms) {ci idx j t N : Nat} {cn : String} {F : u_T} {ts : List Nat} {ty : Nat → FieldType} {v : Int} (cf : CF ci cn F N ts ty) (fl : FLk own idx cn F j) (hd : decode cc pc = .ok (.getfield idx, 3)) (hj : ts[j]? = some t) (hL : Ly v = .inl (ci, ts)) (h1 : 1 ≤ v) (h2 : v ≤ (n : Int)) (k : ov n (fav t (σ v j)) → (∀ u : Int, T v j = some u → σ v j = u) → XW Ly T K n σ bc bs (pc + 3) lv (fav t (σ v j) :: st)) : XW Ly T K n σ bc bs pc lv (.inr v :: st) := by
  obtain ⟨p, l, e, R, s, m, args, below, meth, c, Q, D, ca, A, H0, ad0, n0⟩ := K
  obtain ⟨hx, hb, hml, ho, hts, ⟨hK, hN, hO⟩, hA, hlk, hR⟩ := C
  intro ad H locs ls hW hl hs
  obtain ⟨-, hs⟩ := oks_c.mp hs
  obtain ⟨c1, c2, c3, c4, c5, c6⟩ := cf
  have hjN : j < N := by rw [← c3]; exact (List.getElem?_eq_some_iff.mp hj).1
  obtain ⟨hP, hD, hS, hok, hrest⟩ := hW
  have hov : ov n (fav t (σ v j)) := by
    obtain ⟨r1, r2⟩ := hok v j h1 h2 (by omega)
    unfold fav
    by_cases ht : t = 2
    · rw [if_pos ht]
      exact r2 (by rw [hL]; simp [kdL, hj, ht])
    · rw [if_neg ht]; exact r1
  have he := cls_at (ca := ca) (Ly := Ly) (ad := ad) (σ := σ) h1 h2
  rw [hL] at he
  have hv : (ts.zipIdx.map fun q => fvl ad q.1 (σ v (q.2 : Nat)))[j]? = some (cv ad (fav t (σ v j))) := by
    rw [List.getElem?_map, List.getElem?_zipIdx, hj, cv_fav]; simp
  have k1 := k hov (fun u hu => hrest.1 v j u h1 h2 hu) ad H locs ls ⟨hP, hD, hS, hok, hrest⟩ hl (oks_c.mpr ⟨hov, hs⟩)
  show W p l e R s m args below meth c H locs bc bs Q (F0 m pc ls (cv ad (.inr v) :: st.map (cv ad)))
  rw [cv_r (by omega)]
  rcases fl with fl | ⟨host, fl⟩
  · exact va_get hx hb hts c2 ho hK hP _ he c1 j hjN (hts _ fl) (fun x h => by rw [c6 j hjN] at h; exact h) hv hd k1
  · exact va_getN hx hb hts c2 ho hK hP _ he c1 j hjN (va_Nw.use rfl (hN _ fl)) (fun x h => by rw [c6 j hjN] at h; exact h) hv hd k1

theorem x_putI (C : Cx K cc nL own d mc ms) {ci idx j t N : Nat} {cn : String} {F : u_T} {ts : List Nat} {ty : Nat → FieldType} {v x : Int} (ji : Int) (hji : (j : Int) = ji) (cf : CF ci cn F N ts ty) (fl : FLk own idx cn F j) (hd : decode cc pc = .ok (.putfield idx, 3)) (hj : ts[j]? = some t) (ht : ty j = .int ∧ t = 0 ∨ ty j = .boolean ∧ t = 1 ∧ 0 ≤ x ∧ x ≤ 1) (hfin : (F j).2.2.2 = false) (hT : T v ji = none) (hL : Ly v = .inl (ci, ts)) (h1 : 1 ≤ v) (h2 : v ≤ (n : Int)) (k : XW Ly T K n (st2 σ v ji x) bc bs (pc + 3) lv st) : XW Ly T K n σ bc bs pc lv (.inl x :: .inr v :: st) := by
  obtain ⟨p, l, e, R, s, m, args, below, meth, c, Q, D, ca, A, H0, ad0, n0⟩ := K
  obtain ⟨hx, hb, hml, ho, hts, ⟨hK, hN, hO⟩, hA, hlk, hR⟩ := C
  intro ad H locs ls hW hl hs
  subst hji
  obtain ⟨hr, hs⟩ := oks_c.mp hs
  obtain ⟨-, hs⟩ := oks_c.mp hs
  obtain ⟨c1, c2, c3, c4, c5, c6⟩ := cf
  have hjN : j < N := by rw [← c3]; exact (List.getElem?_eq_some_iff.mp hj).1
  obtain ⟨hP, hD, hS, hok, hfx, hn0, hag⟩ := hW
  have ht2 : ¬ t = 2 := by rcases ht with ⟨-, h⟩ | ⟨-, h, -⟩ <;> omega
  have he := cls_at (ca := ca) (Ly := Ly) (ad := ad) (σ := σ) h1 h2
  rw [hL] at he
  have hnf : narrow (ty j) (.int (iI x)) = .int (iI x) ∧ fits (ty j) (.int (iI x)) = true := by
    rcases ht with ⟨h, -⟩ | ⟨h, -, ha, hb⟩
    · rw [h]; exact ⟨rfl, rfl⟩
    · rw [h]; exact iI_z ha hb
  have hset : ctn ca (Ly v) ad (st2 σ v j x v) = .inr (ci, (ts.zipIdx.map fun q => fvl ad q.1 (σ v (q.2 : Nat))).set j (.int (iI x))) := by
    rw [hL]
    show Sum.inr (ci, _) = Sum.inr (ci, _)
    rw [ctn_obj hj (f := σ v) (f' := st2 σ v j x v) (fun b => st2_at)]
    simp [fvl, ht2]
  show W p l e R s m args below meth c H locs bc bs Q (F0 m pc ls (.int (iI x) :: cv ad (.inr v) :: st.map (cv ad)))
  rw [cv_r (by omega)]
  have kk : ∀ (H1 : Heap) (locs1 : List Loc), va_P D CL ((cls ca Ly ad n σ).set (v - 1).toNat (ad v, .inr (ci, (ts.zipIdx.map fun q => fvl ad q.1 (σ v (q.2 : Nat))).set j (.int (iI x))))) H1 → va_D A ((cls ca Ly ad n σ).set (v - 1).toNat (ad v, .inr (ci, (ts.zipIdx.map fun q => fvl ad q.1 (σ v (q.2 : Nat))).set j (.int (iI x))))) → va_S A H0 H1 locs1 → W p l e R s m args below meth c H1 locs1 bc bs Q (F0 m (pc + 3) ls (st.map (cv ad))) := by
    intro H1 locs1 hP1 hD1 hS1
    rw [cls_set h1 h2 hset (fun u hu => st2_ne hu)] at hP1 hD1
    exact k ad H1 locs1 ls ⟨hP1, hD1, hS1, okh_st hok hr (fun h => by rw [hL] at h; simp [kdL, hj] at h; omega), fxd_st hfx hT, hn0, hag⟩ hl hs
  have hlen : j < (ts.zipIdx.map fun q => fvl ad q.1 (σ v (q.2 : Nat))).length := by simp; omega
  rcases fl with fl | ⟨host, fl⟩
  · exact va_put hx hb hts c2 ty c4 c5 ho hK hP hD hS _ he c1 j hjN (hts _ fl) (fun x h => by rw [c6 j hjN] at h; exact h) hfin (c4 j hjN) hnf.1 hnf.2 hlen hd kk
  · exact va_putN hx hb hts c2 ty c4 c5 ho hK hP hD hS _ he c1 j hjN (va_Nw.use rfl (hN _ fl)) (fun x h => by rw [c6 j hjN] at h; exact h) hfin (c4 j hjN) hnf.1 hnf.2 hlen hd kk

theorem x_getI (C : Cx K cc nL own d mc ms) {ci idx j t N : Nat} {cn : String} {F : u_T} {ts : List Nat} {ty : Nat → FieldType} {v : Int} (ji : Int) (cf : CF ci cn F N ts ty) (fl : FLk own idx cn F j) (hd : decode cc pc = .ok (.getfield idx, 3)) (hj : ts[j]? = some t) (ht : ¬ t = 2) (hji : (j : Int) = ji) (hL : Ly v = .inl (ci, ts)) (h1 : 1 ≤ v) (h2 : v ≤ (n : Int)) (k : R3 (σ v ji) → XW Ly T K n σ bc bs (pc + 3) lv (.inl (σ v ji) :: st)) : XW Ly T K n σ bc bs pc lv (.inr v :: st) := by
  subst hji
  refine x_getf C cf fl hd hj hL h1 h2 (fun h _ => ?_)
  have e : fav t (σ v (j : Int)) = .inl (σ v (j : Int)) := if_neg ht
  rw [e] at h ⊢
  exact k h
theorem x_getC (C : Cx K cc nL own d mc ms) {ci idx j N : Nat} {cn : String} {F : u_T} {ts : List Nat} {ty : Nat → FieldType} {v : Int} (ji u : Int) (cf : CF ci cn F N ts ty) (fl : FLk own idx cn F j) (hd : decode cc pc = .ok (.getfield idx, 3)) (hj : ts[j]? = some 2) (hji : (j : Int) = ji) (hL : Ly v = .inl (ci, ts)) (h1 : 1 ≤ v) (h2 : v ≤ (n : Int)) (hT : T v ji = some u) (k : XW Ly T K n σ bc bs (pc + 3) lv (.inr u :: st)) : XW Ly T K n σ bc bs pc lv (.inr v :: st) := by
  subst hji
  refine x_getf C cf fl hd hj hL h1 h2 (fun h hf => ?_)
  have e : fav 2 (σ v (j : Int)) = .inr (σ v (j : Int)) := if_pos rfl
  rw [e, hf u hT]
  exact k

theorem x_iald (C : Cx K cc nL own d mc ms) {len : Nat} {v i : Int} (hd : decode cc pc = .ok (.iaload, 1)) (hL : Ly v = .inr (0, len)) (h1 : 1 ≤ v) (h2 : v ≤ (n : Int)) (i0 : 0 ≤ i) (i1 : i < (len : Int)) (k : R3 (σ v i) → XW Ly T K n σ bc bs (pc + 1) lv (.inl (σ v i) :: st)) : XW Ly T K n σ bc bs pc lv (.inl i :: .inr v :: st) := by
  obtain ⟨p, l, e, R, s, m, args, below, meth, c, Q, D, ca, A, H0, ad0, n0⟩ := K
  obtain ⟨hx, hb, hml, ho, hts, ⟨hK, hN, hO⟩, hA, hlk, hR⟩ := C
  intro ad H locs ls hW hl hs
  obtain ⟨hr, hs⟩ := oks_c.mp hs
  obtain ⟨-, hs⟩ := oks_c.mp hs
  obtain ⟨hP, hD, hS, hok, hrest⟩ := hW
  have he := cls_at (ca := ca) (Ly := Ly) (ad := ad) (σ := σ) h1 h2
  rw [hL] at he
  have he : (cls ca Ly ad n σ)[(v - 1).toNat]? = some (ad v, .inl (ca 0, len, .inl (fun i => iI (σ v (i : Nat))))) := he
  have hR1 := (hok v i h1 h2 i0).1
  have k1 : W p l e R s m args below meth c H locs bc bs Q (F0 m (pc + 1) ls (.int (iI (σ v i)) :: st.map (cv ad))) := k hR1 ad H locs ls ⟨hP, hD, hS, hok, hrest⟩ hl (oks_c.mpr ⟨hR1, hs⟩)
  show W p l e R s m args below meth c H locs bc bs Q (F0 m pc ls (.int (iI i) :: cv ad (.inr v) :: st.map (cv ad)))
  rw [cv_r (by omega)]
  refine va_iald hx hb hK hP _ 0 he rfl (iI_in hr i0 i1) hd ?_
  rw [iI_cl hr, Int.toNat_of_nonneg i0]
  exact k1

theorem x_bald (C : Cx K cc nL own d mc ms) {len : Nat} {v i : Int} (hd : decode cc pc = .ok (.baload, 1)) (hL : Ly v = .inr (1, len)) (h1 : 1 ≤ v) (h2 : v ≤ (n : Int)) (i0 : 0 ≤ i) (i1 : i < (len : Int)) (k : R3 (σ v i) → XW Ly T K n σ bc bs (pc + 1) lv (.inl (σ v i) :: st)) : XW Ly T K n σ bc bs pc lv (.inl i :: .inr v :: st) := by
  obtain ⟨p, l, e, R, s, m, args, below, meth, c, Q, D, ca, A, H0, ad0, n0⟩ := K
  obtain ⟨hx, hb, hml, ho, hts, ⟨hK, hN, hO⟩, hA, hlk, hR⟩ := C
  intro ad H locs ls hW hl hs
  obtain ⟨hr, hs⟩ := oks_c.mp hs
  obtain ⟨-, hs⟩ := oks_c.mp hs
  obtain ⟨hP, hD, hS, hok, hrest⟩ := hW
  have he := cls_at (ca := ca) (Ly := Ly) (ad := ad) (σ := σ) h1 h2
  rw [hL] at he
  have he : (cls ca Ly ad n σ)[(v - 1).toNat]? = some (ad v, .inl (ca 1, len, .inl (fun i => iI (σ v (i : Nat))))) := he
  have hR1 := (hok v i h1 h2 i0).1
  have k1 : W p l e R s m args below meth c H locs bc bs Q (F0 m (pc + 1) ls (.int (iI (σ v i)) :: st.map (cv ad))) := k hR1 ad H locs ls ⟨hP, hD, hS, hok, hrest⟩ hl (oks_c.mpr ⟨hR1, hs⟩)
  show W p l e R s m args below meth c H locs bc bs Q (F0 m pc ls (.int (iI i) :: cv ad (.inr v) :: st.map (cv ad)))
  rw [cv_r (by omega)]
  refine va_bald hx hb hK hP _ 1 he rfl (iI_in hr i0 i1) hd ?_
  rw [iI_cl hr, Int.toNat_of_nonneg i0]
  exact k1

theorem x_zald (C : Cx K cc nL own d mc ms) {len : Nat} {v i : Int} (hd : decode cc pc = .ok (.baload, 1)) (hL : Ly v = .inr (2, len)) (h1 : 1 ≤ v) (h2 : v ≤ (n : Int)) (i0 : 0 ≤ i) (i1 : i < (len : Int)) (k : R3 (σ v i) → XW Ly T K n σ bc bs (pc + 1) lv (.inl (σ v i) :: st)) : XW Ly T K n σ bc bs pc lv (.inl i :: .inr v :: st) := by
  obtain ⟨p, l, e, R, s, m, args, below, meth, c, Q, D, ca, A, H0, ad0, n0⟩ := K
  obtain ⟨hx, hb, hml, ho, hts, ⟨hK, hN, hO⟩, hA, hlk, hR⟩ := C
  intro ad H locs ls hW hl hs
  obtain ⟨hr, hs⟩ := oks_c.mp hs
  obtain ⟨-, hs⟩ := oks_c.mp hs
  obtain ⟨hP, hD, hS, hok, hrest⟩ := hW
  have he := cls_at (ca := ca) (Ly := Ly) (ad := ad) (σ := σ) h1 h2
  rw [hL] at he
  have he : (cls ca Ly ad n σ)[(v - 1).toNat]? = some (ad v, .inl (ca 2, len, .inl (fun i => iI (σ v (i : Nat))))) := he
  have hR1 := (hok v i h1 h2 i0).1
  have k1 : W p l e R s m args below meth c H locs bc bs Q (F0 m (pc + 1) ls (.int (iI (σ v i)) :: st.map (cv ad))) := k hR1 ad H locs ls ⟨hP, hD, hS, hok, hrest⟩ hl (oks_c.mpr ⟨hR1, hs⟩)
  show W p l e R s m args below meth c H locs bc bs Q (F0 m pc ls (.int (iI i) :: cv ad (.inr v) :: st.map (cv ad)))
  rw [cv_r (by omega)]
  refine va_zald hx hb hK hP _ 2 he rfl (iI_in hr i0 i1) hd ?_
  rw [iI_cl hr, Int.toNat_of_nonneg i0]
  exact k1

theorem x_iast (C : Cx K cc nL own d mc ms) {len : Nat} {v i x : Int} (hd : decode cc pc = .ok (.iastore, 1)) (hL : Ly v = .inr (0, len)) (hT : T v i = none) (h1 : 1 ≤ v) (h2 : v ≤ (n : Int)) (i0 : 0 ≤ i) (i1 : i < (len : Int)) (k : XW Ly T K n (st2 σ v i x) bc bs (pc + 1) lv st) : XW Ly T K n σ bc bs pc lv (.inl x :: .inl i :: .inr v :: st) := by
  obtain ⟨p, l, e, R, s, m, args, below, meth, c, Q, D, ca, A, H0, ad0, n0⟩ := K
  obtain ⟨hx, hb, hml, ho, hts, ⟨hK, hN, hO⟩, hA, hlk, hR⟩ := C
  intro ad H locs ls hW hl hs
  obtain ⟨hxr, hs⟩ := oks_c.mp hs
  obtain ⟨hr, hs⟩ := oks_c.mp hs
  obtain ⟨-, hs⟩ := oks_c.mp hs
  obtain ⟨hP, hD, hS, hok, hfx, hn0, hag⟩ := hW
  have he := cls_at (ca := ca) (Ly := Ly) (ad := ad) (σ := σ) h1 h2
  rw [hL] at he
  have he : (cls ca Ly ad n σ)[(v - 1).toNat]? = some (ad v, .inl (ca 0, len, .inl (fun i => iI (σ v (i : Nat))))) := he
  have hset : ctn ca (Ly v) ad (st2 σ v i x v) = .inl (ca 0, len, .inl (upd (fun i => iI (σ v (i : Nat))) (iI i).toNatClampNeg (iI x))) := by
    rw [hL]
    show Sum.inl (ca 0, len, Sum.inl _) = Sum.inl (ca 0, len, Sum.inl _)
    rw [ctn_arr hr i0 (fun b => st2_at)]
  show W p l e R s m args below meth c H locs bc bs Q (F0 m pc ls (.int (iI x) :: .int (iI i) :: cv ad (.inr v) :: st.map (cv ad)))
  rw [cv_r (by omega)]
  refine va_iast hx hb hK hP hD hS _ 0 he rfl (iI_in hr i0 i1) hd (fun H1 locs1 hP1 hD1 hS1 => ?_)
  rw [cls_set h1 h2 hset (fun u hu => st2_ne hu)] at hP1 hD1
  exact k ad H1 locs1 ls ⟨hP1, hD1, hS1, okh_st hok hxr (fun h => by rw [hL] at h; simp [kdL, kdA] at h), fxd_st hfx hT, hn0, hag⟩ hl hs

theorem x_bast (C : Cx K cc nL own d mc ms) {len : Nat} {v i x : Int} (hd : decode cc pc = .ok (.bastore, 1)) (hL : Ly v = .inr (1, len)) (hT : T v i = none) (h1 : 1 ≤ v) (h2 : v ≤ (n : Int)) (i0 : 0 ≤ i) (i1 : i < (len : Int)) (x0 : -128 ≤ x) (x1 : x ≤ 127) (k : XW Ly T K n (st2 σ v i x) bc bs (pc + 1) lv st) : XW Ly T K n σ bc bs pc lv (.inl x :: .inl i :: .inr v :: st) := by
  obtain ⟨p, l, e, R, s, m, args, below, meth, c, Q, D, ca, A, H0, ad0, n0⟩ := K
  obtain ⟨hx, hb, hml, ho, hts, ⟨hK, hN, hO⟩, hA, hlk, hR⟩ := C
  intro ad H locs ls hW hl hs
  obtain ⟨hxr, hs⟩ := oks_c.mp hs
  obtain ⟨hr, hs⟩ := oks_c.mp hs
  obtain ⟨-, hs⟩ := oks_c.mp hs
  obtain ⟨hP, hD, hS, hok, hfx, hn0, hag⟩ := hW
  have he := cls_at (ca := ca) (Ly := Ly) (ad := ad) (σ := σ) h1 h2
  rw [hL] at he
  have he : (cls ca Ly ad n σ)[(v - 1).toNat]? = some (ad v, .inl (ca 1, len, .inl (fun i => iI (σ v (i : Nat))))) := he
  have hset : ctn ca (Ly v) ad (st2 σ v i x v) = .inl (ca 1, len, .inl (upd (fun i => iI (σ v (i : Nat))) (iI i).toNatClampNeg (iI x))) := by
    rw [hL]
    show Sum.inl (ca 1, len, Sum.inl _) = Sum.inl (ca 1, len, Sum.inl _)
    rw [ctn_arr hr i0 (fun b => st2_at)]
  show W p l e R s m args below meth c H locs bc bs Q (F0 m pc ls (.int (iI x) :: .int (iI i) :: cv ad (.inr v) :: st.map (cv ad)))
  rw [cv_r (by omega)]
  refine va_bast hx hb hK hP hD hS _ 1 he rfl (iI_in hr i0 i1) hd (fun H1 locs1 hP1 hD1 hS1 => ?_)
  rw [iI_nb x0 x1] at hP1 hD1
  rw [cls_set h1 h2 hset (fun u hu => st2_ne hu)] at hP1 hD1
  exact k ad H1 locs1 ls ⟨hP1, hD1, hS1, okh_st hok hxr (fun h => by rw [hL] at h; simp [kdL, kdA] at h), fxd_st hfx hT, hn0, hag⟩ hl hs

theorem x_zast (C : Cx K cc nL own d mc ms) {len : Nat} {v i x : Int} (hd : decode cc pc = .ok (.bastore, 1)) (hL : Ly v = .inr (2, len)) (hT : T v i = none) (h1 : 1 ≤ v) (h2 : v ≤ (n : Int)) (i0 : 0 ≤ i) (i1 : i < (len : Int)) (x0 : 0 ≤ x) (x1 : x ≤ 1) (k : XW Ly T K n (st2 σ v i x) bc bs (pc + 1) lv st) : XW Ly T K n σ bc bs pc lv (.inl x :: .inl i :: .inr v :: st) := by
  obtain ⟨p, l, e, R, s, m, args, below, meth, c, Q, D, ca, A, H0, ad0, n0⟩ := K
  obtain ⟨hx, hb, hml, ho, hts, ⟨hK, hN, hO⟩, hA, hlk, hR⟩ := C
  intro ad H locs ls hW hl hs
  obtain ⟨hxr, hs⟩ := oks_c.mp hs
  obtain ⟨hr, hs⟩ := oks_c.mp hs
  obtain ⟨-, hs⟩ := oks_c.mp hs
  obtain ⟨hP, hD, hS, hok, hfx, hn0, hag⟩ := hW
  have he := cls_at (ca := ca) (Ly := Ly) (ad := ad) (σ := σ) h1 h2
  rw [hL] at he
  have he : (cls ca Ly ad n σ)[(v - 1).toNat]? = some (ad v, .inl (ca 2, len, .inl (fun i => iI (σ v (i : Nat))))) := he
  have hset : ctn ca (Ly v) ad (st2 σ v i x v) = .inl (ca 2, len, .inl (upd (fun i => iI (σ v (i : Nat))) (iI i).toNatClampNeg (iI x))) := by
    rw [hL]
    show Sum.inl (ca 2, len, Sum.inl _) = Sum.inl (ca 2, len, Sum.inl _)
    rw [ctn_arr hr i0 (fun b => st2_at)]
  show W p l e R s m args below meth c H locs bc bs Q (F0 m pc ls (.int (iI x) :: .int (iI i) :: cv ad (.inr v) :: st.map (cv ad)))
  rw [cv_r (by omega)]
  refine va_zast hx hb hK hP hD hS _ 2 he rfl (iI_in hr i0 i1) hd (fun H1 locs1 hP1 hD1 hS1 => ?_)
  rw [iI_nz x0 x1] at hP1 hD1
  rw [cls_set h1 h2 hset (fun u hu => st2_ne hu)] at hP1 hD1
  exact k ad H1 locs1 ls ⟨hP1, hD1, hS1, okh_st hok hxr (fun h => by rw [hL] at h; simp [kdL, kdA] at h), fxd_st hfx hT, hn0, hag⟩ hl hs

theorem x_aald (C : Cx K cc nL own d mc ms) {a len : Nat} {v i : Int} (hd : decode cc pc = .ok (.aaload, 1)) (hL : Ly v = .inr (a, len)) (ha : a = 3 ∨ a = 4 ∨ a = 5) (h1 : 1 ≤ v) (h2 : v ≤ (n : Int)) (i0 : 0 ≤ i) (i1 : i < (len : Int)) (k : 0 ≤ σ v i ∧ σ v i ≤ (n : Int) → XW Ly T K n σ bc bs (pc + 1) lv (.inr (σ v i) :: st)) : XW Ly T K n σ bc bs pc lv (.inl i :: .inr v :: st) := by
  obtain ⟨p, l, e, R, s, m, args, below, meth, c, Q, D, ca, A, H0, ad0, n0⟩ := K
  obtain ⟨hx, hb, hml, ho, hts, ⟨hK, hN, hO⟩, hA, hlk, hR⟩ := C
  intro ad H locs ls hW hl hs
  obtain ⟨hr, hs⟩ := oks_c.mp hs
  obtain ⟨-, hs⟩ := oks_c.mp hs
  obtain ⟨hP, hD, hS, hok, hrest⟩ := hW
  have he := cls_at (ca := ca) (Ly := Ly) (ad := ad) (σ := σ) h1 h2
  rw [hL] at he
  have he : (cls ca Ly ad n σ)[(v - 1).toNat]? = some (ad v, .inl (ca a, len, .inr (.inr (.inr (.inr (fun i => orf ad (σ v (i : Nat)))))))) := by
    rw [he]; simp only [ctn]; rw [if_neg (by omega)]
  have hR1 := (hok v i h1 h2 i0).2 (by rw [hL]; rcases ha with rfl | rfl | rfl <;> rfl)
  have k1 : W p l e R s m args below meth c H locs bc bs Q (F0 m (pc + 1) ls (cv ad (.inr (σ v i)) :: st.map (cv ad))) := k hR1 ad H locs ls ⟨hP, hD, hS, hok, hrest⟩ hl (oks_c.mpr ⟨hR1, hs⟩)
  show W p l e R s m args below meth c H locs bc bs Q (F0 m pc ls (.int (iI i) :: cv ad (.inr v) :: st.map (cv ad)))
  rw [cv_r (by omega)]
  have hlt : (iI i).toNatClampNeg < len := by rw [iI_cl hr]; omega
  have hin := iI_in hr i0 i1
  have hv : (arrV (ca a) len (fun j => va_rf (orf ad (σ v (j : Nat))))).slots[(iI i).toNatClampNeg]? = some (cv ad (.inr (σ v i))) := by
    rw [arrV_read _ _ hlt, rf_orf, iI_cl hr, Int.toNat_of_nonneg i0]
  rcases ha with rfl | rfl | rfl
  · exact W.aald (ty := .object "LogStore$Transaction") hx hb (hP _ _ he) ((hK.2 3 _ rfl).1 len (fun j => va_rf (orf ad (σ v (j : Nat))))) rfl (fun q => by cases q) (by show ¬ (iI i < 0 ∨ (arrV _ _ _).slots.size ≤ _); rw [arrV_size]; exact hin) hv rfl rfl hd k1
  · exact W.aald (ty := .object "LogStore$Contents") hx hb (hP _ _ he) ((hK.2 4 _ rfl).1 len (fun j => va_rf (orf ad (σ v (j : Nat))))) rfl (fun q => by cases q) (by show ¬ (iI i < 0 ∨ (arrV _ _ _).slots.size ≤ _); rw [arrV_size]; exact hin) hv rfl rfl hd k1
  · exact W.aald (ty := .array .int) hx hb (hP _ _ he) ((hK.2 5 _ rfl).1 len (fun j => va_rf (orf ad (σ v (j : Nat))))) rfl (fun q => by cases q) (by show ¬ (iI i < 0 ∨ (arrV _ _ _).slots.size ≤ _); rw [arrV_size]; exact hin) hv rfl rfl hd k1

end XR

