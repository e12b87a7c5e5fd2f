-- ===== contracts and calls =====
def MWd (y : MethodName) (cc : ByteArray) (maxL : Nat) (ret : Option FieldType) : List Cond := .code y cc maxL ret :: AW
def PP (Ly : Int → LK) (T : Int → Int → Option Int) (D : va_G) (ca : Nat → ClassId) (ad : Int → Nat) (n : Nat) (σ : Hp) (sz : Nat) : State → Prop := fun U => U.heap.size = sz ∧ va_P D CL (cls ca Ly ad n σ) U.heap ∧ Gst D ca U ∧ va_D (fun _ => True) (cls ca Ly ad n σ) ∧ okh Ly n σ ∧ fxd T n σ
def QQ (Ly : Int → LK) (T : Int → Int → Option Int) (D : va_G) (ca : Nat → ClassId) (ad : Int → Nat) (n : Nat) (σ : Hp) (sz : Nat) (Post : Option AV → Nat → Hp → Prop) : Array Value → State → Outcome → State → Prop := fun _ st oc t =>
  (∃ (r : Option AV) (ad' : Int → Nat) (n' : Nat) (σ' : Hp), oc = .returned (r.map (cv ad')) ∧ Post r n' σ' ∧ n ≤ n' ∧ agr n ad ad' ∧ oks n' r.toList ∧ va_P D CL (cls ca Ly ad' n' σ') t.heap ∧ va_D (va_A (cls ca Ly ad n σ) sz) (cls ca Ly ad' n' σ') ∧ okh Ly n' σ' ∧ fxd T n' σ') ∧ va_F (va_A (cls ca Ly ad n σ) sz) st t
/-- the contract of a method: from the heap (n, σ) with these arguments it returns with Post -/
def Ok (Ly : Int → LK) (T : Int → Int → Option Int) (y : MethodName) (cc : ByteArray) (maxL : Nat) (ret : Option FieldType) (d mc ms : Nat) (as : List AV) (n : Nat) (σ : Hp) (Post : Option AV → Nat → Hp → Prop) : Prop :=
  oks n as → ∀ (l : Launch) (D : va_G) (ca : Nat → ClassId) (ad : Int → Nat) (sz : Nat), Met l y (MWd y cc maxL ret) (rmd d mc ms) (va_Pc (as.map (cv ad)) (PP Ly T D ca ad n σ sz)) (QQ Ly T D ca ad n σ sz Post) mc ms (va_A (cls ca Ly ad n σ) sz)
theorem agr_rf {n : Nat} {ad : Int → Nat} : agr n ad ad := fun _ _ _ => rfl
theorem agr_tr {n n' : Nat} {a b c : Int → Nat} (h1 : agr n a b) (h2 : agr n' b c) (h : n ≤ n') : agr n a c := fun v h3 h4 => (h2 v h3 (by omega)).trans (h1 v h3 h4)
theorem Gst.calling {D : va_G} {ca : Nat → ClassId} {U : State} {g : JFrame} {mk : MethodId} {a : Array Value} (h : Gst D ca U) : Gst D ca (U.calling g mk a) :=
  ⟨va_K.moved (u := U) (U := U.calling g mk a) (Vm.Alike.refl U.vm) h.1, fun w hw => va_Nw.same (nst_on (NW_ok w hw)) (show U.vm = (U.calling g mk a).vm from rfl) (h.2.1 w hw), AOs_mv (u := U) (U := U.calling g mk a) (Vm.Alike.refl U.vm) h.2.2⟩
theorem Gst.warm {D : va_G} {ca : Nat → ClassId} {s U : State} (hW : s.WarmedH U.vm) (h : Gst D ca s) : Gst D ca U :=
  ⟨va_K.moved hW.alike h.1, fun w hw => nw_mv (NW_ok w hw) hW (h.2.1 w hw), AOs_mv hW.alike h.2.2⟩
theorem PP.blind {Ly : Int → LK} {T : Int → Int → Option Int} {D : va_G} {ca : Nat → ClassId} {ad : Int → Nat} {n : Nat} {σ : Hp} {sz : Nat} {av : List Value} : FrameBlind (va_Pc av (PP Ly T D ca ad n σ sz)) := by
  rintro a U g mk ⟨q0, q1, qP, qG, qr⟩
  exact ⟨q0, q1, qP, qG.calling, qr⟩
section XC
variable {Ly : Int → LK} {T : Int → Int → Option Int} {n : Nat} {σ : Hp} {bc bs pc nL d mc ms : Nat} {lv : List (Option AV)} {st : List AV} {cc : ByteArray} {own : String}
theorem x_back {p : Program} {l : Launch} {e : Env} {R : Room} {s : State} {m : MethodId} {args : Array Value} {below : List Frame} {meth : Method} {c : Code} {Q : State → Prop} {D : va_G} {ca : Nat → ClassId} {A : Nat → Prop} {H0 : Heap} {ad0 : Int → Nat} {n0 : Nat} {ad : Int → Nat} {H : Heap} {locs : List Loc} {ls : Array Slot} {mc' ms' : Nat} {st0 : List Value} {a : Array Value} {Post : Option AV → Nat → Hp → Prop}
    (hr : va_Run p l e R s m args below meth c H locs bc bs mc' ms' (F0 m pc ls st0) (st.map (cv ad)) (QQ Ly T D ca ad n σ H.size Post a) (va_A (cls ca Ly ad n σ) H.size))
    (hA : ∀ q, H0.size ≤ q → A q) (hW : Wd Ly T D ca A H0 ad0 n0 n σ ad H locs) (hl : lvs n ad ls c.maxLocals lv) (hs : oks n st)
    (k : ∀ (r : Option AV) (n' : Nat) (σ' : Hp), Post r n' σ' → n ≤ n' → XW Ly T (p, l, e, R, s, m, args, below, meth, c, Q, D, ca, A, H0, ad0, n0) n' σ' (bc + mc') (bs + ms') (pc + 3) lv (r.toList ++ st)) :
    W p l e R s m args below meth c H locs bc bs Q (F0 m pc ls st0) := by
  intro T0 hT X
  obtain ⟨v, st₀, t, T', L, h0, X', hL, e1, e2, ⟨⟨r, ad', n', σ', hv, hp, hn, hag, hov, hP1, hD1, ho1, hf1⟩, hz, hk⟩, stp⟩ := hr T0 hT X
  cases hv
  rw [h0] at hz hk
  obtain ⟨hP, hD, hS, hok, hfx, hn0, hag0⟩ := hW
  have hF : ∀ q, va_A (cls ca Ly ad n σ) H.size q → A q := fun q h => by
    rcases h with ⟨i, e, h⟩ | h
    · exact hD.2 i (q, e) h
    · exact hA q (Nat.le_trans hS.1 h)
  have hS1 : va_S A H0 T'.heap (locs ++ L) := ⟨Nat.le_trans hS.1 (by rw [e1]; exact hz), fun q h1 h2 => by rw [e1, hk q (Nat.lt_of_lt_of_le h1 hS.1) (fun z => h2 (hF q z))]; exact hS.2.1 q h1 h2, fun q hq => by
      rcases List.mem_append.mp hq with h | h
      · exact hS.2.2 q h
      · exact hF _ (hL q h)⟩
  have hso : oks n' (r.toList ++ st) := fun u hu => by
    rcases List.mem_append.mp hu with h | h
    · exact hov u h
    · exact ov_up hn (hs u h)
  obtain ⟨t2, a1, b1⟩ := k r n' σ' hp hn ad' T'.heap (locs ++ L) ls ⟨by rw [e1]; exact hP1, hD1.weaken (fun _ _ _ h => hF _ h), hS1, ho1, hf1, Nat.le_trans hn0 hn, agr_tr hag0 hag hn0⟩ (lvs_up hl hn hag) hso T' rfl X'
  have hm : (r.toList ++ st).map (cv ad') = (r.map (cv ad')).toList ++ st.map (cv ad) := by
    rw [List.map_append, map_ag hag hs]
    cases r <;> rfl
  rw [hm] at a1
  exact ⟨t2, stp t2 a1, b1⟩
def CSb (y : MethodName) (cc : ByteArray) (maxL : Nat) (ret : Option FieldType) (np : Nat) : Prop := Cond.initialized y.cls ∈ AW ∧ Cond.code y cc maxL ret ∈ AW ∧ (y.cls ≠ "java/lang/invoke/MethodHandle" ∧ y.cls ≠ "java/lang/invoke/VarHandle" ∧ (parseMethodDescriptor y.desc).map (fun d => d.parameters.length) = some np)
def CLk (own : String) (idx : Nat) (y : MethodName) : Prop := Cond.methodLink own idx y ∈ AW ∨ ∃ host, Cond.methodLinkNest own idx y host ∈ NW
def CSv (y : MethodName) : Prop := Cond.instanceMethod y ∈ AW ∧ Cond.selects y.cls y y ∈ AW
theorem gd_aw {y : MethodName} {cc : ByteArray} {maxL : Nat} {ret : Option FieldType} (h : Cond.code y cc maxL ret ∈ AW) : GoodIn AW (MWd y cc maxL ret) := fun w hw => by
  rcases List.mem_cons.mp hw with h1 | h1
  · rw [h1]; exact ⟨h, AW_ok _ h⟩
  · exact ⟨h1, AW_ok _ h1⟩
theorem x_callV {K : XK} (C : Cx K cc nL own d mc ms) {y : MethodName} {cc' : ByteArray} {maxL' idx np d' mc' ms' ci : Nat} {ret' : Option FieldType} {as st0 : List AV} {v : Int} {q : vw_C} {ts : List Nat} {Post : Option AV → Nat → Hp → Prop}
    (cl : CLk own idx y) (cb : CSb y cc' maxL' ret' np) (cs : CSv y) (hd : decode cc pc = .ok (.invokevirtual idx, 3)) (hM : Ok Ly T y cc' maxL' ret' d' mc' ms' (.inr v :: as) n σ Post) (hst0 : as.reverse ++ .inr v :: st = st0) (hnp : as.length = np)
    (hq : CL[ci]? = some q) (hqc : q.1 = y.cls) (hL : Ly v = .inl (ci, ts)) (h1 : 1 ≤ v) (h2 : v ≤ (n : Int)) (hdd : d' + 1 ≤ d) (hmL : maxL' ≤ 9) (hsl : st.length ≤ 8) (hb1 : bc + mc' ≤ mc) (hb2 : bs + ms' ≤ ms)
    (k : ∀ (r : Option AV) (n' : Nat) (σ' : Hp), Post r n' σ' → n ≤ n' → XW Ly T K n' σ' (bc + mc') (bs + ms') (pc + 3) lv (r.toList ++ st)) : XW Ly T K n σ bc bs pc lv st0 := by
  obtain ⟨p, l, e, R, s, m, args, below, meth, c, Q, D, ca, A, H0, ad0, n0⟩ := K
  obtain ⟨hx, hb, hml, ho, hts, hG, hA, hlk, hR⟩ := C
  intro ad H locs ls hW hl hs
  subst hst0
  subst hR
  obtain ⟨cb1, cb2, cb3⟩ := cb
  have hsa : oks n as := fun u hu => hs u (List.mem_append_left _ (List.mem_reverse.mpr hu))
  have hsv : ov n (.inr v) := hs _ (List.mem_append_right _ List.mem_cons_self)
  have hss : oks n st := fun u hu => hs u (List.mem_append_right _ (List.mem_cons_of_mem _ hu))
  have hMet := hM (oks_c.mpr ⟨hsv, hsa⟩) l D ca ad H.size
  have hv0 : cv ad (.inr v) = .ref (ad v) := cv_r (by omega)
  have hW' := hW
  obtain ⟨hP, hD, hS, hok, hfx, hn0, hag⟩ := hW'
  have hPre : PreV s H y.cls (ad v) (va_Pc ((.inr v :: as).map (cv ad)) (PP Ly T D ca ad n σ H.size)) (as.map (cv ad)) := by
    refine ⟨PP.blind, ?_, fun U hU hWm => ⟨?_, by rw [hU], by rw [hU]; exact hP, hG.warm hWm, hD.weaken (fun _ _ _ _ => trivial), hok, hfx⟩⟩
    · have he := cls_at (ca := ca) (Ly := Ly) (ad := ad) (σ := σ) h1 h2
      rw [hL] at he
      rw [← hqc]
      exact va_recv hG.1 hP hq he
    · rw [List.map_cons, hv0]
  have hstk : (F0 m pc ls ((as.reverse ++ .inr v :: st).map (cv ad))).stack = (as.map (cv ad)).reverse ++ .ref (ad v) :: st.map (cv ad) := by
    show (as.reverse ++ .inr v :: st).map (cv ad) = _
    rw [List.map_append, List.map_reverse, List.map_cons, hv0]
  have hrm : (rmd d' mc' ms').frames + 1 ≤ (rmd d mc ms).frames ∧ 8 + (maxL' + 11) + (rmd d' mc' ms').locals ≤ (rmd d mc ms).locals := ⟨hdd, by show 8 + (maxL' + 11) + 28 * d' + 30 ≤ 28 * d + 30; omega⟩
  have hsz : ls.size = nL := hl.2.1.trans hml
  have hro : 2 * (F0 m pc ls ((as.reverse ++ .inr v :: st).map (cv ad))).monitorRoom + ((st.map (cv ad)).map fun v => v.category).sum ≤ 8 := lv_room (by rw [sum_cat]; exact hsl)
  have hlen : (as.map (cv ad)).length = np := by rw [List.length_map]; exact hnp
  rcases cl with cl | ⟨host, cl⟩
  · exact x_back (va_runV (Ts := AW) (nL := nL) ⟨hx, hb, hml, ho, hts⟩ hMet ⟨callB_of np hts (gd_aw cb2) rfl rfl rfl (hts _ cb1) (hts _ cl) cb3 hrm, hts _ cs.1, hts _ cs.2⟩ hPre rfl hlen hsz hstk hro hd ⟨hb1, hb2⟩) hA hW hl hss k
  · exact x_back (va_runVN (Ts := AW) (nL := nL) ⟨hx, hb, hml, ho, hts⟩ hMet ⟨va_cnB np hts (gd_aw cb2) rfl rfl rfl (hG.2.1 _ cl) (hts _ cb1) cb3 hrm, hts _ cs.1, hts _ cs.2⟩ hPre rfl hlen hsz hstk hro hd ⟨hb1, hb2⟩) hA hW hl hss k
theorem x_callS {K : XK} (C : Cx K cc nL own d mc ms) {y : MethodName} {cc' : ByteArray} {maxL' idx np d' mc' ms' : Nat} {ret' : Option FieldType} {as st0 : List AV} {Post : Option AV → Nat → Hp → Prop}
    (cl : CLk own idx y) (cb : CSb y cc' maxL' ret' np) (cs : Cond.static y ∈ AW) (hd : decode cc pc = .ok (.invokestatic idx, 3)) (hM : Ok Ly T y cc' maxL' ret' d' mc' ms' as n σ Post) (hst0 : as.reverse ++ st = st0) (hnp : as.length = np)
    (hdd : d' + 1 ≤ d) (hmL : maxL' ≤ 9) (hsl : st.length ≤ 8) (hb1 : bc + mc' ≤ mc) (hb2 : bs + ms' ≤ ms)
    (k : ∀ (r : Option AV) (n' : Nat) (σ' : Hp), Post r n' σ' → n ≤ n' → XW Ly T K n' σ' (bc + mc') (bs + ms') (pc + 3) lv (r.toList ++ st)) : XW Ly T K n σ bc bs pc lv st0 := by
  obtain ⟨p, l, e, R, s, m, args, below, meth, c, Q, D, ca, A, H0, ad0, n0⟩ := K
  obtain ⟨hx, hb, hml, ho, hts, hG, hA, hlk, hR⟩ := C
  intro ad H locs ls hW hl hs
  subst hst0
  subst hR
  obtain ⟨cb1, cb2, cb3⟩ := cb
  have hsa : oks n as := fun u hu => hs u (List.mem_append_left _ (List.mem_reverse.mpr hu))
  have hss : oks n st := fun u hu => hs u (List.mem_append_right _ hu)
  have hMet := hM hsa l D ca ad H.size
  have hW' := hW
  obtain ⟨hP, hD, hS, hok, hfx, hn0, hag⟩ := hW'
  have hPre : PreS s H (va_Pc (as.map (cv ad)) (PP Ly T D ca ad n σ H.size)) (as.map (cv ad)) :=
    ⟨PP.blind, fun U hU hWm => ⟨rfl, by rw [hU], by rw [hU]; exact hP, hG.warm hWm, hD.weaken (fun _ _ _ _ => trivial), hok, hfx⟩⟩
  have hstk : (F0 m pc ls ((as.reverse ++ st).map (cv ad))).stack = (as.map (cv ad)).reverse ++ st.map (cv ad) := by
    show (as.reverse ++ st).map (cv ad) = _
    rw [List.map_append, List.map_reverse]
  have hrm : (rmd d' mc' ms').frames + 1 ≤ (rmd d mc ms).frames ∧ 8 + (maxL' + 11) + (rmd d' mc' ms').locals ≤ (rmd d mc ms).locals := ⟨hdd, by show 8 + (maxL' + 11) + 28 * d' + 30 ≤ 28 * d + 30; omega⟩
  have hsz : ls.size = nL := hl.2.1.trans hml
  have hro : 2 * (F0 m pc ls ((as.reverse ++ st).map (cv ad))).monitorRoom + ((st.map (cv ad)).map fun v => v.category).sum ≤ 8 := lv_room (by rw [sum_cat]; exact hsl)
  have hlen : (as.map (cv ad)).length = np := by rw [List.length_map]; exact hnp
  rcases cl with cl | ⟨host, cl⟩
  · exact x_back (va_runS (Ts := AW) (nL := nL) ⟨hx, hb, hml, ho, hts⟩ hMet ⟨callB_of np hts (gd_aw cb2) rfl rfl rfl (hts _ cb1) (hts _ cl) cb3 hrm, hts _ cs⟩ hPre rfl hlen hsz hstk hro hd ⟨hb1, hb2⟩) hA hW hl hss k
  · exact x_back (va_runSN (Ts := AW) (nL := nL) ⟨hx, hb, hml, ho, hts⟩ hMet ⟨va_cnB np hts (gd_aw cb2) rfl rfl rfl (hG.2.1 _ cl) (hts _ cb1) cb3 hrm, hts _ cs, trivial⟩ hPre rfl hlen hsz hstk hro hd ⟨hb1, hb2⟩) hA hW hl hss k
theorem x_callI {K : XK} (C : Cx K cc nL own d mc ms) {y : MethodName} {cc' : ByteArray} {maxL' idx np d' mc' ms' : Nat} {as st0 : List AV} {v : Int} {Post : Option AV → Nat → Hp → Prop}
    (cl : CLk own idx y) (cb : CSb y cc' maxL' none np) (cs : Cond.instanceMethod y ∈ AW) (hy : y.name = "<init>") (hd : decode cc pc = .ok (.invokespecial idx, 3)) (hM : Ok Ly T y cc' maxL' none d' mc' ms' (.inr v :: as) n σ Post) (hst0 : as.reverse ++ .inr v :: st = st0) (hnp : as.length = np)
    (h1 : 1 ≤ v) (h2 : v ≤ (n : Int)) (hdd : d' + 1 ≤ d) (hmL : maxL' ≤ 9) (hsl : st.length ≤ 8) (hb1 : bc + mc' ≤ mc) (hb2 : bs + ms' ≤ ms)
    (k : ∀ (r : Option AV) (n' : Nat) (σ' : Hp), Post r n' σ' → n ≤ n' → XW Ly T K n' σ' (bc + mc') (bs + ms') (pc + 3) lv (r.toList ++ st)) : XW Ly T K n σ bc bs pc lv st0 := by
  obtain ⟨p, l, e, R, s, m, args, below, meth, c, Q, D, ca, A, H0, ad0, n0⟩ := K
  obtain ⟨hx, hb, hml, ho, hts, hG, hA, hlk, hR⟩ := C
  intro ad H locs ls hW hl hs
  subst hst0
  subst hR
  obtain ⟨cb1, cb2, cb3⟩ := cb
  have hsa : oks n as := fun u hu => hs u (List.mem_append_left _ (List.mem_reverse.mpr hu))
  have hsv : ov n (.inr v) := hs _ (List.mem_append_right _ List.mem_cons_self)
  have hss : oks n st := fun u hu => hs u (List.mem_append_right _ (List.mem_cons_of_mem _ hu))
  have hMet := hM (oks_c.mpr ⟨hsv, hsa⟩) l D ca ad H.size
  have hv0 : cv ad (.inr v) = .ref (ad v) := cv_r (by omega)
  have hW' := hW
  obtain ⟨hP, hD, hS, hok, hfx, hn0, hag⟩ := hW'
  have hPre : PreS s H (va_Pc ((.inr v :: as).map (cv ad)) (PP Ly T D ca ad n σ H.size)) (.ref (ad v) :: as.map (cv ad)) := by
    refine ⟨PP.blind, fun U hU hWm => ⟨?_, by rw [hU], by rw [hU]; exact hP, hG.warm hWm, hD.weaken (fun _ _ _ _ => trivial), hok, hfx⟩⟩
    rw [List.map_cons, hv0]
  have hstk : (F0 m pc ls ((as.reverse ++ .inr v :: st).map (cv ad))).stack = (as.map (cv ad)).reverse ++ .ref (ad v) :: st.map (cv ad) := by
    show (as.reverse ++ .inr v :: st).map (cv ad) = _
    rw [List.map_append, List.map_reverse, List.map_cons, hv0]
  have hrm : (rmd d' mc' ms').frames + 1 ≤ (rmd d mc ms).frames ∧ 8 + (maxL' + 11) + (rmd d' mc' ms').locals ≤ (rmd d mc ms).locals := ⟨hdd, by show 8 + (maxL' + 11) + 28 * d' + 30 ≤ 28 * d + 30; omega⟩
  have hsz : ls.size = nL := hl.2.1.trans hml
  have hro : 2 * (F0 m pc ls ((as.reverse ++ .inr v :: st).map (cv ad))).monitorRoom + ((st.map (cv ad)).map fun v => v.category).sum ≤ 8 := lv_room (by rw [sum_cat]; exact hsl)
  have hlen : (as.map (cv ad)).length = np := by rw [List.length_map]; exact hnp
  rcases cl with cl | ⟨host, cl⟩
  · exact x_back (va_runI (Ts := AW) (nL := nL) ⟨hx, hb, hml, ho, hts⟩ hMet ⟨callB_of np hts (gd_aw cb2) rfl rfl rfl (hts _ cb1) (hts _ cl) cb3 hrm, hy, hts _ cs⟩ hPre rfl hlen hsz hstk hro hd ⟨hb1, hb2⟩) hA hW hl hss k
  · exact x_back (va_runIN (Ts := AW) (nL := nL) ⟨hx, hb, hml, ho, hts⟩ hMet ⟨va_cnB np hts (gd_aw cb2) rfl rfl rfl (hG.2.1 _ cl) (hts _ cb1) cb3 hrm, hy, hts _ cs⟩ hPre rfl hlen hsz hstk hro hd ⟨hb1, hb2⟩) hA hW hl hss k
end XC
/-- the ends that a method may have -/
def RetK (Ly : Int → LK) (T : Int → Int → Option Int) (K : XK) (cc : ByteArray) (ret : Option FieldType) (mc ms : Nat) (Post : Option AV → Nat → Hp → Prop) : Prop :=
  (∀ (pc n' : Nat) (σ' : Hp) (bc bs : Nat) (lv : List (Option AV)) (r : Int), ret = some .int ∨ (ret = some .boolean ∧ 0 ≤ r ∧ r ≤ 1) → decode cc pc = .ok (.ireturn, 1) → bc ≤ mc → bs ≤ ms → Post (some (.inl r)) n' σ' → XW Ly T K n' σ' bc bs pc lv [.inl r]) ∧
  (∀ (pc n' : Nat) (σ' : Hp) (bc bs : Nat) (lv : List (Option AV)), ret = none → decode cc pc = .ok (.return_, 1) → bc ≤ mc → bs ≤ ms → Post none n' σ' → XW Ly T K n' σ' bc bs pc lv []) ∧
  ∀ (pc n' : Nat) (σ' : Hp) (bc bs : Nat) (lv : List (Option AV)) (r : Int) (nm : String), ret = some (.object nm) → decode cc pc = .ok (.areturn, 1) → bc ≤ mc → bs ≤ ms → Post (some (.inr r)) n' σ' → XW Ly T K n' σ' bc bs pc lv [.inr r]
theorem lva_in {ad : Int → Nat} : ∀ (as : List AV) (k i : Nat) (v : AV), as[i]? = some v → (k + i, cv ad v) ∈ lv_args k (as.map (cv ad))
  | [], k, i, v, h => by simp at h
  | a :: t, k, 0, v, h => by
    cases h
    exact List.mem_cons_self
  | a :: t, k, i + 1, v, h => by
    have h1 := lva_in (ad := ad) t (k + 1) i v h
    show _ ∈ (k, cv ad a) :: lv_args (if (cv ad a).category = 2 then k + 2 else k + 1) (t.map (cv ad))
    rw [cv_cat]
    rw [show k + (i + 1) = k + 1 + i by omega]
    exact List.mem_cons_of_mem _ h1
theorem lg_len {ad : Int → Nat} (as : List AV) : (lg_sl (as.map (cv ad))).length = as.length := by
  induction as with
  | nil => rfl
  | cons a t ih =>
    have : lg_sl ((a :: t).map (cv ad)) = [.val (cv ad a)] ++ lg_sl (t.map (cv ad)) := by
      simp [lg_sl, cv_cat]
    rw [this, List.length_append, ih]
    simp; omega
theorem ok_mk {Ly : Int → LK} {T : Int → Int → Option Int} {y : MethodName} {cc : ByteArray} {maxL : Nat} {ret : Option FieldType} {d mc ms : Nat} {as : List AV} {n : Nat} {σ : Hp} {Post : Option AV → Nat → Hp → Prop} (hy : plainName y.cls = true) (hlen : as.length ≤ maxL)
    (body : ∀ K : XK, Cx K cc maxL y.cls d mc ms → RetK Ly T K cc ret mc ms Post → oks n as → okh Ly n σ → fxd T n σ → XW Ly T K n σ 0 0 0 (as.map some ++ List.replicate (maxL - as.length) none) []) : Ok Ly T y cc maxL ret d mc ms as n σ Post := by
  intro has l D ca ad sz
  refine Met.ofW (cc := cc) (maxL := maxL) (ret := ret) hy rfl ?_
  intro p e s m args below meth c s₁ B hml hv
  obtain ⟨rfl, hsz, hP, hG, hD0, hok, hfx⟩ := hv
  have hx := B.exec
  have hb := B.bytes
  have hr := B.returns
  have hts0 := atoms_spec (ws := MWd y cc maxL ret) B.pre
  have hts : ∀ w ∈ AW, w.before (as.map (cv ad)).toArray s = true := fun w hw => hts0 w (List.mem_cons_of_mem _ hw)
  have hown : s.vm.findClass y.cls = some m.cls := findClass_of_methodNamed B.named
  have hlk := B.notSynchronized
  subst hsz
  have hD := hD0.self (sz := s.heap.size)
  have hA : ∀ q, s.heap.size ≤ q → va_A (cls ca Ly ad n σ) s.heap.size q := fun q h => Or.inr h
  have hl := lv_entry (as.map (cv ad)) (n := maxL) (by rw [lg_len]; exact hlen)
  rw [lg_entry_eq]
  have hlv : lvs n ad (lg_sl (as.map (cv ad)) ++ List.replicate (maxL - (lg_sl (as.map (cv ad))).length) Slot.unset).toArray c.maxLocals (as.map some ++ List.replicate (maxL - as.length) none) := by
    refine ⟨by rw [hml]; simp; omega, by rw [hml]; exact hl.1, hl.2.1, fun i v hi => ?_⟩
    by_cases hil : i < as.length
    · rw [List.getElem?_append_left (by simpa using hil), List.getElem?_map] at hi
      cases ha : as[i]? with
      | none => rw [ha] at hi; cases hi
      | some w =>
        rw [ha] at hi
        cases hi
        have h1 := hl.2.2 _ (lva_in (ad := ad) as 0 i v ha)
        rw [Nat.zero_add] at h1
        exact ⟨h1, has v (List.mem_of_getElem? ha)⟩
    · rw [List.getElem?_append_right (by simpa using hil)] at hi
      have := List.mem_of_getElem? hi
      rw [List.mem_replicate] at this
      exact absurd this.2 (by simp)
  refine body (p, l, e, rmd d mc ms, s, m, _, below, meth, c, MQ below (QQ Ly T D ca ad n σ s.heap.size Post) _ s mc ms (va_A (cls ca Ly ad n σ) s.heap.size), D, ca, va_A (cls ca Ly ad n σ) s.heap.size, s.heap, ad, n) ⟨hx, hb, hml, hown, hts, hG, hA, hlk, rfl⟩ ?_ has hok hfx ad s.heap [] _ ⟨hP, hD, va_S.rf, hok, hfx, Nat.le_refl _, agr_rf⟩ hlv (fun v h => by cases h)
  refine ⟨?_, ?_, ?_⟩
  · intro pc n' σ' bc bs lv r hrt hd hc1 hc2 hp ad' H' locs' ls' hW' hl' hs'
    obtain ⟨hP', hD', hS', hok', hfx', hn', hag'⟩ := hW'
    refine W.widen (k := mc) (n := ms) hc1 hc2 ?_
    have hq : ∀ t : State, t.heap = H' → s.WarmedH t.vm → QQ Ly T D ca ad n σ s.heap.size Post (as.map (cv ad)).toArray s (.returned (some (.int (iI r)))) t := fun t ht _ =>
      ⟨⟨some (.inl r), ad', n', σ', rfl, hp, hn', hag', hs', by rw [ht]; exact hP', hD', hok', hfx'⟩, hS'.F ht⟩
    rcases hrt with hrt | ⟨hrt, r0, r1⟩
    · exact W.iret hx hb (by rw [hr]; exact hrt) hq hS'.2.2 hd hlk
    · exact W.zret hx hb (by rw [hr]; exact hrt) (iI_z r0 r1).1 hq hS'.2.2 hd hlk
  · intro pc n' σ' bc bs lv hrt hd hc1 hc2 hp ad' H' locs' ls' hW' hl' hs'
    obtain ⟨hP', hD', hS', hok', hfx', hn', hag'⟩ := hW'
    refine W.widen (k := mc) (n := ms) hc1 hc2 ?_
    exact W.vret hx hb (by rw [hr]; exact hrt) (fun t ht _ => ⟨⟨none, ad', n', σ', rfl, hp, hn', hag', (fun v h => by cases h), by rw [ht]; exact hP', hD', hok', hfx'⟩, hS'.F ht⟩) hS'.2.2 hd hlk
  · intro pc n' σ' bc bs lv r nm hrt hd hc1 hc2 hp ad' H' locs' ls' hW' hl' hs'
    obtain ⟨hP', hD', hS', hok', hfx', hn', hag'⟩ := hW'
    refine W.widen (k := mc) (n := ms) hc1 hc2 ?_
    refine W.aret hx hb (by rw [hr]; exact hrt) (Or.inl ⟨nm, rfl⟩) ?_ (fun t ht _ => ⟨⟨some (.inr r), ad', n', σ', rfl, hp, hn', hag', hs', by rw [ht]; exact hP', hD', hok', hfx'⟩, hS'.F ht⟩) hS'.2.2 hd hlk
    by_cases h0 : r = 0
    · left; simp [cv, h0]
    · right; exact ⟨ad' r, cv_r h0⟩
