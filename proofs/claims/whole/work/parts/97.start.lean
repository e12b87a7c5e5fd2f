-- ===== the law: its beginning =====
theorem cls_one {ca : Nat → ClassId} {Ly : Int → LK} {ad : Int → Nat} {ci : Nat} {ts : List Nat} (h : Ly 1 = .inl (ci, ts)) : cls ca Ly ad 1 Z0 = [(ad 1, .inr (ci, ts.zipIdx.map fun q => fvl (fun _ => 0) q.1 0))] := by
  have e : cls ca Ly ad 1 Z0 = [(ad 1, ctn ca (Ly 1) ad (Z0 1))] := rfl
  rw [e, h]
  simp only [ctn]
  refine congrArg (fun f => [(ad 1, (Sum.inr (ci, f) : va_E))]) (List.map_congr_left fun x _ => ?_)
  simp only [fvl, cv, Z0]
  rfl
theorem okh_one {Ly : Int → LK} : okh Ly 1 Z0 := fun v i h1 h2 h3 => ⟨⟨by show -2147483648 ≤ (0 : Int); decide, by show (0 : Int) ≤ 2147483647; decide⟩, fun _ => ⟨by show (0 : Int) ≤ 0; decide, by show (0 : Int) ≤ 1; decide⟩⟩
theorem fxd_TN {n : Nat} {σ : Hp} : fxd TN n σ := fun v i t _ _ h => by cases h
section LS
variable {p : Program} {l : Launch} {e : Env} {s : State} {m : MethodId} {below : List Frame} {meth : Method} {c : Code} {D : va_G} {ca : Nat → ClassId} {b L : Nat} {xs : Nat → Int32} {H : Heap} {locs : List Loc} {ls : Array Slot} {bc bs pc : Nat} {rest : List Value} {Q : State → Prop}
theorem l_new (C : LC (p, l, e, s, m, below, meth, c, D, ca) b L xs) {ws : va_W} {ci idx N : Nat} {cn : String} {F : u_T} {ts : List Nat} {ty : Nat → FieldType} (cf : CF ci cn F N ts ty) (h1 : Cond.classLink R_L idx cn ∈ AW) (h2 : Cond.instantiable cn N ∈ AW) (h3 : Cond.initialized cn ∈ AW) (hd : decode code pc = .ok (.new idx, 3)) (hdf : ∀ j, j < N → defaultValue (ty j) = if ts.getD j 0 = 2 then .null else .int 0) (hP : va_P D CL ws H) (hD : va_D (lA s) ws) (hS : va_S (lA s) s.heap H locs) (hb1 : bc + 1 ≤ 600000) (hb2 : bs + N ≤ 7302250)
    (k : ∀ (q : Nat) (H1 : Heap), va_P D CL (ws ++ [(q, .inr (ci, ts.zipIdx.map fun q => fvl (fun _ => 0) q.1 0))]) H1 → va_D (lA s) (ws ++ [(q, .inr (ci, ts.zipIdx.map fun q => fvl (fun _ => 0) q.1 0))]) → va_S (lA s) s.heap H1 locs → W p l e room_1 s m #[Value.ref b] below meth c H1 locs (bc + 1) (bs + N) Q (F0 m (pc + 3) ls (.ref q :: rest))) : W p l e room_1 s m #[Value.ref b] below meth c H locs bc bs Q (F0 m pc ls rest) := by
  obtain ⟨hx, hb, hret, hml, ho, hts, hX, hbl, hlk, hG⟩ := C
  obtain ⟨c1, c2, c3, c4, c5, c6⟩ := cf
  refine va_new (fs := ts.zipIdx.map fun q => fvl (fun _ => 0) q.1 0) hx hb hts c2 ty c4 ho (hts _ h1) (hts _ h2) (hts _ h3) hG.1 hP hD hS (fun q h => h) c1 (fun j hj => ?_) hb1 hb2 hd k
  have hjt : ts[j]? = some (ts.getD j 0) := by
    rw [List.getD_eq_getElem?_getD, List.getElem?_eq_getElem (by omega)]; rfl
  rw [hdf j hj]
  show _ = (List.getD _ j Value.null)
  generalize ts.getD j 0 = t at hjt ⊢
  rw [List.getD_eq_getElem?_getD, List.getElem?_map, List.getElem?_zipIdx, hjt]
  simp only [Option.map_some, Option.getD_some, fvl, cv]
  split
  · rfl
  · rw [iI_0]
theorem l_init (C : LC (p, l, e, s, m, below, meth, c, D, ca) b L xs) {Ly : Int → LK} {ad : Int → Nat} {y : MethodName} {cc' : ByteArray} {maxL' idx d' mc' ms' nn : Nat} {σn : Hp} {other : va_W}
    (cl : CLk R_L idx y) (cb : CSb y cc' maxL' none 0) (cs : Cond.instanceMethod y ∈ AW) (hy : y.name = "<init>") (hd : decode code pc = .ok (.invokespecial idx, 3)) (hM : Ok Ly TN y cc' maxL' none d' mc' ms' [.inr 1] 1 Z0 (pV nn σn))
    (hP : va_P D CL (cls ca Ly ad 1 Z0) H) (hD : va_D (lA s) (cls ca Ly ad 1 Z0)) (hS : va_S (lA s) s.heap H locs) (hPo : va_P D CL other H) (hap : ∀ (i j : Nat) (x y : Nat × va_E), (cls ca Ly ad 1 Z0)[i]? = some x → other[j]? = some y → x.1 ≠ y.1)
    (hsz : ls.size = 4) (hdd : d' ≤ 7) (hmL : maxL' ≤ 9) (hsl : (rest.map fun v => v.category).sum ≤ 2) (hb1 : bc + mc' ≤ 600000) (hb2 : bs + ms' ≤ 7302250)
    (k : ∀ (ad' : Int → Nat) (H' : Heap) (locs' : List Loc), ad' 1 = ad 1 → va_P D CL (cls ca Ly ad' nn σn) H' → va_D (lA s) (cls ca Ly ad' nn σn) → okh Ly nn σn → va_P D CL other H' → (∀ (i j : Nat) (x y : Nat × va_E), (cls ca Ly ad' nn σn)[i]? = some x → other[j]? = some y → x.1 ≠ y.1) → va_S (lA s) s.heap H' locs' → W p l e room_1 s m #[Value.ref b] below meth c H' locs' (bc + mc') (bs + ms') Q (F0 m (pc + 3) ls rest)) : W p l e room_1 s m #[Value.ref b] below meth c H locs bc bs Q (F0 m pc ls (.ref (ad 1) :: rest)) := by
  obtain ⟨hx, hb, hret, hml, ho, hts, hX, hbl, hlk, hG⟩ := C
  obtain ⟨cb1, cb2, cb3⟩ := cb
  have hMet := hM (oks_c.mpr ⟨⟨by decide, by decide⟩, fun v hv => by cases hv⟩) l D ca ad H.size
  have hv0 : cv ad (.inr 1) = .ref (ad 1) := cv_r (by decide)
  have hPre : PreS s H (va_Pc ([.inr 1].map (cv ad)) (PP Ly TN D ca ad 1 Z0 H.size)) [.ref (ad 1)] := by
    refine ⟨PP.blind, fun U hU hWm => ⟨?_, by rw [hU], by rw [hU]; exact hP, hG.warm hWm, hD.weaken (fun _ _ _ _ => trivial), okh_one, fxd_TN⟩⟩
    rw [List.map_cons, hv0]; rfl
  have hrm : (rmd d' mc' ms').frames + 1 ≤ room_1.frames ∧ 8 + (maxL' + 11) + (rmd d' mc' ms').locals ≤ room_1.locals := ⟨by show d' + 1 ≤ 9; omega, by show 8 + (maxL' + 11) + (28 * d' + 30) ≤ 314; omega⟩
  have hro : 2 * (F0 m pc ls (.ref (ad 1) :: rest)).monitorRoom + (rest.map fun v => v.category).sum ≤ 8 := lv_room (by omega)
  have hfin : ∀ (r : Option AV) (ad' : Int → Nat) (n' : Nat) (σ' : Hp) (H' : Heap) (locs' : List Loc), pV nn σn r n' σ' → 1 ≤ n' → agr 1 ad ad' → va_P D CL (cls ca Ly ad' n' σ') H' → va_D (lA s) (cls ca Ly ad' n' σ') → okh Ly n' σ' → fxd TN n' σ' → va_P D CL other H' → (∀ (i j : Nat) (x y : Nat × va_E), (cls ca Ly ad' n' σ')[i]? = some x → other[j]? = some y → x.1 ≠ y.1) → va_S (lA s) s.heap H' locs' → W p l e room_1 s m #[Value.ref b] below meth c H' locs' (bc + mc') (bs + ms') Q (F0 m (pc + 3) ls ((r.map (cv ad')).toList ++ rest)) := by
    rintro r ad' n' σ' H' locs' ⟨rfl, rfl, rfl⟩ hnn hag hP' hD' hok' hfx' hPo' hap' hS'
    exact k ad' H' locs' (hag 1 (by decide) (by decide)) hP' hD' hok' hPo' hap' hS'
  rcases cl with cl | ⟨host, cl⟩
  · exact w_back (va_runI (Ts := AW) (nL := 4) (b := ad 1) (As := []) ⟨hx, hb, hml, ho, hts⟩ hMet ⟨callB_of 0 hts (gd_aw cb2) rfl rfl rfl (hts _ cb1) (hts _ cl) cb3 hrm, hy, hts _ cs⟩ hPre rfl rfl hsz rfl hro hd ⟨hb1, hb2⟩) (fun q h => h) hD hS hPo hap hfin
  · exact w_back (va_runIN (Ts := AW) (nL := 4) (b := ad 1) (As := []) ⟨hx, hb, hml, ho, hts⟩ hMet ⟨va_cnB 0 hts (gd_aw cb2) rfl rfl rfl (hG.2.1 _ cl) (hts _ cb1) cb3 hrm, hy, hts _ cs⟩ hPre rfl rfl hsz rfl hro hd ⟨hb1, hb2⟩) (fun q h => h) hD hS hPo hap hfin
end LS
theorem AIs_of {args : Array Value} {s : State} (h0 : (Cond.arrayOver (.array .int)).before args s = true) : AIs s := by
  have h : (Cond.arrayOver (.array .int)).holds args s none s [] = true := h0
  simp only [Cond.holds, Cond.value, beq_iff_eq] at h
  have en : (FieldType.array .int).toString = "[I" := by decide
  have en2 : ("[" ++ (FieldType.array .int).toString) = "[[I" := by decide
  rw [en2, en] at h
  cases hc : s.vm.findClass "[I" with
  | none => simp [hc] at h
  | some comp =>
    simp only [hc, Option.bind_some, Option.bind_eq_some_iff, Option.map_eq_some_iff] at h
    obtain ⟨c, hi, k, hk, hb⟩ := h
    have hi0 := hi
    obtain ⟨hlt, hp, -⟩ := Array.findIdx?_eq_some_iff_getElem.mp hi
    have hkk : s.vm.classes[c] = k := (Array.getElem?_eq_some_iff.mp hk).2
    rw [hkk] at hp
    cases hkind : k.kind with
    | array component ty =>
      rw [hkind] at hb hp
      simp at hb hp
      exact ⟨comp, c, k, hc, hi0, hk, by rw [hkind, hp, hb.1], hb.2⟩
    | _ => rw [hkind] at hb; simp at hb
theorem g_start {b : Nat} {s : State} (hts : ∀ w ∈ lw_tbl, w.before #[Value.ref b] s = true) (h1 : Cond.arrayOver (.object "LogStore$Transaction") ∈ lw_tbl) (h2 : Cond.arrayOver (.object "LogStore$Contents") ∈ lw_tbl) (h3 : Cond.arrayOver (.array .int) ∈ lw_tbl) : ∃ (D : va_G) (ca : Nat → ClassId), Gst D ca s := by
  have hA : ∀ w ∈ AW, w.before #[Value.ref b] s = true := fun w hw => hts w (List.mem_filter.mp hw).1
  obtain ⟨c0, i0, k0⟩ := u_known hA cw_X (hA _ w_in_X)
  obtain ⟨c1, i1, k1⟩ := u_known hA cw_XL (hA _ w_in_XL)
  obtain ⟨c2, i2, k2⟩ := u_known hA cw_XP (hA _ w_in_XP)
  obtain ⟨c3, i3, k3⟩ := u_known hA cw_XC (hA _ w_in_XC)
  obtain ⟨c4, i4, k4⟩ := u_known hA cw_XV (hA _ w_in_XV)
  obtain ⟨c5, i5, k5⟩ := u_known hA cw_XR (hA _ w_in_XR)
  obtain ⟨c6, i6, k6⟩ := u_known hA cw_XT (hA _ w_in_XT)
  obtain ⟨c7, i7, k7⟩ := u_known hA cw_M (hA _ w_in_M)
  obtain ⟨a0, q0, m0, f0, g0, d0⟩ := Cond.arrayClass_spec (hA _ w_ac_int)
  obtain ⟨a1, q1, m1, f1, g1, d1⟩ := Cond.arrayClass_spec (hA _ w_ac_byte)
  obtain ⟨a2, q2, m2, f2, g2, d2⟩ := Cond.arrayClass_spec (hA _ w_ac_boolean)
  obtain ⟨m3, a3, q3, n3, -, g3, d3, f3⟩ := Cond.arrayOver_spec (hts _ h1)
  obtain ⟨m4, a4, q4, n4, -, g4, d4, f4⟩ := Cond.arrayOver_spec (hts _ h2)
  have hI := AIs_of (hts _ h3)
  have hI0 := hI
  obtain ⟨m5, a5, q5, n5, -, g5, d5, f5⟩ := hI
  refine ⟨(fun c => match c with | 0 => c0 | 1 => c1 | 2 => c2 | 3 => c3 | 4 => c4 | 5 => c5 | 6 => c6 | _ => c7, fun c => match c with | 0 => i0 | 1 => i1 | 2 => i2 | 3 => i3 | 4 => i4 | 5 => i5 | 6 => i6 | _ => i7), fun c => match c with | 0 => a0 | 1 => a1 | 2 => a2 | 3 => a3 | 4 => a4 | _ => a5, ⟨fun c q hq => ?_, fun k q hq => ?_⟩, fun w hw => va_Nw.of (nst_on (NW_ok w hw)) (hts w (List.mem_filter.mp hw).1), va_AO.of (hts _ h1), va_AO.of (hts _ h2), hI0⟩
  · have hc : c < 8 := (List.getElem?_eq_some_iff.mp hq).1
    rcases (show c = 0 ∨ c = 1 ∨ c = 2 ∨ c = 3 ∨ c = 4 ∨ c = 5 ∨ c = 6 ∨ c = 7 by omega) with rfl | rfl | rfl | rfl | rfl | rfl | rfl | rfl
    · cases hq; exact k0
    · cases hq; exact k1
    · cases hq; exact k2
    · cases hq; exact k3
    · cases hq; exact k4
    · cases hq; exact k5
    · cases hq; exact k6
    · cases hq; exact k7
  · have hc : k < 6 := (List.getElem?_eq_some_iff.mp hq).1
    rcases (show k = 0 ∨ k = 1 ∨ k = 2 ∨ k = 3 ∨ k = 4 ∨ k = 5 by omega) with rfl | rfl | rfl | rfl | rfl | rfl
    · cases hq; exact ⟨fun n z => ⟨fun k h => (by cases h), q0, g0, m0, d0⟩, f0⟩
    · cases hq; exact ⟨fun n z => ⟨fun k h => (by cases h), q1, g1, m1, d1⟩, f1⟩
    · cases hq; exact ⟨fun n z => ⟨fun k h => (by cases h), q2, g2, m2, d2⟩, f2⟩
    · cases hq; exact ⟨fun n z => ⟨fun k h => (by cases h), q3, g3, m3, d3⟩, q3, m3, g3, d3, n3, f3⟩
    · cases hq; exact ⟨fun n z => ⟨fun k h => (by cases h), q4, g4, m4, d4⟩, q4, m4, g4, d4, n4, f4⟩
    · cases hq; exact ⟨fun n z => ⟨fun k h => (by cases h), q5, g5, m5, d5⟩, f5⟩
