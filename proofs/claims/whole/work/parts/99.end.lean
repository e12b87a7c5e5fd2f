theorem l_end {K : LQ} {b L ax am : Nat} {xs : Nat → Int32} (C : LC K b L xs) (n : Nat) (χ τ : Hp) (bc bs : Nat) (i : Int) (h1 : bc ≤ 700) (h2 : bs ≤ 20000) : LJ K b ax am n χ τ bc bs 567 i [] := by
  obtain ⟨p, l, e, s, m, below, meth, c, D, ca⟩ := K
  obtain ⟨hx, hb, hret, hml, ho, hts, hX, hbl, hlk, hG⟩ := C
  intro adX adM H locs ls hw e1 e2 hl
  refine lv_iconst hx hb d_L_567 rfl ?_
  refine va_forget hw.2.2.2.2.2 ?_
  refine W.widen (k := 600000) (n := 7302250) (by omega) (by omega) ?_
  exact lw_ret hx hb hret hlk d_L_568
set_option maxRecDepth 20000 in
theorem w_ao_T : Cond.arrayOver (.object "LogStore$Transaction") ∈ lw_tbl := (tb_1 (List.mem_of_getElem? (i := 159) rfl))
set_option maxRecDepth 20000 in
theorem w_ao_C : Cond.arrayOver (.object "LogStore$Contents") ∈ lw_tbl := (tb_1 (List.mem_of_getElem? (i := 97) rfl))
set_option maxRecDepth 20000 in
theorem w_ao_I : Cond.arrayOver (.array .int) ∈ lw_tbl := (tb_1 (List.mem_of_getElem? (i := 26) rfl))
theorem whole_start {p : Program} {e : Env} {s : State} {m : MethodId} {below : List Frame} {meth : Method} {c : Code} (l : Launch) {b L : Nat} {xs : Nat → Int32} (hL : L ≤ 2048) (C0 : lw_At p s m meth c b L xs) : W p l e room_1 s m #[Value.ref b] below meth c s.heap [] 0 0 (lw_Z below #[Value.ref b] s) (entryFrame m ([Value.ref b] : List Value).toArray 4) := by
  obtain ⟨hx, hb, hret, hml, hown, hts, hX, hbl, hlk, hgv⟩ := C0
  obtain ⟨D, ca, hG⟩ := g_start hts w_ao_T w_ao_C w_ao_I
  have C : LC (p, l, e, s, m, below, meth, c, D, ca) b L xs := ⟨hx, hb, hret, hml, hown, fun w hw => hts w (List.mem_filter.mp hw).1, hX, hbl, hlk, hG⟩
  have hl := lv_entry [Value.ref b] (n := 4) (show (1 : Nat) ≤ 4 by decide)
  rw [lg_entry_eq]
  generalize (lg_sl [Value.ref b] ++ List.replicate (4 - (lg_sl [Value.ref b]).length) Slot.unset).toArray = ls at hl ⊢
  have hl0 : lv_has ls 4 [(0, .ref b)] := hl
  refine l_new (ws := []) C cf_X w_cl_L_7 w_in_X w_ii_X d_L_0 (by decide +kernel) (fun k q h => by cases h) ⟨fun i j x y h => (by cases h), fun k q h => (by cases h)⟩ va_S.rf (by decide) (by decide) (fun q H1 hP1 hD1 hS1 => ?_)
  refine lv_dup hx hb d_L_3 rfl ?_
  have e1 : cls ca LyX (fun _ => q) 1 Z0 = [] ++ [(q, .inr (0, k_X.zipIdx.map fun q => fvl (fun _ => 0) q.1 0))] := cls_one rfl
  rw [← e1] at hP1 hD1
  refine l_init (ad := fun _ => q) (other := []) C cl_L_9 cb_X_init cs_X_init rfl d_L_4 (c_X_init (fun _ _ _ => rfl)) hP1 hD1 hS1 (fun k y h => by cases h) (fun i j x y _ h => by cases h) hl0.1 (by decide) (by decide) (show 1 + 0 ≤ 2 by decide) (by decide) (by decide) (fun adX H2 locs2 ha hP2 hD2 hok2 _ _ hS2 => ?_)
  refine lv_astore_n hx hb d_L_7 rfl hl0 (by decide) rfl (fun ls1 hl1 => ?_)
  refine l_new C cf_M w_cl_L_10 w_in_M w_ii_M d_L_8 (by decide +kernel) hP2 hD2 hS2 (by decide) (by decide) (fun q2 H3 hP3 hD3 hS3 => ?_)
  refine lv_dup hx hb d_L_11 rfl ?_
  have hlen : (cls ca LyX adX 85 (i_X Z0)).length = 85 := by simp [cls]
  have e2 : cls ca LyM (fun _ => q2) 1 Z0 = [(q2, .inr (7, k_M.zipIdx.map fun q => fvl (fun _ => 0) q.1 0))] := cls_one rfl
  rw [← e2] at hP3 hD3
  have hgX : ∀ (k : Nat) (x : Nat × va_E), (cls ca LyX adX 85 (i_X Z0))[k]? = some x → (cls ca LyX adX 85 (i_X Z0) ++ cls ca LyM (fun _ => q2) 1 Z0)[k]? = some x := fun k x hk => by
    rw [List.getElem?_append_left (List.getElem?_eq_some_iff.mp hk).1]; exact hk
  have hgM : ∀ (k : Nat) (x : Nat × va_E), (cls ca LyM (fun _ => q2) 1 Z0)[k]? = some x → (cls ca LyX adX 85 (i_X Z0) ++ cls ca LyM (fun _ => q2) 1 Z0)[85 + k]? = some x := fun k x hk => by
    rw [List.getElem?_append_right (by omega), hlen, show 85 + k - 85 = k by omega]; exact hk
  have hPX : va_P D CL (cls ca LyX adX 85 (i_X Z0)) H3 := hP3.by (fun k => k) hgX
  have hPM : va_P D CL (cls ca LyM (fun _ => q2) 1 Z0) H3 := hP3.by (fun k => 85 + k) hgM
  have hDM : va_D (lA s) (cls ca LyM (fun _ => q2) 1 Z0) := hD3.by (fun k => 85 + k) hgM (fun i j _ _ h => by omega)
  have hap : ∀ (i j : Nat) (x y : Nat × va_E), (cls ca LyM (fun _ => q2) 1 Z0)[i]? = some x → (cls ca LyX adX 85 (i_X Z0))[j]? = some y → x.1 ≠ y.1 := fun i j x y h1 h2 h3 => by
    have := hD3.1 (85 + i) j x y (hgM i x h1) (hgX j y h2) h3
    have hj := (List.getElem?_eq_some_iff.mp h2).1
    rw [hlen] at hj
    omega
  refine l_init (ad := fun _ => q2) (other := cls ca LyX adX 85 (i_X Z0)) C cl_L_12 cb_M_init cs_M_init rfl d_L_12 (c_M_init (fun _ _ _ => rfl)) hPM hDM hS3 hPX hap hl1.1 (by decide) (by decide) (show 1 + 0 ≤ 2 by decide) (by decide) (by decide) (fun adM H4 locs4 hb4 hP4 hD4 hok4 hPo4 hap4 hS4 => ?_)
  refine lv_astore_n hx hb d_L_15 rfl hl1 (by decide) rfl (fun ls2 hl2 => ?_)
  refine lv_iconst hx hb d_L_16 rfl ?_
  refine lv_istore_n hx hb d_L_17 rfl hl2 (by decide) rfl (fun ls3 hl3 => ?_)
  have hlp := l_loop (ax := q) (am := q2) C (by omega) (l_end C) 513 0 85 _ _ X0 M0 (by decide) (by decide) (by omega) inv_0 (show ((0 + 1 + 84 + 1 + 27 : Nat) : Int) ≤ 113 + 0 by decide) (show ((0 + 9 + 2498 + 37 + 9570 : Nat) : Int) ≤ 13000 + 9 * 0 by decide)
  exact hlp adX adM H4 locs4 ls3 ⟨⟨hPo4, hD2, hok2, X0_fx⟩, ⟨hP4, hD4, hok4, M0_fx⟩, fun i j x y h1 h2 h3 => hap4 j i y x h2 h1 h3.symm, hS4⟩ ha hb4 (lv_sub hl3 [3, 2, 1, 0] rfl)

