-- ===== the law: two worlds side by side =====
/-- behind a call: the callee's world anew, the other one as it was -/
theorem w_back {p : Program} {l : Launch} {e : Env} {R : Room} {s : State} {mI : MethodId} {args : Array Value} {below : List Frame} {meth : Method} {c : Code} {Q : State → Prop} {D : va_G} {ca : Nat → ClassId} {A : Nat → Prop} {H0 H : Heap} {Ly : Int → LK} {T : Int → Int → Option Int} {n : Nat} {σ : Hp} {ad : Int → Nat} {locs : List Loc} {ls : Array Slot} {bc bs pc mc' ms' : Nat} {st0 rest : List Value} {a : Array Value} {Post : Option AV → Nat → Hp → Prop} {other : va_W}
    (hr : va_Run p l e R s mI args below meth c H locs bc bs mc' ms' (F0 mI pc ls st0) rest (QQ Ly T D ca ad n σ H.size Post a) (va_A (cls ca Ly ad n σ) H.size))
    (hA : ∀ q, H0.size ≤ q → A q) (hD : va_D A (cls ca Ly ad n σ)) (hS : va_S A H0 H locs) (hPo : va_P D CL other H) (hap : ∀ (i j : Nat) (x y : Nat × va_E), (cls ca Ly ad n σ)[i]? = some x → other[j]? = some y → x.1 ≠ y.1)
    (k : ∀ (r : Option AV) (ad' : Int → Nat) (n' : Nat) (σ' : Hp) (H' : Heap) (locs' : List Loc), Post r n' σ' → n ≤ n' → agr n ad ad' → va_P D CL (cls ca Ly ad' n' σ') H' → va_D A (cls ca Ly ad' n' σ') → okh Ly n' σ' → fxd T n' σ' → va_P D CL other H' → (∀ (i j : Nat) (x y : Nat × va_E), (cls ca Ly ad' n' σ')[i]? = some x → other[j]? = some y → x.1 ≠ y.1) → va_S A H0 H' locs' → W p l e R s mI args below meth c H' locs' (bc + mc') (bs + ms') Q (F0 mI (pc + 3) ls ((r.map (cv ad')).toList ++ rest))) :
    W p l e R s mI args below meth c H locs bc bs Q (F0 mI pc ls st0) := by
  intro T0 hT X
  obtain ⟨v, st₀, t, T', L, h0, X', hL, e1, e2, ⟨⟨r, ad', n', σ', hv, hp, hn, hag, hov, hP1, hD1, ho1, hf1⟩, hz, hk⟩, stp⟩ := hr T0 hT X
  cases hv
  rw [h0] at hz hk
  have hF : ∀ q, va_A (cls ca Ly ad n σ) H.size q → A q := fun q h => by
    rcases h with ⟨i, e, h⟩ | h
    · exact hD.2 i (q, e) h
    · exact hA q (Nat.le_trans hS.1 h)
  have hlt : ∀ (j : Nat) (y : Nat × va_E), other[j]? = some y → y.1 < H.size ∧ ¬ va_A (cls ca Ly ad n σ) H.size y.1 := fun j y hy => by
    have hl := (hPo j y hy).lt
    refine ⟨hl, fun h => ?_⟩
    rcases h with ⟨i, e, h⟩ | h
    · exact hap i j (y.1, e) y h hy rfl
    · omega
  have hS1 : va_S A H0 T'.heap (locs ++ L) := ⟨Nat.le_trans hS.1 (by rw [e1]; exact hz), fun q h1 h2 => by rw [e1, hk q (Nat.lt_of_lt_of_le h1 hS.1) (fun z => h2 (hF q z))]; exact hS.2.1 q h1 h2, fun q hq => by
      rcases List.mem_append.mp hq with h | h
      · exact hS.2.2 q h
      · exact hF _ (hL q h)⟩
  obtain ⟨t2, a1, b1⟩ := k r ad' n' σ' T'.heap (locs ++ L) hp hn hag (by rw [e1]; exact hP1) (hD1.weaken (fun _ _ _ h => hF _ h)) ho1 hf1 (hPo.kept (fun j y hy => by rw [e1]; exact hk y.1 (hlt j y hy).1 (hlt j y hy).2)) (fun i j x y hx hy hxy => (hlt j y hy).2 (by rw [← hxy]; exact hD1.2 i x hx)) hS1 T' rfl X'
  exact ⟨t2, stp t2 a1, b1⟩
def W2 (D : va_G) (ca : Nat → ClassId) (A : Nat → Prop) (H0 : Heap) (n : Nat) (χ τ : Hp) (adX adM : Int → Nat) (H : Heap) (locs : List Loc) : Prop :=
  (va_P D CL (cls ca LyX adX n χ) H ∧ va_D A (cls ca LyX adX n χ) ∧ okh LyX n χ ∧ fxd TX n χ) ∧
  (va_P D CL (cls ca LyM adM 28 τ) H ∧ va_D A (cls ca LyM adM 28 τ) ∧ okh LyM 28 τ ∧ fxd TM 28 τ) ∧
  (∀ (i j : Nat) (x y : Nat × va_E), (cls ca LyX adX n χ)[i]? = some x → (cls ca LyM adM 28 τ)[j]? = some y → x.1 ≠ y.1) ∧ va_S A H0 H locs
def lA (s : State) : Nat → Prop := fun q => s.heap.size ≤ q
abbrev LQ : Type := Program × Launch × Env × State × MethodId × List Frame × Method × Code × va_G × (Nat → ClassId)
def LJ (K : LQ) (b ax am : Nat) (n : Nat) (χ τ : Hp) (bc bs pc : Nat) (i : Int) (st : List Value) : Prop := match K with
  | (p, l, e, s, m, below, meth, c, D, ca) => ∀ (adX adM : Int → Nat) (H : Heap) (locs : List Loc) (ls : Array Slot), W2 D ca (lA s) s.heap n χ τ adX adM H locs → adX 1 = ax → adM 1 = am → lv_has ls 4 [(0, .ref b), (1, .ref ax), (2, .ref am), (3, .int (iI i))] → W p l e room_1 s m #[Value.ref b] below meth c H locs bc bs (lw_Z below #[Value.ref b] s) (F0 m pc ls st)
def LC (K : LQ) (b L : Nat) (xs : Nat → Int32) : Prop := match K with
  | (p, _, _, s, m, _, meth, c, D, ca) => p.tables.exec = Jvm.exec ∧ c.code = code ∧ meth.sig.returnType = ret ∧ c.maxLocals = 4 ∧ s.vm.findClass R_L = some m.cls ∧ (∀ w ∈ AW, w.before #[Value.ref b] s = true) ∧ va_X b L xs s s.heap ∧ b < s.heap.size ∧ meth.locks = false ∧ Gst D ca s
theorem and31 (v : Int32) : 0 ≤ (v &&& (Int8.ofInt 31).toInt32).toInt ∧ (v &&& (Int8.ofInt 31).toInt32).toInt ≤ 31 := by
  have e : (Int8.ofInt 31).toInt32 = 31 := by decide
  rw [e]
  have h : (v &&& 31).toBitVec.toNat ≤ 31 := by
    rw [Int32.toBitVec_and, BitVec.toNat_and]
    exact Nat.le_trans Nat.and_le_right (by decide)
  have e2 : (v &&& 31).toInt = ((v &&& 31).toBitVec.toNat : Int) := BitVec.toInt_eq_toNat_of_lt (by omega)
  rw [e2]
  omega
section LW
variable {K : LQ} {b L ax am n bc bs pc : Nat} {xs : Nat → Int32} {χ τ : Hp} {i : Int} {st : List Value}
theorem l_aload (C : LC K b L xs) {q : Fin 4} {j v : Nat} (hd : decode code pc = .ok (.aload_n q, 1)) (hq : (q : Nat) = j) (hj : [(0, Value.ref b), (1, .ref ax), (2, .ref am), (3, .int (iI i))][j]? = some (j, .ref v)) (k : LJ K b ax am n χ τ bc bs (pc + 1) i (.ref v :: st)) : LJ K b ax am n χ τ bc bs pc i st := by
  obtain ⟨p, l, e, s, m, below, meth, c, D, ca⟩ := K
  obtain ⟨hx, hb, hret, hml, ho, hts, hX, hbl, hlk, hG⟩ := C
  intro adX adM H locs ls hw e1 e2 hl
  exact lv_aload_n hx hb hd hq (lv_at hl j hj) (k adX adM H locs ls hw e1 e2 hl)
theorem l_iload (C : LC K b L xs) (hd : decode code pc = .ok (.iload_n 3, 1)) (k : LJ K b ax am n χ τ bc bs (pc + 1) i (.int (iI i) :: st)) : LJ K b ax am n χ τ bc bs pc i st := by
  obtain ⟨p, l, e, s, m, below, meth, c, D, ca⟩ := K
  obtain ⟨hx, hb, hret, hml, ho, hts, hX, hbl, hlk, hG⟩ := C
  intro adX adM H locs ls hw e1 e2 hl
  exact lv_iload_n hx hb hd rfl (lv_at hl 3 rfl) (k adX adM H locs ls hw e1 e2 hl)
theorem l_iconst (C : LC K b L xs) {z : Int} (hd : decode code pc = .ok (.iconst z, 1)) (k : LJ K b ax am n χ τ bc bs (pc + 1) i (.int (iI z) :: st)) : LJ K b ax am n χ τ bc bs pc i st := by
  obtain ⟨p, l, e, s, m, below, meth, c, D, ca⟩ := K
  obtain ⟨hx, hb, hret, hml, ho, hts, hX, hbl, hlk, hG⟩ := C
  intro adX adM H locs ls hw e1 e2 hl
  exact lv_iconst hx hb hd rfl (k adX adM H locs ls hw e1 e2 hl)
theorem l_iadd (C : LC K b L xs) {x y : Int} (hd : decode code pc = .ok (.iadd, 1)) (k : LJ K b ax am n χ τ bc bs (pc + 1) i (.int (iI (x + y)) :: st)) : LJ K b ax am n χ τ bc bs pc i (.int (iI y) :: .int (iI x) :: st) := by
  obtain ⟨p, l, e, s, m, below, meth, c, D, ca⟩ := K
  obtain ⟨hx, hb, hret, hml, ho, hts, hX, hbl, hlk, hG⟩ := C
  intro adX adM H locs ls hw e1 e2 hl
  have k1 := k adX adM H locs ls hw e1 e2 hl
  rw [← iI_add] at k1
  exact lv_iadd hx hb hd k1
theorem l_isub (C : LC K b L xs) {x y : Int} (hd : decode code pc = .ok (.isub, 1)) (k : LJ K b ax am n χ τ bc bs (pc + 1) i (.int (iI (x - y)) :: st)) : LJ K b ax am n χ τ bc bs pc i (.int (iI y) :: .int (iI x) :: st) := by
  obtain ⟨p, l, e, s, m, below, meth, c, D, ca⟩ := K
  obtain ⟨hx, hb, hret, hml, ho, hts, hX, hbl, hlk, hG⟩ := C
  intro adX adM H locs ls hw e1 e2 hl
  have k1 := k adX adM H locs ls hw e1 e2 hl
  rw [← iI_sub] at k1
  exact lv_isub hx hb hd k1
theorem l_slen (C : LC K b L xs) (hd : decode code pc = .ok (.arraylength, 1)) (k : LJ K b ax am n χ τ bc bs (pc + 1) i (.int (iI (L : Int)) :: st)) : LJ K b ax am n χ τ bc bs pc i (.ref b :: st) := by
  obtain ⟨p, l, e, s, m, below, meth, c, D, ca⟩ := K
  obtain ⟨hx, hb, hret, hml, ho, hts, hX, hbl, hlk, hG⟩ := C
  intro adX adM H locs ls hw e1 e2 hl
  have k1 := k adX adM H locs ls hw e1 e2 hl
  have e : iI (L : Int) = Int32.ofNat L := by
    unfold iI
    exact Int32.ofInt_eq_ofNat
  rw [e] at k1
  exact va_slen (A := lA s) (H0 := s.heap) hx hb hX hbl (Nat.not_le.mpr hbl) hw.2.2.2 hd k1
theorem l_sld (C : LC K b L xs) {x : Int} (x0 : 0 ≤ x) (x1 : x < (L : Int)) (hL : (L : Int) ≤ 2048) (hd : decode code pc = .ok (.iaload, 1)) (k : LJ K b ax am n χ τ bc bs (pc + 1) i (.int (iI (xs x.toNat).toInt) :: st)) : LJ K b ax am n χ τ bc bs pc i (.int (iI x) :: .ref b :: st) := by
  obtain ⟨p, l, e, s, m, below, meth, c, D, ca⟩ := K
  obtain ⟨hx, hb, hret, hml, ho, hts, hX, hbl, hlk, hG⟩ := C
  intro adX adM H locs ls hw e1 e2 hl
  have k1 := k adX adM H locs ls hw e1 e2 hl
  have hr : R3 x := ⟨by omega, by omega⟩
  rw [iI_of, ← iI_cl hr] at k1
  exact va_sld (A := lA s) (H0 := s.heap) hx hb hX hbl (Nat.not_le.mpr hbl) hw.2.2.2 (iI_in hr x0 x1) hd k1
theorem l_goto (C : LC K b L xs) {off : Int} {tgt : Nat} (hd : decode code pc = .ok (.goto off, 3)) (ht : (pc : Int) + off = (tgt : Int)) (k : LJ K b ax am n χ τ bc bs tgt i st) : LJ K b ax am n χ τ bc bs pc i st := by
  obtain ⟨p, l, e, s, m, below, meth, c, D, ca⟩ := K
  obtain ⟨hx, hb, hret, hml, ho, hts, hX, hbl, hlk, hG⟩ := C
  intro adX adM H locs ls hw e1 e2 hl
  exact lv_goto hx hb hd ht (k adX adM H locs ls hw e1 e2 hl)
theorem l_icmp_gt (C : LC K b L xs) {x y off : Int} {tgt : Nat} (hx : R3 x) (hy : R3 y) (hd : decode code pc = .ok (.if_icmp .gt off, 3)) (ht : (pc : Int) + off = (tgt : Int)) (kt : y < x → LJ K b ax am n χ τ bc bs tgt i st) (kf : x ≤ y → LJ K b ax am n χ τ bc bs (pc + 3) i st) : LJ K b ax am n χ τ bc bs pc i (.int (iI y) :: .int (iI x) :: st) := by
  obtain ⟨p, l, e, s, m, below, meth, c, D, ca⟩ := K
  obtain ⟨hex, hb, hret, hml, ho, hts, hX, hbl, hlk, hG⟩ := C
  intro adX adM H locs ls hw e1 e2 hl
  exact lv_icmp_gt hex hb hd ht (fun h => kt ((iI_lt hy hx).mp h) adX adM H locs ls hw e1 e2 hl) (fun h => kf (Int.not_lt.mp (fun q => h ((iI_lt hy hx).mpr q))) adX adM H locs ls hw e1 e2 hl)
/-- the same number twice -/
theorem l_same (C : LC K b L xs) {x off : Int} {tgt : Nat} (hd : decode code pc = .ok (.if_icmp .eq off, 3)) (ht : (pc : Int) + off = (tgt : Int)) (k : LJ K b ax am n χ τ bc bs tgt i st) : LJ K b ax am n χ τ bc bs pc i (.int (iI x) :: .int (iI x) :: st) := by
  obtain ⟨p, l, e, s, m, below, meth, c, D, ca⟩ := K
  obtain ⟨hex, hb, hret, hml, ho, hts, hX, hbl, hlk, hG⟩ := C
  intro adX adM H locs ls hw e1 e2 hl
  exact lv_icmp_eq hex hb hd ht (fun _ => k adX adM H locs ls hw e1 e2 hl) (fun h => absurd rfl h)
theorem l_iinc (C : LC K b L xs) {z : Int} (hd : decode code pc = .ok (.iinc 3 z, 3)) (k : LJ K b ax am n χ τ bc bs (pc + 3) (i + z) st) : LJ K b ax am n χ τ bc bs pc i st := by
  obtain ⟨p, l, e, s, m, below, meth, c, D, ca⟩ := K
  obtain ⟨hex, hb, hret, hml, ho, hts, hX, hbl, hlk, hG⟩ := C
  intro adX adM H locs ls hw e1 e2 hl
  exact lv_iinc hex hb hd hl (k := 3) rfl (iI_add i z) (by decide) rfl (fun ls' hl' => k adX adM H locs ls' hw e1 e2 (lv_sub hl' [1, 2, 3, 0] rfl))
/-- the kind of the call: its low five bits -/
theorem l_and (C : LC K b L xs) {x : Int} (hd1 : decode code pc = .ok (.bipush 31, 2)) (hd2 : decode code (pc + 2) = .ok (.iand, 1)) (k : ∀ y : Int, 0 ≤ y → y ≤ 31 → LJ K b ax am n χ τ bc bs (pc + 3) i (.int (iI y) :: st)) : LJ K b ax am n χ τ bc bs pc i (.int (iI x) :: st) := by
  obtain ⟨p, l, e, s, m, below, meth, c, D, ca⟩ := K
  obtain ⟨hex, hb, hret, hml, ho, hts, hX, hbl, hlk, hG⟩ := C
  intro adX adM H locs ls hw e1 e2 hl
  refine lv_bipush hex hb hd1 rfl (lv_iand hex hb hd2 ?_)
  have h1 : 0 ≤ (iI x &&& (Int8.ofInt 31).toInt32).toInt ∧ (iI x &&& (Int8.ofInt 31).toInt32).toInt ≤ 31 := and31 (iI x)
  have k1 := k _ h1.1 h1.2 adX adM H locs ls hw e1 e2 hl
  rw [iI_of] at k1
  exact k1
theorem l_tabIn (C : LC K b L xs) {dflt lo hi off y : Int} {offs : Array Int} {len tgt : Nat} (hd : decode code pc = .ok (.tableswitch dflt lo hi offs, len)) (hr : R3 y) (h1 : lo ≤ y) (h2 : y ≤ hi) (ho : offs[(y - lo).toNat]? = some off) (ht : (pc : Int) + off = (tgt : Int)) (k : LJ K b ax am n χ τ bc bs tgt i st) : LJ K b ax am n χ τ bc bs pc i (.int (iI y) :: st) := by
  obtain ⟨p, l, e, s, m, below, meth, c, D, ca⟩ := K
  obtain ⟨hex, hb, hret, hml, hoo, hts, hX, hbl, hlk, hG⟩ := C
  intro adX adM H locs ls hw e1 e2 hl
  have e := iI_t hr
  exact lv_tableIn hex hb hd (by rw [e]; omega) (by rw [e]; omega) (by rw [e]; exact ho) ht (k adX adM H locs ls hw e1 e2 hl)
theorem l_tabOut (C : LC K b L xs) {dflt lo hi y : Int} {offs : Array Int} {len tgt : Nat} (hd : decode code pc = .ok (.tableswitch dflt lo hi offs, len)) (hr : R3 y) (h2 : hi < y) (ht : (pc : Int) + dflt = (tgt : Int)) (k : LJ K b ax am n χ τ bc bs tgt i st) : LJ K b ax am n χ τ bc bs pc i (.int (iI y) :: st) := by
  obtain ⟨p, l, e, s, m, below, meth, c, D, ca⟩ := K
  obtain ⟨hex, hb, hret, hml, hoo, hts, hX, hbl, hlk, hG⟩ := C
  intro adX adM H locs ls hw e1 e2 hl
  have e := iI_t hr
  exact lv_tableOut hex hb hd (Or.inr (by rw [e]; exact h2)) ht (k adX adM H locs ls hw e1 e2 hl)
theorem l_callX (C : LC K b L xs) {y : MethodName} {cc' : ByteArray} {maxL' idx np d' mc' ms' : Nat} {ret' : Option FieldType} {as : List Int} {st0 : List Value} {Post : Option AV → Nat → Hp → Prop}
    (cl : CLk R_L idx y) (cb : CSb y cc' maxL' ret' np) (cs : CSv y) (hd : decode code pc = .ok (.invokevirtual idx, 3)) (hM : Ok LyX TX y cc' maxL' ret' d' mc' ms' (.inr 1 :: as.map .inl) n χ Post) (hi : isI Post) (hst0 : (as.map (fun x => Value.int (iI x))).reverse ++ .ref ax :: st = st0) (hnp : as.length = np) (hyc : y.cls = R_X) (hn : 1 ≤ n) (har : ∀ x ∈ as, R3 x)
    (hdd : d' ≤ 7) (hmL : maxL' ≤ 9) (hsl : (st.map fun v => v.category).sum ≤ 2) (hb1 : bc + mc' ≤ 600000) (hb2 : bs + ms' ≤ 7302250)
    (k : ∀ (x : Int) (n' : Nat) (χ' : Hp), Post (some (.inl x)) n' χ' → n ≤ n' → LJ K b ax am n' χ' τ (bc + mc') (bs + ms') (pc + 3) i (.int (iI x) :: st)) : LJ K b ax am n χ τ bc bs pc i st0 := by
  obtain ⟨p, l, e, s, m, below, meth, c, D, ca⟩ := K
  obtain ⟨hx, hb, hret, hml, ho, hts, hX, hbl, hlk, hG⟩ := C
  intro adX adM H locs ls hw e1 e2 hl
  subst hst0
  obtain ⟨cb1, cb2, cb3⟩ := cb
  obtain ⟨⟨hP, hD, hok, hfx⟩, ⟨hPm, hDm, hokm, hfxm⟩, hap, hS⟩ := hw
  have hoks : oks n (.inr 1 :: as.map .inl) := oks_c.mpr ⟨⟨by decide, by omega⟩, fun v hv => by
    obtain ⟨x, hx1, rfl⟩ := List.mem_map.mp hv
    exact har x hx1⟩
  have hMet := hM hoks l D ca adX H.size
  have hmap : (as.map Sum.inl : List AV).map (cv adX) = as.map (fun x => Value.int (iI x)) := by
    rw [List.map_map]; rfl
  have hv0 : cv adX (.inr 1) = .ref ax := by rw [cv_r (by decide), e1]
  have hPre : PreV s H y.cls ax (va_Pc ((.inr 1 :: as.map .inl).map (cv adX)) (PP LyX TX D ca adX n χ H.size)) (as.map (fun x => Value.int (iI x))) := by
    refine ⟨PP.blind, ?_, fun U hU hWm => ⟨?_, by rw [hU], by rw [hU]; exact hP, hG.warm hWm, hD.weaken (fun _ _ _ _ => trivial), hok, hfx⟩⟩
    · have he := cls_at (ca := ca) (Ly := LyX) (ad := adX) (n := n) (σ := χ) (v := 1) (by decide) (by omega)
      rw [e1, show LyX 1 = .inl (0, k_X) from rfl] at he
      rw [hyc]
      exact va_recv hG.1 hP (show CL[0]? = some (R_X, F_X, 9) from rfl) he
    · rw [List.map_cons, hv0, hmap]
  have hrm : (rmd d' mc' ms').frames + 1 ≤ room_1.frames ∧ 8 + (maxL' + 11) + (rmd d' mc' ms').locals ≤ room_1.locals := ⟨by show d' + 1 ≤ 9; omega, by show 8 + (maxL' + 11) + (28 * d' + 30) ≤ 314; omega⟩
  have hsz : ls.size = 4 := hl.1
  have hro : 2 * (F0 m pc ls ((as.map (fun x => Value.int (iI x))).reverse ++ .ref ax :: st)).monitorRoom + (st.map fun v => v.category).sum ≤ 8 := lv_room (by omega)
  have hlen : (as.map (fun x => Value.int (iI x))).length = np := by rw [List.length_map]; exact hnp
  have hfin : ∀ (r : Option AV) (ad' : Int → Nat) (n' : Nat) (σ' : Hp) (H' : Heap) (locs' : List Loc), Post r n' σ' → n ≤ n' → agr n adX ad' → va_P D CL (cls ca LyX ad' n' σ') H' → va_D (lA s) (cls ca LyX ad' n' σ') → okh LyX n' σ' → fxd TX n' σ' → va_P D CL (cls ca LyM adM 28 τ) H' → (∀ (i j : Nat) (x y : Nat × va_E), (cls ca LyX ad' n' σ')[i]? = some x → (cls ca LyM adM 28 τ)[j]? = some y → x.1 ≠ y.1) → va_S (lA s) s.heap H' locs' → W p l e room_1 s m #[Value.ref b] below meth c H' locs' (bc + mc') (bs + ms') (lw_Z below #[Value.ref b] s) (F0 m (pc + 3) ls ((r.map (cv ad')).toList ++ st)) := by
    intro r ad' n' σ' H' locs' hp hnn hag hP' hD' hok' hfx' hPo' hap' hS'
    obtain ⟨x, rfl⟩ := hi r n' σ' hp
    exact k x n' σ' hp hnn ad' adM H' locs' ls ⟨⟨hP', hD', hok', hfx'⟩, ⟨hPo', hDm, hokm, hfxm⟩, hap', hS'⟩ (by rw [hag 1 (by decide) (by omega)]; exact e1) e2 hl
  rcases cl with cl | ⟨host, cl⟩
  · exact w_back (va_runV (Ts := AW) (nL := 4) ⟨hx, hb, hml, ho, hts⟩ hMet ⟨callB_of np hts (gd_aw cb2) rfl rfl rfl (hts _ cb1) (hts _ cl) cb3 hrm, hts _ cs.1, hts _ cs.2⟩ hPre rfl hlen hsz rfl hro hd ⟨hb1, hb2⟩) (fun q h => h) hD hS hPm hap hfin
  · exact w_back (va_runVN (Ts := AW) (nL := 4) ⟨hx, hb, hml, ho, hts⟩ hMet ⟨va_cnB np hts (gd_aw cb2) rfl rfl rfl (hG.2.1 _ cl) (hts _ cb1) cb3 hrm, hts _ cs.1, hts _ cs.2⟩ hPre rfl hlen hsz rfl hro hd ⟨hb1, hb2⟩) (fun q h => h) hD hS hPm hap hfin
theorem l_callM (C : LC K b L xs) {y : MethodName} {cc' : ByteArray} {maxL' idx np d' mc' ms' : Nat} {ret' : Option FieldType} {as : List Int} {st0 : List Value} {Post : Option AV → Nat → Hp → Prop}
    (cl : CLk R_L idx y) (cb : CSb y cc' maxL' ret' np) (cs : CSv y) (hd : decode code pc = .ok (.invokevirtual idx, 3)) (hM : Ok LyM TM y cc' maxL' ret' d' mc' ms' (.inr 1 :: as.map .inl) 28 τ Post) (hi : ∀ (r : Option AV) (n' : Nat) (τ' : Hp), Post r n' τ' → n' = 28 ∧ ∃ x : Int, r = some (.inl x)) (hst0 : (as.map (fun x => Value.int (iI x))).reverse ++ .ref am :: st = st0) (hnp : as.length = np) (hyc : y.cls = R_M) (har : ∀ x ∈ as, R3 x)
    (hdd : d' ≤ 7) (hmL : maxL' ≤ 9) (hsl : (st.map fun v => v.category).sum ≤ 2) (hb1 : bc + mc' ≤ 600000) (hb2 : bs + ms' ≤ 7302250)
    (k : ∀ (x : Int) (τ' : Hp), Post (some (.inl x)) 28 τ' → LJ K b ax am n χ τ' (bc + mc') (bs + ms') (pc + 3) i (.int (iI x) :: st)) : LJ K b ax am n χ τ bc bs pc i st0 := by
  obtain ⟨p, l, e, s, m, below, meth, c, D, ca⟩ := K
  obtain ⟨hx, hb, hret, hml, ho, hts, hX, hbl, hlk, hG⟩ := C
  intro adX adM H locs ls hw e1 e2 hl
  subst hst0
  obtain ⟨cb1, cb2, cb3⟩ := cb
  obtain ⟨⟨hPx, hDx, hokx, hfxx⟩, ⟨hP, hD, hok, hfx⟩, hap, hS⟩ := hw
  have hoks : oks 28 (.inr 1 :: as.map .inl) := oks_c.mpr ⟨⟨by decide, by decide⟩, fun v hv => by
    obtain ⟨x, hx1, rfl⟩ := List.mem_map.mp hv
    exact har x hx1⟩
  have hMet := hM hoks l D ca adM H.size
  have hmap : (as.map Sum.inl : List AV).map (cv adM) = as.map (fun x => Value.int (iI x)) := by
    rw [List.map_map]; rfl
  have hv0 : cv adM (.inr 1) = .ref am := by rw [cv_r (by decide), e2]
  have hPre : PreV s H y.cls am (va_Pc ((.inr 1 :: as.map .inl).map (cv adM)) (PP LyM TM D ca adM 28 τ H.size)) (as.map (fun x => Value.int (iI x))) := by
    refine ⟨PP.blind, ?_, fun U hU hWm => ⟨?_, by rw [hU], by rw [hU]; exact hP, hG.warm hWm, hD.weaken (fun _ _ _ _ => trivial), hok, hfx⟩⟩
    · have he := cls_at (ca := ca) (Ly := LyM) (ad := adM) (n := 28) (σ := τ) (v := 1) (by decide) (by decide)
      rw [e2, show LyM 1 = .inl (7, k_M) from rfl] at he
      rw [hyc]
      exact va_recv hG.1 hP (show CL[7]? = some (R_M, F_M, 37) from rfl) he
    · rw [List.map_cons, hv0, hmap]
  have hrm : (rmd d' mc' ms').frames + 1 ≤ room_1.frames ∧ 8 + (maxL' + 11) + (rmd d' mc' ms').locals ≤ room_1.locals := ⟨by show d' + 1 ≤ 9; omega, by show 8 + (maxL' + 11) + (28 * d' + 30) ≤ 314; omega⟩
  have hsz : ls.size = 4 := hl.1
  have hro : 2 * (F0 m pc ls ((as.map (fun x => Value.int (iI x))).reverse ++ .ref am :: st)).monitorRoom + (st.map fun v => v.category).sum ≤ 8 := lv_room (by omega)
  have hlen : (as.map (fun x => Value.int (iI x))).length = np := by rw [List.length_map]; exact hnp
  have hfin : ∀ (r : Option AV) (ad' : Int → Nat) (n' : Nat) (σ' : Hp) (H' : Heap) (locs' : List Loc), Post r n' σ' → 28 ≤ n' → agr 28 adM ad' → va_P D CL (cls ca LyM ad' n' σ') H' → va_D (lA s) (cls ca LyM ad' n' σ') → okh LyM n' σ' → fxd TM n' σ' → va_P D CL (cls ca LyX adX n χ) H' → (∀ (i j : Nat) (x y : Nat × va_E), (cls ca LyM ad' n' σ')[i]? = some x → (cls ca LyX adX n χ)[j]? = some y → x.1 ≠ y.1) → va_S (lA s) s.heap H' locs' → W p l e room_1 s m #[Value.ref b] below meth c H' locs' (bc + mc') (bs + ms') (lw_Z below #[Value.ref b] s) (F0 m (pc + 3) ls ((r.map (cv ad')).toList ++ st)) := by
    intro r ad' n' σ' H' locs' hp hnn hag hP' hD' hok' hfx' hPo' hap' hS'
    obtain ⟨rfl, x, rfl⟩ := hi r n' σ' hp
    exact k x σ' hp adX ad' H' locs' ls ⟨⟨hPo', hDx, hokx, hfxx⟩, ⟨hP', hD', hok', hfx'⟩, fun i j x y h1 h2 h3 => hap' j i y x h2 h1 h3.symm, hS'⟩ e1 (by rw [hag 1 (by decide) (by decide)]; exact e2) hl
  rcases cl with cl | ⟨host, cl⟩
  · exact w_back (va_runV (Ts := AW) (nL := 4) ⟨hx, hb, hml, ho, hts⟩ hMet ⟨callB_of np hts (gd_aw cb2) rfl rfl rfl (hts _ cb1) (hts _ cl) cb3 hrm, hts _ cs.1, hts _ cs.2⟩ hPre rfl hlen hsz rfl hro hd ⟨hb1, hb2⟩) (fun q h => h) hD hS hPx (fun i j x y h1 h2 h3 => hap j i y x h2 h1 h3.symm) hfin
  · exact w_back (va_runVN (Ts := AW) (nL := 4) ⟨hx, hb, hml, ho, hts⟩ hMet ⟨va_cnB np hts (gd_aw cb2) rfl rfl rfl (hG.2.1 _ cl) (hts _ cb1) cb3 hrm, hts _ cs.1, hts _ cs.2⟩ hPre rfl hlen hsz rfl hro hd ⟨hb1, hb2⟩) (fun q h => h) hD hS hPx (fun i j x y h1 h2 h3 => hap j i y x h2 h1 h3.symm) hfin
end LW
