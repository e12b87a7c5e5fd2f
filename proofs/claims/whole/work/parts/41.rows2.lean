-- ===== rows that the class's methods want besides =====
def bor (x y : Int) : Int := ((x.toNat ||| y.toNat : Nat) : Int)
def bsh (s : Int) : Int := ((2 ^ s.toNat : Nat) : Int)
def bsr (x s : Int) : Int := ((x.toNat / 2 ^ s.toNat : Nat) : Int)
theorem bor_ok : ∀ a b : Fin 16, iI ((a.val : Nat) : Int) ||| iI ((b.val : Nat) : Int) = iI (((a.val ||| b.val : Nat)) : Int) := by decide +kernel
theorem bsh_ok : ∀ a : Fin 4, (iI 1) <<< (iI ((a.val : Nat) : Int) &&& 31) = iI (((2 ^ a.val : Nat)) : Int) := by decide +kernel
theorem bsr_ok : ∀ (a : Fin 16) (b : Fin 4), iI ((a.val : Nat) : Int) >>> (iI ((b.val : Nat) : Int) &&& 31) = iI (((a.val / 2 ^ b.val : Nat)) : Int) := by decide +kernel
theorem bnd_ok : ∀ a : Fin 16, iI ((a.val : Nat) : Int) &&& iI 1 = iI (((a.val % 2 : Nat)) : Int) := by decide +kernel
theorem bor_lt {x y : Int} (h2 : x < 16) (h4 : y < 16) : 0 ≤ bor x y ∧ bor x y < 16 := by
  have h : x.toNat ||| y.toNat < 2 ^ 4 := Nat.or_lt_two_pow (by omega) (by omega)
  unfold bor; omega
theorem bsh_lt {s : Int} (h1 : 0 ≤ s) (h2 : s < 4) : 0 ≤ bsh s ∧ bsh s < 16 := by
  have : s = 0 ∨ s = 1 ∨ s = 2 ∨ s = 3 := by omega
  rcases this with rfl | rfl | rfl | rfl <;> decide
theorem bsr_lt {x s : Int} (h2 : x < 16) : 0 ≤ bsr x s ∧ bsr x s < 16 := by
  have h := Nat.div_le_self x.toNat (2 ^ s.toNat)
  unfold bsr
  generalize x.toNat / 2 ^ s.toNat = q at h
  omega
section XR2
variable {Ly : Int → LK} {T : Int → Int → Option Int} {K : XK} {n : Nat} {σ : Hp} {bc bs pc nL d mc ms : Nat} {lv : List (Option AV)} {st : List AV} {cc : ByteArray} {own : String}
theorem x_ior (C : Cx K cc nL own d mc ms) {x y : Int} (hd : decode cc pc = .ok (.ior, 1)) (x0 : 0 ≤ x) (x1 : x < 16) (y0 : 0 ≤ y) (y1 : y < 16) (k : XW Ly T K n σ bc bs (pc + 1) lv (.inl (bor x y) :: st)) : XW Ly T K n σ bc bs pc lv (.inl y :: .inl x :: st) := by
  obtain ⟨p, l, e, R, s, m, args, below, meth, c, Q, D, ca, A, H0, ad0, n0⟩ := K
  obtain ⟨hx, hb, hml, ho, hts, hG, hA, hlk, hR⟩ := C
  intro ad H locs ls hW hl hs
  have hr := bor_lt x1 y1
  have k1 : W p l e R s m args below meth c H locs bc bs Q (F0 m (pc + 1) ls (.int (iI (bor x y)) :: st.map (cv ad))) := k ad H locs ls hW hl (oks_c.mpr ⟨⟨by omega, by omega⟩, (oks_c.mp (oks_c.mp hs).2).2⟩)
  have h := bor_ok ⟨x.toNat, by omega⟩ ⟨y.toNat, by omega⟩
  dsimp only at h
  rw [Int.toNat_of_nonneg x0, Int.toNat_of_nonneg y0] at h
  refine lv_ior hx hb hd ?_
  show W p l e R s m args below meth c H locs bc bs Q (F0 m (pc + 1) ls (.int (iI x ||| iI y) :: st.map (cv ad)))
  rw [h]
  exact k1
theorem x_ishl1 (C : Cx K cc nL own d mc ms) {y : Int} (hd : decode cc pc = .ok (.ishl, 1)) (y0 : 0 ≤ y) (y1 : y < 4) (k : XW Ly T K n σ bc bs (pc + 1) lv (.inl (bsh y) :: st)) : XW Ly T K n σ bc bs pc lv (.inl y :: .inl 1 :: st) := by
  obtain ⟨p, l, e, R, s, m, args, below, meth, c, Q, D, ca, A, H0, ad0, n0⟩ := K
  obtain ⟨hx, hb, hml, ho, hts, hG, hA, hlk, hR⟩ := C
  intro ad H locs ls hW hl hs
  have hr := bsh_lt y0 y1
  have k1 : W p l e R s m args below meth c H locs bc bs Q (F0 m (pc + 1) ls (.int (iI (bsh y)) :: st.map (cv ad))) := k ad H locs ls hW hl (oks_c.mpr ⟨⟨by omega, by omega⟩, (oks_c.mp (oks_c.mp hs).2).2⟩)
  have h := bsh_ok ⟨y.toNat, by omega⟩
  dsimp only at h
  rw [Int.toNat_of_nonneg y0] at h
  refine lv_ishl hx hb hd ?_
  show W p l e R s m args below meth c H locs bc bs Q (F0 m (pc + 1) ls (.int (iI 1 <<< (iI y &&& 31)) :: st.map (cv ad)))
  rw [h]
  exact k1
theorem x_ishr (C : Cx K cc nL own d mc ms) {x y : Int} (hd : decode cc pc = .ok (.ishr, 1)) (x0 : 0 ≤ x) (x1 : x < 16) (y0 : 0 ≤ y) (y1 : y < 4) (k : XW Ly T K n σ bc bs (pc + 1) lv (.inl (bsr x y) :: st)) : XW Ly T K n σ bc bs pc lv (.inl y :: .inl x :: st) := by
  obtain ⟨p, l, e, R, s, m, args, below, meth, c, Q, D, ca, A, H0, ad0, n0⟩ := K
  obtain ⟨hx, hb, hml, ho, hts, hG, hA, hlk, hR⟩ := C
  intro ad H locs ls hW hl hs
  have hr := bsr_lt (s := y) x1
  have k1 : W p l e R s m args below meth c H locs bc bs Q (F0 m (pc + 1) ls (.int (iI (bsr x y)) :: st.map (cv ad))) := k ad H locs ls hW hl (oks_c.mpr ⟨⟨by omega, by omega⟩, (oks_c.mp (oks_c.mp hs).2).2⟩)
  have h := bsr_ok ⟨x.toNat, by omega⟩ ⟨y.toNat, by omega⟩
  dsimp only at h
  rw [Int.toNat_of_nonneg x0, Int.toNat_of_nonneg y0] at h
  refine lv_ishr hx hb hd ?_
  show W p l e R s m args below meth c H locs bc bs Q (F0 m (pc + 1) ls (.int (iI x >>> (iI y &&& 31)) :: st.map (cv ad)))
  rw [h]
  exact k1
theorem x_iand1 (C : Cx K cc nL own d mc ms) {x : Int} (hd : decode cc pc = .ok (.iand, 1)) (x0 : 0 ≤ x) (x1 : x < 16) (k : XW Ly T K n σ bc bs (pc + 1) lv (.inl (x % 2) :: st)) : XW Ly T K n σ bc bs pc lv (.inl 1 :: .inl x :: st) := by
  obtain ⟨p, l, e, R, s, m, args, below, meth, c, Q, D, ca, A, H0, ad0, n0⟩ := K
  obtain ⟨hx, hb, hml, ho, hts, hG, hA, hlk, hR⟩ := C
  intro ad H locs ls hW hl hs
  have k1 : W p l e R s m args below meth c H locs bc bs Q (F0 m (pc + 1) ls (.int (iI (x % 2)) :: st.map (cv ad))) := k ad H locs ls hW hl (oks_c.mpr ⟨⟨by omega, by omega⟩, (oks_c.mp (oks_c.mp hs).2).2⟩)
  have h := bnd_ok ⟨x.toNat, by omega⟩
  dsimp only at h
  have e1 : ((x.toNat % 2 : Nat) : Int) = x % 2 := by omega
  rw [Int.toNat_of_nonneg x0, e1] at h
  refine lv_iand hx hb hd ?_
  show W p l e R s m args below meth c H locs bc bs Q (F0 m (pc + 1) ls (.int (iI x &&& iI 1) :: st.map (cv ad)))
  rw [h]
  exact k1
theorem x_table (C : Cx K cc nL own d mc ms) {x dflt lo hi off : Int} {offs : Array Int} {len tgt : Nat} (hd : decode cc pc = .ok (.tableswitch dflt lo hi offs, len)) (h : (lo ≤ x ∧ x ≤ hi ∧ offs[(x - lo).toNat]? = some off) ∨ ((x < lo ∨ hi < x) ∧ off = dflt)) (ht : (pc : Int) + off = (tgt : Int)) (k : XW Ly T K n σ bc bs tgt lv st) : XW Ly T K n σ bc bs pc lv (.inl x :: st) := by
  obtain ⟨p, l, e, R, s, m, args, below, meth, c, Q, D, ca, A, H0, ad0, n0⟩ := K
  obtain ⟨hx, hb, hml, ho, hts, hG, hA, hlk, hR⟩ := C
  intro ad H locs ls hW hl hs
  obtain ⟨hr, hs⟩ := oks_c.mp hs
  have k1 := k ad H locs ls hW hl hs
  have e : (iI x).toInt = x := iI_t hr
  rcases h with ⟨h1, h2, h3⟩ | ⟨h1, rfl⟩
  · exact lv_tableIn hx hb hd (by rw [e]; omega) (by rw [e]; omega) (by rw [e]; exact h3) ht k1
  · exact lv_tableOut hx hb hd (by rw [e]; exact h1) ht k1
theorem x_mmin (C : Cx K cc nL own d mc ms) {x y : Int} {idx : Nat} (hlk : Cond.methodLink own idx Lib.Math.min.name ∈ AW) (hst : Cond.static Lib.Math.min.name ∈ AW) (hin : Cond.initialized "java/lang/Math" ∈ AW) (hcd : Cond.code Lib.Math.min.name Lib.Math.min.code 2 (some .int) ∈ AW) (hd : decode cc pc = .ok (.invokestatic idx, 3)) (hdd : 1 ≤ d) (hsl : st.length ≤ 8) (hbc : bc ≤ mc) (hbs : bs ≤ ms) (k : XW Ly T K n σ bc bs (pc + 3) lv (.inl (if y < x then y else x) :: st)) : XW Ly T K n σ bc bs pc lv (.inl y :: .inl x :: st) := by
  obtain ⟨p, l, e, R, s, m, args, below, meth, c, Q, D, ca, A, H0, ad0, n0⟩ := K
  obtain ⟨hx, hb, hml, ho, hts, hG, hA, hlk', hR⟩ := C
  intro ad H locs ls hW hl hs
  subst hR
  obtain ⟨hy, hs⟩ := oks_c.mp hs
  obtain ⟨hxx, hs⟩ := oks_c.mp hs
  have hr : R3 (if y < x then y else x) := by split <;> assumption
  have k1 : W p l e (rmd d mc ms) s m args below meth c H locs bc bs Q (F0 m (pc + 3) ls (.int (iI (if y < x then y else x)) :: st.map (cv ad))) := k ad H locs ls hW hl (oks_c.mpr ⟨hr, hs⟩)
  refine va_mmin hx hb (by rw [hl.2.1]) ho (hts _ hlk) (hts _ hst) (hts _ hin) (hts _ hcd) hdd (by rw [sum_cat]; show _ ≤ 28 * d + 30; omega) hbc hbs hd ?_
  have e1 : (if iI y < iI x then iI y else iI x) = iI (if y < x then y else x) := by
    by_cases h : y < x
    · rw [if_pos h, if_pos ((iI_lt hy hxx).mpr h)]
    · rw [if_neg h, if_neg (fun q => h ((iI_lt hy hxx).mp q))]
  rw [e1]
  exact k1
theorem x_mmax (C : Cx K cc nL own d mc ms) {x y : Int} {idx : Nat} (hlk : Cond.methodLink own idx Lib.Math.max.name ∈ AW) (hst : Cond.static Lib.Math.max.name ∈ AW) (hin : Cond.initialized "java/lang/Math" ∈ AW) (hcd : Cond.code Lib.Math.max.name Lib.Math.max.code 2 (some .int) ∈ AW) (hd : decode cc pc = .ok (.invokestatic idx, 3)) (hdd : 1 ≤ d) (hsl : st.length ≤ 8) (hbc : bc ≤ mc) (hbs : bs ≤ ms) (k : XW Ly T K n σ bc bs (pc + 3) lv (.inl (if x < y then y else x) :: st)) : XW Ly T K n σ bc bs pc lv (.inl y :: .inl x :: st) := by
  obtain ⟨p, l, e, R, s, m, args, below, meth, c, Q, D, ca, A, H0, ad0, n0⟩ := K
  obtain ⟨hx, hb, hml, ho, hts, hG, hA, hlk', hR⟩ := C
  intro ad H locs ls hW hl hs
  subst hR
  obtain ⟨hy, hs⟩ := oks_c.mp hs
  obtain ⟨hxx, hs⟩ := oks_c.mp hs
  have hr : R3 (if x < y then y else x) := by split <;> assumption
  have k1 : W p l e (rmd d mc ms) s m args below meth c H locs bc bs Q (F0 m (pc + 3) ls (.int (iI (if x < y then y else x)) :: st.map (cv ad))) := k ad H locs ls hW hl (oks_c.mpr ⟨hr, hs⟩)
  refine va_mmax hx hb (by rw [hl.2.1]) ho (hts _ hlk) (hts _ hst) (hts _ hin) (hts _ hcd) hdd (by rw [sum_cat]; show _ ≤ 28 * d + 30; omega) hbc hbs hd ?_
  have e1 : (if iI x < iI y then iI y else iI x) = iI (if x < y then y else x) := by
    by_cases h : x < y
    · rw [if_pos h, if_pos ((iI_lt hxx hy).mpr h)]
    · rw [if_neg h, if_neg (fun q => h ((iI_lt hxx hy).mp q))]
  rw [e1]
  exact k1
/-- an array of references: the load where the table of fixed places knows the cell -/
theorem x_aaldC (C : Cx K cc nL own d mc ms) {a len : Nat} {v i : Int} (u : Int) (hd : decode cc pc = .ok (.aaload, 1)) (hL : Ly v = .inr (a, len)) (ha : a = 3 ∨ a = 4 ∨ a = 5) (h1 : 1 ≤ v) (h2 : v ≤ (n : Int)) (i0 : 0 ≤ i) (i1 : i < (len : Int)) (hT : T v i = some u) (k : XW Ly T K n σ bc bs (pc + 1) lv (.inr u :: st)) : XW Ly T K n σ bc bs pc lv (.inl i :: .inr v :: st) := by
  have C0 := C
  obtain ⟨p, l, e, R, s, m, args, below, meth, c, Q, D, ca, A, H0, ad0, n0⟩ := K
  intro ad H locs ls hW hl hs
  have e1 : σ v i = u := hW.2.2.2.2.1 v i u h1 h2 hT
  refine x_aald (Ly := Ly) (T := T) (K := (p, l, e, R, s, m, args, below, meth, c, Q, D, ca, A, H0, ad0, n0)) C0 hd hL ha h1 h2 i0 i1 (fun _ => ?_) ad H locs ls hW hl hs
  rw [e1]
  exact k
/-- a store into an array of references: kind 3 holds transactions (class 6), kind 4 contents (class 3) -/
theorem x_aast (C : Cx K cc nL own d mc ms) {a len : Nat} {v i w : Int} (hd : decode cc pc = .ok (.aastore, 1)) (hnb : (n : Int) ≤ 2147483647) (hL : Ly v = .inr (a, len)) (ha : a = 3 ∨ a = 4) (hT : T v i = none) (h1 : 1 ≤ v) (h2 : v ≤ (n : Int)) (i0 : 0 ≤ i) (i1 : i < (len : Int)) (hw : w = 0 ∨ (1 ≤ w ∧ w ≤ (n : Int) ∧ ((a = 3 ∧ Ly w = .inl (6, k_XT)) ∨ (a = 4 ∧ Ly w = .inl (3, k_XC))))) (k : XW Ly T K n (st2 σ v i w) bc bs (pc + 1) lv st) : XW Ly T K n σ bc bs pc lv (.inr w :: .inl i :: .inr v :: st) := by
  obtain ⟨p, l, e, R, s, m, args, below, meth, c, Q, D, ca, A, H0, ad0, n0⟩ := K
  obtain ⟨hx, hb, hml, ho, hts, ⟨hK, hN, hO⟩, hA, hlk, hR⟩ := C
  intro ad H locs ls hW hl hs
  obtain ⟨hwr, hs⟩ := oks_c.mp hs
  obtain ⟨hr, hs⟩ := oks_c.mp hs
  obtain ⟨-, hs⟩ := oks_c.mp hs
  obtain ⟨hP, hD, hS, hok, hfx, hn0, hag⟩ := hW
  have he := cls_at (ca := ca) (Ly := Ly) (ad := ad) (σ := σ) h1 h2
  rw [hL] at he
  have he : (cls ca Ly ad n σ)[(v - 1).toNat]? = some (ad v, .inl (ca a, len, .inr (.inr (.inr (.inr (fun i => orf ad (σ v (i : Nat)))))))) := by
    rw [he]; simp only [ctn]; rw [if_neg (by omega)]
  have hset : ctn ca (Ly v) ad (st2 σ v i w v) = .inl (ca a, len, .inr (.inr (.inr (.inr (va_up (fun i => orf ad (σ v (i : Nat))) (iI i).toNatClampNeg (orf ad w)))))) := by
    rw [hL]
    simp only [ctn]
    rw [if_neg (by omega)]
    refine congrArg (fun f => (Sum.inl (ca a, len, Sum.inr (Sum.inr (Sum.inr (Sum.inr f)))) : va_E)) (funext fun q => ?_)
    rw [iI_cl hr]
    by_cases hq : q = i.toNat
    · have h3 : ((q : Nat) : Int) = i := by omega
      rw [h3, st2_eq, hq]
      simp [va_up]
    · have h3 : ¬ ((q : Nat) : Int) = i := by omega
      rw [st2_ii h3]
      simp [va_up, hq]
  have hkd : kdL (Ly v) i = 2 := by rw [hL]; rcases ha with rfl | rfl <;> rfl
  have hR3 : R3 w := by
    rcases hw with rfl | ⟨w1, w2, -⟩
    · exact r3_0
    · exact ⟨by omega, by omega⟩
  have kk : ∀ (H1 : Heap) (locs1 : List Loc), va_P D CL ((cls ca Ly ad n σ).set (v - 1).toNat (ad v, .inl (ca a, len, .inr (.inr (.inr (.inr (va_up (fun i => orf ad (σ v (i : Nat))) (iI i).toNatClampNeg (orf ad w)))))))) H1 → va_D A ((cls ca Ly ad n σ).set (v - 1).toNat (ad v, .inl (ca a, len, .inr (.inr (.inr (.inr (va_up (fun i => orf ad (σ v (i : Nat))) (iI i).toNatClampNeg (orf ad w)))))))) → va_S A H0 H1 locs1 → W p l e R s m args below meth c H1 locs1 bc bs Q (F0 m (pc + 1) ls (st.map (cv ad))) := by
    intro H1 locs1 hP1 hD1 hS1
    rw [cls_set h1 h2 hset (fun u hu => st2_ne hu)] at hP1 hD1
    exact k ad H1 locs1 ls ⟨hP1, hD1, hS1, okh_st hok hR3 (fun _ => hwr), fxd_st hfx hT, hn0, hag⟩ hl hs
  show W p l e R s m args below meth c H locs bc bs Q (F0 m pc ls (cv ad (.inr w) :: .int (iI i) :: cv ad (.inr v) :: st.map (cv ad)))
  rw [cv_r (v := v) (by omega)]
  rcases hw with rfl | ⟨w1, w2, hw3⟩
  · rcases ha with rfl | rfl
    · exact va_astqN (C := "LogStore$Transaction") hx hb hK hP hD hS _ 3 he rfl (iI_in hr i0 i1) hd kk
    · exact va_astqN (C := "LogStore$Contents") hx hb hK hP hD hS _ 4 he rfl (iI_in hr i0 i1) hd kk
  · have hew := cls_at (ca := ca) (Ly := Ly) (ad := ad) (σ := σ) w1 w2
    rw [cv_r (v := w) (by omega)]
    have horf : orf ad w = some (ad w) := if_neg (by omega)
    rw [horf] at kk
    rcases hw3 with ⟨rfl, hLw⟩ | ⟨rfl, hLw⟩
    · rw [hLw] at hew
      exact va_astq hx hb hK hP hD hS _ 3 _ 6 he rfl hew (r := (R_XT, F_XT, 9)) rfl (iI_in hr i0 i1) hd kk
    · rw [hLw] at hew
      exact va_astq hx hb hK hP hD hS _ 4 _ 3 he rfl hew (r := (R_XC, F_XC, 3)) rfl (iI_in hr i0 i1) hd kk
/-- six ints from the array v to the array w -/
def cp6 (σ : Hp) (v w : Int) : Hp := fun a i => if a = w ∧ 0 ≤ i ∧ i < 6 then σ v i else σ a i
theorem x_copy6 (C : Cx K cc nL own d mc ms) {v w : Int} {idx : Nat} (hlk : Cond.methodLink own idx arraycopyName ∈ AW) (hna : Cond.native arraycopyName ∈ AW) (hst : Cond.static arraycopyName ∈ AW) (hin : Cond.initialized "java/lang/System" ∈ AW) (hd : decode cc pc = .ok (.invokestatic idx, 3)) (hLv : Ly v = .inr (0, 6)) (hLw : Ly w = .inr (0, 6)) (hT : ∀ i, T w i = none) (v1 : 1 ≤ v) (v2 : v ≤ (n : Int)) (w1 : 1 ≤ w) (w2 : w ≤ (n : Int)) (hdd : 2 ≤ d) (hsl : st.length ≤ 8) (k : XW Ly T K n (cp6 σ v w) bc bs (pc + 3) lv st) : XW Ly T K n σ bc bs pc lv (.inl 6 :: .inl 0 :: .inr w :: .inl 0 :: .inr v :: st) := by
  obtain ⟨p, l, e, R, s, m, args, below, meth, c, Q, D, ca, A, H0, ad0, n0⟩ := K
  obtain ⟨hx, hb, hml, ho, hts, ⟨hK, hN, hO⟩, hA, hlk', hR⟩ := C
  intro ad H locs ls hW hl hs
  subst hR
  have hs5 : oks n st := (oks_c.mp (oks_c.mp (oks_c.mp (oks_c.mp (oks_c.mp hs).2).2).2).2).2
  obtain ⟨hP, hD, hS, hok, hfx, hn0, hag⟩ := hW
  have hev := cls_at (ca := ca) (Ly := Ly) (ad := ad) (σ := σ) v1 v2
  rw [hLv] at hev
  have hev : (cls ca Ly ad n σ)[(v - 1).toNat]? = some (ad v, .inl (ca 0, 6, .inl (fun i => iI (σ v (i : Nat))))) := hev
  have hew := cls_at (ca := ca) (Ly := Ly) (ad := ad) (σ := σ) w1 w2
  rw [hLw] at hew
  have hew : (cls ca Ly ad n σ)[(w - 1).toNat]? = some (ad w, .inl (ca 0, 6, .inl (fun i => iI (σ w (i : Nat))))) := hew
  have e0 : (iI 0).toNatClampNeg = 0 := by decide
  have e6 : (iI 6).toNatClampNeg = 6 := by decide
  have hset : ctn ca (Ly w) ad (cp6 σ v w w) = .inl (ca 0, 6, .inl (va_cpy (fun i => iI (σ v (i : Nat))) (fun i => iI (σ w (i : Nat))) (iI 0).toNatClampNeg (iI 0).toNatClampNeg (iI 6).toNatClampNeg)) := by
    rw [hLw, e0, e6]
    show Sum.inl (ca 0, 6, Sum.inl _) = Sum.inl (ca 0, 6, Sum.inl _)
    congr 4
    funext q
    by_cases hq : q < 6
    · rw [pk_cpy_in (by omega) (by omega)]
      simp only [cp6]
      rw [if_pos ⟨trivial, by omega, by omega⟩]
      simp
    · rw [pk_cpy_out (by omega)]
      simp only [cp6]
      rw [if_neg (by omega)]
  have hlo : ((st.map (cv ad)).map fun v => v.category).sum + (nativeFrameWords "java/lang/System" "arraycopy" 5 + 11) ≤ (rmd d mc ms).locals := by
    have h1 : nativeFrameWords "java/lang/System" "arraycopy" 5 ≤ 60 := by decide +kernel
    rw [sum_cat]
    show _ ≤ 28 * d + 30
    omega
  show W p l e (rmd d mc ms) s m args below meth c H locs bc bs Q (F0 m pc ls (.int (iI 6) :: .int (iI 0) :: cv ad (.inr w) :: .int (iI 0) :: cv ad (.inr v) :: st.map (cv ad)))
  rw [cv_r (v := v) (by omega), cv_r (v := w) (by omega)]
  refine va_copyi hx hb (by rw [hl.2.1]) ho (hts _ hlk) (hts _ hna) (hts _ hst) (hts _ hin) hK hP hD hS _ _ 0 0 hev hew rfl rfl rfl (by decide) (by decide) (by decide) (by decide) (by decide) (fun i _ => rfl) (by show 1 ≤ d; omega) hlo hd (fun H1 locs1 hP1 hD1 hS1 => ?_)
  rw [cls_set w1 w2 hset (fun u hu => by funext i; simp [cp6, hu])] at hP1 hD1
  refine k ad H1 locs1 ls ⟨hP1, hD1, hS1, ?_, ?_, hn0, hag⟩ hl hs5
  · intro a i a1 a2 i0
    by_cases h : a = w ∧ 0 ≤ i ∧ i < 6
    · have e1 : cp6 σ v w a i = σ v i := by simp only [cp6]; rw [if_pos h]
      rw [e1]
      refine ⟨(hok v i v1 v2 i0).1, fun h2 => ?_⟩
      rw [h.1, hLw] at h2
      simp [kdL, kdA] at h2
    · have e1 : cp6 σ v w a i = σ a i := by simp only [cp6]; rw [if_neg h]
      rw [e1]
      exact hok a i a1 a2 i0
  · intro a i t a1 a2 ht
    have hne : ¬ a = w := fun h => by rw [h, hT] at ht; cases ht
    have e1 : cp6 σ v w a i = σ a i := by simp only [cp6]; rw [if_neg (fun h => hne h.1)]
    rw [e1]
    exact hfx a i t a1 a2 ht
end XR2
set_option maxRecDepth 20000 in
theorem w_mi : Cond.initialized "java/lang/Math" ∈ AW := aw_in (tb_1 (List.mem_of_getElem? (i := 9) rfl)) rfl
set_option maxRecDepth 20000 in
theorem w_si : Cond.initialized "java/lang/System" ∈ AW := aw_in (tb_1 (List.mem_of_getElem? (i := 10) rfl)) rfl
set_option maxRecDepth 20000 in
theorem w_maxL : Cond.methodLink R_XV 39 Lib.Math.max.name ∈ AW := aw_in (tb_2 (List.mem_of_getElem? (i := 74) rfl)) rfl
set_option maxRecDepth 20000 in
theorem w_maxS : Cond.static Lib.Math.max.name ∈ AW := aw_in (tb_2 (List.mem_of_getElem? (i := 75) rfl)) rfl
set_option maxRecDepth 20000 in
theorem w_maxC : Cond.code Lib.Math.max.name Lib.Math.max.code 2 (some .int) ∈ AW := aw_in (tb_2 (List.mem_of_getElem? (i := 76) rfl)) rfl
set_option maxRecDepth 20000 in
theorem w_minLX : Cond.methodLink R_X 120 Lib.Math.min.name ∈ AW := aw_in (tb_2 (List.mem_of_getElem? (i := 229) rfl)) rfl
set_option maxRecDepth 20000 in
theorem w_minLR : Cond.methodLink R_XR 55 Lib.Math.min.name ∈ AW := aw_in (tb_3 (List.mem_of_getElem? (i := 33) rfl)) rfl
set_option maxRecDepth 20000 in
theorem w_minS : Cond.static Lib.Math.min.name ∈ AW := aw_in (tb_2 (List.mem_of_getElem? (i := 230) rfl)) rfl
set_option maxRecDepth 20000 in
theorem w_minC : Cond.code Lib.Math.min.name Lib.Math.min.code 2 (some .int) ∈ AW := aw_in (tb_2 (List.mem_of_getElem? (i := 231) rfl)) rfl
set_option maxRecDepth 20000 in
theorem w_acL : Cond.methodLink R_XL 61 arraycopyName ∈ AW := aw_in (tb_2 (List.mem_of_getElem? (i := 213) rfl)) rfl
set_option maxRecDepth 20000 in
theorem w_acS : Cond.static arraycopyName ∈ AW := aw_in (tb_2 (List.mem_of_getElem? (i := 214) rfl)) rfl
set_option maxRecDepth 20000 in
theorem w_acN : Cond.native arraycopyName ∈ AW := aw_in (tb_2 (List.mem_of_getElem? (i := 215) rfl)) rfl
