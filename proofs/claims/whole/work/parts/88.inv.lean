-- ===== what holds between the calls; the requests =====
def RRec (χ τ : Hp) : Prop := ¬ τ 1 32 = 0 → χ 83 3 = τ 1 34 ∧ (τ 1 34 = 0 ∨ τ 1 34 = 1) ∧ (τ 1 34 = 1 → (∀ g : Int, 0 ≤ g → g < 6 → χ 84 g = τ 28 g ∧ 0 ≤ τ 28 g) ∧ ((τ 1 35 = 1000 ∧ χ 83 5 < χ 83 4 ∧ ¬ m_open τ 0 = 0) ∨ (1 ≤ τ 1 35 ∧ τ 1 35 ≤ τ 1 0 ∧ χ 83 4 = τ 1 35 ∧ χ 83 5 = τ 1 0)))
def INV (B : Int) (n : Nat) (χ τ : Hp) : Prop := JJ 0 B n χ τ ∧ Std τ ∧ (¬ τ 1 32 = 0 → ∀ t : Int, 1 ≤ t → t ≤ τ 1 22 → 3 < τ 19 t) ∧ RRec χ τ
theorem inv_up {B : Int} {n : Nat} {χ τ : Hp} (h : JJ 0 B n χ τ) (hs : Std τ) (hu : τ 1 32 = 0) : INV B n χ τ := ⟨h, hs, fun z => absurd hu z, fun z => absurd hu z⟩
theorem inv_B {B B' : Int} {n : Nat} {χ τ : Hp} (h : INV B n χ τ) (hb : B ≤ B') : INV B' n χ τ := ⟨JJ_up h.1 hb, h.2⟩
theorem inv_flag {e : Int} {n : Nat} {χ τ : Hp} (h : RTx e n χ τ) : (χ 1 8 = 1 ∧ τ 1 32 = 0) ∨ (χ 1 8 = 0 ∧ τ 1 32 = 1) := h.2.2.2.2.2.2.2.2.1
theorem r_act {B : Int} {n : Nat} {χ τ : Hp} (h : INV B n χ τ) (t : Int) : f_isAct χ t ↔ m_isIn τ t 1 = true := by
  have hT := h.1.2.2.1
  have hb := hT.1
  unfold f_isAct
  simp only [m_isIn, Bool.and_eq_true, decide_eq_true_eq]
  rw [hb.2.2.2]
  constructor
  · rintro ⟨a1, a2, a3⟩
    have e := (hT.2.1 t a1 a2).2.2.2.1
    refine ⟨⟨⟨?_, a1⟩, a2⟩, by omega⟩
    refine Decidable.byContradiction (fun z => ?_)
    have := h.2.2.1 z t a1 a2
    omega
  · rintro ⟨⟨⟨a0, a1⟩, a2⟩, a3⟩
    have e := (hT.2.1 t a1 a2).2.2.2.1
    exact ⟨a1, a2, by omega⟩
theorem j_req2 {B : Int} {n : Nat} {χ τ : Hp} (h : JJ 0 B n χ τ) {t key what v : Int} (t1 : 1 ≤ t) (t2 : t ≤ τ 1 22) (hl : τ 19 t = 1) (k0 : 0 ≤ key) (k1 : key ≤ 99) (hw : what = 1 ∨ what = 2) : JJ 0 (B + 61) n (f_req2 (f_ask1 χ (85 + t) key what v) (85 + t)) (m_req2 (m_ask τ t key what v) t) ∧ ∀ b : Int, b ≠ 0 → b ≠ 1 → b ≠ 19 → b ≠ 20 → b ≠ 21 → m_req2 (m_ask τ t key what v) t 1 b = τ 1 b := by
  obtain ⟨j1, mo, m1o, h25, h23⟩ := j_ask (v := v) h t1 t2 hl k0 k1 hw
  generalize m_ask τ t key what v = τa at *
  generalize f_ask1 χ (85 + t) key what v = χa at *
  have t2a : t ≤ τa 1 22 := by rw [m1o 22 (by decide)]; exact t2
  have hla : τa 19 t = 1 := by rw [mo 19 (by decide) (by decide) (by decide) (by decide) (by decide)]; exact hl
  unfold f_req2 m_req2
  rw [r_fit j1.2.2.1 t1 t2a (by omega)]
  by_cases hf : m_fit τa t = true
  · rw [if_pos hf, if_pos hf]
    exact ⟨JJ_up (j_grant j1 t1 t2a (by omega) (by rw [h23]; exact hw)) (by omega), fun b b0 b1 b2 b3 b4 => by rw [mg_1 b0 b1 b2 b3 b4, m1o b b2]⟩
  · rw [if_neg hf, if_neg hf]
    have j2 := j_wait j1 t1 t2a hla ⟨h25, by rw [h23]; exact hw⟩
    have e1 : m_wait τa t 1 = τa 1 := by unfold m_wait; rw [st2_ne (by decide), st2_ne (by decide)]
    have e19 : m_wait τa t 19 t = 2 := by unfold m_wait; rw [st2_ne (by decide), st2_eq]
    have t2w : t ≤ m_wait τa t 1 22 := by rw [e1]; exact t2a
    obtain ⟨g1, g2, g3⟩ := r_ringM j2.2.2.1 t1 t2w
    have gX := r_ringX j2.2.2.1 t1 t2w e19
    have j3 := j_27 j2 g1
    by_cases hr : m_ring (m_wait τa t) t 27 t = 0
    · have hx : ¬ f_wfi (st2 (st2 χa (85 + t) 2 2) (85 + t) 3 1) (85 + t) = true := fun z => by
        have := g3.mpr (gX.mp z); omega
      rw [if_pos hr, if_neg hx]
      exact ⟨JJ_up j3 (by omega), fun b b0 b1 b2 b3 b4 => by rw [g1 1 (by decide), e1, m1o b b2]⟩
    · have hx : f_wfi (st2 (st2 χa (85 + t) 2 2) (85 + t) 3 1) (85 + t) = true := gX.mpr (g3.mp (g2.resolve_left hr))
      rw [if_neg hr, if_pos hx]
      have t2r : t ≤ m_ring (m_wait τa t) t 1 22 := by rw [g1 1 (by decide)]; exact t2w
      have j4 := j_out2 (v := 2) j3 t1 t2r
      obtain ⟨j5, j6⟩ := j_drop j4 t1 (by rw [st2_ne (by decide)]; exact t2r) (by rw [st2_ne (by decide), g1 19 (by decide), e19]; decide)
      exact ⟨JJ_up j5 (by omega), fun b b0 b1 b2 b3 b4 => by rw [j6 b b0 b1 b2 b3 b4, st2_ne (by decide), g1 1 (by decide), e1, m1o b b2]⟩
theorem ok_req {B : Int} {n : Nat} {χ τ : Hp} (h : INV B n χ τ) (hb : B + 2000 < 2000000000) {t key what v : Int} (hw : what = 1 ∨ what = 2) : Ok LyM TM y_M_request b_M_request 6 (some .int) 5 0 0 [.inr 1, .inl t, .inl key, .inl what, .inl v] 28 τ (pI 28 (m_request τ t key what v).2 (m_request τ t key what v).1) := by
  have hT := h.1.2.2.1
  have hbg := hT.1
  have hin : m_isIn τ t 1 = true → 1 ≤ t ∧ t ≤ τ 1 22 ∧ τ 19 t = 1 := fun z => (m_isIn_b z).2
  refine c_M_request hbg.1 hbg.2.1 (jx_B h.1 (by omega)).2 (fun a k0 k1 hf => ?_) (fun a k0 k1 hf => ?_) (fun a k0 k1 hf hr => ?_) (fun a k0 k1 => ?_)
  · obtain ⟨t1, t2, hl⟩ := hin a
    obtain ⟨j1, mo, m1o, h25, h23⟩ := j_ask (v := v) h.1 t1 t2 hl k0 k1 hw
    have hN := j1.1.2.1
    have hwk := j1.2.2.1.2.2.2.1 t (by omega) (by omega)
    exact c_M_grant (by omega) (by omega) hwk.1 hwk.2 (by rw [h23]; exact hw) (jx_B j1 (by omega)).2 hN.1 (by omega)
  · obtain ⟨t1, t2, hl⟩ := hin a
    obtain ⟨j1, mo, m1o, h25, h23⟩ := j_ask (v := v) h.1 t1 t2 hl k0 k1 hw
    have t2a : t ≤ m_ask τ t key what v 1 22 := by rw [m1o 22 (by decide)]; exact t2
    have hla : m_ask τ t key what v 19 t = 1 := by rw [mo 19 (by decide) (by decide) (by decide) (by decide) (by decide)]; exact hl
    have j2 := j_wait j1 t1 t2a hla ⟨h25, by rw [h23]; exact hw⟩
    have e1 : m_wait (m_ask τ t key what v) t 1 = m_ask τ t key what v 1 := by unfold m_wait; rw [st2_ne (by decide), st2_ne (by decide)]
    obtain ⟨g1, g2, g3⟩ := r_ringM j2.2.2.1 t1 (by rw [e1]; exact t2a)
    exact c_M_ring (by omega) (by omega) (jm_L j2.2.2.1) (by omega)
  · obtain ⟨t1, t2, hl⟩ := hin a
    obtain ⟨j1, mo, m1o, h25, h23⟩ := j_ask (v := v) h.1 t1 t2 hl k0 k1 hw
    have t2a : t ≤ m_ask τ t key what v 1 22 := by rw [m1o 22 (by decide)]; exact t2
    have hla : m_ask τ t key what v 19 t = 1 := by rw [mo 19 (by decide) (by decide) (by decide) (by decide) (by decide)]; exact hl
    have j2 := j_wait j1 t1 t2a hla ⟨h25, by rw [h23]; exact hw⟩
    have e1 : m_wait (m_ask τ t key what v) t 1 = m_ask τ t key what v 1 := by unfold m_wait; rw [st2_ne (by decide), st2_ne (by decide)]
    obtain ⟨g1, g2, g3⟩ := r_ringM j2.2.2.1 t1 (by rw [e1]; exact t2a)
    have t2r : t ≤ m_ring (m_wait (m_ask τ t key what v) t) t 1 22 := by rw [g1 1 (by decide), e1]; exact t2a
    exact ok_D (j_out2 (v := 2) (j_27 j2 g1) t1 t2r) (by omega) t1 (by rw [st2_ne (by decide)]; exact t2r)
  · obtain ⟨t1, t2, hl⟩ := hin a
    exact ok_S (j_req2 (v := v) h.1 t1 t2 hl k0 k1 hw).1 (by omega)
theorem ok_Xreq {B : Int} {n : Nat} {χ τ : Hp} (h : INV B n χ τ) (hb : B + 2000 < 2000000000) {t key what v : Int} (hw : what = 1 ∨ what = 2) : Ok LyX TX y_X_request b_X_request 6 (some .int) 6 0 0 [.inr 1, .inl t, .inl key, .inl what, .inl v] n χ (f_reqP n χ t key what v id) := by
  have hT := h.1.2.2.1
  have hbg := hT.1
  have hreq := hT.2.2.2.2.2.2.2.2.2.1
  have hB := h.1.2.2.2
  have hin : f_isAct χ t → 1 ≤ t ∧ t ≤ τ 1 22 ∧ τ 19 t = 1 := fun z => (m_isIn_b ((r_act h t).mp z)).2
  refine c_X_request (jx_F hT) (by omega) (by omega) (fun a k => ?_) (fun a k hf => ?_) (fun a k hf => ?_) (fun a k hf hr => ?_)
  · obtain ⟨t1, t2, hl⟩ := hin a
    obtain ⟨j1, mo, m1o, h25, h23⟩ := j_ask (v := v) h.1 t1 t2 hl k.1 (by omega) hw
    have hxT := jx_T j1.2.2.1 (85 + t) (by omega) (by omega)
    exact c_XV_isFit (by omega) (jx_S j1.2.2.1) (by omega) (by omega) hxT.2.1.1 hxT.2.1.2 hxT.2.2.1 hxT.2.2.2
  · obtain ⟨t1, t2, hl⟩ := hin a
    obtain ⟨j1, mo, m1o, h25, h23⟩ := j_ask (v := v) h.1 t1 t2 hl k.1 (by omega) hw
    have hxT := jx_T j1.2.2.1 (85 + t) (by omega) (by omega)
    have h13 := j1.1.2.2.2.2.2.2.2.2.2.2.1.1
    have hc := cK_le (m_ask τ t key what v) 1 j1.1.2.1.1
    have t2a : t ≤ m_ask τ t key what v 1 22 := by rw [m1o 22 (by decide)]; exact t2
    have hla : m_ask τ t key what v 19 t = 1 := by rw [mo 19 (by decide) (by decide) (by decide) (by decide) (by decide)]; exact hl
    have hN := lg_room j1.1.2 ⟨j1.2.2.1.1.1, j1.2.2.1.1.2.1⟩ (Or.inr (Or.inr (Or.inl ⟨t, t1, t2a, (j1.2.2.1.2.2.2.2.2.2.2.2.2.2 t t1 t2a).2 (by omega)⟩)))
    exact c_X_grant (by omega) (by omega) (by omega) hxT.2.1.1 hxT.2.1.2 hxT.2.2.1 hxT.2.2.2 (jx_B j1 (by omega)).1 (by rw [j1.1.1]; exact j1.1.2.1.1) (by rw [j1.1.1]; exact hN) (by omega)
  · obtain ⟨t1, t2, hl⟩ := hin a
    obtain ⟨j1, mo, m1o, h25, h23⟩ := j_ask (v := v) h.1 t1 t2 hl k.1 (by omega) hw
    have t2a : t ≤ m_ask τ t key what v 1 22 := by rw [m1o 22 (by decide)]; exact t2
    have hla : m_ask τ t key what v 19 t = 1 := by rw [mo 19 (by decide) (by decide) (by decide) (by decide) (by decide)]; exact hl
    have j2 := j_wait j1 t1 t2a hla ⟨h25, by rw [h23]; exact hw⟩
    exact c_XV_waitsForItself (by omega) (jx_S j2.2.2.1) (jx_T j2.2.2.1) (by omega) (by omega)
  · obtain ⟨t1, t2, hl⟩ := hin a
    obtain ⟨j1, mo, m1o, h25, h23⟩ := j_ask (v := v) h.1 t1 t2 hl k.1 (by omega) hw
    have t2a : t ≤ m_ask τ t key what v 1 22 := by rw [m1o 22 (by decide)]; exact t2
    have hla : m_ask τ t key what v 19 t = 1 := by rw [mo 19 (by decide) (by decide) (by decide) (by decide) (by decide)]; exact hl
    have j2 := j_wait j1 t1 t2a hla ⟨h25, by rw [h23]; exact hw⟩
    have e1 : m_wait (m_ask τ t key what v) t 1 = m_ask τ t key what v 1 := by unfold m_wait; rw [st2_ne (by decide), st2_ne (by decide)]
    have t2w : t ≤ m_wait (m_ask τ t key what v) t 1 22 := by rw [e1]; exact t2a
    exact ok_XR (j_out2 (v := 2) j2 t1 t2w) (by omega) t1 (by rw [st2_ne (by decide)]; exact t2w)
/-- the answer is a number -/
def isI (q : Option AV → Nat → Hp → Prop) : Prop := ∀ (r : Option AV) (n : Nat) (σ : Hp), q r n σ → ∃ x : Int, r = some (.inl x)
/-- one call of both: the contracts, and the same answer with what holds between the calls -/
def Both (B : Int) (n : Nat) (χ τ : Hp) (yx : MethodName) (bx : ByteArray) (mx : Nat) (rx : Option FieldType) (cx sx : Nat) (ax : List AV) (ym : MethodName) (bm : ByteArray) (mm : Nat) (am : List AV) : Prop :=
  ∃ (dx dm : Nat) (px pm : Option AV → Nat → Hp → Prop), dx ≤ 7 ∧ dm ≤ 6 ∧ Ok LyX TX yx bx mx rx dx cx sx ax n χ px ∧ Ok LyM TM ym bm mm rx dm 0 0 am 28 τ pm ∧ isI px ∧ ∀ (r : Option AV) (n' : Nat) (χ' : Hp) (r' : Option AV) (m' : Nat) (τ' : Hp), px r n' χ' → pm r' m' τ' → m' = 28 ∧ (∃ x : Int, r = some (.inl x) ∧ r' = some (.inl x)) ∧ INV (B + 2000) n' χ' τ'
theorem b_req {B : Int} {n : Nat} {χ τ : Hp} (h : INV B n χ τ) (hb : B + 4000 < 2000000000) {t key what v : Int} (hw : what = 1 ∨ what = 2) : (f_isAct χ t ∧ (0 ≤ key ∧ key < 100) → OxS n (f_req2 (f_ask1 χ (85 + t) key what v) (85 + t))) ∧ (¬ (f_isAct χ t ∧ (0 ≤ key ∧ key < 100)) → OxS n χ) ∧ ∀ (r : Option AV) (n' : Nat) (χ' : Hp) (r' : Option AV) (m' : Nat) (τ' : Hp), f_reqP n χ t key what v f_settle r n' χ' → pI 28 (m_request τ t key what v).2 (m_request τ t key what v).1 r' m' τ' → m' = 28 ∧ (∃ x : Int, r = some (.inl x) ∧ r' = some (.inl x)) ∧ INV (B + 2000) n' χ' τ' := by
  have hact := r_act h t
  refine ⟨fun a => ?_, fun _ => ok_XS h.1 (by omega), ?_⟩
  · obtain ⟨-, t1, t2, hl⟩ := m_isIn_b (hact.mp a.1)
    exact ok_XS (j_req2 (v := v) h.1 t1 t2 hl a.2.1 (by omega) hw).1 (by omega)
  · rintro r n' χ' r' m' τ' ⟨rfl, hx⟩ ⟨rfl, rfl, rfl⟩
    refine ⟨rfl, ?_⟩
    unfold m_request
    rcases hx with ⟨a1, a2, rfl, rfl⟩ | ⟨a1, rfl, rfl⟩
    · have hin := hact.mp a1
      obtain ⟨hu, t1, t2, hl⟩ := m_isIn_b hin
      rw [if_pos ⟨hin, a2.1, by omega⟩]
      obtain ⟨j1, j2⟩ := j_req2 (v := v) h.1 t1 t2 hl a2.1 (show key ≤ 99 by omega) hw
      obtain ⟨s1, s2, s3, s4⟩ := j_st j1
      refine ⟨⟨_, rfl, by rw [JJ_out j1 t1 (by rw [j2 22 (by decide) (by decide) (by decide) (by decide) (by decide)]; exact t2)]⟩, inv_B (inv_up s1 s2 ?_) (by omega)⟩
      show m_settle (m_req2 (m_ask τ t key what v) t) 1 32 = 0
      rw [s3 32 (by decide) (by decide) (by decide) (by decide) (by decide), j2 32 (by decide) (by decide) (by decide) (by decide) (by decide)]; exact hu
    · rw [if_neg (fun z => a1 ⟨hact.mpr z.1, z.2.1, by omega⟩)]
      refine ⟨⟨_, rfl, rfl⟩, ?_⟩
      rw [std_x h.1 h.2.1]
      exact inv_B h (by omega)
theorem isI_req {n : Nat} {χ : Hp} {t key what v : Int} {g : Hp → Hp} : isI (f_reqP n χ t key what v g) := by
  rintro r n' σ' ⟨_, ⟨_, _, rfl, _⟩ | ⟨_, rfl, _⟩⟩ <;> exact ⟨_, rfl⟩
theorem b_read {B : Int} {n : Nat} {χ τ : Hp} (h : INV B n χ τ) (hb : B + 4000 < 2000000000) (t key : Int) : Both B n χ τ y_X_read b_X_read 4 (some .int) 0 0 [.inr 1, .inl t, .inl key] y_M_read b_M_read 3 [.inr 1, .inl t, .inl key] := by
  obtain ⟨s1, s2, s3⟩ := b_req (v := 0) h hb (t := t) (key := key) (what := 1) (Or.inl rfl)
  have hn := h.1.2.2.1.1
  exact ⟨7, 6, _, _, by omega, by omega, c_X_read (by omega) (ok_Xreq h (by omega) (Or.inl rfl)) s1 s2, c_M_read (ok_req h (by omega) (Or.inl rfl)), isI_req, s3⟩
theorem b_write {B : Int} {n : Nat} {χ τ : Hp} (h : INV B n χ τ) (hb : B + 4000 < 2000000000) (t key v : Int) : Both B n χ τ y_X_write b_X_write 5 (some .int) 0 0 [.inr 1, .inl t, .inl key, .inl v] y_M_write b_M_write 4 [.inr 1, .inl t, .inl key, .inl v] := by
  obtain ⟨s1, s2, s3⟩ := b_req (v := v) h hb (t := t) (key := key) (what := 2) (Or.inr rfl)
  have hn := h.1.2.2.1.1
  exact ⟨7, 6, _, _, by omega, by omega, c_X_write (by omega) (ok_Xreq h (by omega) (Or.inr rfl)) s1 s2, c_M_write (ok_req h (by omega) (Or.inr rfl)), isI_req, s3⟩
