-- ===== settling =====
theorem mg_a {τ : Hp} {t a : Int} (h : 24 < a ∨ a = 22 ∨ a = 23 ∨ a = 24) (h26 : a ≠ 26) : m_grant τ t a = τ a := by
  have hl : m_lock τ t a = τ a := m_lock_fr _ _ (by omega) (by omega) h26
  simp only [m_grant]
  split
  · simp only [m_readFor]
    split
    · rw [st2_ne (by omega), m_fetch_fr _ _ (by omega) (by omega), hl]
    · rw [st2_ne (by omega), hl]
  · simp only [m_writeFor]
    split
    · rw [st2_ne (by omega), hl]
    · rw [m_upd_eq, m_apply_fr (by omega) (by omega) (by omega) (by omega), m_rec1_c (by omega) (by omega), m_fetch_fr _ _ (by omega) (by omega), hl]
theorem mg_19 {τ : Hp} {t u : Int} : m_grant τ t 19 u = if u = t then 1 else τ 19 u := by
  have hl : m_lock τ t 19 u = if u = t then 1 else τ 19 u := by
    simp only [m_lock]
    rw [st2_ne (by decide), st2_at]
    split
    · rfl
    · split
      · rw [st2_ne (by decide)]
      · rfl
  simp only [m_grant]
  split
  · simp only [m_readFor]
    split
    · rw [st2_ne (by omega), m_fetch_fr _ _ (by omega) (by omega), hl]
    · rw [st2_ne (by omega), hl]
  · simp only [m_writeFor]
    split
    · rw [st2_ne (by omega), hl]
    · rw [m_upd_eq, m_apply_fr (by omega) (by omega) (by omega) (by omega), m_rec1_c (by omega) (by omega), m_fetch_fr _ _ (by omega) (by omega), hl]
theorem mg_1 {τ : Hp} {t b : Int} (h0 : b ≠ 0) (h1 : b ≠ 1) (h2 : b ≠ 19) (h3 : b ≠ 20) (h4 : b ≠ 21) : m_grant τ t 1 b = τ 1 b := by
  have hl : m_lock τ t 1 = τ 1 := m_lock_fr _ _ (by decide) (by decide) (by decide)
  simp only [m_grant]
  split
  · simp only [m_readFor]
    split
    · rw [st2_ne (by omega), m_fetch_1 _ _ h1 h2 h3 h4, hl]
    · rw [st2_ne (by omega), hl]
  · simp only [m_writeFor]
    split
    · rw [st2_ne (by omega), hl]
    · rw [m_upd_eq, m_apply_fr (by omega) (by omega) (by omega) (by omega), m_rec1_b h0, m_fetch_1 _ _ h1 h2 h3 h4, hl]
theorem mu_a {τ : Hp} {t q a : Int} (h1 : a ≠ 19) (h2 : a ≠ 26) : m_unlock (st2 τ 19 t q) t 100 a = τ a := by
  funext b
  simp only [m_unlock]
  rw [if_neg (fun z => h2 z.1), st2_ne h1]
theorem mu_19 {τ : Hp} {t q u : Int} : m_unlock (st2 τ 19 t q) t 100 19 u = if u = t then q else τ 19 u := by
  simp only [m_unlock]
  rw [if_neg (by omega), st2_at]
def pend (τ : Hp) : Int := cntU (fun t => decide (τ 19 t = 2) || decide (τ 19 t = 3)) (τ 1 22).toNat
def occ (χ : Hp) : Int := cntU (fun s => decide (¬ χ 77 (s - 1) = 0)) 4
theorem r_live {e : Int} {n : Nat} {χ τ : Hp} (h : RTx e n χ τ) : cntU (m_live τ) (τ 1 22).toNat = occ χ := by
  have hb := h.1.1
  have hlv : ∀ t : Int, 1 ≤ t → t ≤ τ 1 22 → (m_live τ t = true ↔ τ 19 t ≤ 3) := fun t t1 t2 => by
    have := (h.2.1 t t1 t2).2.2.2.2.2.2.2.2.2.1
    simp only [m_live, Bool.and_eq_true, decide_eq_true_eq]
    omega
  apply Int.le_antisymm
  · refine cntU_inj (fun t => χ (85 + t) 1 + 1) (N := 4) (τ 1 22).toNat _ _ (fun t t1 t2 hl => ?_) (fun t u t1 t2 u1 u2 ht hu he => ?_)
    · obtain ⟨p1, p2, p3⟩ := r_seat h t1 (by omega) ((hlv t t1 (by omega)).mp hl)
      refine ⟨by omega, by omega, ?_⟩
      rw [show χ (85 + t) 1 + 1 - 1 = χ (85 + t) 1 by omega, p1]
      simp; omega
    · have p1 := (r_seat h t1 (by omega) ((hlv t t1 (by omega)).mp ht)).1
      have q1 := (r_seat h u1 (by omega) ((hlv u u1 (by omega)).mp hu)).1
      have : χ (85 + t) 1 = χ (85 + u) 1 := by omega
      rw [this, q1] at p1; omega
  · refine cntU_inj (fun s => χ 77 (s - 1) - 85) (N := (τ 1 22).toNat) 4 _ _ (fun s s1 s2 hs => ?_) (fun s w s1 s2 w1 w2 hs hw he => ?_)
    · rcases h.2.2.2.2.2.1 (s - 1) (by omega) (by omega) with ⟨a, -⟩ | ⟨t, t1, t2, t3, t4, t5, -⟩
      · rw [a] at hs; simp at hs
      · show 1 ≤ χ 77 (s - 1) - 85 ∧ χ 77 (s - 1) - 85 ≤ _ ∧ _
        rw [t3, show 85 + t - 85 = t by omega]
        exact ⟨t1, by omega, (hlv t t1 t2).mpr t5⟩
    · rcases h.2.2.2.2.2.1 (s - 1) (by omega) (by omega) with ⟨a, -⟩ | ⟨t, t1, t2, t3, t4, t5, -⟩
      · rw [a] at hs; simp at hs
      · rcases h.2.2.2.2.2.1 (w - 1) (by omega) (by omega) with ⟨a, -⟩ | ⟨u, u1, u2, u3, u4, u5, -⟩
        · rw [a] at hw; simp at hw
        · have : t = u := by omega
          subst this
          omega
theorem pend_4 {e : Int} {n : Nat} {χ τ : Hp} (h : RTx e n χ τ) : pend τ ≤ 4 := by
  have h1 := r_live h
  have h2 := (cntU_le (fun s => decide (¬ χ 77 (s - 1) = 0)) 4).2
  have h3 := cntU_imp (p := fun t => decide (τ 19 t = 2) || decide (τ 19 t = 3)) (q := m_live τ) (τ 1 22).toNat (fun i i1 i2 hp => by
    simp only [Bool.or_eq_true, decide_eq_true_eq] at hp
    simp only [m_live, Bool.and_eq_true, decide_eq_true_eq]
    omega)
  unfold pend
  unfold occ at h1
  omega
theorem pend_st {τ τ' : Hp} {t : Int} (t1 : 1 ≤ t) (t2 : t ≤ τ 1 22) (hp : τ 19 t = 2 ∨ τ 19 t = 3) (h22 : τ' 1 22 = τ 1 22) (ho : ∀ u : Int, u ≠ t → τ' 19 u = τ 19 u) (hn : ¬ τ' 19 t = 2 ∧ ¬ τ' 19 t = 3) : pend τ' = pend τ - 1 := by
  unfold pend
  rw [h22]
  refine cntU_rm (t := t) ?_ ?_ (fun i hi => ?_) t1 _ (by omega)
  · simpa using hp
  · simp [hn]
  · simp only [ho i hi]
theorem pend_0 {τ : Hp} (h : pend τ ≤ 0) {t : Int} (t1 : 1 ≤ t) (t2 : t ≤ τ 1 22) : ¬ τ 19 t = 2 ∧ ¬ τ 19 t = 3 := by
  refine Decidable.byContradiction (fun z => ?_)
  have hz : τ 19 t = 2 ∨ τ 19 t = 3 := by omega
  have h1 := pend_st (τ' := st2 τ 19 t 0) t1 t2 hz (by rw [st2_ne (by decide)]) (fun u hu => st2_ii hu) (by rw [st2_eq]; omega)
  have h2 := (cntU_le (fun i => decide (st2 τ 19 t 0 19 i = 2) || decide (st2 τ 19 t 0 19 i = 3)) (st2 τ 19 t 0 1 22).toNat).1
  unfold pend at h1 h
  omega
theorem j_settle {n : Nat} : ∀ (q fuel : Nat) (B : Int) (χ τ : Hp), JJ 0 B n χ τ → pend τ ≤ (q : Int) → q ≤ fuel → JJ 0 (B + q) n (f_stL q χ) (m_settleL τ fuel) ∧ (m_firm (m_settleL τ fuel) = 0 ∧ m_firstFit (m_settleL τ fuel) = 0) ∧ (∀ b : Int, b ≠ 0 → b ≠ 1 → b ≠ 19 → b ≠ 20 → b ≠ 21 → m_settleL τ fuel 1 b = τ 1 b) ∧ m_settleL τ fuel 28 = τ 28
  | q, fuel, B, χ, τ, h, hp, hf => by
    have hb0 := h.2.2.1.1.1
    by_cases hfm : 0 < m_firm τ
    · rcases r_firm h with ⟨-, a⟩ | ⟨a1, a2, a3, a4⟩
      · omega
      · have hp2 := pend_st (τ' := m_unlock (st2 τ 19 (m_firm τ) 4) (m_firm τ) 100) a2 a3 (Or.inr a4) (by rw [mu_a (by decide) (by decide)]) (fun u hu => by rw [mu_19, if_neg hu]) (by rw [mu_19, if_pos rfl]; omega)
        have hp3 := (cntU_le (fun t => decide (m_unlock (st2 τ 19 (m_firm τ) 4) (m_firm τ) 100 19 t = 2) || decide (m_unlock (st2 τ 19 (m_firm τ) 4) (m_firm τ) 100 19 t = 3)) (m_unlock (st2 τ 19 (m_firm τ) 4) (m_firm τ) 100 1 22).toNat).1
        have hp4 : 0 ≤ pend (m_unlock (st2 τ 19 (m_firm τ) 4) (m_firm τ) 100) := hp3
        match q, fuel, hp, hf with
        | 0, _, hp, _ => omega
        | q + 1, f + 1, hp, hf =>
          rw [show m_settleL τ (f + 1) = if 0 < m_firm τ then m_settleL (m_unlock (st2 τ 19 (m_firm τ) 4) (m_firm τ) 100) f else if 0 < m_firstFit τ then m_settleL (m_grant τ (m_firstFit τ)) f else τ from rfl, if_pos hfm,
            show f_stL (q + 1) χ = if f_lsc χ 4 = 0 then (if f_ffw χ 4 = 0 then χ else f_stL q (f_grant χ (f_ffw χ 4))) else f_stL q (f_leaveT χ (f_lsc χ 4) 4) from rfl, if_neg (by omega), a1]
          have j1 := j_leave (q := 4) h a2 a3 (by omega) ⟨by decide, by decide⟩
          obtain ⟨r1, r2, r3, r4⟩ := j_settle q f B _ _ j1 (by omega) (by omega)
          refine ⟨JJ_up r1 (by omega), r2, fun b b0 b1 b2 b3 b4 => ?_, ?_⟩
          · rw [r3 b b0 b1 b2 b3 b4, mu_a (by decide) (by decide)]
          · rw [r4, mu_a (by decide) (by decide)]
    · by_cases hff : 0 < m_firstFit τ
      · rcases r_ff h.2.2.1 with ⟨-, a⟩ | ⟨a1, a2, a3, a4, a5⟩
        · omega
        · have hp2 := pend_st (τ' := m_grant τ (m_firstFit τ)) a2 a3 (Or.inl a4) (mg_1 (by decide) (by decide) (by decide) (by decide) (by decide)) (fun u hu => by rw [mg_19, if_neg hu]) (by rw [mg_19, if_pos rfl]; omega)
          have hp4 : 0 ≤ pend (m_grant τ (m_firstFit τ)) := (cntU_le _ _).1
          have hw := ((h.2.2.1.2.1 _ a2 a3).2.2.2.2.2.2.2.2.2.2.2.2.2 a4).2
          match q, fuel, hp, hf with
          | 0, _, hp, _ => omega
          | q + 1, f + 1, hp, hf =>
            rcases r_firm h with ⟨b1, b2⟩ | ⟨b1, b2, b3, b4⟩
            · rw [show m_settleL τ (f + 1) = if 0 < m_firm τ then m_settleL (m_unlock (st2 τ 19 (m_firm τ) 4) (m_firm τ) 100) f else if 0 < m_firstFit τ then m_settleL (m_grant τ (m_firstFit τ)) f else τ from rfl, if_neg hfm, if_pos hff,
                show f_stL (q + 1) χ = if f_lsc χ 4 = 0 then (if f_ffw χ 4 = 0 then χ else f_stL q (f_grant χ (f_ffw χ 4))) else f_stL q (f_leaveT χ (f_lsc χ 4) 4) from rfl, if_pos b1, if_neg (by omega), a1]
              have j1 := j_grant h a2 a3 (by omega) hw
              obtain ⟨r1, r2, r3, r4⟩ := j_settle q f (B + 1) _ _ j1 (by omega) (by omega)
              refine ⟨JJ_up r1 (by omega), r2, fun b b0 b1 b2 b3 b4 => ?_, ?_⟩
              · rw [r3 b b0 b1 b2 b3 b4, mg_1 b0 b1 b2 b3 b4]
              · rw [r4, mg_a (by decide) (by decide)]
            · omega
      · have hd : m_settleL τ fuel = τ := by
          cases fuel with
          | zero => rfl
          | succ f => unfold m_settleL; rw [if_neg hfm, if_neg hff]
        have e1 : f_lsc χ 4 = 0 ∧ m_firm τ = 0 := by
          rcases r_firm h with a | ⟨a1, a2, a3, a4⟩
          · exact a
          · omega
        have e2 : f_ffw χ 4 = 0 ∧ m_firstFit τ = 0 := by
          rcases r_ff h.2.2.1 with a | ⟨a1, a2⟩
          · exact a
          · have := a2.1; omega
        have hx : f_stL q χ = χ := by
          cases q with
          | zero => rfl
          | succ q => unfold f_stL; rw [if_pos e1.1, if_pos e2.1]
        rw [hd, hx]
        exact ⟨JJ_up h (by omega), ⟨e1.2, e2.2⟩, fun _ _ _ _ _ _ => rfl, rfl⟩
def Std (τ : Hp) : Prop := m_firm τ = 0 ∧ m_firstFit τ = 0
theorem j_st {B : Int} {n : Nat} {χ τ : Hp} (h : JJ 0 B n χ τ) : JJ 0 (B + 4) n (f_settle χ) (m_settle τ) ∧ Std (m_settle τ) ∧ (∀ b : Int, b ≠ 0 → b ≠ 1 → b ≠ 19 → b ≠ 20 → b ≠ 21 → m_settle τ 1 b = τ 1 b) ∧ m_settle τ 28 = τ 28 :=
  j_settle 4 1000 B χ τ h (pend_4 h.2.2.1) (by omega)
theorem std_x {e B : Int} {n : Nat} {χ τ : Hp} (h : JJ e B n χ τ) (hs : Std τ) : f_settle χ = χ := by
  have e1 : f_lsc χ 4 = 0 := by
    rcases r_firm h with a | ⟨a1, a2, a3, a4⟩
    · exact a.1
    · have := hs.1; omega
  have e2 : f_ffw χ 4 = 0 := by
    rcases r_ff h.2.2.1 with a | ⟨a1, a2⟩
    · exact a.1
    · have := a2.1; have := hs.2; omega
  show f_stL 4 χ = χ
  unfold f_stL
  rw [if_pos e1, if_pos e2]
theorem ok_S {B : Int} {n : Nat} {χ τ : Hp} (h : JJ 0 B n χ τ) (hb : B + 1000 < 2000000000) : OkS τ := by
  refine c_M_settle (P := fun k τ' => ∃ χ', JJ 0 (B + k) n χ' τ') ⟨χ, JJ_up h (by omega)⟩ ?_ ?_ ?_
  · rintro k τ' hk ⟨χ', h'⟩ hf
    rcases r_firm h' with ⟨-, a⟩ | ⟨a1, a2, a3, a4⟩
    · omega
    · exact ⟨_, JJ_up (j_leave (q := 4) h' a2 a3 (by omega) ⟨by decide, by decide⟩) (by omega)⟩
  · rintro k τ' hk ⟨χ', h'⟩ - hf
    rcases r_ff h'.2.2.1 with ⟨-, a⟩ | ⟨a1, a2, a3, a4, a5⟩
    · omega
    · exact ⟨_, JJ_up (j_grant h' a2 a3 (by omega) ((h'.2.2.1.2.1 _ a2 a3).2.2.2.2.2.2.2.2.2.2.2.2.2 a4).2) (by omega)⟩
  · rintro k τ' hk ⟨χ', h'⟩
    have hs := h'.2.1.2.2.2.2
    have hN := h'.1.2.1
    refine ⟨jm_L h'.2.2.1, (jx_B h' (by omega)).2, ⟨by omega, by omega⟩, ⟨by omega, by omega⟩, fun i i1 i2 _ => (h'.1.2.2.1 i (by omega)).2.2.2, fun hf => ?_⟩
    rcases r_ff h'.2.2.1 with ⟨-, a⟩ | ⟨a1, a2, a3, a4, a5⟩
    · omega
    · exact ((h'.2.2.1.2.1 _ a2 a3).2.2.2.2.2.2.2.2.2.2.2.2.2 a4).2
theorem ok_XS {B : Int} {n : Nat} {χ τ : Hp} (h : JJ 0 B n χ τ) (hb : B + 4 < 2000000000) : OxS n χ := by
  have hn := h.2.2.1.1
  refine c_X_settle (by omega) (by omega) (P := fun k χ' => ∃ τ', JJ 0 (B + k) n χ' τ') ⟨τ, JJ_up h (by omega)⟩ ?_ ?_ ?_
  · rintro k χ' hk ⟨τ', h'⟩ hf
    rcases r_firm h' with ⟨a, -⟩ | ⟨a1, a2, a3, a4⟩
    · omega
    · rw [a1]
      exact ⟨_, JJ_up (j_leave (q := 4) h' a2 a3 (by omega) ⟨by decide, by decide⟩) (by omega)⟩
  · rintro k χ' hk ⟨τ', h'⟩ - hf
    rcases r_ff h'.2.2.1 with ⟨a, -⟩ | ⟨a1, a2, a3, a4, a5⟩
    · omega
    · rw [a1]
      exact ⟨_, JJ_up (j_grant h' a2 a3 (by omega) ((h'.2.2.1.2.1 _ a2 a3).2.2.2.2.2.2.2.2.2.2.2.2.2 a4).2) (by omega)⟩
  · rintro k χ' hk ⟨τ', h'⟩
    have h13 := h'.1.2.2.2.2.2.2.2.2.2.2.1.1
    have hc := cK_le τ' 1 h'.1.2.1.1
    refine ⟨jx_S h'.2.2.1, jx_T h'.2.2.1, (jx_B h' (by omega)).1, ⟨by rw [h'.1.1]; exact h'.1.2.1.1, fun hf => ?_⟩, by omega⟩
    rcases r_ff h'.2.2.1 with ⟨a, -⟩ | ⟨a1, a2, a3, a4, a5⟩
    · omega
    · rw [h'.1.1]
      exact lg_room h'.1.2 ⟨h'.2.2.1.1.1, h'.2.2.1.1.2.1⟩ (Or.inr (Or.inr (Or.inl ⟨_, a2, a3, (h'.2.2.1.2.2.2.2.2.2.2.2.2.2 _ a2 a3).2 (by omega)⟩)))
