-- ===== the reference: aborting, settling, calls that look, begin =====
theorem c_M_drop {σ : Hp} {t : Int} (P : Nat → Hp → Prop) (h0 : 0 ≤ t) (h1 : t ≤ 60) (hP : P 0 σ) (hs : ∀ (k : Nat) (τ : Hp), k < 60 → P k τ → 0 < m_open τ t → P (k + 1) (m_takeBack τ (m_open τ t)))
    (hb : ∀ (k : Nat) (τ : Hp), k ≤ 60 → P k τ → mB τ ∧ 0 ≤ τ 1 0 ∧ τ 1 0 < 203 ∧ (0 < m_open τ t → 0 ≤ τ 4 (m_open τ t) ∧ τ 4 (m_open τ t) < 24)) : Ok LyM TM y_M_drop b_M_drop 3 none 4 0 0 [.inr 1, .inl t] 28 σ (pV 28 (m_drop σ t)) := by
  refine ok_mk (by decide) (Nat.le_of_ble_eq_true rfl) (fun K C rt ha hok hfx => ?_)
  show XW LyM TM K 28 σ 0 0 0 [some (.inr 1), some (.inl t), none] []
  have J31 : ∀ (τ : Hp) (w : Option AV), τ = m_dropL σ t 60 → XW LyM TM K 28 τ 0 0 31 [some (.inr 1), some (.inl t), w] [] := by
    intro τ w hτ
    refine x_aload_n C d_M_drop_31 rfl rfl ?_
    refine x_getC C 23 19 cf_M fl_M_61 d_M_drop_32 rfl rfl rfl (by omega) (by omega) rfl ?_
    refine x_iload_n C d_M_drop_35 rfl rfl ?_
    refine x_iconst C d_M_drop_36 (by decide) ?_
    refine x_iast C d_M_drop_37 rfl rfl (by omega) (by omega) (by omega) (by omega) ?_
    refine x_aload_n C d_M_drop_38 rfl rfl ?_
    refine x_iload_n C d_M_drop_39 rfl rfl ?_
    refine x_callV C cl_M_156 cb_M_unlock cs_M_unlock d_M_drop_40 (c_M_unlock h0 h1) rfl rfl rfl rfl rfl (by omega) (by omega) (by decide) (by decide) (Nat.le_of_ble_eq_true rfl) (by omega) (by omega) ?_
    rintro _ _ _ ⟨rfl, rfl, rfl⟩ -
    skip
    exact x_vret rt d_M_drop_43 (by omega) (by omega) ⟨rfl, rfl, by rw [hτ]; rfl⟩
  have loop : ∀ (q k : Nat) (τ : Hp), k + q = 60 → P k τ → m_dropL τ t q = m_dropL σ t 60 → XW LyM TM K 28 τ 0 0 2 [some (.inr 1), some (.inl t), some (.inl (k : Int))] [] := by
    intro q
    induction q with
    | zero =>
      intro k τ hk hp hm
      obtain ⟨b1, b2, b3, b4⟩ := hb k τ (by omega) hp
      refine x_iload_n C d_M_drop_2 rfl rfl ?_
      refine x_bipush C d_M_drop_3 (by decide) (by decide) ?_
      refine x_icmp_ge (tgt := 31) C d_M_drop_5 rfl (fun h5 => ?_) (fun h5 => ?_)
      · exact J31 _ _ hm
      · exact absurd h5 (by omega)
    | succ q ih =>
      intro k τ hk hp hm
      obtain ⟨b1, b2, b3, b4⟩ := hb k τ (by omega) hp
      have hol := m_open_le τ t b2
      have hm2 : m_dropL τ t (q + 1) = if 0 < m_open τ t then m_dropL (m_takeBack τ (m_open τ t)) t q else τ := rfl
      rw [hm2] at hm
      refine x_iload_n C d_M_drop_2 rfl rfl ?_
      refine x_bipush C d_M_drop_3 (by decide) (by decide) ?_
      refine x_icmp_ge (tgt := 31) C d_M_drop_5 rfl (fun h5 => ?_) (fun h5 => ?_)
      · exact absurd h5 (by omega)
      · refine x_aload_n C d_M_drop_8 rfl rfl ?_
        refine x_iload_n C d_M_drop_9 rfl rfl ?_
        refine x_callV C cl_M_150 cb_M_open cs_M_open d_M_drop_10 (c_M_open b2 (by omega)) rfl rfl rfl rfl rfl (by omega) (by omega) (by decide) (by decide) (Nat.le_of_ble_eq_true rfl) (by omega) (by omega) ?_
        rintro _ _ _ ⟨rfl, rfl, rfl⟩ -
        skip
        refine x_if_le (tgt := 31) C d_M_drop_13 rfl (fun h13 => ?_) (fun h13 => ?_)
        · exact J31 _ _ (by rw [← hm, if_neg (by omega)])
        · refine x_aload_n C d_M_drop_16 rfl rfl ?_
          refine x_aload_n C d_M_drop_17 rfl rfl ?_
          refine x_iload_n C d_M_drop_18 rfl rfl ?_
          refine x_callV C cl_M_150 cb_M_open cs_M_open d_M_drop_19 (c_M_open b2 (by omega)) rfl rfl rfl rfl rfl (by omega) (by omega) (by decide) (by decide) (Nat.le_of_ble_eq_true rfl) (by omega) (by omega) ?_
          rintro _ _ _ ⟨rfl, rfl, rfl⟩ -
          skip
          refine x_callV C cl_M_153 cb_M_takeBack cs_M_takeBack d_M_drop_22 (c_M_takeBack hol.1 (by omega) (b4 h13).1 (b4 h13).2 b1 b2 b3) rfl rfl rfl rfl rfl (by omega) (by omega) (by decide) (by decide) (Nat.le_of_ble_eq_true rfl) (by omega) (by omega) ?_
          rintro _ _ _ ⟨rfl, rfl, rfl⟩ -
          skip
          refine x_iinc C d_M_drop_25 (by decide) rfl ⟨by omega, by omega⟩ ?_
          refine x_goto (tgt := 2) C d_M_drop_28 rfl ?_
          exact ih (k + 1) _ (by omega) (hs k τ (by omega) hp h13) (by rw [← hm, if_pos h13])
  refine x_iconst C d_M_drop_0 (by decide) ?_
  refine x_istore_n C d_M_drop_1 rfl (by decide) ?_
  exact loop 60 0 σ (by omega) hP rfl
theorem c_M_settle {σ : Hp} (P : Nat → Hp → Prop) (hP : P 0 σ) (hs1 : ∀ (k : Nat) (τ : Hp), k < 1000 → P k τ → 0 < m_firm τ → P (k + 1) (m_unlock (st2 τ 19 (m_firm τ) 4) (m_firm τ) 100)) (hs2 : ∀ (k : Nat) (τ : Hp), k < 1000 → P k τ → ¬ 0 < m_firm τ → 0 < m_firstFit τ → P (k + 1) (m_grant τ (m_firstFit τ)))
    (hb : ∀ (k : Nat) (τ : Hp), k < 1000 → P k τ → mL τ ∧ mB τ ∧ (0 ≤ τ 1 1 ∧ τ 1 1 < 204) ∧ (0 ≤ τ 1 0 ∧ τ 1 0 < 203) ∧ (∀ i : Int, 1 ≤ i → i ≤ τ 1 1 → τ 2 i = 3 → 0 ≤ τ 3 i ∧ τ 3 i ≤ 60) ∧ (0 < m_firstFit τ → τ 23 (m_firstFit τ) = 1 ∨ τ 23 (m_firstFit τ) = 2)) : Ok LyM TM y_M_settle b_M_settle 5 none 4 0 0 [.inr 1] 28 σ (pV 28 (m_settle σ)) := by
  refine ok_mk (by decide) (Nat.le_of_ble_eq_true rfl) (fun K C rt ha hok hfx => ?_)
  show XW LyM TM K 28 σ 0 0 0 [some (.inr 1), none, none, none, none] []
  have loop : ∀ (q k : Nat) (τ : Hp) (a b : Option AV), k + q = 1000 → P k τ → m_settleL τ q = m_settle σ → XW LyM TM K 28 τ 0 0 4 [some (.inr 1), some (.inl 1), some (.inl (k : Int)), a, b] [] := by
    intro q
    induction q with
    | zero =>
      intro k τ a b hk hp hm
      refine x_iload_n C d_M_settle_4 rfl rfl ?_
      refine x_sipush C d_M_settle_5 (by decide) (by decide) ?_
      refine x_icmp_ge (tgt := 80) C d_M_settle_8 rfl (fun h8 => ?_) (fun h8 => ?_)
      · exact x_vret rt d_M_settle_80 (by omega) (by omega) ⟨rfl, rfl, hm.symm⟩
      · exact absurd h8 (by omega)
    | succ q ih =>
      intro k τ a b hk hp hm
      obtain ⟨b1, b2, b3, b4, b5, b6⟩ := hb k τ (by omega) hp
      have hm2 : m_settleL τ (q + 1) = if 0 < m_firm τ then m_settleL (m_unlock (st2 τ 19 (m_firm τ) 4) (m_firm τ) 100) q else if 0 < m_firstFit τ then m_settleL (m_grant τ (m_firstFit τ)) q else τ := rfl
      rw [hm2] at hm
      have hF := hs1 k τ (by omega) hp
      have hG := hs2 k τ (by omega) hp
      have hfr : 0 ≤ m_firm τ ∧ m_firm τ ≤ 60 := by
        have h := srch_spec (fun i => decide (τ 2 i = 3) && decide (τ 19 (τ 3 i) = 3)) (τ 1 1).toNat 1
        simp only [m_firm]
        generalize srch (fun i => decide (τ 2 i = 3) && decide (τ 19 (τ 3 i) = 3)) 1 (τ 1 1).toNat = i at h
        rcases h with ⟨a1, -⟩ | ⟨a1, a2, a3, -⟩
        · rw [if_pos (by omega)]; omega
        · rw [if_neg (by omega)]
          simp only [Bool.and_eq_true, decide_eq_true_eq] at a3
          exact b5 i a1 (by omega) a3.1
      have hff : 0 ≤ m_firstFit τ ∧ m_firstFit τ ≤ 60 := by
        have := m_ff_le τ (τ 1 22).toNat
        have e : m_firstFit τ = m_ff τ (τ 1 22).toNat := rfl
        have := b1.1
        have := b1.2.1
        rw [e]; omega
      have hkk : 0 < m_firstFit τ → 0 ≤ τ 22 (m_firstFit τ) ∧ τ 22 (m_firstFit τ) ≤ 99 := fun _ => b1.2.2 _ hff.1 hff.2
      generalize hf : m_firm τ = f at *
      generalize hu : m_firstFit τ = u at *
      have J73 : ∀ (τ' : Hp) (u' : Int), (0 < f ∧ u' = 0 ∧ τ' = m_unlock (st2 τ 19 f 4) f 100) ∨ (¬ 0 < f ∧ u' = u ∧ 0 < u ∧ τ' = m_grant τ u) → XW LyM TM K 28 τ' 0 0 73 [some (.inr 1), some (.inl 1), some (.inl (k : Int)), some (.inl f), some (.inl u')] [.inl 1] := by
        intro τ' u' hc
        have ih2 := ih (k + 1) τ' (some (.inl f)) (some (.inl u')) (by omega) (by
          rcases hc with ⟨c1, -, c2⟩ | ⟨c1, -, c2, c3⟩
          · rw [c2]; exact hF c1
          · rw [c3]; exact hG c1 c2) (by
          rcases hc with ⟨c1, -, c2⟩ | ⟨c1, -, c2, c3⟩
          · rw [c2, ← hm, if_pos c1]
          · rw [c3, ← hm, if_neg c1, if_pos c2])
        refine x_istore_n C d_M_settle_73 rfl (by decide) ?_
        refine x_iinc C d_M_settle_74 (by decide) rfl ⟨by omega, by omega⟩ ?_
        refine x_goto (tgt := 4) C d_M_settle_77 rfl ?_
        exact ih2
      have J80 : ∀ u' : Int, ¬ 0 < f → ¬ 0 < u → XW LyM TM K 28 τ 0 0 73 [some (.inr 1), some (.inl 1), some (.inl (k : Int)), some (.inl f), some (.inl u')] [.inl 0] := by
        intro u' n1 n2
        rw [if_neg n1, if_neg n2] at hm
        refine x_istore_n C d_M_settle_73 rfl (by decide) ?_
        refine x_iinc C d_M_settle_74 (by decide) rfl ⟨by omega, by omega⟩ ?_
        refine x_goto (tgt := 4) C d_M_settle_77 rfl ?_
        refine x_iload_n C d_M_settle_4 rfl rfl ?_
        refine x_sipush C d_M_settle_5 (by decide) (by decide) ?_
        refine x_icmp_ge (tgt := 80) C d_M_settle_8 rfl (fun h8 => ?_) (fun h8 => ?_)
        · exact x_vret rt d_M_settle_80 (by omega) (by omega) ⟨rfl, rfl, hm.symm⟩
        · refine x_iload_n C d_M_settle_11 rfl rfl ?_
          refine x_if_eq (tgt := 80) C d_M_settle_12 rfl (fun h12 => ?_) (fun h12 => ?_)
          · exact x_vret rt d_M_settle_80 (by omega) (by omega) ⟨rfl, rfl, hm.symm⟩
          · exact absurd rfl h12
      have J32 : ∀ u' : Int, u' = (if 0 < f then 0 else u) → XW LyM TM K 28 τ 0 0 32 [some (.inr 1), some (.inl 1), some (.inl (k : Int)), some (.inl f), b] [.inl u'] := by
        intro u' hu'
        by_cases hf0 : 0 < f
        · rw [if_pos hf0] at hu'
          subst hu'
          refine x_istore C d_M_settle_32 (by decide) ?_
          refine x_iload_n C d_M_settle_34 rfl rfl ?_
          refine x_if_le (tgt := 50) C d_M_settle_35 rfl (fun h35 => ?_) (fun h35 => ?_)
          · exact absurd h35 (by omega)
          · refine x_aload_n C d_M_settle_38 rfl rfl ?_
            refine x_getC C 23 19 cf_M fl_M_61 d_M_settle_39 rfl rfl rfl (by omega) (by omega) rfl ?_
            refine x_iload_n C d_M_settle_42 rfl rfl ?_
            refine x_iconst C d_M_settle_43 (by decide) ?_
            refine x_iast C d_M_settle_44 rfl rfl (by omega) (by omega) (by omega) (by omega) ?_
            refine x_aload_n C d_M_settle_45 rfl rfl ?_
            refine x_iload_n C d_M_settle_46 rfl rfl ?_
            refine x_callV C cl_M_156 cb_M_unlock cs_M_unlock d_M_settle_47 (c_M_unlock hfr.1 hfr.2) rfl rfl rfl rfl rfl (by omega) (by omega) (by decide) (by decide) (Nat.le_of_ble_eq_true rfl) (by omega) (by omega) ?_
            rintro _ _ _ ⟨rfl, rfl, rfl⟩ -
            skip
            refine x_iload C d_M_settle_50 rfl ?_
            refine x_if_le (tgt := 61) C d_M_settle_52 rfl (fun h52 => ?_) (fun h52 => ?_)
            · refine x_iload_n C d_M_settle_61 rfl rfl ?_
              refine x_iload C d_M_settle_62 rfl ?_
              refine x_iadd C d_M_settle_64 ⟨by omega, by omega⟩ ?_
              refine x_if_le (tgt := 72) C d_M_settle_65 rfl (fun h65 => ?_) (fun h65 => ?_)
              · exact absurd h65 (by omega)
              · refine x_iconst C d_M_settle_68 (by decide) ?_
                refine x_goto (tgt := 73) C d_M_settle_69 rfl ?_
                exact J73 _ 0 (Or.inl ⟨hf0, rfl, rfl⟩)
            · exact absurd h52 (by decide)
        · rw [if_neg hf0] at hu'
          subst hu'
          by_cases hu0 : 0 < u'
          · have hk2 := hkk hu0
            refine x_istore C d_M_settle_32 (by decide) ?_
            refine x_iload_n C d_M_settle_34 rfl rfl ?_
            refine x_if_le (tgt := 50) C d_M_settle_35 rfl (fun h35 => ?_) (fun h35 => ?_)
            · refine x_iload C d_M_settle_50 rfl ?_
              refine x_if_le (tgt := 61) C d_M_settle_52 rfl (fun h52 => ?_) (fun h52 => ?_)
              · exact absurd h52 (by omega)
              · refine x_aload_n C d_M_settle_55 rfl rfl ?_
                refine x_iload C d_M_settle_56 rfl ?_
                refine x_callV C cl_M_169 cb_M_grant cs_M_grant d_M_settle_58 (c_M_grant hff.1 hff.2 hk2.1 hk2.2 (b6 hu0) b2 b4.1 b4.2) rfl rfl rfl rfl rfl (by omega) (by omega) (by decide) (by decide) (Nat.le_of_ble_eq_true rfl) (by omega) (by omega) ?_
                rintro _ _ _ ⟨rfl, rfl, rfl⟩ -
                skip
                refine x_iload_n C d_M_settle_61 rfl rfl ?_
                refine x_iload C d_M_settle_62 rfl ?_
                refine x_iadd C d_M_settle_64 ⟨by omega, by omega⟩ ?_
                refine x_if_le (tgt := 72) C d_M_settle_65 rfl (fun h65 => ?_) (fun h65 => ?_)
                · exact absurd h65 (by omega)
                · refine x_iconst C d_M_settle_68 (by decide) ?_
                  refine x_goto (tgt := 73) C d_M_settle_69 rfl ?_
                  exact J73 _ _ (Or.inr ⟨hf0, rfl, hu0, rfl⟩)
            · exact absurd h35 (by omega)
          · skip
            refine x_istore C d_M_settle_32 (by decide) ?_
            refine x_iload_n C d_M_settle_34 rfl rfl ?_
            refine x_if_le (tgt := 50) C d_M_settle_35 rfl (fun h35 => ?_) (fun h35 => ?_)
            · refine x_iload C d_M_settle_50 rfl ?_
              refine x_if_le (tgt := 61) C d_M_settle_52 rfl (fun h52 => ?_) (fun h52 => ?_)
              · refine x_iload_n C d_M_settle_61 rfl rfl ?_
                refine x_iload C d_M_settle_62 rfl ?_
                refine x_iadd C d_M_settle_64 ⟨by omega, by omega⟩ ?_
                refine x_if_le (tgt := 72) C d_M_settle_65 rfl (fun h65 => ?_) (fun h65 => ?_)
                · refine x_iconst C d_M_settle_72 (by decide) ?_
                  exact J80 _ hf0 hu0
                · exact absurd h65 (by omega)
              · exact absurd h52 (by omega)
            · exact absurd h35 (by omega)
      refine x_iload_n C d_M_settle_4 rfl rfl ?_
      refine x_sipush C d_M_settle_5 (by decide) (by decide) ?_
      refine x_icmp_ge (tgt := 80) C d_M_settle_8 rfl (fun h8 => ?_) (fun h8 => ?_)
      · exact absurd h8 (by omega)
      · refine x_iload_n C d_M_settle_11 rfl rfl ?_
        refine x_if_eq (tgt := 80) C d_M_settle_12 rfl (fun h12 => ?_) (fun h12 => ?_)
        · exact absurd h12 (by decide)
        · refine x_aload_n C d_M_settle_15 rfl rfl ?_
          refine x_callV C cl_M_162 cb_M_firm cs_M_firm d_M_settle_16 (c_M_firm b3.1 b3.2 b5) rfl rfl rfl rfl rfl (by omega) (by omega) (by decide) (by decide) (Nat.le_of_ble_eq_true rfl) (by omega) (by omega) ?_
          rintro _ _ _ ⟨rfl, rfl, rfl⟩ -
          skip
          rw [hf]
          refine x_istore_n C d_M_settle_19 rfl (by decide) ?_
          refine x_iload_n C d_M_settle_20 rfl rfl ?_
          refine x_if_le (tgt := 28) C d_M_settle_21 rfl (fun h21 => ?_) (fun h21 => ?_)
          · refine x_aload_n C d_M_settle_28 rfl rfl ?_
            refine x_callV C cl_M_166 cb_M_firstFit cs_M_firstFit d_M_settle_29 (c_M_firstFit b1) rfl rfl rfl rfl rfl (by omega) (by omega) (by decide) (by decide) (Nat.le_of_ble_eq_true rfl) (by omega) (by omega) ?_
            rintro _ _ _ ⟨rfl, rfl, rfl⟩ -
            skip
            rw [hu]
            exact J32 _ (by first | exact (if_pos (by omega)).symm | exact (if_neg (by omega)).symm)
          · refine x_iconst C d_M_settle_24 (by decide) ?_
            refine x_goto (tgt := 32) C d_M_settle_25 rfl ?_
            exact J32 _ (by first | exact (if_pos (by omega)).symm | exact (if_neg (by omega)).symm)
  refine x_iconst C d_M_settle_0 (by decide) ?_
  refine x_istore_n C d_M_settle_1 rfl (by decide) ?_
  refine x_iconst C d_M_settle_2 (by decide) ?_
  refine x_istore_n C d_M_settle_3 rfl (by decide) ?_
  exact loop 1000 0 σ none none (by omega) hP rfl
theorem c_M_up {σ : Hp} : Ok LyM TM y_M_up b_M_up 1 (some .boolean) 1 0 0 [.inr 1] 28 σ (pI 28 σ (if σ 1 32 = 0 then 1 else 0)) := by
  refine ok_mk (by decide) (Nat.le_of_ble_eq_true rfl) (fun K C rt ha hok hfx => ?_)
  show XW LyM TM K 28 σ 0 0 0 [some (.inr 1)] []
  refine x_aload_n C d_M_up_0 rfl rfl ?_
  refine x_getI C 32 cf_M fl_M_172 d_M_up_1 rfl (by decide) rfl rfl (by omega) (by omega) (fun r1 => ?_)
  refine x_if_ne (tgt := 11) C d_M_up_4 rfl (fun h4 => ?_) (fun h4 => ?_)
  · refine x_iconst C d_M_up_11 (by decide) ?_
    exact x_zret rt d_M_up_12 (by omega) (by omega) ⟨by decide, by decide⟩ ⟨by simp [h4], rfl, rfl⟩
  · refine x_iconst C d_M_up_7 (by decide) ?_
    refine x_goto (tgt := 12) C d_M_up_8 rfl ?_
    exact x_zret rt d_M_up_12 (by omega) (by omega) ⟨by decide, by decide⟩ ⟨by simp [h4], rfl, rfl⟩
theorem c_M_known {σ : Hp} {t : Int} : Ok LyM TM y_M_known b_M_known 2 (some .boolean) 1 0 0 [.inr 1, .inl t] 28 σ (pI 28 σ (b2i (m_known σ t))) := by
  refine ok_mk (by decide) (Nat.le_of_ble_eq_true rfl) (fun K C rt ha hok hfx => ?_)
  show XW LyM TM K 28 σ 0 0 0 [some (.inr 1), some (.inl t)] []
  refine x_iload_n C d_M_known_0 rfl rfl ?_
  refine x_iconst C d_M_known_1 (by decide) ?_
  refine x_icmp_lt (tgt := 17) C d_M_known_2 rfl (fun h2 => ?_) (fun h2 => ?_)
  · refine x_iconst C d_M_known_17 (by decide) ?_
    exact x_zret rt d_M_known_18 (by omega) (by omega) ⟨by decide, by decide⟩ ⟨by grind [m_known, b2i], rfl, rfl⟩
  · refine x_iload_n C d_M_known_5 rfl rfl ?_
    refine x_aload_n C d_M_known_6 rfl rfl ?_
    refine x_getI C 22 cf_M fl_M_138 d_M_known_7 rfl (by decide) rfl rfl (by omega) (by omega) (fun r7 => ?_)
    refine x_icmp_gt (tgt := 17) C d_M_known_10 rfl (fun h10 => ?_) (fun h10 => ?_)
    · refine x_iconst C d_M_known_17 (by decide) ?_
      exact x_zret rt d_M_known_18 (by omega) (by omega) ⟨by decide, by decide⟩ ⟨by grind [m_known, b2i], rfl, rfl⟩
    · refine x_iconst C d_M_known_13 (by decide) ?_
      refine x_goto (tgt := 18) C d_M_known_14 rfl ?_
      exact x_zret rt d_M_known_18 (by omega) (by omega) ⟨by decide, by decide⟩ ⟨by grind [m_known, b2i], rfl, rfl⟩
theorem c_M_state {σ : Hp} {t : Int} (hb : σ 1 22 ≤ 60) : Ok LyM TM y_M_state b_M_state 2 (some .int) 2 0 0 [.inr 1, .inl t] 28 σ (pI 28 σ (if m_known σ t = true then σ 19 t else 0)) := by
  refine ok_mk (by decide) (Nat.le_of_ble_eq_true rfl) (fun K C rt ha hok hfx => ?_)
  show XW LyM TM K 28 σ 0 0 0 [some (.inr 1), some (.inl t)] []
  refine x_aload_n C d_M_state_0 rfl rfl ?_
  refine x_iload_n C d_M_state_1 rfl rfl ?_
  refine x_callV C cl_M_216 cb_M_known cs_M_known d_M_state_2 (c_M_known) rfl rfl rfl rfl rfl (by omega) (by omega) (by decide) (by decide) (Nat.le_of_ble_eq_true rfl) (by omega) (by omega) ?_
  rintro _ _ _ ⟨rfl, rfl, rfl⟩ -
  skip
  refine x_if_eq (tgt := 17) C d_M_state_5 rfl (fun h5 => ?_) (fun h5 => ?_)
  · refine x_iconst C d_M_state_17 (by decide) ?_
    exact x_iret rt d_M_state_18 (by omega) (by omega) ⟨by grind [b2i], rfl, rfl⟩
  · have hkn : 1 ≤ t ∧ t ≤ σ 1 22 := by grind [m_known, b2i]
    refine x_aload_n C d_M_state_8 rfl rfl ?_
    refine x_getC C 23 19 cf_M fl_M_61 d_M_state_9 rfl rfl rfl (by omega) (by omega) rfl ?_
    refine x_iload_n C d_M_state_12 rfl rfl ?_
    refine x_iald C d_M_state_13 rfl (by omega) (by omega) (by omega) (by omega) (fun r13 => ?_)
    refine x_goto (tgt := 18) C d_M_state_14 rfl ?_
    exact x_iret rt d_M_state_18 (by omega) (by omega) ⟨by grind [b2i], rfl, rfl⟩
theorem c_M_outcome {σ : Hp} {t : Int} (hb : σ 1 22 ≤ 60) : Ok LyM TM y_M_outcome b_M_outcome 2 (some .int) 2 0 0 [.inr 1, .inl t] 28 σ (pI 28 σ (if m_known σ t = true then σ 20 t else -1)) := by
  refine ok_mk (by decide) (Nat.le_of_ble_eq_true rfl) (fun K C rt ha hok hfx => ?_)
  show XW LyM TM K 28 σ 0 0 0 [some (.inr 1), some (.inl t)] []
  refine x_aload_n C d_M_outcome_0 rfl rfl ?_
  refine x_iload_n C d_M_outcome_1 rfl rfl ?_
  refine x_callV C cl_M_216 cb_M_known cs_M_known d_M_outcome_2 (c_M_known) rfl rfl rfl rfl rfl (by omega) (by omega) (by decide) (by decide) (Nat.le_of_ble_eq_true rfl) (by omega) (by omega) ?_
  rintro _ _ _ ⟨rfl, rfl, rfl⟩ -
  skip
  refine x_if_eq (tgt := 17) C d_M_outcome_5 rfl (fun h5 => ?_) (fun h5 => ?_)
  · refine x_iconst C d_M_outcome_17 (by decide) ?_
    exact x_iret rt d_M_outcome_18 (by omega) (by omega) ⟨by grind [b2i], rfl, rfl⟩
  · have hkn : 1 ≤ t ∧ t ≤ σ 1 22 := by grind [m_known, b2i]
    refine x_aload_n C d_M_outcome_8 rfl rfl ?_
    refine x_getC C 24 20 cf_M fl_M_64 d_M_outcome_9 rfl rfl rfl (by omega) (by omega) rfl ?_
    refine x_iload_n C d_M_outcome_12 rfl rfl ?_
    refine x_iald C d_M_outcome_13 rfl (by omega) (by omega) (by omega) (by omega) (fun r13 => ?_)
    refine x_goto (tgt := 18) C d_M_outcome_14 rfl ?_
    exact x_iret rt d_M_outcome_18 (by omega) (by omega) ⟨by grind [b2i], rfl, rfl⟩
theorem c_M_value {σ : Hp} {t : Int} (hb : σ 1 22 ≤ 60) : Ok LyM TM y_M_value b_M_value 2 (some .int) 2 0 0 [.inr 1, .inl t] 28 σ (pI 28 σ (if m_known σ t = true then σ 21 t else 0)) := by
  refine ok_mk (by decide) (Nat.le_of_ble_eq_true rfl) (fun K C rt ha hok hfx => ?_)
  show XW LyM TM K 28 σ 0 0 0 [some (.inr 1), some (.inl t)] []
  refine x_aload_n C d_M_value_0 rfl rfl ?_
  refine x_iload_n C d_M_value_1 rfl rfl ?_
  refine x_callV C cl_M_216 cb_M_known cs_M_known d_M_value_2 (c_M_known) rfl rfl rfl rfl rfl (by omega) (by omega) (by decide) (by decide) (Nat.le_of_ble_eq_true rfl) (by omega) (by omega) ?_
  rintro _ _ _ ⟨rfl, rfl, rfl⟩ -
  skip
  refine x_if_eq (tgt := 17) C d_M_value_5 rfl (fun h5 => ?_) (fun h5 => ?_)
  · refine x_iconst C d_M_value_17 (by decide) ?_
    exact x_iret rt d_M_value_18 (by omega) (by omega) ⟨by grind [b2i], rfl, rfl⟩
  · have hkn : 1 ≤ t ∧ t ≤ σ 1 22 := by grind [m_known, b2i]
    refine x_aload_n C d_M_value_8 rfl rfl ?_
    refine x_getC C 25 21 cf_M fl_M_67 d_M_value_9 rfl rfl rfl (by omega) (by omega) rfl ?_
    refine x_iload_n C d_M_value_12 rfl rfl ?_
    refine x_iald C d_M_value_13 rfl (by omega) (by omega) (by omega) (by omega) (fun r13 => ?_)
    refine x_goto (tgt := 18) C d_M_value_14 rfl ?_
    exact x_iret rt d_M_value_18 (by omega) (by omega) ⟨by grind [b2i], rfl, rfl⟩
theorem c_M_place {σ : Hp} {key : Int} : Ok LyM TM y_M_place b_M_place 2 (some .int) 3 0 0 [.inr 1, .inl key] 28 σ (pI 28 σ (m_place σ key)) := by
  refine ok_mk (by decide) (Nat.le_of_ble_eq_true rfl) (fun K C rt ha hok hfx => ?_)
  show XW LyM TM K 28 σ 0 0 0 [some (.inr 1), some (.inl key)] []
  refine x_iload_n C d_M_place_0 rfl rfl ?_
  refine x_if_lt (tgt := 10) C d_M_place_1 rfl (fun h1 => ?_) (fun h1 => ?_)
  · refine x_iconst C d_M_place_10 (by decide) ?_
    refine x_goto (tgt := 19) C d_M_place_11 rfl ?_
    exact x_iret rt d_M_place_19 (by omega) (by omega) ⟨by simp only [m_place]; first | rw [if_pos (by omega)] | rw [if_neg (by omega)], rfl, rfl⟩
  · refine x_iload_n C d_M_place_4 rfl rfl ?_
    refine x_bipush C d_M_place_5 (by decide) (by decide) ?_
    refine x_icmp_le (tgt := 14) C d_M_place_7 rfl (fun h7 => ?_) (fun h7 => ?_)
    · refine x_aload_n C d_M_place_14 rfl rfl ?_
      refine x_iload_n C d_M_place_15 rfl rfl ?_
      refine x_callV C cl_M_144 cb_M_find cs_M_find d_M_place_16 (c_M_find) rfl rfl rfl rfl rfl (by omega) (by omega) (by decide) (by decide) (Nat.le_of_ble_eq_true rfl) (by omega) (by omega) ?_
      rintro _ _ _ ⟨rfl, rfl, rfl⟩ -
      skip
      exact x_iret rt d_M_place_19 (by omega) (by omega) ⟨by simp only [m_place]; first | rw [if_pos (by omega)] | rw [if_neg (by omega)], rfl, rfl⟩
    · refine x_iconst C d_M_place_10 (by decide) ?_
      refine x_goto (tgt := 19) C d_M_place_11 rfl ?_
      exact x_iret rt d_M_place_19 (by omega) (by omega) ⟨by simp only [m_place]; first | rw [if_pos (by omega)] | rw [if_neg (by omega)], rfl, rfl⟩
theorem c_M_stored {σ : Hp} {key : Int} : Ok LyM TM y_M_stored b_M_stored 3 (some .int) 4 0 0 [.inr 1, .inl key] 28 σ (pI 28 σ (if m_place σ key < 0 then 0 else m_valueAt σ (m_place σ key))) := by
  refine ok_mk (by decide) (Nat.le_of_ble_eq_true rfl) (fun K C rt ha hok hfx => ?_)
  show XW LyM TM K 28 σ 0 0 0 [some (.inr 1), some (.inl key), none] []
  have hp : m_place σ key < 24 := by
    have := m_find_lt σ key
    simp only [m_place]
    split <;> omega
  refine x_aload_n C d_M_stored_0 rfl rfl ?_
  refine x_iload_n C d_M_stored_1 rfl rfl ?_
  refine x_callV C cl_M_219 cb_M_place cs_M_place d_M_stored_2 (c_M_place) rfl rfl rfl rfl rfl (by omega) (by omega) (by decide) (by decide) (Nat.le_of_ble_eq_true rfl) (by omega) (by omega) ?_
  rintro _ _ _ ⟨rfl, rfl, rfl⟩ -
  skip
  refine x_istore_n C d_M_stored_5 rfl (by decide) ?_
  refine x_iload_n C d_M_stored_6 rfl rfl ?_
  refine x_if_ge (tgt := 14) C d_M_stored_7 rfl (fun h7 => ?_) (fun h7 => ?_)
  · refine x_aload_n C d_M_stored_14 rfl rfl ?_
    refine x_iload_n C d_M_stored_15 rfl rfl ?_
    refine x_callV C cl_M_222 cb_M_valueAt cs_M_valueAt d_M_stored_16 (c_M_valueAt h7 hp) rfl rfl rfl rfl rfl (by omega) (by omega) (by decide) (by decide) (Nat.le_of_ble_eq_true rfl) (by omega) (by omega) ?_
    rintro _ _ _ ⟨rfl, rfl, rfl⟩ -
    skip
    exact x_iret rt d_M_stored_19 (by omega) (by omega) ⟨by first | rw [if_pos h7] | rw [if_neg (by omega)], rfl, rfl⟩
  · refine x_iconst C d_M_stored_10 (by decide) ?_
    refine x_goto (tgt := 19) C d_M_stored_11 rfl ?_
    exact x_iret rt d_M_stored_19 (by omega) (by omega) ⟨by first | rw [if_pos h7] | rw [if_neg (by omega)], rfl, rfl⟩
theorem c_M_count {σ : Hp} {w : Int} : Ok LyM TM y_M_count b_M_count 2 (some .int) 1 0 0 [.inr 1, .inl w] 28 σ (pI 28 σ (if w = 0 then σ 1 0 else if w = 1 then σ 1 1 else if w = 2 then σ 1 20 else if w = 3 then σ 1 21 else -1)) := by
  refine ok_mk (by decide) (Nat.le_of_ble_eq_true rfl) (fun K C rt ha hok hfx => ?_)
  show XW LyM TM K 28 σ 0 0 0 [some (.inr 1), some (.inl w)] []
  refine x_iload_n C d_M_count_0 rfl rfl ?_
  refine x_if_ne (tgt := 11) C d_M_count_1 rfl (fun h1 => ?_) (fun h1 => ?_)
  · refine x_iload_n C d_M_count_11 rfl rfl ?_
    refine x_iconst C d_M_count_12 (by decide) ?_
    refine x_icmp_ne (tgt := 23) C d_M_count_13 rfl (fun h13 => ?_) (fun h13 => ?_)
    · refine x_iload_n C d_M_count_23 rfl rfl ?_
      refine x_iconst C d_M_count_24 (by decide) ?_
      refine x_icmp_ne (tgt := 35) C d_M_count_25 rfl (fun h25 => ?_) (fun h25 => ?_)
      · refine x_iload_n C d_M_count_35 rfl rfl ?_
        refine x_iconst C d_M_count_36 (by decide) ?_
        refine x_icmp_ne (tgt := 47) C d_M_count_37 rfl (fun h37 => ?_) (fun h37 => ?_)
        · refine x_iconst C d_M_count_47 (by decide) ?_
          exact x_iret rt d_M_count_48 (by omega) (by omega) ⟨by grind, rfl, rfl⟩
        · refine x_aload_n C d_M_count_40 rfl rfl ?_
          refine x_getI C 21 cf_M fl_M_101 d_M_count_41 rfl (by decide) rfl rfl (by omega) (by omega) (fun r41 => ?_)
          refine x_goto (tgt := 48) C d_M_count_44 rfl ?_
          exact x_iret rt d_M_count_48 (by omega) (by omega) ⟨by grind, rfl, rfl⟩
      · refine x_aload_n C d_M_count_28 rfl rfl ?_
        refine x_getI C 20 cf_M fl_M_111 d_M_count_29 rfl (by decide) rfl rfl (by omega) (by omega) (fun r29 => ?_)
        refine x_goto (tgt := 48) C d_M_count_32 rfl ?_
        exact x_iret rt d_M_count_48 (by omega) (by omega) ⟨by grind, rfl, rfl⟩
    · refine x_aload_n C d_M_count_16 rfl rfl ?_
      refine x_getI C 1 cf_M fl_M_97 d_M_count_17 rfl (by decide) rfl rfl (by omega) (by omega) (fun r17 => ?_)
      refine x_goto (tgt := 48) C d_M_count_20 rfl ?_
      exact x_iret rt d_M_count_48 (by omega) (by omega) ⟨by grind, rfl, rfl⟩
  · refine x_aload_n C d_M_count_4 rfl rfl ?_
    refine x_getI C 0 cf_M fl_M_114 d_M_count_5 rfl (by decide) rfl rfl (by omega) (by omega) (fun r5 => ?_)
    refine x_goto (tgt := 48) C d_M_count_8 rfl ?_
    exact x_iret rt d_M_count_48 (by omega) (by omega) ⟨by grind, rfl, rfl⟩
theorem c_M_page {σ : Hp} {p w : Int} : Ok LyM TM y_M_page b_M_page 3 (some .int) 1 0 0 [.inr 1, .inl p, .inl w] 28 σ (pI 28 σ (m_pageA σ p w)) := by
  refine ok_mk (by decide) (Nat.le_of_ble_eq_true rfl) (fun K C rt ha hok hfx => ?_)
  show XW LyM TM K 28 σ 0 0 0 [some (.inr 1), some (.inl p), some (.inl w)] []
  refine x_iload_n C d_M_page_0 rfl rfl ?_
  refine x_if_lt (tgt := 18) C d_M_page_1 rfl (fun h1 => ?_) (fun h1 => ?_)
  · refine x_iconst C d_M_page_18 (by decide) ?_
    exact x_iret rt d_M_page_19 (by omega) (by omega) ⟨by grind [m_pageA], rfl, rfl⟩
  · refine x_iload_n C d_M_page_4 rfl rfl ?_
    refine x_iconst C d_M_page_5 (by decide) ?_
    refine x_icmp_gt (tgt := 18) C d_M_page_6 rfl (fun h6 => ?_) (fun h6 => ?_)
    · refine x_iconst C d_M_page_18 (by decide) ?_
      exact x_iret rt d_M_page_19 (by omega) (by omega) ⟨by grind [m_pageA], rfl, rfl⟩
    · refine x_iload_n C d_M_page_9 rfl rfl ?_
      refine x_if_lt (tgt := 18) C d_M_page_10 rfl (fun h10 => ?_) (fun h10 => ?_)
      · refine x_iconst C d_M_page_18 (by decide) ?_
        exact x_iret rt d_M_page_19 (by omega) (by omega) ⟨by grind [m_pageA], rfl, rfl⟩
      · refine x_iload_n C d_M_page_13 rfl rfl ?_
        refine x_iconst C d_M_page_14 (by decide) ?_
        refine x_icmp_le (tgt := 20) C d_M_page_15 rfl (fun h15 => ?_) (fun h15 => ?_)
        · refine x_iload_n C d_M_page_20 rfl rfl ?_
          refine x_iconst C d_M_page_21 (by decide) ?_
          refine x_icmp_ne (tgt := 32) C d_M_page_22 rfl (fun h22 => ?_) (fun h22 => ?_)
          · refine x_aload_n C d_M_page_32 rfl rfl ?_
            refine x_getC C 18 18 cf_M fl_M_58 d_M_page_33 rfl rfl rfl (by omega) (by omega) rfl ?_
            refine x_iload_n C d_M_page_36 rfl rfl ?_
            refine x_iald C d_M_page_37 rfl (by omega) (by omega) (by omega) (by omega) (fun r37 => ?_)
            refine x_if_ne (tgt := 45) C d_M_page_38 rfl (fun h38 => ?_) (fun h38 => ?_)
            · refine x_iload_n C d_M_page_45 rfl rfl ?_
              refine x_if_ne (tgt := 58) C d_M_page_46 rfl (fun h46 => ?_) (fun h46 => ?_)
              · refine x_aload_n C d_M_page_58 rfl rfl ?_
                refine x_getC C 16 16 cf_M fl_M_52 d_M_page_59 rfl rfl rfl (by omega) (by omega) rfl ?_
                refine x_iload_n C d_M_page_62 rfl rfl ?_
                refine x_iald C d_M_page_63 rfl (by omega) (by omega) (by omega) (by omega) (fun r63 => ?_)
                exact x_iret rt d_M_page_64 (by omega) (by omega) ⟨by grind [m_pageA], rfl, rfl⟩
              · refine x_aload_n C d_M_page_49 rfl rfl ?_
                refine x_getC C 17 17 cf_M fl_M_55 d_M_page_50 rfl rfl rfl (by omega) (by omega) rfl ?_
                refine x_iload_n C d_M_page_53 rfl rfl ?_
                refine x_iald C d_M_page_54 rfl (by omega) (by omega) (by omega) (by omega) (fun r54 => ?_)
                refine x_goto (tgt := 64) C d_M_page_55 rfl ?_
                exact x_iret rt d_M_page_64 (by omega) (by omega) ⟨by grind [m_pageA], rfl, rfl⟩
            · refine x_iconst C d_M_page_41 (by decide) ?_
              refine x_goto (tgt := 64) C d_M_page_42 rfl ?_
              exact x_iret rt d_M_page_64 (by omega) (by omega) ⟨by grind [m_pageA], rfl, rfl⟩
          · refine x_aload_n C d_M_page_25 rfl rfl ?_
            refine x_getC C 13 13 cf_M fl_M_43 d_M_page_26 rfl rfl rfl (by omega) (by omega) rfl ?_
            refine x_iload_n C d_M_page_29 rfl rfl ?_
            refine x_iald C d_M_page_30 rfl (by omega) (by omega) (by omega) (by omega) (fun r30 => ?_)
            exact x_iret rt d_M_page_31 (by omega) (by omega) ⟨by grind [m_pageA], rfl, rfl⟩
        · refine x_iconst C d_M_page_18 (by decide) ?_
          exact x_iret rt d_M_page_19 (by omega) (by omega) ⟨by grind [m_pageA], rfl, rfl⟩
theorem c_M_after {σ : Hp} {key : Int} : Ok LyM TM y_M_after b_M_after 3 (some .int) 3 0 0 [.inr 1, .inl key] 28 σ (pI 28 σ (m_afterA σ key)) := by
  refine ok_mk (by decide) (Nat.le_of_ble_eq_true rfl) (fun K C rt ha hok hfx => ?_)
  show XW LyM TM K 28 σ 0 0 0 [some (.inr 1), some (.inl key), none] []
  have loop : ∀ (k : Nat) (x : Int), 0 ≤ x → x + k = 100 → srch (fun k => decide (0 ≤ m_find σ k)) x k = m_after σ key → XW LyM TM K 28 σ 0 0 23 [some (.inr 1), some (.inl key), some (.inl x)] [] := by
    intro k
    induction k with
    | zero =>
      intro x hx hk hm
      refine x_iload_n C d_M_after_23 rfl rfl ?_
      refine x_bipush C d_M_after_24 (by decide) (by decide) ?_
      refine x_icmp_ge (tgt := 52) C d_M_after_26 rfl (fun h26 => ?_) (fun h26 => ?_)
      · refine x_iconst C d_M_after_52 (by decide) ?_
        exact x_iret rt d_M_after_53 (by omega) (by omega) ⟨by simp only [m_afterA]; rw [← hm]; simp [srch], rfl, rfl⟩
      · exact absurd h26 (by omega)
    | succ k ih =>
      intro x hx hk hm
      have hs : srch (fun k => decide (0 ≤ m_find σ k)) x (k + 1) = if (decide (0 ≤ m_find σ x)) = true then x else srch (fun k => decide (0 ≤ m_find σ k)) (x + 1) k := rfl
      rw [hs] at hm
      refine x_iload_n C d_M_after_23 rfl rfl ?_
      refine x_bipush C d_M_after_24 (by decide) (by decide) ?_
      refine x_icmp_ge (tgt := 52) C d_M_after_26 rfl (fun h26 => ?_) (fun h26 => ?_)
      · exact absurd h26 (by omega)
      · refine x_aload_n C d_M_after_29 rfl rfl ?_
        refine x_getI C 32 cf_M fl_M_172 d_M_after_30 rfl (by decide) rfl rfl (by omega) (by omega) (fun r30 => ?_)
        refine x_if_ne (tgt := 52) C d_M_after_33 rfl (fun h33 => ?_) (fun h33 => ?_)
        · refine x_iconst C d_M_after_52 (by decide) ?_
          exact x_iret rt d_M_after_53 (by omega) (by omega) ⟨by simp only [m_afterA]; rw [← hm]; simp [*], rfl, rfl⟩
        · refine x_aload_n C d_M_after_36 rfl rfl ?_
          refine x_iload_n C d_M_after_37 rfl rfl ?_
          refine x_callV C cl_M_144 cb_M_find cs_M_find d_M_after_38 (c_M_find) rfl rfl rfl rfl rfl (by omega) (by omega) (by decide) (by decide) (Nat.le_of_ble_eq_true rfl) (by omega) (by omega) ?_
          rintro _ _ _ ⟨rfl, rfl, rfl⟩ -
          skip
          refine x_if_lt (tgt := 46) C d_M_after_41 rfl (fun h41 => ?_) (fun h41 => ?_)
          · refine x_iinc C d_M_after_46 (by decide) rfl ⟨by omega, by omega⟩ ?_
            refine x_goto (tgt := 23) C d_M_after_49 rfl ?_
            exact ih (x + 1) (by omega) (by omega) (by rw [← hm, if_neg (by simp; omega)])
          · refine x_iload_n C d_M_after_44 rfl rfl ?_
            exact x_iret rt d_M_after_45 (by omega) (by omega) ⟨by simp only [m_afterA]; rw [← hm]; simp [*], rfl, rfl⟩
  have J22 : ∀ z : Int, z = (if key < 0 then 0 else if 99 ≤ key then 100 else key + 1) → XW LyM TM K 28 σ 0 0 22 [some (.inr 1), some (.inl key), none] [.inl z] := by
    intro z hz
    have hz2 : (if key < 0 then 100 else if 99 ≤ key then 0 else (99 - key).toNat : Nat) = (100 - z).toNat ∧ 0 ≤ z ∧ z ≤ 100 := by
      rw [hz]
      by_cases k1 : key < 0
      · rw [if_pos k1, if_pos k1]; decide
      · rw [if_neg k1, if_neg k1]
        by_cases k2 : 99 ≤ key
        · rw [if_pos k2, if_pos k2]; decide
        · rw [if_neg k2, if_neg k2]; omega
    obtain ⟨hz2, hzr⟩ := hz2
    have hl := loop (100 - z).toNat z hzr.1 (by omega) (by rw [m_after, ← hz, hz2])
    refine x_istore_n C d_M_after_22 rfl (by decide) ?_
    exact hl
  refine x_iload_n C d_M_after_0 rfl rfl ?_
  refine x_if_ge (tgt := 8) C d_M_after_1 rfl (fun h1 => ?_) (fun h1 => ?_)
  · refine x_iload_n C d_M_after_8 rfl rfl ?_
    refine x_bipush C d_M_after_9 (by decide) (by decide) ?_
    refine x_icmp_lt (tgt := 19) C d_M_after_11 rfl (fun h11 => ?_) (fun h11 => ?_)
    · refine x_iload_n C d_M_after_19 rfl rfl ?_
      refine x_iconst C d_M_after_20 (by decide) ?_
      refine x_iadd C d_M_after_21 ⟨by omega, by omega⟩ ?_
      exact J22 _ (by grind)
    · refine x_bipush C d_M_after_14 (by decide) (by decide) ?_
      refine x_goto (tgt := 22) C d_M_after_16 rfl ?_
      exact J22 _ (by grind)
  · refine x_iconst C d_M_after_4 (by decide) ?_
    refine x_goto (tgt := 22) C d_M_after_5 rfl ?_
    exact J22 _ (by grind)
theorem c_M_begin {σ : Hp} (h0 : 0 ≤ σ 1 22) (h1 : σ 1 22 ≤ 60) : Ok LyM TM y_M_begin b_M_begin 3 (some .int) 2 0 0 [.inr 1] 28 σ (pI 28 (m_begin σ).2 (m_begin σ).1) := by
  refine ok_mk (by decide) (Nat.le_of_ble_eq_true rfl) (fun K C rt ha hok hfx => ?_)
  show XW LyM TM K 28 σ 0 0 0 [some (.inr 1), none, none] []
  have loop : ∀ (q i : Nat), (i : Int) + q = σ 1 22 → XW LyM TM K 28 σ 0 0 4 [some (.inr 1), some (.inl (cntU (m_live σ) i)), some (.inl ((i : Int) + 1))] [] := by
    intro q
    induction q with
    | zero =>
      intro i hi
      have e : i = (σ 1 22).toNat := by omega
      rw [e]
      refine x_iload_n C d_M_begin_4 rfl rfl ?_
      refine x_aload_n C d_M_begin_5 rfl rfl ?_
      refine x_getI C 22 cf_M fl_M_138 d_M_begin_6 rfl (by decide) rfl rfl (by omega) (by omega) (fun r6 => ?_)
      refine x_icmp_gt (tgt := 34) C d_M_begin_9 rfl (fun h9 => ?_) (fun h9 => ?_)
      · refine x_aload_n C d_M_begin_34 rfl rfl ?_
        refine x_getI C 32 cf_M fl_M_172 d_M_begin_35 rfl (by decide) rfl rfl (by omega) (by omega) (fun r35 => ?_)
        refine x_if_ne (tgt := 55) C d_M_begin_38 rfl (fun h38 => ?_) (fun h38 => ?_)
        · refine x_iconst C d_M_begin_55 (by decide) ?_
          exact x_iret rt d_M_begin_56 (by omega) (by omega) ⟨by first | (rw [m_begin, if_pos (by omega)]) | (rw [m_begin, if_neg (by omega)]), rfl, by first | (rw [m_begin, if_pos (by omega)]) | (rw [m_begin, if_neg (by omega)])⟩
        · refine x_iload_n C d_M_begin_41 rfl rfl ?_
          refine x_iconst C d_M_begin_42 (by decide) ?_
          refine x_icmp_ge (tgt := 55) C d_M_begin_43 rfl (fun h43 => ?_) (fun h43 => ?_)
          · refine x_iconst C d_M_begin_55 (by decide) ?_
            exact x_iret rt d_M_begin_56 (by omega) (by omega) ⟨by first | (rw [m_begin, if_pos (by omega)]) | (rw [m_begin, if_neg (by omega)]), rfl, by first | (rw [m_begin, if_pos (by omega)]) | (rw [m_begin, if_neg (by omega)])⟩
          · refine x_aload_n C d_M_begin_46 rfl rfl ?_
            refine x_getI C 22 cf_M fl_M_138 d_M_begin_47 rfl (by decide) rfl rfl (by omega) (by omega) (fun r47 => ?_)
            refine x_bipush C d_M_begin_50 (by decide) (by decide) ?_
            refine x_icmp_lt (tgt := 57) C d_M_begin_52 rfl (fun h52 => ?_) (fun h52 => ?_)
            · refine x_aload_n C d_M_begin_57 rfl rfl ?_
              refine x_dup C d_M_begin_58 ?_
              refine x_getI C 22 cf_M fl_M_138 d_M_begin_59 rfl (by decide) rfl rfl (by omega) (by omega) (fun r59 => ?_)
              refine x_iconst C d_M_begin_62 (by decide) ?_
              refine x_iadd C d_M_begin_63 ⟨by omega, by omega⟩ ?_
              refine x_putI C 22 rfl cf_M fl_M_138 d_M_begin_64 rfl (Or.inl ⟨rfl, rfl⟩) rfl rfl rfl (by omega) (by omega) ?_
              refine x_aload_n C d_M_begin_67 rfl rfl ?_
              refine x_getC C 23 19 cf_M fl_M_61 d_M_begin_68 rfl rfl rfl (by omega) (by omega) rfl ?_
              refine x_aload_n C d_M_begin_71 rfl rfl ?_
              refine x_getI C 22 cf_M fl_M_138 d_M_begin_72 rfl (by decide) rfl rfl (by omega) (by omega) (fun r72 => ?_)
              refine x_iconst C d_M_begin_75 (by decide) ?_
              refine x_iast C d_M_begin_76 rfl rfl (by omega) (by omega) (by simp [st2]; omega) (by simp [st2]; omega) ?_
              refine x_aload_n C d_M_begin_77 rfl rfl ?_
              refine x_getC C 24 20 cf_M fl_M_64 d_M_begin_78 rfl rfl rfl (by omega) (by omega) rfl ?_
              refine x_aload_n C d_M_begin_81 rfl rfl ?_
              refine x_getI C 22 cf_M fl_M_138 d_M_begin_82 rfl (by decide) rfl rfl (by omega) (by omega) (fun r82 => ?_)
              refine x_iconst C d_M_begin_85 (by decide) ?_
              refine x_iast C d_M_begin_86 rfl rfl (by omega) (by omega) (by simp [st2]; omega) (by simp [st2]; omega) ?_
              refine x_aload_n C d_M_begin_87 rfl rfl ?_
              refine x_getI C 22 cf_M fl_M_138 d_M_begin_88 rfl (by decide) rfl rfl (by omega) (by omega) (fun r88 => ?_)
              exact x_iret rt d_M_begin_91 (by omega) (by omega) ⟨by first | (rw [m_begin, if_pos (by omega)]) | (rw [m_begin, if_neg (by omega)]), rfl, by first | (rw [m_begin, if_pos (by omega)]) | (rw [m_begin, if_neg (by omega)])⟩
            · refine x_iconst C d_M_begin_55 (by decide) ?_
              exact x_iret rt d_M_begin_56 (by omega) (by omega) ⟨by first | (rw [m_begin, if_pos (by omega)]) | (rw [m_begin, if_neg (by omega)]), rfl, by first | (rw [m_begin, if_pos (by omega)]) | (rw [m_begin, if_neg (by omega)])⟩
      · exact absurd h9 (by omega)
    | succ q ih =>
      intro i hi
      have hb := cntU_le (m_live σ) i
      have ih2 := ih (i + 1) (by omega)
      rw [show cntU (m_live σ) (i + 1) = cntU (m_live σ) i + b2i (m_live σ ((i : Int) + 1)) from rfl] at ih2
      generalize cntU (m_live σ) i = cn at *
      have J : ∀ v : Int, v = b2i (m_live σ ((i : Int) + 1)) → XW LyM TM K 28 σ 0 0 26 [some (.inr 1), some (.inl cn), some (.inl ((i : Int) + 1))] [.inl v, .inl cn] := by
        intro v hv
        have hv2 := b2i_b (m_live σ ((i : Int) + 1))
        subst hv
        refine x_iadd C d_M_begin_26 ⟨by omega, by omega⟩ ?_
        refine x_istore_n C d_M_begin_27 rfl (by decide) ?_
        refine x_iinc C d_M_begin_28 (by decide) rfl ⟨by omega, by omega⟩ ?_
        refine x_goto (tgt := 4) C d_M_begin_31 rfl ?_
        exact ih2
      refine x_iload_n C d_M_begin_4 rfl rfl ?_
      refine x_aload_n C d_M_begin_5 rfl rfl ?_
      refine x_getI C 22 cf_M fl_M_138 d_M_begin_6 rfl (by decide) rfl rfl (by omega) (by omega) (fun r6 => ?_)
      refine x_icmp_gt (tgt := 34) C d_M_begin_9 rfl (fun h9 => ?_) (fun h9 => ?_)
      · exact absurd h9 (by omega)
      · refine x_iload_n C d_M_begin_12 rfl rfl ?_
        refine x_aload_n C d_M_begin_13 rfl rfl ?_
        refine x_iload_n C d_M_begin_14 rfl rfl ?_
        refine x_callV C cl_M_176 cb_M_live cs_M_live d_M_begin_15 (c_M_live (by omega) (by omega)) rfl rfl rfl rfl rfl (by omega) (by omega) (by decide) (by decide) (Nat.le_of_ble_eq_true rfl) (by omega) (by omega) ?_
        rintro _ _ _ ⟨rfl, rfl, rfl⟩ -
        skip
        refine x_if_eq (tgt := 25) C d_M_begin_18 rfl (fun h18 => ?_) (fun h18 => ?_)
        · refine x_iconst C d_M_begin_25 (by decide) ?_
          exact J _ (by have := b2i_b (m_live σ ((i : Int) + 1)); omega)
        · refine x_iconst C d_M_begin_21 (by decide) ?_
          refine x_goto (tgt := 26) C d_M_begin_22 rfl ?_
          exact J _ (by have := b2i_b (m_live σ ((i : Int) + 1)); omega)
  refine x_iconst C d_M_begin_0 (by decide) ?_
  refine x_istore_n C d_M_begin_1 rfl (by decide) ?_
  refine x_iconst C d_M_begin_2 (by decide) ?_
  refine x_istore_n C d_M_begin_3 rfl (by decide) ?_
  exact loop (σ 1 22).toNat 0 (by omega)

