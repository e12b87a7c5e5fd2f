-- ===== the class: rolling back, settling, its other calls =====
abbrev OxS (n : Nat) (τ : Hp) : Prop := Ok LyX TX y_X_settle b_X_settle 4 none 6 0 0 [.inr 1] n τ (pV n (f_settle τ))
abbrev OxG (n : Nat) (τ : Hp) (one : Int) : Prop := Ok LyX TX y_X_grant b_X_grant 2 none 5 0 0 [.inr 1, .inr one] n τ (pV n (f_grant τ one))
abbrev OxR (n : Nat) (τ : Hp) (one : Int) : Prop := Ok LyX TX y_X_rollBack b_X_rollBack 3 none 5 0 0 [.inr 1, .inr one] n τ (pV n (f_rollBack τ one))
theorem c_X_rollBack {n : Nat} {σ : Hp} {one : Int} (hn : 85 ≤ n) (hn2 : n ≤ 1000) (o0 : 86 ≤ one) (o1 : one ≤ (n : Int)) (z0 : 0 ≤ σ 2 11) (P : Nat → Hp → Prop) (hP : P (σ 2 11).toNat σ)
    (hs1 : ∀ (k : Nat) (τ : Hp), P (k + 1) τ → τ 4 ((k : Int) + 1) = τ one 0 ∧ f_isOpen τ ((k : Int) + 1) = true → P k (f_takeBack τ ((k : Int) + 1))) (hs2 : ∀ (k : Nat) (τ : Hp), P (k + 1) τ → ¬ (τ 4 ((k : Int) + 1) = τ one 0 ∧ f_isOpen τ ((k : Int) + 1) = true) → P k τ)
    (hb : ∀ (k : Nat) (τ : Hp), P (k + 1) τ → (k : Int) + 1 ≤ 200 ∧ (0 ≤ τ 4 ((k : Int) + 1) ∧ τ 4 ((k : Int) + 1) ≤ 60) ∧ xB τ ∧ 0 ≤ τ 2 11 ∧ (τ 4 ((k : Int) + 1) = τ one 0 ∧ f_isOpen τ ((k : Int) + 1) = true → τ 2 11 < 200 ∧ 0 ≤ τ 5 ((k : Int) + 1) ∧ τ 5 ((k : Int) + 1) < 24))
    (he : ∀ τ : Hp, P 0 τ → 0 ≤ τ one 1 ∧ τ one 1 < 4) : OxR n σ one := by
  refine ok_mk (by decide) (Nat.le_of_ble_eq_true rfl) (fun K C rt ha hok hfx => ?_)
  show XW LyX TX K n σ 0 0 0 [some (.inr 1), some (.inr one), none] []
  have loop : ∀ (k : Nat) (τ : Hp), P k τ → f_rbL one k τ = f_rbL one (σ 2 11).toNat σ → XW LyX TX K n τ 0 0 8 [some (.inr 1), some (.inr one), some (.inl (k : Int))] [] := by
    intro k
    induction k with
    | zero =>
      intro τ hp hm
      have hm : τ = f_rbL one (σ 2 11).toNat σ := hm
      have hee := he τ hp
      refine x_iload_n C d_X_rollBack_8 rfl rfl ?_
      refine x_iconst C d_X_rollBack_9 (by decide) ?_
      refine x_icmp_lt (tgt := 54) C d_X_rollBack_10 rfl (fun h10 => ?_) (fun h10 => ?_)
      · refine x_aload_n C d_X_rollBack_54 rfl rfl ?_
        refine x_getC C 2 76 cf_X fl_X_28 d_X_rollBack_55 rfl rfl rfl (by omega) (by omega) rfl ?_
        refine x_aload_n C d_X_rollBack_58 rfl rfl ?_
        refine x_iconst C d_X_rollBack_59 (by decide) ?_
        refine x_callV C cl_X_255 cb_XV_leave cs_XV_leave d_X_rollBack_60 (c_XV_leave hn hn2 o0 o1 hee.1 hee.2) rfl rfl rfl rfl (by first | rfl | exact lx_T (by omega) | exact lx_C (by omega) (by omega) (by omega)) (by omega) (by omega) (by decide) (by decide) (Nat.le_of_ble_eq_true rfl) (by omega) (by omega) ?_
        rintro _ _ _ ⟨rfl, rfl, rfl⟩ -
        skip
        exact x_vret rt d_X_rollBack_63 (by omega) (by omega) ⟨rfl, rfl, by rw [f_rollBack, ← hm]⟩
      · exact absurd h10 (by decide)
    | succ k ih =>
      intro τ hp hm
      rw [show ((k + 1 : Nat) : Int) = (k : Int) + 1 from rfl]
      obtain ⟨b1, b2, b3, b4, b5⟩ := hb k τ hp
      rw [show f_rbL one (k + 1) τ = f_rbL one k (if τ 4 ((k : Int) + 1) = τ one 0 ∧ f_isOpen τ ((k : Int) + 1) = true then f_takeBack τ ((k : Int) + 1) else τ) from rfl] at hm
      by_cases hc : τ 4 ((k : Int) + 1) = τ one 0 ∧ f_isOpen τ ((k : Int) + 1) = true
      · rw [if_pos hc] at hm
        have hbb := b5 hc
        have ih2 := ih _ (hs1 k τ hp hc) hm
        rw [show (k : Int) = (k : Int) + 1 + (-1) by omega] at ih2
        refine x_iload_n C d_X_rollBack_8 rfl rfl ?_
        refine x_iconst C d_X_rollBack_9 (by decide) ?_
        refine x_icmp_lt (tgt := 54) C d_X_rollBack_10 rfl (fun h10 => ?_) (fun h10 => ?_)
        · exact absurd h10 (by omega)
        · refine x_aload_n C d_X_rollBack_13 rfl rfl ?_
          refine x_getC C 0 2 cf_X fl_X_12 d_X_rollBack_14 rfl rfl rfl (by omega) (by omega) rfl ?_
          refine x_getC C 1 4 cf_XL fl_X_246 d_X_rollBack_17 rfl rfl rfl (by omega) (by omega) rfl ?_
          refine x_iload_n C d_X_rollBack_20 rfl rfl ?_
          refine x_iald C d_X_rollBack_21 (by first | rfl | exact lx_A (by omega) (by omega) (by omega) | exact lx_H (by omega) (by omega) | exact lx_K (by omega) (by omega)) (by omega) (by omega) (by omega) (by omega) (fun r21 => ?_)
          refine x_aload_n C d_X_rollBack_22 rfl rfl ?_
          refine x_getI C 0 cf_XT fl_X_230 d_X_rollBack_23 rfl (by decide) rfl (by first | rfl | exact lx_T (by omega) | exact lx_C (by omega) (by omega) (by omega)) (by omega) (by omega) (fun r23 => ?_)
          refine x_icmp_ne (tgt := 48) C d_X_rollBack_26 rfl (fun h26 => ?_) (fun h26 => ?_)
          · refine x_iinc C d_X_rollBack_48 (by decide) rfl ⟨by omega, by omega⟩ ?_
            refine x_goto (tgt := 8) C d_X_rollBack_51 rfl ?_
            first | exact absurd hc.1 h26 | exact absurd (b2i_0 h37) (by rw [hc.2]; decide) | (rw [show (k : Int) + 1 + (-1) = (k : Int) by omega] at ih2 ⊢; exact ih2)
          · refine x_aload_n C d_X_rollBack_29 rfl rfl ?_
            refine x_getC C 0 2 cf_X fl_X_12 d_X_rollBack_30 rfl rfl rfl (by omega) (by omega) rfl ?_
            refine x_iload_n C d_X_rollBack_33 rfl rfl ?_
            refine x_callV C cl_X_249 cb_XL_isOpen cs_XL_isOpen d_X_rollBack_34 (c_XL_isOpen hn (by omega) b1 b2.1 b2.2) rfl rfl rfl rfl (by first | rfl | exact lx_T (by omega) | exact lx_C (by omega) (by omega) (by omega)) (by omega) (by omega) (by decide) (by decide) (Nat.le_of_ble_eq_true rfl) (by omega) (by omega) ?_
            rintro _ _ _ ⟨rfl, rfl, rfl⟩ -
            skip
            refine x_if_eq (tgt := 48) C d_X_rollBack_37 rfl (fun h37 => ?_) (fun h37 => ?_)
            · refine x_iinc C d_X_rollBack_48 (by decide) rfl ⟨by omega, by omega⟩ ?_
              refine x_goto (tgt := 8) C d_X_rollBack_51 rfl ?_
              first | exact absurd hc.1 h26 | exact absurd (b2i_0 h37) (by rw [hc.2]; decide) | (rw [show (k : Int) + 1 + (-1) = (k : Int) by omega] at ih2 ⊢; exact ih2)
            · refine x_aload_n C d_X_rollBack_40 rfl rfl ?_
              refine x_getC C 1 34 cf_X fl_X_21 d_X_rollBack_41 rfl rfl rfl (by omega) (by omega) rfl ?_
              refine x_iload_n C d_X_rollBack_44 rfl rfl ?_
              refine x_callV C cl_X_252 cb_XP_takeBack cs_XP_takeBack d_X_rollBack_45 (c_XP_takeBack hn (by omega) b1 hbb.2.1 hbb.2.2 b3 b4 hbb.1) rfl rfl rfl rfl (by first | rfl | exact lx_T (by omega) | exact lx_C (by omega) (by omega) (by omega)) (by omega) (by omega) (by decide) (by decide) (Nat.le_of_ble_eq_true rfl) (by omega) (by omega) ?_
              rintro _ _ _ ⟨rfl, rfl, rfl⟩ -
              skip
              refine x_iinc C d_X_rollBack_48 (by decide) rfl ⟨by omega, by omega⟩ ?_
              refine x_goto (tgt := 8) C d_X_rollBack_51 rfl ?_
              first | exact absurd hc.1 h26 | exact absurd (b2i_0 h37) (by rw [hc.2]; decide) | (rw [show (k : Int) + 1 + (-1) = (k : Int) by omega] at ih2 ⊢; exact ih2)
      · rw [if_neg hc] at hm
        have ih2 := ih _ (hs2 k τ hp hc) hm
        rw [show (k : Int) = (k : Int) + 1 + (-1) by omega] at ih2
        refine x_iload_n C d_X_rollBack_8 rfl rfl ?_
        refine x_iconst C d_X_rollBack_9 (by decide) ?_
        refine x_icmp_lt (tgt := 54) C d_X_rollBack_10 rfl (fun h10 => ?_) (fun h10 => ?_)
        · exact absurd h10 (by omega)
        · refine x_aload_n C d_X_rollBack_13 rfl rfl ?_
          refine x_getC C 0 2 cf_X fl_X_12 d_X_rollBack_14 rfl rfl rfl (by omega) (by omega) rfl ?_
          refine x_getC C 1 4 cf_XL fl_X_246 d_X_rollBack_17 rfl rfl rfl (by omega) (by omega) rfl ?_
          refine x_iload_n C d_X_rollBack_20 rfl rfl ?_
          refine x_iald C d_X_rollBack_21 (by first | rfl | exact lx_A (by omega) (by omega) (by omega) | exact lx_H (by omega) (by omega) | exact lx_K (by omega) (by omega)) (by omega) (by omega) (by omega) (by omega) (fun r21 => ?_)
          refine x_aload_n C d_X_rollBack_22 rfl rfl ?_
          refine x_getI C 0 cf_XT fl_X_230 d_X_rollBack_23 rfl (by decide) rfl (by first | rfl | exact lx_T (by omega) | exact lx_C (by omega) (by omega) (by omega)) (by omega) (by omega) (fun r23 => ?_)
          refine x_icmp_ne (tgt := 48) C d_X_rollBack_26 rfl (fun h26 => ?_) (fun h26 => ?_)
          · refine x_iinc C d_X_rollBack_48 (by decide) rfl ⟨by omega, by omega⟩ ?_
            refine x_goto (tgt := 8) C d_X_rollBack_51 rfl ?_
            exact ih2
          · refine x_aload_n C d_X_rollBack_29 rfl rfl ?_
            refine x_getC C 0 2 cf_X fl_X_12 d_X_rollBack_30 rfl rfl rfl (by omega) (by omega) rfl ?_
            refine x_iload_n C d_X_rollBack_33 rfl rfl ?_
            refine x_callV C cl_X_249 cb_XL_isOpen cs_XL_isOpen d_X_rollBack_34 (c_XL_isOpen hn (by omega) b1 b2.1 b2.2) rfl rfl rfl rfl (by first | rfl | exact lx_T (by omega) | exact lx_C (by omega) (by omega) (by omega)) (by omega) (by omega) (by decide) (by decide) (Nat.le_of_ble_eq_true rfl) (by omega) (by omega) ?_
            rintro _ _ _ ⟨rfl, rfl, rfl⟩ -
            skip
            refine x_if_eq (tgt := 48) C d_X_rollBack_37 rfl (fun h37 => ?_) (fun h37 => ?_)
            · refine x_iinc C d_X_rollBack_48 (by decide) rfl ⟨by omega, by omega⟩ ?_
              refine x_goto (tgt := 8) C d_X_rollBack_51 rfl ?_
              exact ih2
            · exact absurd ⟨h26, b2i_1 h37⟩ hc
  have hl := loop (σ 2 11).toNat σ hP rfl
  rw [show (((σ 2 11).toNat : Nat) : Int) = σ 2 11 by omega] at hl
  refine x_aload_n C d_X_rollBack_0 rfl rfl ?_
  refine x_getC C 0 2 cf_X fl_X_12 d_X_rollBack_1 rfl rfl rfl (by omega) (by omega) rfl ?_
  refine x_getI C 11 cf_XL fl_X_87 d_X_rollBack_4 rfl (by decide) rfl rfl (by omega) (by omega) (fun r4 => ?_)
  refine x_istore_n C d_X_rollBack_7 rfl (by decide) ?_
  exact hl
theorem c_X_settle {n : Nat} {σ : Hp} (hn : 85 ≤ n) (hn2 : n ≤ 1000) (P : Nat → Hp → Prop) (hP : P 0 σ) (hs1 : ∀ (k : Nat) (τ : Hp), k < 4 → P k τ → ¬ f_lsc τ 4 = 0 → P (k + 1) (f_leaveT τ (f_lsc τ 4) 4)) (hs2 : ∀ (k : Nat) (τ : Hp), k < 4 → P k τ → f_lsc τ 4 = 0 → ¬ f_ffw τ 4 = 0 → P (k + 1) (f_grant τ (f_ffw τ 4)))
    (hb : ∀ (k : Nat) (τ : Hp), k < 4 → P k τ → xS n τ ∧ xT n τ ∧ xB τ ∧ (0 ≤ τ 2 11 ∧ (¬ f_ffw τ 4 = 0 → τ 2 11 < 200)) ∧ 0 ≤ τ 2 13) : OxS n σ := by
  refine ok_mk (by decide) (Nat.le_of_ble_eq_true rfl) (fun K C rt ha hok hfx => ?_)
  show XW LyX TX K n σ 0 0 0 [some (.inr 1), none, none, none] []
  have loop : ∀ (q k : Nat) (τ : Hp) (a b : Option AV), k + q = 4 → P k τ → f_stL q τ = f_settle σ → XW LyX TX K n τ 0 0 2 [some (.inr 1), some (.inl (k : Int)), a, b] [] := by
    intro q
    induction q with
    | zero =>
      intro k τ a b hk hp hm
      refine x_iload_n C d_X_settle_2 rfl rfl ?_
      refine x_iconst C d_X_settle_3 (by decide) ?_
      refine x_icmp_ge (tgt := 61) C d_X_settle_4 rfl (fun h4 => ?_) (fun h4 => ?_)
      · exact x_vret rt d_X_settle_61 (by omega) (by omega) ⟨rfl, rfl, hm.symm⟩
      · exact absurd h4 (by omega)
    | succ q ih =>
      intro k τ a b hk hp hm
      obtain ⟨b1, b2, b3, b4, b5⟩ := hb k τ (by omega) hp
      rw [show f_stL (q + 1) τ = if f_lsc τ 4 = 0 then (if f_ffw τ 4 = 0 then τ else f_stL q (f_grant τ (f_ffw τ 4))) else f_stL q (f_leaveT τ (f_lsc τ 4) 4) from rfl] at hm
      have hl1 := f_lsc_b b1 4 (by omega)
      have hl2 := f_ffw_b b1 4 (by omega)
      by_cases hz : f_lsc τ 4 = 0
      · rw [if_pos hz] at hm
        by_cases hw : f_ffw τ 4 = 0
        · rw [if_pos hw] at hm
          refine x_iload_n C d_X_settle_2 rfl rfl ?_
          refine x_iconst C d_X_settle_3 (by decide) ?_
          refine x_icmp_ge (tgt := 61) C d_X_settle_4 rfl (fun h4 => ?_) (fun h4 => ?_)
          · exact absurd h4 (by omega)
          · refine x_aload_n C d_X_settle_7 rfl rfl ?_
            refine x_getC C 2 76 cf_X fl_X_28 d_X_settle_8 rfl rfl rfl (by omega) (by omega) rfl ?_
            refine x_aload_n C d_X_settle_11 rfl rfl ?_
            refine x_getC C 0 2 cf_X fl_X_12 d_X_settle_12 rfl rfl rfl (by omega) (by omega) rfl ?_
            refine x_callV C cl_X_259 cb_XV_leastStableCommit cs_XV_leastStableCommit d_X_settle_15 (c_XV_leastStableCommit hn b1 b2) rfl rfl rfl rfl (by first | rfl | exact lx_T (by omega) | exact lx_C (by omega) (by omega) (by omega)) (by omega) (by omega) (by decide) (by decide) (Nat.le_of_ble_eq_true rfl) (by omega) (by omega) ?_
            rintro _ _ _ ⟨rfl, rfl, rfl⟩ -
            skip
            refine x_astore_n C d_X_settle_18 rfl (by decide) ?_
            refine x_aload_n C d_X_settle_19 rfl rfl ?_
            refine x_ifnull (tgt := 35) C d_X_settle_20 rfl (fun h20 => ?_) (fun h20 => ?_)
            · refine x_aload_n C d_X_settle_35 rfl rfl ?_
              refine x_getC C 2 76 cf_X fl_X_28 d_X_settle_36 rfl rfl rfl (by omega) (by omega) rfl ?_
              refine x_callV C cl_X_263 cb_XV_firstFitWaiting cs_XV_firstFitWaiting d_X_settle_39 (c_XV_firstFitWaiting hn b1 b2) rfl rfl rfl rfl (by first | rfl | exact lx_T (by omega) | exact lx_C (by omega) (by omega) (by omega)) (by omega) (by omega) (by decide) (by decide) (Nat.le_of_ble_eq_true rfl) (by omega) (by omega) ?_
              rintro _ _ _ ⟨rfl, rfl, rfl⟩ -
              skip
              refine x_astore_n C d_X_settle_42 rfl (by decide) ?_
              refine x_aload_n C d_X_settle_43 rfl rfl ?_
              refine x_ifnonnull (tgt := 50) C d_X_settle_44 rfl (fun h44 => ?_) (fun h44 => ?_)
              · exact absurd hw h44
              · refine x_goto (tgt := 61) C d_X_settle_47 rfl ?_
                exact x_vret rt d_X_settle_61 (by omega) (by omega) ⟨rfl, rfl, hm.symm⟩
            · exact absurd hz h20
        · rw [if_neg hw] at hm
          have hw2 := hl2.resolve_left hw
          have ht := b2 _ hw2.1 hw2.2
          have ih2 := ih (k + 1) _ (some (.inr (f_lsc τ 4))) (some (.inr (f_ffw τ 4))) (by omega) (hs2 k τ (by omega) hp hz hw) hm
          refine x_iload_n C d_X_settle_2 rfl rfl ?_
          refine x_iconst C d_X_settle_3 (by decide) ?_
          refine x_icmp_ge (tgt := 61) C d_X_settle_4 rfl (fun h4 => ?_) (fun h4 => ?_)
          · exact absurd h4 (by omega)
          · refine x_aload_n C d_X_settle_7 rfl rfl ?_
            refine x_getC C 2 76 cf_X fl_X_28 d_X_settle_8 rfl rfl rfl (by omega) (by omega) rfl ?_
            refine x_aload_n C d_X_settle_11 rfl rfl ?_
            refine x_getC C 0 2 cf_X fl_X_12 d_X_settle_12 rfl rfl rfl (by omega) (by omega) rfl ?_
            refine x_callV C cl_X_259 cb_XV_leastStableCommit cs_XV_leastStableCommit d_X_settle_15 (c_XV_leastStableCommit hn b1 b2) rfl rfl rfl rfl (by first | rfl | exact lx_T (by omega) | exact lx_C (by omega) (by omega) (by omega)) (by omega) (by omega) (by decide) (by decide) (Nat.le_of_ble_eq_true rfl) (by omega) (by omega) ?_
            rintro _ _ _ ⟨rfl, rfl, rfl⟩ -
            skip
            refine x_astore_n C d_X_settle_18 rfl (by decide) ?_
            refine x_aload_n C d_X_settle_19 rfl rfl ?_
            refine x_ifnull (tgt := 35) C d_X_settle_20 rfl (fun h20 => ?_) (fun h20 => ?_)
            · refine x_aload_n C d_X_settle_35 rfl rfl ?_
              refine x_getC C 2 76 cf_X fl_X_28 d_X_settle_36 rfl rfl rfl (by omega) (by omega) rfl ?_
              refine x_callV C cl_X_263 cb_XV_firstFitWaiting cs_XV_firstFitWaiting d_X_settle_39 (c_XV_firstFitWaiting hn b1 b2) rfl rfl rfl rfl (by first | rfl | exact lx_T (by omega) | exact lx_C (by omega) (by omega) (by omega)) (by omega) (by omega) (by decide) (by decide) (Nat.le_of_ble_eq_true rfl) (by omega) (by omega) ?_
              rintro _ _ _ ⟨rfl, rfl, rfl⟩ -
              skip
              refine x_astore_n C d_X_settle_42 rfl (by decide) ?_
              refine x_aload_n C d_X_settle_43 rfl rfl ?_
              refine x_ifnonnull (tgt := 50) C d_X_settle_44 rfl (fun h44 => ?_) (fun h44 => ?_)
              · refine x_aload_n C d_X_settle_50 rfl rfl ?_
                refine x_aload_n C d_X_settle_51 rfl rfl ?_
                refine x_callV C cl_X_203 cb_X_grant cs_X_grant d_X_settle_52 (c_X_grant hn hw2.1 hw2.2 ht.2.1.1 ht.2.1.2 ht.2.2.1 ht.2.2.2 b3 b4.1 (b4.2 hw) b5) rfl rfl rfl rfl (by first | rfl | exact lx_T (by omega) | exact lx_C (by omega) (by omega) (by omega)) (by omega) (by omega) (by decide) (by decide) (Nat.le_of_ble_eq_true rfl) (by omega) (by omega) ?_
                rintro _ _ _ ⟨rfl, rfl, rfl⟩ -
                skip
                refine x_iinc C d_X_settle_55 (by decide) rfl ⟨by omega, by omega⟩ ?_
                refine x_goto (tgt := 2) C d_X_settle_58 rfl ?_
                exact ih2
              · exact absurd h44 hw
            · exact absurd hz h20
      · rw [if_neg hz] at hm
        have hz2 := hl1.resolve_left hz
        have ht := b2 _ hz2.1 hz2.2
        have ih2 := ih (k + 1) _ (some (.inr (f_lsc τ 4))) b (by omega) (hs1 k τ (by omega) hp hz) hm
        refine x_iload_n C d_X_settle_2 rfl rfl ?_
        refine x_iconst C d_X_settle_3 (by decide) ?_
        refine x_icmp_ge (tgt := 61) C d_X_settle_4 rfl (fun h4 => ?_) (fun h4 => ?_)
        · exact absurd h4 (by omega)
        · refine x_aload_n C d_X_settle_7 rfl rfl ?_
          refine x_getC C 2 76 cf_X fl_X_28 d_X_settle_8 rfl rfl rfl (by omega) (by omega) rfl ?_
          refine x_aload_n C d_X_settle_11 rfl rfl ?_
          refine x_getC C 0 2 cf_X fl_X_12 d_X_settle_12 rfl rfl rfl (by omega) (by omega) rfl ?_
          refine x_callV C cl_X_259 cb_XV_leastStableCommit cs_XV_leastStableCommit d_X_settle_15 (c_XV_leastStableCommit hn b1 b2) rfl rfl rfl rfl (by first | rfl | exact lx_T (by omega) | exact lx_C (by omega) (by omega) (by omega)) (by omega) (by omega) (by decide) (by decide) (Nat.le_of_ble_eq_true rfl) (by omega) (by omega) ?_
          rintro _ _ _ ⟨rfl, rfl, rfl⟩ -
          skip
          refine x_astore_n C d_X_settle_18 rfl (by decide) ?_
          refine x_aload_n C d_X_settle_19 rfl rfl ?_
          refine x_ifnull (tgt := 35) C d_X_settle_20 rfl (fun h20 => ?_) (fun h20 => ?_)
          · exact absurd h20 hz
          · refine x_aload_n C d_X_settle_23 rfl rfl ?_
            refine x_getC C 2 76 cf_X fl_X_28 d_X_settle_24 rfl rfl rfl (by omega) (by omega) rfl ?_
            refine x_aload_n C d_X_settle_27 rfl rfl ?_
            refine x_iconst C d_X_settle_28 (by decide) ?_
            refine x_callV C cl_X_255 cb_XV_leave cs_XV_leave d_X_settle_29 (c_XV_leave hn hn2 hz2.1 hz2.2 ht.2.1.1 ht.2.1.2) rfl rfl rfl rfl (by first | rfl | exact lx_T (by omega) | exact lx_C (by omega) (by omega) (by omega)) (by omega) (by omega) (by decide) (by decide) (Nat.le_of_ble_eq_true rfl) (by omega) (by omega) ?_
            rintro _ _ _ ⟨rfl, rfl, rfl⟩ -
            skip
            refine x_goto (tgt := 55) C d_X_settle_32 rfl ?_
            refine x_iinc C d_X_settle_55 (by decide) rfl ⟨by omega, by omega⟩ ?_
            refine x_goto (tgt := 2) C d_X_settle_58 rfl ?_
            exact ih2
  refine x_iconst C d_X_settle_0 (by decide) ?_
  refine x_istore_n C d_X_settle_1 rfl (by decide) ?_
  exact loop 4 0 σ none none (by omega) hP rfl
theorem c_X_comeUp {n : Nat} {σ : Hp} (hF : xF n σ) : Ok LyX TX y_X_comeUp b_X_comeUp 2 none 1 0 0 [.inr 1] n σ (pV n (f_comeUp σ)) := by
  refine ok_mk (by decide) (Nat.le_of_ble_eq_true rfl) (fun K C rt ha hok hfx => ?_)
  show XW LyX TX K n σ 0 0 0 [some (.inr 1), none] []
  obtain ⟨f0, f1, f2, f3⟩ := hF
  have loop : ∀ (q : Nat) (x : Int), 1 ≤ x → x + q = σ 1 5 + 1 → XW LyX TX K n (f_cu (st2 σ 1 8 1) x) 0 0 7 [some (.inr 1), some (.inl x)] [] := by
    intro q
    induction q with
    | zero =>
      intro x hx hq
      have e1 : f_cu (st2 σ 1 8 1) x 1 5 = σ 1 5 := by rw [f_cu_fr _ _ (by decide)]; exact st2_ii (by decide)
      obtain rfl : x = σ 1 5 + 1 := by omega
      refine x_iload_n C d_X_comeUp_7 rfl rfl ?_
      refine x_aload_n C d_X_comeUp_8 rfl rfl ?_
      refine x_getI C 5 cf_X fl_X_55 d_X_comeUp_9 rfl (by decide) rfl rfl (by omega) (by omega) (fun r9 => ?_)
      refine x_icmp_gt (tgt := 61) C d_X_comeUp_12 rfl (fun h12 => ?_) (fun h12 => ?_)
      · exact x_vret rt d_X_comeUp_61 (by omega) (by omega) ⟨rfl, rfl, rfl⟩
      · exact absurd h12 (by omega)
    | succ q ih =>
      intro x hx hq
      have e1 : f_cu (st2 σ 1 8 1) x 1 5 = σ 1 5 := by rw [f_cu_fr _ _ (by decide)]; exact st2_ii (by decide)
      have e85 : f_cu (st2 σ 1 8 1) x 85 x = 85 + x := by rw [f_cu_fr _ _ (by decide), st2_ne (by decide)]; exact f3 x hx (by omega)
      have e11 : f_cu (st2 σ 1 8 1) x 11 = σ 11 := by rw [f_cu_fr _ _ (by decide), st2_ne (by decide)]
      have eT : f_cu (st2 σ 1 8 1) x (85 + x) 2 = σ (85 + x) 2 := by
        simp only [f_cu]
        rw [if_neg (by omega), st2_ne (by omega)]
      have ih2 := ih (x + 1) (by omega) (by omega)
      have hno : ¬ σ (85 + x) 2 = 6 → f_cu (st2 σ 1 8 1) (x + 1) = f_cu (st2 σ 1 8 1) x := by
        intro h6
        clear ih ih2 rt ha hok hfx C
        funext v i
        simp only [f_cu]
        by_cases hv : v = 85 + x
        · subst hv
          rw [if_neg (fun h => h6 (by have := h.2.2.2; rw [st2_ne (by omega)] at this; exact this)), if_neg (by omega)]
        · have : v < 85 + (x + 1) ↔ v < 85 + x := by omega
          simp only [this]
      have hyes : σ (85 + x) 2 = 6 → f_cu (st2 σ 1 8 1) (x + 1) = st2 (f_cu (st2 σ 1 8 1) x) (85 + x) 2 (if σ 11 x = 0 then 5 else 4) := by
        intro h6
        clear ih ih2 rt ha hok hfx C
        funext v i
        by_cases hv : v = 85 + x
        · subst hv
          by_cases hi : i = 2
          · subst hi
            rw [st2_eq]
            simp only [f_cu]
            rw [if_pos ⟨by omega, by omega, trivial, by rw [st2_ne (by omega)]; exact h6⟩, st2_ne (by decide), show 85 + x - 85 = x by omega]
          · rw [st2_ii hi]
            simp only [f_cu]
            rw [if_neg (fun h => hi h.2.2.1), if_neg (fun h => hi h.2.2.1)]
        · rw [st2_ne hv]
          simp only [f_cu]
          have : v < 85 + (x + 1) ↔ v < 85 + x := by omega
          simp only [this]
      have J52 : ∀ v : Int, σ (85 + x) 2 = 6 → v = (if σ 11 x = 0 then 5 else 4) → XW LyX TX K n (f_cu (st2 σ 1 8 1) x) 0 0 52 [some (.inr 1), some (.inl x)] [.inl v, .inr (85 + x)] := by
        intro v h6 hv
        rw [hyes h6, ← hv] at ih2
        refine x_putI C 2 rfl cf_XT fl_X_77 d_X_comeUp_52 rfl (Or.inl ⟨rfl, rfl⟩) rfl (by first | rfl | exact tx_T (by omega) | exact tx_A (by omega) (by omega) (by omega) | exact tx_HR (by omega) (by omega) | exact tx_KR (by omega) (by omega) | exact tx_L (by omega) (by omega)) (by first | rfl | exact lx_T (by omega) | exact lx_C (by omega) (by omega) (by omega)) (by omega) (by omega) ?_
        refine x_iinc C d_X_comeUp_55 (by decide) rfl ⟨by omega, by omega⟩ ?_
        refine x_goto (tgt := 7) C d_X_comeUp_58 rfl ?_
        exact ih2
      refine x_iload_n C d_X_comeUp_7 rfl rfl ?_
      refine x_aload_n C d_X_comeUp_8 rfl rfl ?_
      refine x_getI C 5 cf_X fl_X_55 d_X_comeUp_9 rfl (by decide) rfl rfl (by omega) (by omega) (fun r9 => ?_)
      refine x_icmp_gt (tgt := 61) C d_X_comeUp_12 rfl (fun h12 => ?_) (fun h12 => ?_)
      · exact absurd h12 (by omega)
      · refine x_aload_n C d_X_comeUp_15 rfl rfl ?_
        refine x_getC C 4 85 cf_X fl_X_43 d_X_comeUp_16 rfl rfl rfl (by omega) (by omega) rfl ?_
        refine x_iload_n C d_X_comeUp_19 rfl rfl ?_
        refine x_aald C d_X_comeUp_20 (by first | rfl | exact lx_A (by omega) (by omega) (by omega) | exact lx_H (by omega) (by omega) | exact lx_K (by omega) (by omega)) (by decide) (by omega) (by omega) (by omega) (by omega) (fun r20 => ?_)
        rw [e85]
        refine x_getI C 2 cf_XT fl_X_77 d_X_comeUp_21 rfl (by decide) rfl (by first | rfl | exact lx_T (by omega) | exact lx_C (by omega) (by omega) (by omega)) (by omega) (by omega) (fun r21 => ?_)
        refine x_bipush C d_X_comeUp_24 (by decide) (by decide) ?_
        refine x_icmp_ne (tgt := 55) C d_X_comeUp_26 rfl (fun h26 => ?_) (fun h26 => ?_)
        · refine x_iinc C d_X_comeUp_55 (by decide) rfl ⟨by omega, by omega⟩ ?_
          refine x_goto (tgt := 7) C d_X_comeUp_58 rfl ?_
          rw [hno (by omega)] at ih2
          exact ih2
        · refine x_aload_n C d_X_comeUp_29 rfl rfl ?_
          refine x_getC C 4 85 cf_X fl_X_43 d_X_comeUp_30 rfl rfl rfl (by omega) (by omega) rfl ?_
          refine x_iload_n C d_X_comeUp_33 rfl rfl ?_
          refine x_aald C d_X_comeUp_34 (by first | rfl | exact lx_A (by omega) (by omega) (by omega) | exact lx_H (by omega) (by omega) | exact lx_K (by omega) (by omega)) (by decide) (by omega) (by omega) (by omega) (by omega) (fun r34 => ?_)
          rw [e85]
          refine x_aload_n C d_X_comeUp_35 rfl rfl ?_
          refine x_getC C 0 2 cf_X fl_X_12 d_X_comeUp_36 rfl rfl rfl (by omega) (by omega) rfl ?_
          refine x_getC C 8 11 cf_XL fl_X_267 d_X_comeUp_39 rfl rfl rfl (by omega) (by omega) rfl ?_
          refine x_iload_n C d_X_comeUp_42 rfl rfl ?_
          refine x_iald C d_X_comeUp_43 (by first | rfl | exact lx_A (by omega) (by omega) (by omega) | exact lx_H (by omega) (by omega) | exact lx_K (by omega) (by omega)) (by omega) (by omega) (by omega) (by omega) (fun r43 => ?_)
          refine x_if_ne (tgt := 51) C d_X_comeUp_44 rfl (fun h44 => ?_) (fun h44 => ?_)
          · refine x_iconst C d_X_comeUp_51 (by decide) ?_
            exact J52 _ (by omega) (by rw [e11] at h44; first | (rw [if_pos h44]; done) | (rw [if_neg h44]; done))
          · refine x_iconst C d_X_comeUp_47 (by decide) ?_
            refine x_goto (tgt := 52) C d_X_comeUp_48 rfl ?_
            exact J52 _ (by omega) (by rw [e11] at h44; first | (rw [if_pos h44]; done) | (rw [if_neg h44]; done))
  have hl := loop (σ 1 5).toNat 1 (by omega) (by omega)
  rw [f_cu_1] at hl
  refine x_aload_n C d_X_comeUp_0 rfl rfl ?_
  refine x_iconst C d_X_comeUp_1 (by decide) ?_
  refine x_putI C 8 rfl cf_X fl_X_47 d_X_comeUp_2 rfl (Or.inr ⟨rfl, rfl, by omega, by omega⟩) rfl rfl rfl (by omega) (by omega) ?_
  refine x_iconst C d_X_comeUp_5 (by decide) ?_
  refine x_istore_n C d_X_comeUp_6 rfl (by decide) ?_
  exact hl
theorem c_X_request {n : Nat} {σ : Hp} {t key what v : Int} (hF : xF n σ) (r0 : 0 ≤ σ 1 6) (r1 : σ 1 6 < 2000000000)
    (hI : f_isAct σ t → 0 ≤ key ∧ key < 100 → Ok LyX TX y_XV_isFit b_XV_isFit 3 (some .boolean) 3 0 0 [.inr 76, .inr (85 + t)] n (f_ask1 σ (85 + t) key what v) (pI n (f_ask1 σ (85 + t) key what v) (b2i (f_isFit (f_ask1 σ (85 + t) key what v) (85 + t)))))
    (hG : f_isAct σ t → 0 ≤ key ∧ key < 100 → f_isFit (f_ask1 σ (85 + t) key what v) (85 + t) = true → OxG n (f_ask1 σ (85 + t) key what v) (85 + t))
    (hW : f_isAct σ t → 0 ≤ key ∧ key < 100 → f_isFit (f_ask1 σ (85 + t) key what v) (85 + t) = false → Ok LyX TX y_XV_waitsForItself b_XV_waitsForItself 4 (some .boolean) 4 0 0 [.inr 76, .inr (85 + t)] n (st2 (st2 (f_ask1 σ (85 + t) key what v) (85 + t) 2 2) (85 + t) 3 1) (pI n (st2 (st2 (f_ask1 σ (85 + t) key what v) (85 + t) 2 2) (85 + t) 3 1) (b2i (f_wfi (st2 (st2 (f_ask1 σ (85 + t) key what v) (85 + t) 2 2) (85 + t) 3 1) (85 + t)))))
    (hR : f_isAct σ t → 0 ≤ key ∧ key < 100 → f_isFit (f_ask1 σ (85 + t) key what v) (85 + t) = false → f_wfi (st2 (st2 (f_ask1 σ (85 + t) key what v) (85 + t) 2 2) (85 + t) 3 1) (85 + t) = true → OxR n (st2 (st2 (st2 (f_ask1 σ (85 + t) key what v) (85 + t) 2 2) (85 + t) 3 1) (85 + t) 3 2) (85 + t)) :
    Ok LyX TX y_X_request b_X_request 6 (some .int) 6 0 0 [.inr 1, .inl t, .inl key, .inl what, .inl v] n σ (fun r n' σ' => n' = n ∧ ((f_isAct σ t ∧ (0 ≤ key ∧ key < 100) ∧ r = some (.inl (f_req2 (f_ask1 σ (85 + t) key what v) (85 + t) (85 + t) 3)) ∧ f_req2 (f_ask1 σ (85 + t) key what v) (85 + t) = σ') ∨ (¬ (f_isAct σ t ∧ (0 ≤ key ∧ key < 100)) ∧ r = some (.inl (-1)) ∧ σ = σ'))) := by
  refine ok_mk (by decide) (Nat.le_of_ble_eq_true rfl) (fun K C rt ha hok hfx => ?_)
  show XW LyX TX K n σ 0 0 0 [some (.inr 1), some (.inl t), some (.inl key), some (.inl what), some (.inl v), none] []
  have hF0 := hF
  obtain ⟨f0, f1, f2, f3⟩ := hF0
  by_cases ht : 1 ≤ t ∧ t ≤ σ 1 5
  · have hf : f_find σ t = 85 + t := if_pos ht
    by_cases hk : 0 ≤ key ∧ key < 100
    · have J53 : f_isAct σ t → XW LyX TX K n (f_ask1 σ (85 + t) key what v) 0 0 53 [some (.inr 1), some (.inl t), some (.inl key), some (.inl what), some (.inl v), some (.inr (85 + t))] [] := by
        intro hact
        have hI := hI hact hk
        have hG := hG hact hk
        have hW := hW hact hk
        have hR := hR hact hk
        have rt2 : ∀ (pc : Nat) (τ : Hp) (lv : List (Option AV)), decode b_X_request pc = .ok (.ireturn, 1) → τ = f_req2 (f_ask1 σ (85 + t) key what v) (85 + t) → XW LyX TX K n τ 0 0 pc lv [.inl (τ (85 + t) 3)] := fun pc τ lv hd hτ => x_iret rt hd (by omega) (by omega) ⟨rfl, Or.inl ⟨hact, hk, by rw [hτ], hτ.symm⟩⟩
        generalize f_ask1 σ (85 + t) key what v = τ1 at *
        refine x_aload_n C d_X_request_53 rfl rfl ?_
        refine x_getC C 2 76 cf_X fl_X_28 d_X_request_54 rfl rfl rfl (by omega) (by omega) rfl ?_
        refine x_aload C d_X_request_57 rfl ?_
        refine x_callV C cl_X_199 cb_XV_isFit cs_XV_isFit d_X_request_59 (hI) rfl rfl rfl rfl (by first | rfl | exact lx_T (by omega) | exact lx_C (by omega) (by omega) (by omega)) (by omega) (by omega) (by decide) (by decide) (Nat.le_of_ble_eq_true rfl) (by omega) (by omega) ?_
        rintro _ _ _ ⟨rfl, rfl, rfl⟩ -
        skip
        refine x_if_eq (tgt := 77) C d_X_request_62 rfl (fun h62 => ?_) (fun h62 => ?_)
        · refine x_aload C d_X_request_77 rfl ?_
          refine x_iconst C d_X_request_79 (by decide) ?_
          refine x_putI C 2 rfl cf_XT fl_X_77 d_X_request_80 rfl (Or.inl ⟨rfl, rfl⟩) rfl (by first | rfl | exact tx_T (by omega) | exact tx_A (by omega) (by omega) (by omega) | exact tx_HR (by omega) (by omega) | exact tx_KR (by omega) (by omega) | exact tx_L (by omega) (by omega)) (by first | rfl | exact lx_T (by omega) | exact lx_C (by omega) (by omega) (by omega)) (by omega) (by omega) ?_
          refine x_aload C d_X_request_83 rfl ?_
          refine x_iconst C d_X_request_85 (by decide) ?_
          refine x_putI C 3 rfl cf_XT fl_X_148 d_X_request_86 rfl (Or.inl ⟨rfl, rfl⟩) rfl (by first | rfl | exact tx_T (by omega) | exact tx_A (by omega) (by omega) (by omega) | exact tx_HR (by omega) (by omega) | exact tx_KR (by omega) (by omega) | exact tx_L (by omega) (by omega)) (by first | rfl | exact lx_T (by omega) | exact lx_C (by omega) (by omega) (by omega)) (by omega) (by omega) ?_
          refine x_aload_n C d_X_request_89 rfl rfl ?_
          refine x_getC C 2 76 cf_X fl_X_28 d_X_request_90 rfl rfl rfl (by omega) (by omega) rfl ?_
          refine x_aload C d_X_request_93 rfl ?_
          refine x_callV C cl_X_206 cb_XV_waitsForItself cs_XV_waitsForItself d_X_request_95 (hW (b2i_0 h62)) rfl rfl rfl rfl (by first | rfl | exact lx_T (by omega) | exact lx_C (by omega) (by omega) (by omega)) (by omega) (by omega) (by decide) (by decide) (Nat.le_of_ble_eq_true rfl) (by omega) (by omega) ?_
          rintro _ _ _ ⟨rfl, rfl, rfl⟩ -
          skip
          refine x_if_eq (tgt := 113) C d_X_request_98 rfl (fun h98 => ?_) (fun h98 => ?_)
          · refine x_aload C d_X_request_113 rfl ?_
            refine x_getI C 3 cf_XT fl_X_148 d_X_request_115 rfl (by decide) rfl (by first | rfl | exact lx_T (by omega) | exact lx_C (by omega) (by omega) (by omega)) (by omega) (by omega) (fun r115 => ?_)
            exact rt2 _ _ _ d_X_request_118 (by simp only [f_req2]; first | (rw [if_pos (b2i_1 h62)]; done) | (rw [if_neg (by rw [b2i_0 h62]; decide), if_pos (b2i_1 h98)]; done) | (rw [if_neg (by rw [b2i_0 h62]; decide), if_neg (by rw [b2i_0 h98]; decide)]; done))
          · refine x_aload C d_X_request_101 rfl ?_
            refine x_iconst C d_X_request_103 (by decide) ?_
            refine x_putI C 3 rfl cf_XT fl_X_148 d_X_request_104 rfl (Or.inl ⟨rfl, rfl⟩) rfl (by first | rfl | exact tx_T (by omega) | exact tx_A (by omega) (by omega) (by omega) | exact tx_HR (by omega) (by omega) | exact tx_KR (by omega) (by omega) | exact tx_L (by omega) (by omega)) (by first | rfl | exact lx_T (by omega) | exact lx_C (by omega) (by omega) (by omega)) (by omega) (by omega) ?_
            refine x_aload_n C d_X_request_107 rfl rfl ?_
            refine x_aload C d_X_request_108 rfl ?_
            refine x_callV C cl_X_84 cb_X_rollBack cs_X_rollBack d_X_request_110 (hR (b2i_0 h62) (b2i_1 h98)) rfl rfl rfl rfl (by first | rfl | exact lx_T (by omega) | exact lx_C (by omega) (by omega) (by omega)) (by omega) (by omega) (by decide) (by decide) (Nat.le_of_ble_eq_true rfl) (by omega) (by omega) ?_
            rintro _ _ _ ⟨rfl, rfl, rfl⟩ -
            skip
            refine x_aload C d_X_request_113 rfl ?_
            refine x_getI C 3 cf_XT fl_X_148 d_X_request_115 rfl (by decide) rfl (by first | rfl | exact lx_T (by omega) | exact lx_C (by omega) (by omega) (by omega)) (by omega) (by omega) (fun r115 => ?_)
            exact rt2 _ _ _ d_X_request_118 (by simp only [f_req2]; first | (rw [if_pos (b2i_1 h62)]; done) | (rw [if_neg (by rw [b2i_0 h62]; decide), if_pos (b2i_1 h98)]; done) | (rw [if_neg (by rw [b2i_0 h62]; decide), if_neg (by rw [b2i_0 h98]; decide)]; done))
        · refine x_aload_n C d_X_request_65 rfl rfl ?_
          refine x_aload C d_X_request_66 rfl ?_
          refine x_callV C cl_X_203 cb_X_grant cs_X_grant d_X_request_68 (hG (b2i_1 h62)) rfl rfl rfl rfl (by first | rfl | exact lx_T (by omega) | exact lx_C (by omega) (by omega) (by omega)) (by omega) (by omega) (by decide) (by decide) (Nat.le_of_ble_eq_true rfl) (by omega) (by omega) ?_
          rintro _ _ _ ⟨rfl, rfl, rfl⟩ -
          skip
          refine x_aload C d_X_request_71 rfl ?_
          refine x_getI C 3 cf_XT fl_X_148 d_X_request_73 rfl (by decide) rfl (by first | rfl | exact lx_T (by omega) | exact lx_C (by omega) (by omega) (by omega)) (by omega) (by omega) (fun r73 => ?_)
          exact rt2 _ _ _ d_X_request_76 (by simp only [f_req2]; first | (rw [if_pos (b2i_1 h62)]; done) | (rw [if_neg (by rw [b2i_0 h62]; decide), if_pos (b2i_1 h98)]; done) | (rw [if_neg (by rw [b2i_0 h62]; decide), if_neg (by rw [b2i_0 h98]; decide)]; done))
      refine x_aload_n C d_X_request_0 rfl rfl ?_
      refine x_iload_n C d_X_request_1 rfl rfl ?_
      refine x_callV C cl_X_73 cb_X_find cs_X_find d_X_request_2 (c_X_find hF) rfl rfl rfl rfl (by first | rfl | exact lx_T (by omega) | exact lx_C (by omega) (by omega) (by omega)) (by omega) (by omega) (by decide) (by decide) (Nat.le_of_ble_eq_true rfl) (by omega) (by omega) ?_
      rintro _ _ _ ⟨rfl, rfl, rfl⟩ -
      skip
      rw [hf]
      refine x_astore C d_X_request_5 (by decide) ?_
      refine x_aload C d_X_request_7 rfl ?_
      refine x_ifnull (tgt := 28) C d_X_request_9 rfl (fun h9 => ?_) (fun h9 => ?_)
      · exact absurd h9 (by omega)
      · refine x_aload C d_X_request_12 rfl ?_
        refine x_getI C 2 cf_XT fl_X_77 d_X_request_14 rfl (by decide) rfl (by first | rfl | exact lx_T (by omega) | exact lx_C (by omega) (by omega) (by omega)) (by omega) (by omega) (fun r14 => ?_)
        refine x_iconst C d_X_request_17 (by decide) ?_
        refine x_icmp_ne (tgt := 28) C d_X_request_18 rfl (fun h18 => ?_) (fun h18 => ?_)
        · refine x_iconst C d_X_request_28 (by decide) ?_
          exact x_iret rt d_X_request_29 (by omega) (by omega) ⟨rfl, Or.inr ⟨fun h => h18 h.1.2.2, rfl, rfl⟩⟩
        · refine x_iload_n C d_X_request_21 rfl rfl ?_
          refine x_callS C cl_X_161 cb_X_isKey cs_X_isKey d_X_request_22 (c_X_isKey) rfl rfl (by decide) (by decide) (Nat.le_of_ble_eq_true rfl) (by omega) (by omega) ?_
          rintro _ _ _ ⟨rfl, rfl, rfl⟩ -
          skip
          rw [if_pos hk]
          refine x_if_ne (tgt := 30) C d_X_request_25 rfl (fun h25 => ?_) (fun h25 => ?_)
          · refine x_aload_n C d_X_request_30 rfl rfl ?_
            refine x_dup C d_X_request_31 ?_
            refine x_getI C 6 cf_X fl_X_192 d_X_request_32 rfl (by decide) rfl rfl (by omega) (by omega) (fun r32 => ?_)
            refine x_iconst C d_X_request_35 (by decide) ?_
            refine x_iadd C d_X_request_36 ⟨by omega, by omega⟩ ?_
            refine x_putI C 6 rfl cf_X fl_X_192 d_X_request_37 rfl (Or.inl ⟨rfl, rfl⟩) rfl rfl rfl (by omega) (by omega) ?_
            have hact : f_isAct σ t := ⟨ht.1, ht.2, h18⟩
            refine x_aload C d_X_request_40 rfl ?_
            refine x_aload_n C d_X_request_42 rfl rfl ?_
            refine x_getI C 6 cf_X fl_X_192 d_X_request_43 rfl (by decide) rfl rfl (by omega) (by omega) (fun r43 => ?_)
            refine x_iload_n C d_X_request_46 rfl rfl ?_
            refine x_iload_n C d_X_request_47 rfl rfl ?_
            refine x_iload C d_X_request_48 rfl ?_
            refine x_callV C cl_X_195 cb_XT_ask cs_XT_ask d_X_request_50 (c_XT_ask (by omega) (by omega)) rfl rfl rfl rfl (by first | rfl | exact lx_T (by omega) | exact lx_C (by omega) (by omega) (by omega)) (by omega) (by omega) (by decide) (by decide) (Nat.le_of_ble_eq_true rfl) (by omega) (by omega) ?_
            rintro _ _ _ ⟨rfl, rfl, rfl⟩ -
            skip
            exact J53 hact
          · exact absurd h25 (by decide)
    · skip
      refine x_aload_n C d_X_request_0 rfl rfl ?_
      refine x_iload_n C d_X_request_1 rfl rfl ?_
      refine x_callV C cl_X_73 cb_X_find cs_X_find d_X_request_2 (c_X_find hF) rfl rfl rfl rfl (by first | rfl | exact lx_T (by omega) | exact lx_C (by omega) (by omega) (by omega)) (by omega) (by omega) (by decide) (by decide) (Nat.le_of_ble_eq_true rfl) (by omega) (by omega) ?_
      rintro _ _ _ ⟨rfl, rfl, rfl⟩ -
      skip
      rw [hf]
      refine x_astore C d_X_request_5 (by decide) ?_
      refine x_aload C d_X_request_7 rfl ?_
      refine x_ifnull (tgt := 28) C d_X_request_9 rfl (fun h9 => ?_) (fun h9 => ?_)
      · exact absurd h9 (by omega)
      · refine x_aload C d_X_request_12 rfl ?_
        refine x_getI C 2 cf_XT fl_X_77 d_X_request_14 rfl (by decide) rfl (by first | rfl | exact lx_T (by omega) | exact lx_C (by omega) (by omega) (by omega)) (by omega) (by omega) (fun r14 => ?_)
        refine x_iconst C d_X_request_17 (by decide) ?_
        refine x_icmp_ne (tgt := 28) C d_X_request_18 rfl (fun h18 => ?_) (fun h18 => ?_)
        · refine x_iconst C d_X_request_28 (by decide) ?_
          exact x_iret rt d_X_request_29 (by omega) (by omega) ⟨rfl, Or.inr ⟨fun h => hk h.2, rfl, rfl⟩⟩
        · refine x_iload_n C d_X_request_21 rfl rfl ?_
          refine x_callS C cl_X_161 cb_X_isKey cs_X_isKey d_X_request_22 (c_X_isKey) rfl rfl (by decide) (by decide) (Nat.le_of_ble_eq_true rfl) (by omega) (by omega) ?_
          rintro _ _ _ ⟨rfl, rfl, rfl⟩ -
          skip
          rw [if_neg hk]
          refine x_if_ne (tgt := 30) C d_X_request_25 rfl (fun h25 => ?_) (fun h25 => ?_)
          · exact absurd rfl h25
          · refine x_iconst C d_X_request_28 (by decide) ?_
            exact x_iret rt d_X_request_29 (by omega) (by omega) ⟨rfl, Or.inr ⟨fun h => hk h.2, rfl, rfl⟩⟩
  · have hf : f_find σ t = 0 := if_neg ht
    refine x_aload_n C d_X_request_0 rfl rfl ?_
    refine x_iload_n C d_X_request_1 rfl rfl ?_
    refine x_callV C cl_X_73 cb_X_find cs_X_find d_X_request_2 (c_X_find hF) rfl rfl rfl rfl (by first | rfl | exact lx_T (by omega) | exact lx_C (by omega) (by omega) (by omega)) (by omega) (by omega) (by decide) (by decide) (Nat.le_of_ble_eq_true rfl) (by omega) (by omega) ?_
    rintro _ _ _ ⟨rfl, rfl, rfl⟩ -
    skip
    rw [hf]
    refine x_astore C d_X_request_5 (by decide) ?_
    refine x_aload C d_X_request_7 rfl ?_
    refine x_ifnull (tgt := 28) C d_X_request_9 rfl (fun h9 => ?_) (fun h9 => ?_)
    · refine x_iconst C d_X_request_28 (by decide) ?_
      exact x_iret rt d_X_request_29 (by omega) (by omega) ⟨rfl, Or.inr ⟨fun h => ht ⟨h.1.1, h.1.2.1⟩, rfl, rfl⟩⟩
    · exact absurd rfl h9

