-- ===== the class: its public calls =====
def f_reqP (n : Nat) (σ : Hp) (t key what v : Int) (g : Hp → Hp) : Option AV → Nat → Hp → Prop := fun r n' σ' => n' = n ∧ ((f_isAct σ t ∧ (0 ≤ key ∧ key < 100) ∧ r = some (.inl (f_req2 (f_ask1 σ (85 + t) key what v) (85 + t) (85 + t) 3)) ∧ g (f_req2 (f_ask1 σ (85 + t) key what v) (85 + t)) = σ') ∨ (¬ (f_isAct σ t ∧ (0 ≤ key ∧ key < 100)) ∧ r = some (.inl (-1)) ∧ g σ = σ'))
theorem c_X_read {n : Nat} {σ : Hp} {t key : Int} (hn : 85 ≤ n) (h : Ok LyX TX y_X_request b_X_request 6 (some .int) 6 0 0 [.inr 1, .inl t, .inl key, .inl 1, .inl 0] n σ (f_reqP n σ t key 1 0 id)) (hS1 : f_isAct σ t ∧ (0 ≤ key ∧ key < 100) → OxS n (f_req2 (f_ask1 σ (85 + t) key 1 0) (85 + t))) (hS2 : ¬ (f_isAct σ t ∧ (0 ≤ key ∧ key < 100)) → OxS n σ) : Ok LyX TX y_X_read b_X_read 4 (some .int) 7 0 0 [.inr 1, .inl t, .inl key] n σ (f_reqP n σ t key 1 0 f_settle) := by
  refine ok_mk (by decide) (Nat.le_of_ble_eq_true rfl) (fun K C rt ha hok hfx => ?_)
  show XW LyX TX K n σ 0 0 0 [some (.inr 1), some (.inl t), some (.inl key), none] []
  by_cases hc : f_isAct σ t ∧ (0 ≤ key ∧ key < 100)
  · have hS := hS1 hc
    refine x_aload_n C d_X_read_0 rfl rfl ?_
    refine x_iload_n C d_X_read_1 rfl rfl ?_
    refine x_iload_n C d_X_read_2 rfl rfl ?_
    refine x_iconst C d_X_read_3 (by decide) ?_
    refine x_iconst C d_X_read_4 (by decide) ?_
    refine x_callV C cl_X_69 cb_X_request cs_X_request d_X_read_5 (h) rfl rfl rfl rfl (by first | rfl | exact lx_T (by omega) | exact lx_C (by omega) (by omega) (by omega)) (by omega) (by omega) (by decide) (by decide) (Nat.le_of_ble_eq_true rfl) (by omega) (by omega) ?_
    rintro _ _ _ ⟨rfl, ⟨_, _, rfl, rfl⟩ | ⟨hx, _, _⟩⟩ -
    skip
    case' inr => exact absurd hc hx
    refine x_istore_n C d_X_read_8 rfl (by decide) ?_
    refine x_aload_n C d_X_read_9 rfl rfl ?_
    refine x_callV C cl_X_66 cb_X_settle cs_X_settle d_X_read_10 (hS) rfl rfl rfl rfl (by first | rfl | exact lx_T (by omega) | exact lx_C (by omega) (by omega) (by omega)) (by omega) (by omega) (by decide) (by decide) (Nat.le_of_ble_eq_true rfl) (by omega) (by omega) ?_
    rintro _ _ _ ⟨rfl, rfl, rfl⟩ -
    skip
    refine x_iload_n C d_X_read_13 rfl rfl ?_
    exact x_iret rt d_X_read_14 (by omega) (by omega) ⟨rfl, Or.inl ⟨hc.1, hc.2, rfl, rfl⟩⟩
  · have hS := hS2 hc
    refine x_aload_n C d_X_read_0 rfl rfl ?_
    refine x_iload_n C d_X_read_1 rfl rfl ?_
    refine x_iload_n C d_X_read_2 rfl rfl ?_
    refine x_iconst C d_X_read_3 (by decide) ?_
    refine x_iconst C d_X_read_4 (by decide) ?_
    refine x_callV C cl_X_69 cb_X_request cs_X_request d_X_read_5 (h) rfl rfl rfl rfl (by first | rfl | exact lx_T (by omega) | exact lx_C (by omega) (by omega) (by omega)) (by omega) (by omega) (by decide) (by decide) (Nat.le_of_ble_eq_true rfl) (by omega) (by omega) ?_
    rintro _ _ _ ⟨rfl, ⟨hx, hy, _, _⟩ | ⟨_, rfl, rfl⟩⟩ -
    skip
    case' inl => exact absurd ⟨hx, hy⟩ hc
    refine x_istore_n C d_X_read_8 rfl (by decide) ?_
    refine x_aload_n C d_X_read_9 rfl rfl ?_
    refine x_callV C cl_X_66 cb_X_settle cs_X_settle d_X_read_10 (hS) rfl rfl rfl rfl (by first | rfl | exact lx_T (by omega) | exact lx_C (by omega) (by omega) (by omega)) (by omega) (by omega) (by decide) (by decide) (Nat.le_of_ble_eq_true rfl) (by omega) (by omega) ?_
    rintro _ _ _ ⟨rfl, rfl, rfl⟩ -
    skip
    refine x_iload_n C d_X_read_13 rfl rfl ?_
    exact x_iret rt d_X_read_14 (by omega) (by omega) ⟨rfl, Or.inr ⟨hc, rfl, rfl⟩⟩
theorem c_X_write {n : Nat} {σ : Hp} {t key v : Int} (hn : 85 ≤ n) (h : Ok LyX TX y_X_request b_X_request 6 (some .int) 6 0 0 [.inr 1, .inl t, .inl key, .inl 2, .inl v] n σ (f_reqP n σ t key 2 v id)) (hS1 : f_isAct σ t ∧ (0 ≤ key ∧ key < 100) → OxS n (f_req2 (f_ask1 σ (85 + t) key 2 v) (85 + t))) (hS2 : ¬ (f_isAct σ t ∧ (0 ≤ key ∧ key < 100)) → OxS n σ) : Ok LyX TX y_X_write b_X_write 5 (some .int) 7 0 0 [.inr 1, .inl t, .inl key, .inl v] n σ (f_reqP n σ t key 2 v f_settle) := by
  refine ok_mk (by decide) (Nat.le_of_ble_eq_true rfl) (fun K C rt ha hok hfx => ?_)
  show XW LyX TX K n σ 0 0 0 [some (.inr 1), some (.inl t), some (.inl key), some (.inl v), none] []
  by_cases hc : f_isAct σ t ∧ (0 ≤ key ∧ key < 100)
  · have hS := hS1 hc
    refine x_aload_n C d_X_write_0 rfl rfl ?_
    refine x_iload_n C d_X_write_1 rfl rfl ?_
    refine x_iload_n C d_X_write_2 rfl rfl ?_
    refine x_iconst C d_X_write_3 (by decide) ?_
    refine x_iload_n C d_X_write_4 rfl rfl ?_
    refine x_callV C cl_X_69 cb_X_request cs_X_request d_X_write_5 (h) rfl rfl rfl rfl (by first | rfl | exact lx_T (by omega) | exact lx_C (by omega) (by omega) (by omega)) (by omega) (by omega) (by decide) (by decide) (Nat.le_of_ble_eq_true rfl) (by omega) (by omega) ?_
    rintro _ _ _ ⟨rfl, ⟨_, _, rfl, rfl⟩ | ⟨hx, _, _⟩⟩ -
    skip
    case' inr => exact absurd hc hx
    refine x_istore C d_X_write_8 (by decide) ?_
    refine x_aload_n C d_X_write_10 rfl rfl ?_
    refine x_callV C cl_X_66 cb_X_settle cs_X_settle d_X_write_11 (hS) rfl rfl rfl rfl (by first | rfl | exact lx_T (by omega) | exact lx_C (by omega) (by omega) (by omega)) (by omega) (by omega) (by decide) (by decide) (Nat.le_of_ble_eq_true rfl) (by omega) (by omega) ?_
    rintro _ _ _ ⟨rfl, rfl, rfl⟩ -
    skip
    refine x_iload C d_X_write_14 rfl ?_
    exact x_iret rt d_X_write_16 (by omega) (by omega) ⟨rfl, Or.inl ⟨hc.1, hc.2, rfl, rfl⟩⟩
  · have hS := hS2 hc
    refine x_aload_n C d_X_write_0 rfl rfl ?_
    refine x_iload_n C d_X_write_1 rfl rfl ?_
    refine x_iload_n C d_X_write_2 rfl rfl ?_
    refine x_iconst C d_X_write_3 (by decide) ?_
    refine x_iload_n C d_X_write_4 rfl rfl ?_
    refine x_callV C cl_X_69 cb_X_request cs_X_request d_X_write_5 (h) rfl rfl rfl rfl (by first | rfl | exact lx_T (by omega) | exact lx_C (by omega) (by omega) (by omega)) (by omega) (by omega) (by decide) (by decide) (Nat.le_of_ble_eq_true rfl) (by omega) (by omega) ?_
    rintro _ _ _ ⟨rfl, ⟨hx, hy, _, _⟩ | ⟨_, rfl, rfl⟩⟩ -
    skip
    case' inl => exact absurd ⟨hx, hy⟩ hc
    refine x_istore C d_X_write_8 (by decide) ?_
    refine x_aload_n C d_X_write_10 rfl rfl ?_
    refine x_callV C cl_X_66 cb_X_settle cs_X_settle d_X_write_11 (hS) rfl rfl rfl rfl (by first | rfl | exact lx_T (by omega) | exact lx_C (by omega) (by omega) (by omega)) (by omega) (by omega) (by decide) (by decide) (Nat.le_of_ble_eq_true rfl) (by omega) (by omega) ?_
    rintro _ _ _ ⟨rfl, rfl, rfl⟩ -
    skip
    refine x_iload C d_X_write_14 rfl ?_
    exact x_iret rt d_X_write_16 (by omega) (by omega) ⟨rfl, Or.inr ⟨hc, rfl, rfl⟩⟩
theorem c_X_commit {n : Nat} {σ : Hp} {t : Int} (hF : xF n σ) (z0 : 0 ≤ σ 2 11) (z1 : f_isAct σ t → σ 2 11 < 200) (hS : f_isAct σ t → OxS n (st2 (f_addCommit σ t) (85 + t) 2 3)) : Ok LyX TX y_X_commit b_X_commit 3 (some .boolean) 7 0 0 [.inr 1, .inl t] n σ (fun r n' σ' => n' = n ∧ ((f_isAct σ t ∧ r = some (.inl 1) ∧ f_settle (st2 (f_addCommit σ t) (85 + t) 2 3) = σ') ∨ (¬ f_isAct σ t ∧ r = some (.inl 0) ∧ σ = σ'))) := by
  refine ok_mk (by decide) (Nat.le_of_ble_eq_true rfl) (fun K C rt ha hok hfx => ?_)
  show XW LyX TX K n σ 0 0 0 [some (.inr 1), some (.inl t), none] []
  have hF0 := hF
  obtain ⟨f0, f1, f2, f3⟩ := hF0
  by_cases ht : 1 ≤ t ∧ t ≤ σ 1 5
  · have hf : f_find σ t = 85 + t := if_pos ht
    refine x_aload_n C d_X_commit_0 rfl rfl ?_
    refine x_iload_n C d_X_commit_1 rfl rfl ?_
    refine x_callV C cl_X_73 cb_X_find cs_X_find d_X_commit_2 (c_X_find hF) rfl rfl rfl rfl (by first | rfl | exact lx_T (by omega) | exact lx_C (by omega) (by omega) (by omega)) (by omega) (by omega) (by decide) (by decide) (Nat.le_of_ble_eq_true rfl) (by omega) (by omega) ?_
    rintro _ _ _ ⟨rfl, rfl, rfl⟩ -
    skip
    rw [hf]
    refine x_astore_n C d_X_commit_5 rfl (by decide) ?_
    refine x_aload_n C d_X_commit_6 rfl rfl ?_
    refine x_ifnull (tgt := 18) C d_X_commit_7 rfl (fun h7 => ?_) (fun h7 => ?_)
    · exact absurd h7 (by omega)
    · refine x_aload_n C d_X_commit_10 rfl rfl ?_
      refine x_getI C 2 cf_XT fl_X_77 d_X_commit_11 rfl (by decide) rfl (by first | rfl | exact lx_T (by omega) | exact lx_C (by omega) (by omega) (by omega)) (by omega) (by omega) (fun r11 => ?_)
      refine x_iconst C d_X_commit_14 (by decide) ?_
      refine x_icmp_eq (tgt := 20) C d_X_commit_15 rfl (fun h15 => ?_) (fun h15 => ?_)
      · have hact : f_isAct σ t := ⟨ht.1, ht.2, h15⟩
        refine x_aload_n C d_X_commit_20 rfl rfl ?_
        refine x_getC C 0 2 cf_X fl_X_12 d_X_commit_21 rfl rfl rfl (by omega) (by omega) rfl ?_
        refine x_iload_n C d_X_commit_24 rfl rfl ?_
        refine x_callV C cl_X_80 cb_XL_addCommit cs_XL_addCommit d_X_commit_25 (c_XL_addCommit f0 z0 (z1 hact) (by omega) (by omega)) rfl rfl rfl rfl (by first | rfl | exact lx_T (by omega) | exact lx_C (by omega) (by omega) (by omega)) (by omega) (by omega) (by decide) (by decide) (Nat.le_of_ble_eq_true rfl) (by omega) (by omega) ?_
        rintro _ _ _ ⟨rfl, rfl, rfl⟩ -
        skip
        refine x_aload_n C d_X_commit_28 rfl rfl ?_
        refine x_iconst C d_X_commit_29 (by decide) ?_
        refine x_putI C 2 rfl cf_XT fl_X_77 d_X_commit_30 rfl (Or.inl ⟨rfl, rfl⟩) rfl (by first | rfl | exact tx_T (by omega) | exact tx_A (by omega) (by omega) (by omega) | exact tx_HR (by omega) (by omega) | exact tx_KR (by omega) (by omega) | exact tx_L (by omega) (by omega)) (by first | rfl | exact lx_T (by omega) | exact lx_C (by omega) (by omega) (by omega)) (by omega) (by omega) ?_
        refine x_aload_n C d_X_commit_33 rfl rfl ?_
        refine x_callV C cl_X_66 cb_X_settle cs_X_settle d_X_commit_34 (hS hact) rfl rfl rfl rfl (by first | rfl | exact lx_T (by omega) | exact lx_C (by omega) (by omega) (by omega)) (by omega) (by omega) (by decide) (by decide) (Nat.le_of_ble_eq_true rfl) (by omega) (by omega) ?_
        rintro _ _ _ ⟨rfl, rfl, rfl⟩ -
        skip
        refine x_iconst C d_X_commit_37 (by decide) ?_
        exact x_zret rt d_X_commit_38 (by omega) (by omega) ⟨by decide, by decide⟩ (by first | exact ⟨rfl, Or.inl ⟨hact, rfl, rfl⟩⟩ | exact ⟨rfl, Or.inr ⟨fun h => h15 h.2.2, rfl, rfl⟩⟩)
      · refine x_iconst C d_X_commit_18 (by decide) ?_
        exact x_zret rt d_X_commit_19 (by omega) (by omega) ⟨by decide, by decide⟩ (by first | exact ⟨rfl, Or.inl ⟨hact, rfl, rfl⟩⟩ | exact ⟨rfl, Or.inr ⟨fun h => h15 h.2.2, rfl, rfl⟩⟩)
  · have hf : f_find σ t = 0 := if_neg ht
    refine x_aload_n C d_X_commit_0 rfl rfl ?_
    refine x_iload_n C d_X_commit_1 rfl rfl ?_
    refine x_callV C cl_X_73 cb_X_find cs_X_find d_X_commit_2 (c_X_find hF) rfl rfl rfl rfl (by first | rfl | exact lx_T (by omega) | exact lx_C (by omega) (by omega) (by omega)) (by omega) (by omega) (by decide) (by decide) (Nat.le_of_ble_eq_true rfl) (by omega) (by omega) ?_
    rintro _ _ _ ⟨rfl, rfl, rfl⟩ -
    skip
    rw [hf]
    refine x_astore_n C d_X_commit_5 rfl (by decide) ?_
    refine x_aload_n C d_X_commit_6 rfl rfl ?_
    refine x_ifnull (tgt := 18) C d_X_commit_7 rfl (fun h7 => ?_) (fun h7 => ?_)
    · refine x_iconst C d_X_commit_18 (by decide) ?_
      exact x_zret rt d_X_commit_19 (by omega) (by omega) ⟨by decide, by decide⟩ ⟨rfl, Or.inr ⟨fun h => ht ⟨h.1, h.2.1⟩, rfl, rfl⟩⟩
    · exact absurd rfl h7
theorem c_X_abort {n : Nat} {σ : Hp} {t : Int} (hF : xF n σ) (hR : (1 ≤ t ∧ t ≤ σ 1 5) ∧ (σ (85 + t) 2 = 1 ∨ σ (85 + t) 2 = 2) → OxR n σ (85 + t)) (hS : (1 ≤ t ∧ t ≤ σ 1 5) ∧ (σ (85 + t) 2 = 1 ∨ σ (85 + t) 2 = 2) → OxS n (f_rollBack σ (85 + t))) : Ok LyX TX y_X_abort b_X_abort 3 (some .boolean) 7 0 0 [.inr 1, .inl t] n σ (fun r n' σ' => n' = n ∧ ((((1 ≤ t ∧ t ≤ σ 1 5) ∧ (σ (85 + t) 2 = 1 ∨ σ (85 + t) 2 = 2)) ∧ r = some (.inl 1) ∧ f_settle (f_rollBack σ (85 + t)) = σ') ∨ (¬ ((1 ≤ t ∧ t ≤ σ 1 5) ∧ (σ (85 + t) 2 = 1 ∨ σ (85 + t) 2 = 2)) ∧ r = some (.inl 0) ∧ σ = σ'))) := by
  refine ok_mk (by decide) (Nat.le_of_ble_eq_true rfl) (fun K C rt ha hok hfx => ?_)
  show XW LyX TX K n σ 0 0 0 [some (.inr 1), some (.inl t), none] []
  have hF0 := hF
  obtain ⟨f0, f1, f2, f3⟩ := hF0
  by_cases ht : 1 ≤ t ∧ t ≤ σ 1 5
  · have hf : f_find σ t = 85 + t := if_pos ht
    have J28 : σ (85 + t) 2 = 1 ∨ σ (85 + t) 2 = 2 → XW LyX TX K n σ 0 0 28 [some (.inr 1), some (.inl t), some (.inr (85 + t))] [] := by
      intro hs
      refine x_aload_n C d_X_abort_28 rfl rfl ?_
      refine x_aload_n C d_X_abort_29 rfl rfl ?_
      refine x_callV C cl_X_84 cb_X_rollBack cs_X_rollBack d_X_abort_30 (hR ⟨ht, hs⟩) rfl rfl rfl rfl (by first | rfl | exact lx_T (by omega) | exact lx_C (by omega) (by omega) (by omega)) (by omega) (by omega) (by decide) (by decide) (Nat.le_of_ble_eq_true rfl) (by omega) (by omega) ?_
      rintro _ _ _ ⟨rfl, rfl, rfl⟩ -
      skip
      refine x_aload_n C d_X_abort_33 rfl rfl ?_
      refine x_callV C cl_X_66 cb_X_settle cs_X_settle d_X_abort_34 (hS ⟨ht, hs⟩) rfl rfl rfl rfl (by first | rfl | exact lx_T (by omega) | exact lx_C (by omega) (by omega) (by omega)) (by omega) (by omega) (by decide) (by decide) (Nat.le_of_ble_eq_true rfl) (by omega) (by omega) ?_
      rintro _ _ _ ⟨rfl, rfl, rfl⟩ -
      skip
      refine x_iconst C d_X_abort_37 (by decide) ?_
      exact x_zret rt d_X_abort_38 (by omega) (by omega) ⟨by decide, by decide⟩ ⟨rfl, Or.inl ⟨⟨ht, hs⟩, rfl, rfl⟩⟩
    refine x_aload_n C d_X_abort_0 rfl rfl ?_
    refine x_iload_n C d_X_abort_1 rfl rfl ?_
    refine x_callV C cl_X_73 cb_X_find cs_X_find d_X_abort_2 (c_X_find hF) rfl rfl rfl rfl (by first | rfl | exact lx_T (by omega) | exact lx_C (by omega) (by omega) (by omega)) (by omega) (by omega) (by decide) (by decide) (Nat.le_of_ble_eq_true rfl) (by omega) (by omega) ?_
    rintro _ _ _ ⟨rfl, rfl, rfl⟩ -
    skip
    rw [hf]
    refine x_astore_n C d_X_abort_5 rfl (by decide) ?_
    refine x_aload_n C d_X_abort_6 rfl rfl ?_
    refine x_ifnull (tgt := 26) C d_X_abort_7 rfl (fun h7 => ?_) (fun h7 => ?_)
    · exact absurd h7 (by omega)
    · refine x_aload_n C d_X_abort_10 rfl rfl ?_
      refine x_getI C 2 cf_XT fl_X_77 d_X_abort_11 rfl (by decide) rfl (by first | rfl | exact lx_T (by omega) | exact lx_C (by omega) (by omega) (by omega)) (by omega) (by omega) (fun r11 => ?_)
      refine x_iconst C d_X_abort_14 (by decide) ?_
      refine x_icmp_eq (tgt := 28) C d_X_abort_15 rfl (fun h15 => ?_) (fun h15 => ?_)
      · first | exact J28 (Or.inl h15) | exact J28 (Or.inr h23)
      · refine x_aload_n C d_X_abort_18 rfl rfl ?_
        refine x_getI C 2 cf_XT fl_X_77 d_X_abort_19 rfl (by decide) rfl (by first | rfl | exact lx_T (by omega) | exact lx_C (by omega) (by omega) (by omega)) (by omega) (by omega) (fun r19 => ?_)
        refine x_iconst C d_X_abort_22 (by decide) ?_
        refine x_icmp_eq (tgt := 28) C d_X_abort_23 rfl (fun h23 => ?_) (fun h23 => ?_)
        · first | exact J28 (Or.inl h15) | exact J28 (Or.inr h23)
        · refine x_iconst C d_X_abort_26 (by decide) ?_
          exact x_zret rt d_X_abort_27 (by omega) (by omega) ⟨by decide, by decide⟩ ⟨rfl, Or.inr ⟨fun h => h.2.elim h15 h23, rfl, rfl⟩⟩
  · have hf : f_find σ t = 0 := if_neg ht
    refine x_aload_n C d_X_abort_0 rfl rfl ?_
    refine x_iload_n C d_X_abort_1 rfl rfl ?_
    refine x_callV C cl_X_73 cb_X_find cs_X_find d_X_abort_2 (c_X_find hF) rfl rfl rfl rfl (by first | rfl | exact lx_T (by omega) | exact lx_C (by omega) (by omega) (by omega)) (by omega) (by omega) (by decide) (by decide) (Nat.le_of_ble_eq_true rfl) (by omega) (by omega) ?_
    rintro _ _ _ ⟨rfl, rfl, rfl⟩ -
    skip
    rw [hf]
    refine x_astore_n C d_X_abort_5 rfl (by decide) ?_
    refine x_aload_n C d_X_abort_6 rfl rfl ?_
    refine x_ifnull (tgt := 26) C d_X_abort_7 rfl (fun h7 => ?_) (fun h7 => ?_)
    · refine x_iconst C d_X_abort_26 (by decide) ?_
      exact x_zret rt d_X_abort_27 (by omega) (by omega) ⟨by decide, by decide⟩ ⟨rfl, Or.inr ⟨fun h => ht h.1, rfl, rfl⟩⟩
    · exact absurd rfl h7
theorem c_X_force {n : Nat} {σ : Hp} (hn : 85 ≤ n) (hS : ¬ σ 1 8 = 0 → OxS n (f_ms σ (σ 2 11))) : Ok LyX TX y_X_force b_X_force 1 (some .boolean) 7 0 0 [.inr 1] n σ (fun r n' σ' => n' = n ∧ ((¬ σ 1 8 = 0 ∧ r = some (.inl 1) ∧ f_settle (f_ms σ (σ 2 11)) = σ') ∨ (σ 1 8 = 0 ∧ r = some (.inl 0) ∧ σ = σ'))) := by
  refine ok_mk (by decide) (Nat.le_of_ble_eq_true rfl) (fun K C rt ha hok hfx => ?_)
  show XW LyX TX K n σ 0 0 0 [some (.inr 1)] []
  refine x_aload_n C d_X_force_0 rfl rfl ?_
  refine x_getI C 8 cf_X fl_X_47 d_X_force_1 rfl (by decide) rfl rfl (by omega) (by omega) (fun r1 => ?_)
  refine x_if_ne (tgt := 9) C d_X_force_4 rfl (fun h4 => ?_) (fun h4 => ?_)
  · refine x_aload_n C d_X_force_9 rfl rfl ?_
    refine x_getC C 0 2 cf_X fl_X_12 d_X_force_10 rfl rfl rfl (by omega) (by omega) rfl ?_
    refine x_aload_n C d_X_force_13 rfl rfl ?_
    refine x_getC C 0 2 cf_X fl_X_12 d_X_force_14 rfl rfl rfl (by omega) (by omega) rfl ?_
    refine x_getI C 11 cf_XL fl_X_87 d_X_force_17 rfl (by decide) rfl rfl (by omega) (by omega) (fun r17 => ?_)
    refine x_callV C cl_X_90 cb_XL_makeStable cs_XL_makeStable d_X_force_20 (c_XL_makeStable hn) rfl rfl rfl rfl (by first | rfl | exact lx_T (by omega) | exact lx_C (by omega) (by omega) (by omega)) (by omega) (by omega) (by decide) (by decide) (Nat.le_of_ble_eq_true rfl) (by omega) (by omega) ?_
    rintro _ _ _ ⟨rfl, rfl, rfl⟩ -
    skip
    refine x_aload_n C d_X_force_23 rfl rfl ?_
    refine x_callV C cl_X_66 cb_X_settle cs_X_settle d_X_force_24 (hS h4) rfl rfl rfl rfl (by first | rfl | exact lx_T (by omega) | exact lx_C (by omega) (by omega) (by omega)) (by omega) (by omega) (by decide) (by decide) (Nat.le_of_ble_eq_true rfl) (by omega) (by omega) ?_
    rintro _ _ _ ⟨rfl, rfl, rfl⟩ -
    skip
    refine x_iconst C d_X_force_27 (by decide) ?_
    exact x_zret rt d_X_force_28 (by omega) (by omega) ⟨by decide, by decide⟩ (by first | exact ⟨rfl, Or.inl ⟨h4, rfl, rfl⟩⟩ | exact ⟨rfl, Or.inr ⟨h4, rfl, rfl⟩⟩)
  · refine x_iconst C d_X_force_7 (by decide) ?_
    exact x_zret rt d_X_force_8 (by omega) (by omega) ⟨by decide, by decide⟩ (by first | exact ⟨rfl, Or.inl ⟨h4, rfl, rfl⟩⟩ | exact ⟨rfl, Or.inr ⟨h4, rfl, rfl⟩⟩)
theorem c_X_checkpoint {n : Nat} {σ : Hp} (hn : 85 ≤ n) (z0 : 0 ≤ σ 2 11) (c0 : 0 ≤ σ 2 14) (z1 : ¬ σ 1 8 = 0 ∧ σ 2 14 < 20 → σ 2 11 < 200) (hS : ¬ σ 1 8 = 0 ∧ σ 2 14 < 20 → OxS n (f_addCk σ)) : Ok LyX TX y_X_checkpoint b_X_checkpoint 2 (some .int) 7 0 0 [.inr 1] n σ (fun r n' σ' => n' = n ∧ (((¬ σ 1 8 = 0 ∧ σ 2 14 < 20) ∧ r = some (.inl (σ 2 11 + 1)) ∧ f_settle (f_addCk σ) = σ') ∨ (¬ (¬ σ 1 8 = 0 ∧ σ 2 14 < 20) ∧ r = some (.inl (-1)) ∧ σ = σ'))) := by
  refine ok_mk (by decide) (Nat.le_of_ble_eq_true rfl) (fun K C rt ha hok hfx => ?_)
  show XW LyX TX K n σ 0 0 0 [some (.inr 1), none] []
  refine x_aload_n C d_X_checkpoint_0 rfl rfl ?_
  refine x_getI C 8 cf_X fl_X_47 d_X_checkpoint_1 rfl (by decide) rfl rfl (by omega) (by omega) (fun r1 => ?_)
  refine x_if_eq (tgt := 19) C d_X_checkpoint_4 rfl (fun h4 => ?_) (fun h4 => ?_)
  · refine x_iconst C d_X_checkpoint_19 (by decide) ?_
    exact x_iret rt d_X_checkpoint_20 (by omega) (by omega) (by first | exact ⟨rfl, Or.inl ⟨hc, rfl, rfl⟩⟩ | exact ⟨rfl, Or.inr ⟨by omega, rfl, rfl⟩⟩)
  · refine x_aload_n C d_X_checkpoint_7 rfl rfl ?_
    refine x_getC C 0 2 cf_X fl_X_12 d_X_checkpoint_8 rfl rfl rfl (by omega) (by omega) rfl ?_
    refine x_getI C 14 cf_XL fl_X_93 d_X_checkpoint_11 rfl (by decide) rfl rfl (by omega) (by omega) (fun r11 => ?_)
    refine x_bipush C d_X_checkpoint_14 (by decide) (by decide) ?_
    refine x_icmp_lt (tgt := 21) C d_X_checkpoint_16 rfl (fun h16 => ?_) (fun h16 => ?_)
    · have hc : ¬ σ 1 8 = 0 ∧ σ 2 14 < 20 := ⟨h4, h16⟩
      refine x_aload_n C d_X_checkpoint_21 rfl rfl ?_
      refine x_getC C 0 2 cf_X fl_X_12 d_X_checkpoint_22 rfl rfl rfl (by omega) (by omega) rfl ?_
      refine x_aload_n C d_X_checkpoint_25 rfl rfl ?_
      refine x_getC C 1 34 cf_X fl_X_21 d_X_checkpoint_26 rfl rfl rfl (by omega) (by omega) rfl ?_
      refine x_getC C 4 38 cf_XP fl_X_96 d_X_checkpoint_29 rfl rfl rfl (by omega) (by omega) rfl ?_
      refine x_callV C cl_X_100 cb_XL_addCheckpoint cs_XL_addCheckpoint d_X_checkpoint_32 (c_XL_addCheckpoint hn z0 (z1 hc) c0 hc.2) rfl rfl rfl rfl (by first | rfl | exact lx_T (by omega) | exact lx_C (by omega) (by omega) (by omega)) (by omega) (by omega) (by decide) (by decide) (Nat.le_of_ble_eq_true rfl) (by omega) (by omega) ?_
      rintro _ _ _ ⟨rfl, rfl, rfl⟩ -
      skip
      refine x_istore_n C d_X_checkpoint_35 rfl (by decide) ?_
      refine x_aload_n C d_X_checkpoint_36 rfl rfl ?_
      refine x_callV C cl_X_66 cb_X_settle cs_X_settle d_X_checkpoint_37 (hS hc) rfl rfl rfl rfl (by first | rfl | exact lx_T (by omega) | exact lx_C (by omega) (by omega) (by omega)) (by omega) (by omega) (by decide) (by decide) (Nat.le_of_ble_eq_true rfl) (by omega) (by omega) ?_
      rintro _ _ _ ⟨rfl, rfl, rfl⟩ -
      skip
      refine x_iload_n C d_X_checkpoint_40 rfl rfl ?_
      exact x_iret rt d_X_checkpoint_41 (by omega) (by omega) (by first | exact ⟨rfl, Or.inl ⟨hc, rfl, rfl⟩⟩ | exact ⟨rfl, Or.inr ⟨by omega, rfl, rfl⟩⟩)
    · refine x_iconst C d_X_checkpoint_19 (by decide) ?_
      exact x_iret rt d_X_checkpoint_20 (by omega) (by omega) (by first | exact ⟨rfl, Or.inl ⟨hc, rfl, rfl⟩⟩ | exact ⟨rfl, Or.inr ⟨by omega, rfl, rfl⟩⟩)
theorem c_X_flush {n : Nat} {σ : Hp} {p : Int} (hn : 85 ≤ n) (hB : xB σ) (hS : ¬ σ 1 8 = 0 ∧ (0 ≤ p ∧ p < 6) ∧ ¬ σ 38 p = 0 → OxS n (f_writeOut σ p)) : Ok LyX TX y_X_flush b_X_flush 2 (some .boolean) 7 0 0 [.inr 1, .inl p] n σ (fun r n' σ' => n' = n ∧ (((¬ σ 1 8 = 0 ∧ (0 ≤ p ∧ p < 6) ∧ ¬ σ 38 p = 0) ∧ r = some (.inl 1) ∧ f_settle (f_writeOut σ p) = σ') ∨ (¬ (¬ σ 1 8 = 0 ∧ (0 ≤ p ∧ p < 6) ∧ ¬ σ 38 p = 0) ∧ r = some (.inl 0) ∧ σ = σ'))) := by
  refine ok_mk (by decide) (Nat.le_of_ble_eq_true rfl) (fun K C rt ha hok hfx => ?_)
  show XW LyX TX K n σ 0 0 0 [some (.inr 1), some (.inl p)] []
  by_cases hp : 0 ≤ p ∧ p < 6
  · by_cases hd : σ 38 p = 0
    · skip
      refine x_aload_n C d_X_flush_0 rfl rfl ?_
      refine x_getI C 8 cf_X fl_X_47 d_X_flush_1 rfl (by decide) rfl rfl (by omega) (by omega) (fun r1 => ?_)
      refine x_if_eq (tgt := 25) C d_X_flush_4 rfl (fun h4 => ?_) (fun h4 => ?_)
      · refine x_iconst C d_X_flush_25 (by decide) ?_
        exact x_zret rt d_X_flush_26 (by omega) (by omega) ⟨by decide, by decide⟩ ⟨rfl, Or.inr ⟨fun h => h.2.2 hd, rfl, rfl⟩⟩
      · refine x_iload_n C d_X_flush_7 rfl rfl ?_
        refine x_callS C cl_X_104 cb_X_isPage cs_X_isPage d_X_flush_8 (c_X_isPage) rfl rfl (by decide) (by decide) (Nat.le_of_ble_eq_true rfl) (by omega) (by omega) ?_
        rintro _ _ _ ⟨rfl, rfl, rfl⟩ -
        skip
        rw [if_pos hp]
        refine x_if_eq (tgt := 25) C d_X_flush_11 rfl (fun h11 => ?_) (fun h11 => ?_)
        · exact absurd h11 (by decide)
        · refine x_aload_n C d_X_flush_14 rfl rfl ?_
          refine x_getC C 1 34 cf_X fl_X_21 d_X_flush_15 rfl rfl rfl (by omega) (by omega) rfl ?_
          refine x_iload_n C d_X_flush_18 rfl rfl ?_
          refine x_callV C cl_X_108 cb_XP_isDirty cs_XP_isDirty d_X_flush_19 (c_XP_isDirty hn hp.1 hp.2) rfl rfl rfl rfl (by first | rfl | exact lx_T (by omega) | exact lx_C (by omega) (by omega) (by omega)) (by omega) (by omega) (by decide) (by decide) (Nat.le_of_ble_eq_true rfl) (by omega) (by omega) ?_
          rintro _ _ _ ⟨rfl, rfl, rfl⟩ -
          skip
          rw [if_pos hd]
          refine x_if_ne (tgt := 27) C d_X_flush_22 rfl (fun h22 => ?_) (fun h22 => ?_)
          · exact absurd rfl h22
          · refine x_iconst C d_X_flush_25 (by decide) ?_
            exact x_zret rt d_X_flush_26 (by omega) (by omega) ⟨by decide, by decide⟩ ⟨rfl, Or.inr ⟨fun h => h.2.2 hd, rfl, rfl⟩⟩
    · skip
      refine x_aload_n C d_X_flush_0 rfl rfl ?_
      refine x_getI C 8 cf_X fl_X_47 d_X_flush_1 rfl (by decide) rfl rfl (by omega) (by omega) (fun r1 => ?_)
      refine x_if_eq (tgt := 25) C d_X_flush_4 rfl (fun h4 => ?_) (fun h4 => ?_)
      · refine x_iconst C d_X_flush_25 (by decide) ?_
        exact x_zret rt d_X_flush_26 (by omega) (by omega) ⟨by decide, by decide⟩ (by first | exact ⟨rfl, Or.inl ⟨hc, rfl, rfl⟩⟩ | exact ⟨rfl, Or.inr ⟨fun h => h.1 h4, rfl, rfl⟩⟩)
      · refine x_iload_n C d_X_flush_7 rfl rfl ?_
        refine x_callS C cl_X_104 cb_X_isPage cs_X_isPage d_X_flush_8 (c_X_isPage) rfl rfl (by decide) (by decide) (Nat.le_of_ble_eq_true rfl) (by omega) (by omega) ?_
        rintro _ _ _ ⟨rfl, rfl, rfl⟩ -
        skip
        rw [if_pos hp]
        refine x_if_eq (tgt := 25) C d_X_flush_11 rfl (fun h11 => ?_) (fun h11 => ?_)
        · exact absurd h11 (by decide)
        · refine x_aload_n C d_X_flush_14 rfl rfl ?_
          refine x_getC C 1 34 cf_X fl_X_21 d_X_flush_15 rfl rfl rfl (by omega) (by omega) rfl ?_
          refine x_iload_n C d_X_flush_18 rfl rfl ?_
          refine x_callV C cl_X_108 cb_XP_isDirty cs_XP_isDirty d_X_flush_19 (c_XP_isDirty hn hp.1 hp.2) rfl rfl rfl rfl (by first | rfl | exact lx_T (by omega) | exact lx_C (by omega) (by omega) (by omega)) (by omega) (by omega) (by decide) (by decide) (Nat.le_of_ble_eq_true rfl) (by omega) (by omega) ?_
          rintro _ _ _ ⟨rfl, rfl, rfl⟩ -
          skip
          rw [if_neg hd]
          refine x_if_ne (tgt := 27) C d_X_flush_22 rfl (fun h22 => ?_) (fun h22 => ?_)
          · have hc : ¬ σ 1 8 = 0 ∧ (0 ≤ p ∧ p < 6) ∧ ¬ σ 38 p = 0 := ⟨h4, hp, hd⟩
            refine x_aload_n C d_X_flush_27 rfl rfl ?_
            refine x_getC C 1 34 cf_X fl_X_21 d_X_flush_28 rfl rfl rfl (by omega) (by omega) rfl ?_
            refine x_iload_n C d_X_flush_31 rfl rfl ?_
            refine x_callV C cl_X_111 cb_XP_writeOut cs_XP_writeOut d_X_flush_32 (c_XP_writeOut hn hp.1 hp.2 hB) rfl rfl rfl rfl (by first | rfl | exact lx_T (by omega) | exact lx_C (by omega) (by omega) (by omega)) (by omega) (by omega) (by decide) (by decide) (Nat.le_of_ble_eq_true rfl) (by omega) (by omega) ?_
            rintro _ _ _ ⟨rfl, rfl, rfl⟩ -
            skip
            refine x_aload_n C d_X_flush_35 rfl rfl ?_
            refine x_callV C cl_X_66 cb_X_settle cs_X_settle d_X_flush_36 (hS hc) rfl rfl rfl rfl (by first | rfl | exact lx_T (by omega) | exact lx_C (by omega) (by omega) (by omega)) (by omega) (by omega) (by decide) (by decide) (Nat.le_of_ble_eq_true rfl) (by omega) (by omega) ?_
            rintro _ _ _ ⟨rfl, rfl, rfl⟩ -
            skip
            refine x_iconst C d_X_flush_39 (by decide) ?_
            exact x_zret rt d_X_flush_40 (by omega) (by omega) ⟨by decide, by decide⟩ (by first | exact ⟨rfl, Or.inl ⟨hc, rfl, rfl⟩⟩ | exact ⟨rfl, Or.inr ⟨fun h => h.1 h4, rfl, rfl⟩⟩)
          · exact absurd h22 (by decide)
  · skip
    refine x_aload_n C d_X_flush_0 rfl rfl ?_
    refine x_getI C 8 cf_X fl_X_47 d_X_flush_1 rfl (by decide) rfl rfl (by omega) (by omega) (fun r1 => ?_)
    refine x_if_eq (tgt := 25) C d_X_flush_4 rfl (fun h4 => ?_) (fun h4 => ?_)
    · refine x_iconst C d_X_flush_25 (by decide) ?_
      exact x_zret rt d_X_flush_26 (by omega) (by omega) ⟨by decide, by decide⟩ ⟨rfl, Or.inr ⟨fun h => hp h.2.1, rfl, rfl⟩⟩
    · refine x_iload_n C d_X_flush_7 rfl rfl ?_
      refine x_callS C cl_X_104 cb_X_isPage cs_X_isPage d_X_flush_8 (c_X_isPage) rfl rfl (by decide) (by decide) (Nat.le_of_ble_eq_true rfl) (by omega) (by omega) ?_
      rintro _ _ _ ⟨rfl, rfl, rfl⟩ -
      skip
      rw [if_neg hp]
      refine x_if_eq (tgt := 25) C d_X_flush_11 rfl (fun h11 => ?_) (fun h11 => ?_)
      · refine x_iconst C d_X_flush_25 (by decide) ?_
        exact x_zret rt d_X_flush_26 (by omega) (by omega) ⟨by decide, by decide⟩ ⟨rfl, Or.inr ⟨fun h => hp h.2.1, rfl, rfl⟩⟩
      · exact absurd rfl h11
def f_cr0 (σ : Hp) (k : Int) : Hp := f_ms (st2 (st2 σ 1 7 (σ 1 7 + 1)) 1 8 0) (σ 2 12 + (if σ 2 11 - σ 2 12 < k then σ 2 11 - σ 2 12 else k))
def f_crash (σ : Hp) (k : Int) : Hp := st2 (f_ldL 4 0 (f_empty (f_lose (f_cr0 σ k)) 6)) 83 3 0
theorem c_X_crash {n : Nat} {σ : Hp} {k : Int} (hn : 85 ≤ n) (hn2 : n ≤ 1000) (h0 : 0 ≤ σ 2 12) (h1 : σ 2 12 ≤ σ 2 11) (h2 : σ 2 11 ≤ 200) (hc0 : 0 ≤ σ 1 7) (ho : ∀ i : Int, 1 ≤ i → i ≤ σ 2 11 → 0 ≤ σ 4 i ∧ σ 4 i ≤ 60 ∧ 0 ≤ σ 10 i ∧ σ 10 i ≤ 200) (c0 : 0 ≤ σ 2 13) (c1 : σ 2 13 ≤ 300) (c2 : 0 ≤ σ 2 14) (c3 : σ 2 14 ≤ 300)
    (hS : xS n (f_empty (f_lose (f_cr0 σ k)) 6)) (hT : xT n (f_empty (f_lose (f_cr0 σ k)) 6)) : Ok LyX TX y_X_crash b_X_crash 2 (some .int) 3 0 0 [.inr 1, .inl k] n σ (fun r n' σ' => n' = n ∧ ((¬ (k < 0 ∨ 8 ≤ σ 1 7) ∧ r = some (.inl (f_crash σ k 2 11)) ∧ f_crash σ k = σ') ∨ ((k < 0 ∨ 8 ≤ σ 1 7) ∧ r = some (.inl (-1)) ∧ σ = σ'))) := by
  refine ok_mk (by decide) (Nat.le_of_ble_eq_true rfl) (fun K C rt ha hok hfx => ?_)
  show XW LyX TX K n σ 0 0 0 [some (.inr 1), some (.inl k)] []
  have e2 : st2 (st2 σ 1 7 (σ 1 7 + 1)) 1 8 0 2 = σ 2 := by rw [st2_ne (by decide), st2_ne (by decide)]
  have q11 : st2 (st2 σ 1 7 (σ 1 7 + 1)) 1 8 0 2 11 = σ 2 11 := by rw [e2]
  have q12 : st2 (st2 σ 1 7 (σ 1 7 + 1)) 1 8 0 2 12 = σ 2 12 := by rw [e2]
  have g4 : f_cr0 σ k 4 = σ 4 := by rw [f_cr0, f_ms_fr _ _ (by decide), st2_ne (by decide), st2_ne (by decide)]
  have g10 : f_cr0 σ k 10 = σ 10 := by rw [f_cr0, f_ms_fr _ _ (by decide), st2_ne (by decide), st2_ne (by decide)]
  have g11 : f_cr0 σ k 2 11 = σ 2 11 := by rw [f_cr0, f_ms_2 _ _ (by decide), e2]
  have g13 : f_cr0 σ k 2 13 = σ 2 13 := by rw [f_cr0, f_ms_2 _ _ (by decide), e2]
  have g14 : f_cr0 σ k 2 14 = σ 2 14 := by rw [f_cr0, f_ms_2 _ _ (by decide), e2]
  have J64 : ¬ (k < 0 ∨ 8 ≤ σ 1 7) → XW LyX TX K n (f_cr0 σ k) 0 0 64 [some (.inr 1), some (.inl k)] [] := by
    intro hkk
    have g12 : 0 ≤ f_cr0 σ k 2 12 ∧ f_cr0 σ k 2 12 ≤ σ 2 11 := by
      rw [f_cr0, f_ms_12, q12]
      split <;> split <;> omega
    have hL := c_XL_loseUnstable (n := n) (σ := f_cr0 σ k) (by omega) g12.1 (by omega) (by omega) (by rw [g4, g10, g11]; exact ho) (by omega) (by omega) (by omega) (by omega)
    refine x_aload_n C d_X_crash_64 rfl rfl ?_
    refine x_getC C 0 2 cf_X fl_X_12 d_X_crash_65 rfl rfl rfl (by omega) (by omega) rfl ?_
    refine x_callV C cl_X_126 cb_XL_loseUnstable cs_XL_loseUnstable d_X_crash_68 (hL) rfl rfl rfl rfl (by first | rfl | exact lx_T (by omega) | exact lx_C (by omega) (by omega) (by omega)) (by omega) (by omega) (by decide) (by decide) (Nat.le_of_ble_eq_true rfl) (by omega) (by omega) ?_
    rintro _ _ _ ⟨rfl, rfl, rfl⟩ -
    skip
    refine x_aload_n C d_X_crash_71 rfl rfl ?_
    refine x_getC C 1 34 cf_X fl_X_21 d_X_crash_72 rfl rfl rfl (by omega) (by omega) rfl ?_
    refine x_callV C cl_X_129 cb_XP_empty cs_XP_empty d_X_crash_75 (c_XP_empty (by omega)) rfl rfl rfl rfl (by first | rfl | exact lx_T (by omega) | exact lx_C (by omega) (by omega) (by omega)) (by omega) (by omega) (by decide) (by decide) (Nat.le_of_ble_eq_true rfl) (by omega) (by omega) ?_
    rintro _ _ _ ⟨rfl, rfl, rfl⟩ -
    skip
    refine x_aload_n C d_X_crash_78 rfl rfl ?_
    refine x_getC C 2 76 cf_X fl_X_28 d_X_crash_79 rfl rfl rfl (by omega) (by omega) rfl ?_
    refine x_callV C cl_X_132 cb_XV_leaveAllInDoubt cs_XV_leaveAllInDoubt d_X_crash_82 (c_XV_leaveAllInDoubt (by omega) hn2 hS hT) rfl rfl rfl rfl (by first | rfl | exact lx_T (by omega) | exact lx_C (by omega) (by omega) (by omega)) (by omega) (by omega) (by decide) (by decide) (Nat.le_of_ble_eq_true rfl) (by omega) (by omega) ?_
    rintro _ _ _ ⟨rfl, rfl, rfl⟩ -
    skip
    refine x_aload_n C d_X_crash_85 rfl rfl ?_
    refine x_getC C 3 83 cf_X fl_X_37 d_X_crash_86 rfl rfl rfl (by omega) (by omega) rfl ?_
    refine x_callV C cl_X_135 cb_XR_startAnew cs_XR_startAnew d_X_crash_89 (c_XR_startAnew (by omega)) rfl rfl rfl rfl (by first | rfl | exact lx_T (by omega) | exact lx_C (by omega) (by omega) (by omega)) (by omega) (by omega) (by decide) (by decide) (Nat.le_of_ble_eq_true rfl) (by omega) (by omega) ?_
    rintro _ _ _ ⟨rfl, rfl, rfl⟩ -
    skip
    refine x_aload_n C d_X_crash_92 rfl rfl ?_
    refine x_getC C 0 2 cf_X fl_X_12 d_X_crash_93 rfl rfl rfl (by omega) (by omega) rfl ?_
    refine x_getI C 11 cf_XL fl_X_87 d_X_crash_96 rfl (by decide) rfl rfl (by omega) (by omega) (fun r96 => ?_)
    exact x_iret rt d_X_crash_99 (by omega) (by omega) ⟨rfl, Or.inl ⟨hkk, rfl, rfl⟩⟩
  have hcr : f_ms (st2 (st2 σ 1 7 (σ 1 7 + 1)) 1 8 0) (st2 (st2 σ 1 7 (σ 1 7 + 1)) 1 8 0 2 12 + (if st2 (st2 σ 1 7 (σ 1 7 + 1)) 1 8 0 2 11 - st2 (st2 σ 1 7 (σ 1 7 + 1)) 1 8 0 2 12 < k then st2 (st2 σ 1 7 (σ 1 7 + 1)) 1 8 0 2 11 - st2 (st2 σ 1 7 (σ 1 7 + 1)) 1 8 0 2 12 else k)) = f_cr0 σ k := by rw [q11, q12]; rfl
  rw [← hcr] at J64
  refine x_iload_n C d_X_crash_0 rfl rfl ?_
  refine x_if_lt (tgt := 13) C d_X_crash_1 rfl (fun h1 => ?_) (fun h1 => ?_)
  · refine x_iconst C d_X_crash_13 (by decide) ?_
    exact x_iret rt d_X_crash_14 (by omega) (by omega) ⟨rfl, Or.inr ⟨by omega, rfl, rfl⟩⟩
  · refine x_aload_n C d_X_crash_4 rfl rfl ?_
    refine x_getI C 7 cf_X fl_X_114 d_X_crash_5 rfl (by decide) rfl rfl (by omega) (by omega) (fun r5 => ?_)
    refine x_bipush C d_X_crash_8 (by decide) (by decide) ?_
    refine x_icmp_lt (tgt := 15) C d_X_crash_10 rfl (fun h10 => ?_) (fun h10 => ?_)
    · refine x_aload_n C d_X_crash_15 rfl rfl ?_
      refine x_dup C d_X_crash_16 ?_
      refine x_getI C 7 cf_X fl_X_114 d_X_crash_17 rfl (by decide) rfl rfl (by omega) (by omega) (fun r17 => ?_)
      refine x_iconst C d_X_crash_20 (by decide) ?_
      refine x_iadd C d_X_crash_21 ⟨by omega, by omega⟩ ?_
      refine x_putI C 7 rfl cf_X fl_X_114 d_X_crash_22 rfl (Or.inl ⟨rfl, rfl⟩) rfl rfl rfl (by omega) (by omega) ?_
      refine x_aload_n C d_X_crash_25 rfl rfl ?_
      refine x_iconst C d_X_crash_26 (by decide) ?_
      refine x_putI C 8 rfl cf_X fl_X_47 d_X_crash_27 rfl (Or.inr ⟨rfl, rfl, by omega, by omega⟩) rfl rfl rfl (by omega) (by omega) ?_
      refine x_aload_n C d_X_crash_30 rfl rfl ?_
      refine x_getC C 0 2 cf_X fl_X_12 d_X_crash_31 rfl rfl rfl (by omega) (by omega) rfl ?_
      refine x_aload_n C d_X_crash_34 rfl rfl ?_
      refine x_getC C 0 2 cf_X fl_X_12 d_X_crash_35 rfl rfl rfl (by omega) (by omega) rfl ?_
      refine x_getI C 12 cf_XL fl_X_117 d_X_crash_38 rfl (by decide) rfl rfl (by omega) (by omega) (fun r38 => ?_)
      refine x_iload_n C d_X_crash_41 rfl rfl ?_
      refine x_aload_n C d_X_crash_42 rfl rfl ?_
      refine x_getC C 0 2 cf_X fl_X_12 d_X_crash_43 rfl rfl rfl (by omega) (by omega) rfl ?_
      refine x_getI C 11 cf_XL fl_X_87 d_X_crash_46 rfl (by decide) rfl rfl (by omega) (by omega) (fun r46 => ?_)
      refine x_aload_n C d_X_crash_49 rfl rfl ?_
      refine x_getC C 0 2 cf_X fl_X_12 d_X_crash_50 rfl rfl rfl (by omega) (by omega) rfl ?_
      refine x_getI C 12 cf_XL fl_X_117 d_X_crash_53 rfl (by decide) rfl rfl (by omega) (by omega) (fun r53 => ?_)
      refine x_isub C d_X_crash_56 ⟨by omega, by omega⟩ ?_
      refine x_mmin C w_minLX w_minS w_mi w_minC d_X_crash_57 (by decide) (Nat.le_of_ble_eq_true rfl) (by omega) (by omega) ?_
      refine x_iadd C d_X_crash_60 ⟨by split <;> omega, by split <;> omega⟩ ?_
      refine x_callV C cl_X_90 cb_XL_makeStable cs_XL_makeStable d_X_crash_61 (c_XL_makeStable hn) rfl rfl rfl rfl (by first | rfl | exact lx_T (by omega) | exact lx_C (by omega) (by omega) (by omega)) (by omega) (by omega) (by decide) (by decide) (Nat.le_of_ble_eq_true rfl) (by omega) (by omega) ?_
      rintro _ _ _ ⟨rfl, rfl, rfl⟩ -
      skip
      exact J64 (by omega)
    · refine x_iconst C d_X_crash_13 (by decide) ?_
      exact x_iret rt d_X_crash_14 (by omega) (by omega) ⟨rfl, Or.inr ⟨by omega, rfl, rfl⟩⟩
theorem c_X_restart {n : Nat} {σ : Hp} {m : Int} (hn : 85 ≤ n) (P : Nat → Hp → Prop) (hP : σ 1 8 = 0 → P 0 σ) (hs : ∀ (k : Nat) (τ : Hp), k < 100 → P k τ → τ 1 8 = 0 → Ok LyX TX y_XR_makeUnit b_XR_makeUnit 1 none 6 0 0 [.inr 83] n τ (pV n (f_unit τ)) ∧ Ok LyX TX y_XR_isFinished b_XR_isFinished 1 (some .boolean) 3 0 0 [.inr 83] n (f_unit τ) (pI n (f_unit τ) (b2i (f_finished (f_unit τ)))) ∧ (f_finished (f_unit τ) = true → xF n (f_unit τ)) ∧ P (k + 1) (if f_finished (f_unit τ) = true then f_comeUp (f_unit τ) else f_unit τ)) :
    Ok LyX TX y_X_restart b_X_restart 3 (some .int) 7 0 0 [.inr 1, .inl m] n σ (fun r n' σ' => n' = n ∧ ((¬ (¬ σ 1 8 = 0 ∨ m < 1 ∨ 100 < m) ∧ r = some (.inl (f_rsL m.toNat 0 σ).1) ∧ (f_rsL m.toNat 0 σ).2 = σ') ∨ ((¬ σ 1 8 = 0 ∨ m < 1 ∨ 100 < m) ∧ r = some (.inl (-1)) ∧ σ = σ'))) := by
  refine ok_mk (by decide) (Nat.le_of_ble_eq_true rfl) (fun K C rt ha hok hfx => ?_)
  show XW LyX TX K n σ 0 0 0 [some (.inr 1), some (.inl m), none] []
  by_cases hc : ¬ σ 1 8 = 0 ∨ m < 1 ∨ 100 < m
  · skip
    refine x_aload_n C d_X_restart_0 rfl rfl ?_
    refine x_getI C 8 cf_X fl_X_47 d_X_restart_1 rfl (by decide) rfl rfl (by omega) (by omega) (fun r1 => ?_)
    refine x_if_ne (tgt := 18) C d_X_restart_4 rfl (fun h4 => ?_) (fun h4 => ?_)
    · refine x_iconst C d_X_restart_18 (by decide) ?_
      exact x_iret rt d_X_restart_19 (by omega) (by omega) ⟨rfl, Or.inr ⟨hc, rfl, rfl⟩⟩
    · refine x_iload_n C d_X_restart_7 rfl rfl ?_
      refine x_iconst C d_X_restart_8 (by decide) ?_
      refine x_icmp_lt (tgt := 18) C d_X_restart_9 rfl (fun h9 => ?_) (fun h9 => ?_)
      · refine x_iconst C d_X_restart_18 (by decide) ?_
        exact x_iret rt d_X_restart_19 (by omega) (by omega) ⟨rfl, Or.inr ⟨hc, rfl, rfl⟩⟩
      · refine x_iload_n C d_X_restart_12 rfl rfl ?_
        refine x_bipush C d_X_restart_13 (by decide) (by decide) ?_
        refine x_icmp_le (tgt := 20) C d_X_restart_15 rfl (fun h15 => ?_) (fun h15 => ?_)
        · exact absurd hc (by omega)
        · refine x_iconst C d_X_restart_18 (by decide) ?_
          exact x_iret rt d_X_restart_19 (by omega) (by omega) ⟨rfl, Or.inr ⟨hc, rfl, rfl⟩⟩
  · have hP := hP (by omega)
    have loop : ∀ (q k : Nat) (τ : Hp), (k : Int) + q = m → P k τ → f_rsL q (k : Int) τ = f_rsL m.toNat 0 σ → XW LyX TX K n τ 0 0 22 [some (.inr 1), some (.inl m), some (.inl (k : Int))] [] := by
      intro q
      induction q with
      | zero =>
        intro k τ hk hp hm
        rw [← hm] at rt
        refine x_iload_n C d_X_restart_22 rfl rfl ?_
        refine x_iload_n C d_X_restart_23 rfl rfl ?_
        refine x_icmp_ge (tgt := 61) C d_X_restart_24 rfl (fun h24 => ?_) (fun h24 => ?_)
        · refine x_iload_n C d_X_restart_61 rfl rfl ?_
          exact x_iret rt d_X_restart_62 (by omega) (by omega) ⟨rfl, Or.inl ⟨hc, rfl, rfl⟩⟩
        · exact absurd h24 (by omega)
      | succ q ih =>
        intro k τ hk hp hm
        rw [show f_rsL (q + 1) (k : Int) τ = if ¬ τ 1 8 = 0 then ((k : Int), τ) else f_rsL q ((k : Int) + 1) (if f_finished (f_unit τ) = true then f_comeUp (f_unit τ) else f_unit τ) from rfl] at hm
        by_cases hd : τ 1 8 = 0
        · rw [if_neg (fun h => h hd)] at hm
          obtain ⟨o1, o2, o3, o4⟩ := hs k τ (by omega) hp hd
          have ih2 := ih (k + 1) _ (by omega) o4 hm
          by_cases hf : f_finished (f_unit τ) = true
          · rw [if_pos hf] at ih2
            refine x_iload_n C d_X_restart_22 rfl rfl ?_
            refine x_iload_n C d_X_restart_23 rfl rfl ?_
            refine x_icmp_ge (tgt := 61) C d_X_restart_24 rfl (fun h24 => ?_) (fun h24 => ?_)
            · exact absurd h24 (by omega)
            · refine x_aload_n C d_X_restart_27 rfl rfl ?_
              refine x_getI C 8 cf_X fl_X_47 d_X_restart_28 rfl (by decide) rfl rfl (by omega) (by omega) (fun r28 => ?_)
              refine x_if_ne (tgt := 61) C d_X_restart_31 rfl (fun h31 => ?_) (fun h31 => ?_)
              · exact absurd hd h31
              · refine x_aload_n C d_X_restart_34 rfl rfl ?_
                refine x_getC C 3 83 cf_X fl_X_37 d_X_restart_35 rfl rfl rfl (by omega) (by omega) rfl ?_
                refine x_callV C cl_X_138 cb_XR_makeUnit cs_XR_makeUnit d_X_restart_38 (o1) rfl rfl rfl rfl (by first | rfl | exact lx_T (by omega) | exact lx_C (by omega) (by omega) (by omega)) (by omega) (by omega) (by decide) (by decide) (Nat.le_of_ble_eq_true rfl) (by omega) (by omega) ?_
                rintro _ _ _ ⟨rfl, rfl, rfl⟩ -
                skip
                refine x_iinc C d_X_restart_41 (by decide) rfl ⟨by omega, by omega⟩ ?_
                refine x_aload_n C d_X_restart_44 rfl rfl ?_
                refine x_getC C 3 83 cf_X fl_X_37 d_X_restart_45 rfl rfl rfl (by omega) (by omega) rfl ?_
                refine x_callV C cl_X_141 cb_XR_isFinished cs_XR_isFinished d_X_restart_48 (o2) rfl rfl rfl rfl (by first | rfl | exact lx_T (by omega) | exact lx_C (by omega) (by omega) (by omega)) (by omega) (by omega) (by decide) (by decide) (Nat.le_of_ble_eq_true rfl) (by omega) (by omega) ?_
                rintro _ _ _ ⟨rfl, rfl, rfl⟩ -
                skip
                rw [hf]
                refine x_if_eq (tgt := 22) C d_X_restart_51 rfl (fun h51 => ?_) (fun h51 => ?_)
                · exact absurd h51 (by decide)
                · refine x_aload_n C d_X_restart_54 rfl rfl ?_
                  refine x_callV C cl_X_145 cb_X_comeUp cs_X_comeUp d_X_restart_55 (c_X_comeUp (o3 hf)) rfl rfl rfl rfl (by first | rfl | exact lx_T (by omega) | exact lx_C (by omega) (by omega) (by omega)) (by omega) (by omega) (by decide) (by decide) (Nat.le_of_ble_eq_true rfl) (by omega) (by omega) ?_
                  rintro _ _ _ ⟨rfl, rfl, rfl⟩ -
                  skip
                  refine x_goto (tgt := 22) C d_X_restart_58 rfl ?_
                  exact ih2
          · rw [if_neg hf] at ih2
            refine x_iload_n C d_X_restart_22 rfl rfl ?_
            refine x_iload_n C d_X_restart_23 rfl rfl ?_
            refine x_icmp_ge (tgt := 61) C d_X_restart_24 rfl (fun h24 => ?_) (fun h24 => ?_)
            · exact absurd h24 (by omega)
            · refine x_aload_n C d_X_restart_27 rfl rfl ?_
              refine x_getI C 8 cf_X fl_X_47 d_X_restart_28 rfl (by decide) rfl rfl (by omega) (by omega) (fun r28 => ?_)
              refine x_if_ne (tgt := 61) C d_X_restart_31 rfl (fun h31 => ?_) (fun h31 => ?_)
              · exact absurd hd h31
              · refine x_aload_n C d_X_restart_34 rfl rfl ?_
                refine x_getC C 3 83 cf_X fl_X_37 d_X_restart_35 rfl rfl rfl (by omega) (by omega) rfl ?_
                refine x_callV C cl_X_138 cb_XR_makeUnit cs_XR_makeUnit d_X_restart_38 (o1) rfl rfl rfl rfl (by first | rfl | exact lx_T (by omega) | exact lx_C (by omega) (by omega) (by omega)) (by omega) (by omega) (by decide) (by decide) (Nat.le_of_ble_eq_true rfl) (by omega) (by omega) ?_
                rintro _ _ _ ⟨rfl, rfl, rfl⟩ -
                skip
                refine x_iinc C d_X_restart_41 (by decide) rfl ⟨by omega, by omega⟩ ?_
                refine x_aload_n C d_X_restart_44 rfl rfl ?_
                refine x_getC C 3 83 cf_X fl_X_37 d_X_restart_45 rfl rfl rfl (by omega) (by omega) rfl ?_
                refine x_callV C cl_X_141 cb_XR_isFinished cs_XR_isFinished d_X_restart_48 (o2) rfl rfl rfl rfl (by first | rfl | exact lx_T (by omega) | exact lx_C (by omega) (by omega) (by omega)) (by omega) (by omega) (by decide) (by decide) (Nat.le_of_ble_eq_true rfl) (by omega) (by omega) ?_
                rintro _ _ _ ⟨rfl, rfl, rfl⟩ -
                skip
                refine x_if_eq (tgt := 22) C d_X_restart_51 rfl (fun h51 => ?_) (fun h51 => ?_)
                · exact ih2
                · exact absurd (b2i_1 h51) hf
        · rw [if_pos hd] at hm
          rw [← hm] at rt
          refine x_iload_n C d_X_restart_22 rfl rfl ?_
          refine x_iload_n C d_X_restart_23 rfl rfl ?_
          refine x_icmp_ge (tgt := 61) C d_X_restart_24 rfl (fun h24 => ?_) (fun h24 => ?_)
          · exact absurd h24 (by omega)
          · refine x_aload_n C d_X_restart_27 rfl rfl ?_
            refine x_getI C 8 cf_X fl_X_47 d_X_restart_28 rfl (by decide) rfl rfl (by omega) (by omega) (fun r28 => ?_)
            refine x_if_ne (tgt := 61) C d_X_restart_31 rfl (fun h31 => ?_) (fun h31 => ?_)
            · refine x_iload_n C d_X_restart_61 rfl rfl ?_
              exact x_iret rt d_X_restart_62 (by omega) (by omega) ⟨rfl, Or.inl ⟨hc, rfl, rfl⟩⟩
            · exact absurd h31 hd
    refine x_aload_n C d_X_restart_0 rfl rfl ?_
    refine x_getI C 8 cf_X fl_X_47 d_X_restart_1 rfl (by decide) rfl rfl (by omega) (by omega) (fun r1 => ?_)
    refine x_if_ne (tgt := 18) C d_X_restart_4 rfl (fun h4 => ?_) (fun h4 => ?_)
    · refine x_iconst C d_X_restart_18 (by decide) ?_
      exact absurd hc (by omega)
    · refine x_iload_n C d_X_restart_7 rfl rfl ?_
      refine x_iconst C d_X_restart_8 (by decide) ?_
      refine x_icmp_lt (tgt := 18) C d_X_restart_9 rfl (fun h9 => ?_) (fun h9 => ?_)
      · refine x_iconst C d_X_restart_18 (by decide) ?_
        exact absurd hc (by omega)
      · refine x_iload_n C d_X_restart_12 rfl rfl ?_
        refine x_bipush C d_X_restart_13 (by decide) (by decide) ?_
        refine x_icmp_le (tgt := 20) C d_X_restart_15 rfl (fun h15 => ?_) (fun h15 => ?_)
        · refine x_iconst C d_X_restart_20 (by decide) ?_
          refine x_istore_n C d_X_restart_21 rfl (by decide) ?_
          exact loop m.toNat 0 σ (by omega) hP rfl
        · refine x_iconst C d_X_restart_18 (by decide) ?_
          exact absurd hc (by omega)

