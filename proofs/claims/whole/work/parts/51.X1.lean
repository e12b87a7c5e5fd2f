-- ===== the class: its log, contents, a transaction's request =====
theorem c_XL_append {n : Nat} {σ : Hp} {k o : Int} (hn : 85 ≤ n) (h0 : 0 ≤ σ 2 11) (h1 : σ 2 11 < 200) : Ok LyX TX y_XL_append b_XL_append 3 (some .int) 1 0 0 [.inr 2, .inl k, .inl o] n σ (pI n (f_append σ k o) (σ 2 11 + 1)) := by
  refine ok_mk (by decide) (Nat.le_of_ble_eq_true rfl) (fun K C rt ha hok hfx => ?_)
  show XW LyX TX K n σ 0 0 0 [some (.inr 2), some (.inl k), some (.inl o)] []
  refine x_aload_n C d_XL_append_0 rfl rfl ?_
  refine x_getI C 11 cf_XL fl_XL_47 d_XL_append_1 rfl (by decide) rfl rfl (by omega) (by omega) (fun r1 => ?_)
  refine x_sipush C d_XL_append_4 (by decide) (by decide) ?_
  refine x_icmp_lt (tgt := 12) C d_XL_append_7 rfl (fun h7 => ?_) (fun h7 => ?_)
  · refine x_aload_n C d_XL_append_12 rfl rfl ?_
    refine x_dup C d_XL_append_13 ?_
    refine x_getI C 11 cf_XL fl_XL_47 d_XL_append_14 rfl (by decide) rfl rfl (by omega) (by omega) (fun r14 => ?_)
    refine x_iconst C d_XL_append_17 (by decide) ?_
    refine x_iadd C d_XL_append_18 ⟨by omega, by omega⟩ ?_
    refine x_putI C 11 rfl cf_XL fl_XL_47 d_XL_append_19 rfl (Or.inl ⟨rfl, rfl⟩) rfl rfl rfl (by omega) (by omega) ?_
    refine x_aload_n C d_XL_append_22 rfl rfl ?_
    refine x_getC C 0 3 cf_XL fl_XL_9 d_XL_append_23 rfl rfl rfl (by omega) (by omega) rfl ?_
    refine x_aload_n C d_XL_append_26 rfl rfl ?_
    refine x_getI C 11 cf_XL fl_XL_47 d_XL_append_27 rfl (by decide) rfl rfl (by omega) (by omega) (fun r27 => ?_)
    refine x_iload_n C d_XL_append_30 rfl rfl ?_
    refine x_iast C d_XL_append_31 (by first | rfl | exact lx_A (by omega) (by omega) (by omega) | exact lx_H (by omega) (by omega) | exact lx_K (by omega) (by omega)) (by first | rfl | exact tx_T (by omega) | exact tx_A (by omega) (by omega) (by omega) | exact tx_HR (by omega) (by omega) | exact tx_KR (by omega) (by omega) | exact tx_L (by omega) (by omega)) (by omega) (by omega) (by simp [st2]; omega) (by simp [st2]; omega) ?_
    refine x_aload_n C d_XL_append_32 rfl rfl ?_
    refine x_getC C 1 4 cf_XL fl_XL_15 d_XL_append_33 rfl rfl rfl (by omega) (by omega) rfl ?_
    refine x_aload_n C d_XL_append_36 rfl rfl ?_
    refine x_getI C 11 cf_XL fl_XL_47 d_XL_append_37 rfl (by decide) rfl rfl (by omega) (by omega) (fun r37 => ?_)
    refine x_iload_n C d_XL_append_40 rfl rfl ?_
    refine x_iast C d_XL_append_41 (by first | rfl | exact lx_A (by omega) (by omega) (by omega) | exact lx_H (by omega) (by omega) | exact lx_K (by omega) (by omega)) (by first | rfl | exact tx_T (by omega) | exact tx_A (by omega) (by omega) (by omega) | exact tx_HR (by omega) (by omega) | exact tx_KR (by omega) (by omega) | exact tx_L (by omega) (by omega)) (by omega) (by omega) (by simp [st2]; omega) (by simp [st2]; omega) ?_
    refine x_aload_n C d_XL_append_42 rfl rfl ?_
    refine x_getC C 7 10 cf_XL fl_XL_33 d_XL_append_43 rfl rfl rfl (by omega) (by omega) rfl ?_
    refine x_aload_n C d_XL_append_46 rfl rfl ?_
    refine x_getI C 11 cf_XL fl_XL_47 d_XL_append_47 rfl (by decide) rfl rfl (by omega) (by omega) (fun r47 => ?_)
    refine x_iconst C d_XL_append_50 (by decide) ?_
    refine x_iast C d_XL_append_51 (by first | rfl | exact lx_A (by omega) (by omega) (by omega) | exact lx_H (by omega) (by omega) | exact lx_K (by omega) (by omega)) (by first | rfl | exact tx_T (by omega) | exact tx_A (by omega) (by omega) (by omega) | exact tx_HR (by omega) (by omega) | exact tx_KR (by omega) (by omega) | exact tx_L (by omega) (by omega)) (by omega) (by omega) (by simp [st2]; omega) (by simp [st2]; omega) ?_
    refine x_aload_n C d_XL_append_52 rfl rfl ?_
    refine x_getI C 11 cf_XL fl_XL_47 d_XL_append_53 rfl (by decide) rfl rfl (by omega) (by omega) (fun r53 => ?_)
    exact x_iret rt d_XL_append_56 (by omega) (by omega) ⟨by simp [st2], rfl, rfl⟩
  · exact absurd h7 (by omega)
theorem c_XL_addUpdate {n : Nat} {σ : Hp} {o pl kb vb k v : Int} (hn : 85 ≤ n) (h0 : 0 ≤ σ 2 11) (h1 : σ 2 11 < 200) (h2 : 0 ≤ σ 2 13) (h3 : σ 2 13 < 1000) : Ok LyX TX y_XL_addUpdate b_XL_addUpdate 8 (some .int) 2 0 0 [.inr 2, .inl o, .inl pl, .inl kb, .inl vb, .inl k, .inl v] n σ (pI n (f_addUpdate σ o pl kb vb k v) (σ 2 11 + 1)) := by
  refine ok_mk (by decide) (Nat.le_of_ble_eq_true rfl) (fun K C rt ha hok hfx => ?_)
  show XW LyX TX K n σ 0 0 0 [some (.inr 2), some (.inl o), some (.inl pl), some (.inl kb), some (.inl vb), some (.inl k), some (.inl v), none] []
  have e : f_append σ 1 o 2 13 = σ 2 13 := by simp [f_append_eq]
  refine x_aload_n C d_XL_addUpdate_0 rfl rfl ?_
  refine x_iconst C d_XL_addUpdate_1 (by decide) ?_
  refine x_iload_n C d_XL_addUpdate_2 rfl rfl ?_
  refine x_callV C cl_XL_51 cb_XL_append cs_XL_append d_XL_addUpdate_3 (c_XL_append hn h0 h1) rfl rfl rfl rfl (by first | rfl | exact lx_T (by omega) | exact lx_C (by omega) (by omega) (by omega)) (by omega) (by omega) (by decide) (by decide) (Nat.le_of_ble_eq_true rfl) (by omega) (by omega) ?_
  rintro _ _ _ ⟨rfl, rfl, rfl⟩ -
  skip
  refine x_istore C d_XL_addUpdate_6 (by decide) ?_
  refine x_aload_n C d_XL_addUpdate_8 rfl rfl ?_
  refine x_getC C 2 5 cf_XL fl_XL_18 d_XL_addUpdate_9 rfl rfl rfl (by omega) (by omega) rfl ?_
  refine x_iload C d_XL_addUpdate_12 rfl ?_
  refine x_iload_n C d_XL_addUpdate_14 rfl rfl ?_
  refine x_iast C d_XL_addUpdate_15 (by first | rfl | exact lx_A (by omega) (by omega) (by omega) | exact lx_H (by omega) (by omega) | exact lx_K (by omega) (by omega)) (by first | rfl | exact tx_T (by omega) | exact tx_A (by omega) (by omega) (by omega) | exact tx_HR (by omega) (by omega) | exact tx_KR (by omega) (by omega) | exact tx_L (by omega) (by omega)) (by omega) (by omega) (by omega) (by omega) ?_
  refine x_aload_n C d_XL_addUpdate_16 rfl rfl ?_
  refine x_getC C 3 6 cf_XL fl_XL_21 d_XL_addUpdate_17 rfl rfl rfl (by omega) (by omega) rfl ?_
  refine x_iload C d_XL_addUpdate_20 rfl ?_
  refine x_iload_n C d_XL_addUpdate_22 rfl rfl ?_
  refine x_iast C d_XL_addUpdate_23 (by first | rfl | exact lx_A (by omega) (by omega) (by omega) | exact lx_H (by omega) (by omega) | exact lx_K (by omega) (by omega)) (by first | rfl | exact tx_T (by omega) | exact tx_A (by omega) (by omega) (by omega) | exact tx_HR (by omega) (by omega) | exact tx_KR (by omega) (by omega) | exact tx_L (by omega) (by omega)) (by omega) (by omega) (by omega) (by omega) ?_
  refine x_aload_n C d_XL_addUpdate_24 rfl rfl ?_
  refine x_getC C 4 7 cf_XL fl_XL_24 d_XL_addUpdate_25 rfl rfl rfl (by omega) (by omega) rfl ?_
  refine x_iload C d_XL_addUpdate_28 rfl ?_
  refine x_iload C d_XL_addUpdate_30 rfl ?_
  refine x_iast C d_XL_addUpdate_32 (by first | rfl | exact lx_A (by omega) (by omega) (by omega) | exact lx_H (by omega) (by omega) | exact lx_K (by omega) (by omega)) (by first | rfl | exact tx_T (by omega) | exact tx_A (by omega) (by omega) (by omega) | exact tx_HR (by omega) (by omega) | exact tx_KR (by omega) (by omega) | exact tx_L (by omega) (by omega)) (by omega) (by omega) (by omega) (by omega) ?_
  refine x_aload_n C d_XL_addUpdate_33 rfl rfl ?_
  refine x_getC C 5 8 cf_XL fl_XL_27 d_XL_addUpdate_34 rfl rfl rfl (by omega) (by omega) rfl ?_
  refine x_iload C d_XL_addUpdate_37 rfl ?_
  refine x_iload C d_XL_addUpdate_39 rfl ?_
  refine x_iast C d_XL_addUpdate_41 (by first | rfl | exact lx_A (by omega) (by omega) (by omega) | exact lx_H (by omega) (by omega) | exact lx_K (by omega) (by omega)) (by first | rfl | exact tx_T (by omega) | exact tx_A (by omega) (by omega) (by omega) | exact tx_HR (by omega) (by omega) | exact tx_KR (by omega) (by omega) | exact tx_L (by omega) (by omega)) (by omega) (by omega) (by omega) (by omega) ?_
  refine x_aload_n C d_XL_addUpdate_42 rfl rfl ?_
  refine x_getC C 6 9 cf_XL fl_XL_30 d_XL_addUpdate_43 rfl rfl rfl (by omega) (by omega) rfl ?_
  refine x_iload C d_XL_addUpdate_46 rfl ?_
  refine x_iload C d_XL_addUpdate_48 rfl ?_
  refine x_iast C d_XL_addUpdate_50 (by first | rfl | exact lx_A (by omega) (by omega) (by omega) | exact lx_H (by omega) (by omega) | exact lx_K (by omega) (by omega)) (by first | rfl | exact tx_T (by omega) | exact tx_A (by omega) (by omega) (by omega) | exact tx_HR (by omega) (by omega) | exact tx_KR (by omega) (by omega) | exact tx_L (by omega) (by omega)) (by omega) (by omega) (by omega) (by omega) ?_
  refine x_aload_n C d_XL_addUpdate_51 rfl rfl ?_
  refine x_dup C d_XL_addUpdate_52 ?_
  refine x_getI C 13 cf_XL fl_XL_55 d_XL_addUpdate_53 rfl (by decide) rfl rfl (by omega) (by omega) (fun r53 => ?_)
  refine x_iconst C d_XL_addUpdate_56 (by decide) ?_
  refine x_iadd C d_XL_addUpdate_57 ⟨by simp [st2, e]; omega, by simp [st2, e]; omega⟩ ?_
  refine x_putI C 13 rfl cf_XL fl_XL_55 d_XL_addUpdate_58 rfl (Or.inl ⟨rfl, rfl⟩) rfl rfl rfl (by omega) (by omega) ?_
  refine x_iload C d_XL_addUpdate_61 rfl ?_
  exact x_iret rt d_XL_addUpdate_63 (by omega) (by omega) ⟨rfl, rfl, rfl⟩
theorem c_XL_addClr {n : Nat} {σ : Hp} {u : Int} (hn : 85 ≤ n) (h0 : 0 ≤ σ 2 11) (h1 : σ 2 11 < 200) (u0 : 0 ≤ u) (u1 : u ≤ 200) : Ok LyX TX y_XL_addClr b_XL_addClr 3 (some .int) 2 0 0 [.inr 2, .inl u] n σ (pI n (f_addClr σ u) (σ 2 11 + 1)) := by
  refine ok_mk (by decide) (Nat.le_of_ble_eq_true rfl) (fun K C rt ha hok hfx => ?_)
  show XW LyX TX K n σ 0 0 0 [some (.inr 2), some (.inl u), none] []
  refine x_aload_n C d_XL_addClr_0 rfl rfl ?_
  refine x_iconst C d_XL_addClr_1 (by decide) ?_
  refine x_aload_n C d_XL_addClr_2 rfl rfl ?_
  refine x_getC C 1 4 cf_XL fl_XL_15 d_XL_addClr_3 rfl rfl rfl (by omega) (by omega) rfl ?_
  refine x_iload_n C d_XL_addClr_6 rfl rfl ?_
  refine x_iald C d_XL_addClr_7 (by first | rfl | exact lx_A (by omega) (by omega) (by omega) | exact lx_H (by omega) (by omega) | exact lx_K (by omega) (by omega)) (by omega) (by omega) (by omega) (by omega) (fun r7 => ?_)
  refine x_callV C cl_XL_51 cb_XL_append cs_XL_append d_XL_addClr_8 (c_XL_append hn h0 h1) rfl rfl rfl rfl (by first | rfl | exact lx_T (by omega) | exact lx_C (by omega) (by omega) (by omega)) (by omega) (by omega) (by decide) (by decide) (Nat.le_of_ble_eq_true rfl) (by omega) (by omega) ?_
  rintro _ _ _ ⟨rfl, rfl, rfl⟩ -
  skip
  refine x_istore_n C d_XL_addClr_11 rfl (by decide) ?_
  refine x_aload_n C d_XL_addClr_12 rfl rfl ?_
  refine x_getC C 2 5 cf_XL fl_XL_18 d_XL_addClr_13 rfl rfl rfl (by omega) (by omega) rfl ?_
  refine x_iload_n C d_XL_addClr_16 rfl rfl ?_
  refine x_aload_n C d_XL_addClr_17 rfl rfl ?_
  refine x_getC C 2 5 cf_XL fl_XL_18 d_XL_addClr_18 rfl rfl rfl (by omega) (by omega) rfl ?_
  refine x_iload_n C d_XL_addClr_21 rfl rfl ?_
  refine x_iald C d_XL_addClr_22 (by first | rfl | exact lx_A (by omega) (by omega) (by omega) | exact lx_H (by omega) (by omega) | exact lx_K (by omega) (by omega)) (by omega) (by omega) (by omega) (by omega) (fun r22 => ?_)
  refine x_iast C d_XL_addClr_23 (by first | rfl | exact lx_A (by omega) (by omega) (by omega) | exact lx_H (by omega) (by omega) | exact lx_K (by omega) (by omega)) (by first | rfl | exact tx_T (by omega) | exact tx_A (by omega) (by omega) (by omega) | exact tx_HR (by omega) (by omega) | exact tx_KR (by omega) (by omega) | exact tx_L (by omega) (by omega)) (by omega) (by omega) (by omega) (by omega) ?_
  refine x_aload_n C d_XL_addClr_24 rfl rfl ?_
  refine x_getC C 5 8 cf_XL fl_XL_27 d_XL_addClr_25 rfl rfl rfl (by omega) (by omega) rfl ?_
  refine x_iload_n C d_XL_addClr_28 rfl rfl ?_
  refine x_aload_n C d_XL_addClr_29 rfl rfl ?_
  refine x_getC C 3 6 cf_XL fl_XL_21 d_XL_addClr_30 rfl rfl rfl (by omega) (by omega) rfl ?_
  refine x_iload_n C d_XL_addClr_33 rfl rfl ?_
  refine x_iald C d_XL_addClr_34 (by first | rfl | exact lx_A (by omega) (by omega) (by omega) | exact lx_H (by omega) (by omega) | exact lx_K (by omega) (by omega)) (by omega) (by omega) (by omega) (by omega) (fun r34 => ?_)
  refine x_iast C d_XL_addClr_35 (by first | rfl | exact lx_A (by omega) (by omega) (by omega) | exact lx_H (by omega) (by omega) | exact lx_K (by omega) (by omega)) (by first | rfl | exact tx_T (by omega) | exact tx_A (by omega) (by omega) (by omega) | exact tx_HR (by omega) (by omega) | exact tx_KR (by omega) (by omega) | exact tx_L (by omega) (by omega)) (by omega) (by omega) (by omega) (by omega) ?_
  refine x_aload_n C d_XL_addClr_36 rfl rfl ?_
  refine x_getC C 6 9 cf_XL fl_XL_30 d_XL_addClr_37 rfl rfl rfl (by omega) (by omega) rfl ?_
  refine x_iload_n C d_XL_addClr_40 rfl rfl ?_
  refine x_aload_n C d_XL_addClr_41 rfl rfl ?_
  refine x_getC C 4 7 cf_XL fl_XL_24 d_XL_addClr_42 rfl rfl rfl (by omega) (by omega) rfl ?_
  refine x_iload_n C d_XL_addClr_45 rfl rfl ?_
  refine x_iald C d_XL_addClr_46 (by first | rfl | exact lx_A (by omega) (by omega) (by omega) | exact lx_H (by omega) (by omega) | exact lx_K (by omega) (by omega)) (by omega) (by omega) (by omega) (by omega) (fun r46 => ?_)
  refine x_iast C d_XL_addClr_47 (by first | rfl | exact lx_A (by omega) (by omega) (by omega) | exact lx_H (by omega) (by omega) | exact lx_K (by omega) (by omega)) (by first | rfl | exact tx_T (by omega) | exact tx_A (by omega) (by omega) (by omega) | exact tx_HR (by omega) (by omega) | exact tx_KR (by omega) (by omega) | exact tx_L (by omega) (by omega)) (by omega) (by omega) (by omega) (by omega) ?_
  refine x_aload_n C d_XL_addClr_48 rfl rfl ?_
  refine x_getC C 7 10 cf_XL fl_XL_33 d_XL_addClr_49 rfl rfl rfl (by omega) (by omega) rfl ?_
  refine x_iload_n C d_XL_addClr_52 rfl rfl ?_
  refine x_iload_n C d_XL_addClr_53 rfl rfl ?_
  refine x_iast C d_XL_addClr_54 (by first | rfl | exact lx_A (by omega) (by omega) (by omega) | exact lx_H (by omega) (by omega) | exact lx_K (by omega) (by omega)) (by first | rfl | exact tx_T (by omega) | exact tx_A (by omega) (by omega) (by omega) | exact tx_HR (by omega) (by omega) | exact tx_KR (by omega) (by omega) | exact tx_L (by omega) (by omega)) (by omega) (by omega) (by omega) (by omega) ?_
  refine x_aload_n C d_XL_addClr_55 rfl rfl ?_
  refine x_getC C 7 10 cf_XL fl_XL_33 d_XL_addClr_56 rfl rfl rfl (by omega) (by omega) rfl ?_
  refine x_iload_n C d_XL_addClr_59 rfl rfl ?_
  refine x_iload_n C d_XL_addClr_60 rfl rfl ?_
  refine x_iast C d_XL_addClr_61 (by first | rfl | exact lx_A (by omega) (by omega) (by omega) | exact lx_H (by omega) (by omega) | exact lx_K (by omega) (by omega)) (by first | rfl | exact tx_T (by omega) | exact tx_A (by omega) (by omega) (by omega) | exact tx_HR (by omega) (by omega) | exact tx_KR (by omega) (by omega) | exact tx_L (by omega) (by omega)) (by omega) (by omega) (by omega) (by omega) ?_
  refine x_iload_n C d_XL_addClr_62 rfl rfl ?_
  exact x_iret rt d_XL_addClr_63 (by omega) (by omega) ⟨rfl, rfl, rfl⟩
theorem c_XL_addCommit {n : Nat} {σ : Hp} {o : Int} (hn : 85 ≤ n) (h0 : 0 ≤ σ 2 11) (h1 : σ 2 11 < 200) (u0 : 0 ≤ o) (u1 : o ≤ 60) : Ok LyX TX y_XL_addCommit b_XL_addCommit 2 none 2 0 0 [.inr 2, .inl o] n σ (pV n (f_addCommit σ o)) := by
  refine ok_mk (by decide) (Nat.le_of_ble_eq_true rfl) (fun K C rt ha hok hfx => ?_)
  show XW LyX TX K n σ 0 0 0 [some (.inr 2), some (.inl o)] []
  refine x_aload_n C d_XL_addCommit_0 rfl rfl ?_
  refine x_getC C 8 11 cf_XL fl_XL_36 d_XL_addCommit_1 rfl rfl rfl (by omega) (by omega) rfl ?_
  refine x_iload_n C d_XL_addCommit_4 rfl rfl ?_
  refine x_aload_n C d_XL_addCommit_5 rfl rfl ?_
  refine x_iconst C d_XL_addCommit_6 (by decide) ?_
  refine x_iload_n C d_XL_addCommit_7 rfl rfl ?_
  refine x_callV C cl_XL_51 cb_XL_append cs_XL_append d_XL_addCommit_8 (c_XL_append hn h0 h1) rfl rfl rfl rfl (by first | rfl | exact lx_T (by omega) | exact lx_C (by omega) (by omega) (by omega)) (by omega) (by omega) (by decide) (by decide) (Nat.le_of_ble_eq_true rfl) (by omega) (by omega) ?_
  rintro _ _ _ ⟨rfl, rfl, rfl⟩ -
  skip
  refine x_iast C d_XL_addCommit_11 (by first | rfl | exact lx_A (by omega) (by omega) (by omega) | exact lx_H (by omega) (by omega) | exact lx_K (by omega) (by omega)) (by first | rfl | exact tx_T (by omega) | exact tx_A (by omega) (by omega) (by omega) | exact tx_HR (by omega) (by omega) | exact tx_KR (by omega) (by omega) | exact tx_L (by omega) (by omega)) (by omega) (by omega) (by omega) (by omega) ?_
  exact x_vret rt d_XL_addCommit_12 (by omega) (by omega) ⟨rfl, rfl, rfl⟩
theorem c_XL_addCheckpoint {n : Nat} {σ : Hp} (hn : 85 ≤ n) (h0 : 0 ≤ σ 2 11) (h1 : σ 2 11 < 200) (u0 : 0 ≤ σ 2 14) (u1 : σ 2 14 < 20) : Ok LyX TX y_XL_addCheckpoint b_XL_addCheckpoint 3 (some .int) 2 0 0 [.inr 2, .inr 38] n σ (pI n (f_addCk σ) (σ 2 11 + 1)) := by
  refine ok_mk (by decide) (Nat.le_of_ble_eq_true rfl) (fun K C rt ha hok hfx => ?_)
  show XW LyX TX K n σ 0 0 0 [some (.inr 2), some (.inr 38), none] []
  have e : f_append σ 4 0 2 14 = σ 2 14 := by simp [f_append_eq]
  have e2 : cp6 (f_append σ 4 0) 38 (14 + f_append σ 4 0 2 14) 2 14 = σ 2 14 := by rw [e]; simp only [cp6]; rw [if_neg (by omega)]; exact e
  refine x_aload_n C d_XL_addCheckpoint_0 rfl rfl ?_
  refine x_iconst C d_XL_addCheckpoint_1 (by decide) ?_
  refine x_iconst C d_XL_addCheckpoint_2 (by decide) ?_
  refine x_callV C cl_XL_51 cb_XL_append cs_XL_append d_XL_addCheckpoint_3 (c_XL_append hn h0 h1) rfl rfl rfl rfl (by first | rfl | exact lx_T (by omega) | exact lx_C (by omega) (by omega) (by omega)) (by omega) (by omega) (by decide) (by decide) (Nat.le_of_ble_eq_true rfl) (by omega) (by omega) ?_
  rintro _ _ _ ⟨rfl, rfl, rfl⟩ -
  skip
  refine x_istore_n C d_XL_addCheckpoint_6 rfl (by decide) ?_
  refine x_aload_n C d_XL_addCheckpoint_7 rfl rfl ?_
  refine x_iconst C d_XL_addCheckpoint_8 (by decide) ?_
  refine x_aload_n C d_XL_addCheckpoint_9 rfl rfl ?_
  refine x_getC C 10 13 cf_XL fl_XL_44 d_XL_addCheckpoint_10 rfl rfl rfl (by omega) (by omega) rfl ?_
  refine x_aload_n C d_XL_addCheckpoint_13 rfl rfl ?_
  refine x_getI C 14 cf_XL fl_XL_58 d_XL_addCheckpoint_14 rfl (by decide) rfl rfl (by omega) (by omega) (fun r14 => ?_)
  refine x_aaldC C _ d_XL_addCheckpoint_17 rfl (by decide) (by omega) (by omega) (by omega) (by omega) (tx_K (by omega) (by omega)) ?_
  refine x_iconst C d_XL_addCheckpoint_18 (by decide) ?_
  refine x_bipush C d_XL_addCheckpoint_19 (by decide) (by decide) ?_
  refine x_copy6 C w_acL w_acN w_acS w_si d_XL_addCheckpoint_21 rfl (lx_K (by omega) (by omega)) (fun _ => tx_KR (by omega) (by omega)) (by omega) (by omega) (by omega) (by omega) (by decide) (Nat.le_of_ble_eq_true rfl) ?_
  refine x_aload_n C d_XL_addCheckpoint_24 rfl rfl ?_
  refine x_getC C 9 12 cf_XL fl_XL_39 d_XL_addCheckpoint_25 rfl rfl rfl (by omega) (by omega) rfl ?_
  refine x_aload_n C d_XL_addCheckpoint_28 rfl rfl ?_
  refine x_getI C 14 cf_XL fl_XL_58 d_XL_addCheckpoint_29 rfl (by decide) rfl rfl (by omega) (by omega) (fun r29 => ?_)
  refine x_iload_n C d_XL_addCheckpoint_32 rfl rfl ?_
  refine x_iast C d_XL_addCheckpoint_33 (by first | rfl | exact lx_A (by omega) (by omega) (by omega) | exact lx_H (by omega) (by omega) | exact lx_K (by omega) (by omega)) (by first | rfl | exact tx_T (by omega) | exact tx_A (by omega) (by omega) (by omega) | exact tx_HR (by omega) (by omega) | exact tx_KR (by omega) (by omega) | exact tx_L (by omega) (by omega)) (by omega) (by omega) (by omega) (by omega) ?_
  refine x_aload_n C d_XL_addCheckpoint_34 rfl rfl ?_
  refine x_dup C d_XL_addCheckpoint_35 ?_
  refine x_getI C 14 cf_XL fl_XL_58 d_XL_addCheckpoint_36 rfl (by decide) rfl rfl (by omega) (by omega) (fun r36 => ?_)
  refine x_iconst C d_XL_addCheckpoint_39 (by decide) ?_
  refine x_iadd C d_XL_addCheckpoint_40 ⟨by simp [st2, e2]; omega, by simp [st2, e2]; omega⟩ ?_
  refine x_putI C 14 rfl cf_XL fl_XL_58 d_XL_addCheckpoint_41 rfl (Or.inl ⟨rfl, rfl⟩) rfl rfl rfl (by omega) (by omega) ?_
  refine x_iload_n C d_XL_addCheckpoint_44 rfl rfl ?_
  exact x_iret rt d_XL_addCheckpoint_45 (by omega) (by omega) ⟨rfl, rfl, rfl⟩
theorem c_XL_isChange {n : Nat} {σ : Hp} {i : Int} (hn : 85 ≤ n) (u0 : 0 ≤ i) (u1 : i ≤ 200) : Ok LyX TX y_XL_isChange b_XL_isChange 2 (some .boolean) 1 0 0 [.inr 2, .inl i] n σ (pI n σ (b2i (f_isChange σ i))) := by
  refine ok_mk (by decide) (Nat.le_of_ble_eq_true rfl) (fun K C rt ha hok hfx => ?_)
  show XW LyX TX K n σ 0 0 0 [some (.inr 2), some (.inl i)] []
  refine x_aload_n C d_XL_isChange_0 rfl rfl ?_
  refine x_getC C 0 3 cf_XL fl_XL_9 d_XL_isChange_1 rfl rfl rfl (by omega) (by omega) rfl ?_
  refine x_iload_n C d_XL_isChange_4 rfl rfl ?_
  refine x_iald C d_XL_isChange_5 (by first | rfl | exact lx_A (by omega) (by omega) (by omega) | exact lx_H (by omega) (by omega) | exact lx_K (by omega) (by omega)) (by omega) (by omega) (by omega) (by omega) (fun r5 => ?_)
  refine x_iconst C d_XL_isChange_6 (by decide) ?_
  refine x_icmp_eq (tgt := 20) C d_XL_isChange_7 rfl (fun h7 => ?_) (fun h7 => ?_)
  · refine x_iconst C d_XL_isChange_20 (by decide) ?_
    refine x_goto (tgt := 25) C d_XL_isChange_21 rfl ?_
    exact x_zret rt d_XL_isChange_25 (by omega) (by omega) ⟨by decide, by decide⟩ ⟨by simp [f_isChange, b2i, *], rfl, rfl⟩
  · refine x_aload_n C d_XL_isChange_10 rfl rfl ?_
    refine x_getC C 0 3 cf_XL fl_XL_9 d_XL_isChange_11 rfl rfl rfl (by omega) (by omega) rfl ?_
    refine x_iload_n C d_XL_isChange_14 rfl rfl ?_
    refine x_iald C d_XL_isChange_15 (by first | rfl | exact lx_A (by omega) (by omega) (by omega) | exact lx_H (by omega) (by omega) | exact lx_K (by omega) (by omega)) (by omega) (by omega) (by omega) (by omega) (fun r15 => ?_)
    refine x_iconst C d_XL_isChange_16 (by decide) ?_
    refine x_icmp_ne (tgt := 24) C d_XL_isChange_17 rfl (fun h17 => ?_) (fun h17 => ?_)
    · refine x_iconst C d_XL_isChange_24 (by decide) ?_
      exact x_zret rt d_XL_isChange_25 (by omega) (by omega) ⟨by decide, by decide⟩ ⟨by simp [f_isChange, b2i, *], rfl, rfl⟩
    · refine x_iconst C d_XL_isChange_20 (by decide) ?_
      refine x_goto (tgt := 25) C d_XL_isChange_21 rfl ?_
      exact x_zret rt d_XL_isChange_25 (by omega) (by omega) ⟨by decide, by decide⟩ ⟨by simp [f_isChange, b2i, *], rfl, rfl⟩
theorem c_XL_isOpen {n : Nat} {σ : Hp} {i : Int} (hn : 85 ≤ n) (u0 : 0 ≤ i) (u1 : i ≤ 200) (o0 : 0 ≤ σ 4 i) (o1 : σ 4 i ≤ 60) : Ok LyX TX y_XL_isOpen b_XL_isOpen 2 (some .boolean) 1 0 0 [.inr 2, .inl i] n σ (pI n σ (b2i (f_isOpen σ i))) := by
  refine ok_mk (by decide) (Nat.le_of_ble_eq_true rfl) (fun K C rt ha hok hfx => ?_)
  show XW LyX TX K n σ 0 0 0 [some (.inr 2), some (.inl i)] []
  refine x_aload_n C d_XL_isOpen_0 rfl rfl ?_
  refine x_getC C 0 3 cf_XL fl_XL_9 d_XL_isOpen_1 rfl rfl rfl (by omega) (by omega) rfl ?_
  refine x_iload_n C d_XL_isOpen_4 rfl rfl ?_
  refine x_iald C d_XL_isOpen_5 (by first | rfl | exact lx_A (by omega) (by omega) (by omega) | exact lx_H (by omega) (by omega) | exact lx_K (by omega) (by omega)) (by omega) (by omega) (by omega) (by omega) (fun r5 => ?_)
  refine x_iconst C d_XL_isOpen_6 (by decide) ?_
  refine x_icmp_ne (tgt := 37) C d_XL_isOpen_7 rfl (fun h7 => ?_) (fun h7 => ?_)
  · refine x_iconst C d_XL_isOpen_37 (by decide) ?_
    exact x_zret rt d_XL_isOpen_38 (by omega) (by omega) ⟨by decide, by decide⟩ ⟨by simp [f_isOpen, b2i, *], rfl, rfl⟩
  · refine x_aload_n C d_XL_isOpen_10 rfl rfl ?_
    refine x_getC C 7 10 cf_XL fl_XL_33 d_XL_isOpen_11 rfl rfl rfl (by omega) (by omega) rfl ?_
    refine x_iload_n C d_XL_isOpen_14 rfl rfl ?_
    refine x_iald C d_XL_isOpen_15 (by first | rfl | exact lx_A (by omega) (by omega) (by omega) | exact lx_H (by omega) (by omega) | exact lx_K (by omega) (by omega)) (by omega) (by omega) (by omega) (by omega) (fun r15 => ?_)
    refine x_if_ne (tgt := 37) C d_XL_isOpen_16 rfl (fun h16 => ?_) (fun h16 => ?_)
    · refine x_iconst C d_XL_isOpen_37 (by decide) ?_
      exact x_zret rt d_XL_isOpen_38 (by omega) (by omega) ⟨by decide, by decide⟩ ⟨by simp [f_isOpen, b2i, *], rfl, rfl⟩
    · refine x_aload_n C d_XL_isOpen_19 rfl rfl ?_
      refine x_getC C 8 11 cf_XL fl_XL_36 d_XL_isOpen_20 rfl rfl rfl (by omega) (by omega) rfl ?_
      refine x_aload_n C d_XL_isOpen_23 rfl rfl ?_
      refine x_getC C 1 4 cf_XL fl_XL_15 d_XL_isOpen_24 rfl rfl rfl (by omega) (by omega) rfl ?_
      refine x_iload_n C d_XL_isOpen_27 rfl rfl ?_
      refine x_iald C d_XL_isOpen_28 (by first | rfl | exact lx_A (by omega) (by omega) (by omega) | exact lx_H (by omega) (by omega) | exact lx_K (by omega) (by omega)) (by omega) (by omega) (by omega) (by omega) (fun r28 => ?_)
      refine x_iald C d_XL_isOpen_29 (by first | rfl | exact lx_A (by omega) (by omega) (by omega) | exact lx_H (by omega) (by omega) | exact lx_K (by omega) (by omega)) (by omega) (by omega) (by omega) (by omega) (fun r29 => ?_)
      refine x_if_ne (tgt := 37) C d_XL_isOpen_30 rfl (fun h30 => ?_) (fun h30 => ?_)
      · refine x_iconst C d_XL_isOpen_37 (by decide) ?_
        exact x_zret rt d_XL_isOpen_38 (by omega) (by omega) ⟨by decide, by decide⟩ ⟨by simp [f_isOpen, b2i, *], rfl, rfl⟩
      · refine x_iconst C d_XL_isOpen_33 (by decide) ?_
        refine x_goto (tgt := 38) C d_XL_isOpen_34 rfl ?_
        exact x_zret rt d_XL_isOpen_38 (by omega) (by omega) ⟨by decide, by decide⟩ ⟨by simp [f_isOpen, b2i, *], rfl, rfl⟩
theorem c_XL_greatestOpen {n : Nat} {σ : Hp} (hn : 85 ≤ n) (h0 : 0 ≤ σ 2 11) (h1 : σ 2 11 ≤ 200) (ho : ∀ i : Int, 1 ≤ i → i ≤ σ 2 11 → 0 ≤ σ 4 i ∧ σ 4 i ≤ 60) : Ok LyX TX y_XL_greatestOpen b_XL_greatestOpen 2 (some .int) 2 0 0 [.inr 2] n σ (pI n σ (f_gOpen σ)) := by
  refine ok_mk (by decide) (Nat.le_of_ble_eq_true rfl) (fun K C rt ha hok hfx => ?_)
  show XW LyX TX K n σ 0 0 0 [some (.inr 2), none] []
  have loop : ∀ (i : Nat), (i : Int) ≤ σ 2 11 → srchD (f_isOpen σ) i = f_gOpen σ → XW LyX TX K n σ 0 0 5 [some (.inr 2), some (.inl (i : Int))] [] := by
    intro i
    induction i with
    | zero =>
      intro hi hm
      refine x_iload_n C d_XL_greatestOpen_5 rfl rfl ?_
      refine x_iconst C d_XL_greatestOpen_6 (by decide) ?_
      refine x_icmp_lt (tgt := 26) C d_XL_greatestOpen_7 rfl (fun h7 => ?_) (fun h7 => ?_)
      · refine x_iconst C d_XL_greatestOpen_26 (by decide) ?_
        exact x_iret rt d_XL_greatestOpen_27 (by omega) (by omega) ⟨by rw [← hm]; rfl, rfl, rfl⟩
      · exact absurd h7 (by omega)
    | succ i ih =>
      intro hi hm
      rw [show srchD (f_isOpen σ) (i + 1) = if f_isOpen σ ((i : Int) + 1) = true then (i : Int) + 1 else srchD (f_isOpen σ) i from rfl] at hm
      rw [show ((i + 1 : Nat) : Int) = (i : Int) + 1 from rfl]
      have hoi := ho ((i : Int) + 1) (by omega) (by omega)
      have ih2 := fun h => ih (by omega) h
      rw [show (i : Int) = (i : Int) + 1 + (-1) by omega] at ih2
      refine x_iload_n C d_XL_greatestOpen_5 rfl rfl ?_
      refine x_iconst C d_XL_greatestOpen_6 (by decide) ?_
      refine x_icmp_lt (tgt := 26) C d_XL_greatestOpen_7 rfl (fun h7 => ?_) (fun h7 => ?_)
      · exact absurd h7 (by omega)
      · refine x_aload_n C d_XL_greatestOpen_10 rfl rfl ?_
        refine x_iload_n C d_XL_greatestOpen_11 rfl rfl ?_
        refine x_callV C cl_XL_67 cb_XL_isOpen cs_XL_isOpen d_XL_greatestOpen_12 (c_XL_isOpen hn (by omega) (by omega) hoi.1 hoi.2) rfl rfl rfl rfl (by first | rfl | exact lx_T (by omega) | exact lx_C (by omega) (by omega) (by omega)) (by omega) (by omega) (by decide) (by decide) (Nat.le_of_ble_eq_true rfl) (by omega) (by omega) ?_
        rintro _ _ _ ⟨rfl, rfl, rfl⟩ -
        skip
        refine x_if_eq (tgt := 20) C d_XL_greatestOpen_15 rfl (fun h15 => ?_) (fun h15 => ?_)
        · refine x_iinc C d_XL_greatestOpen_20 (by decide) rfl ⟨by omega, by omega⟩ ?_
          refine x_goto (tgt := 5) C d_XL_greatestOpen_23 rfl ?_
          exact ih2 (by rw [← hm, if_neg (by intro hb; rw [hb] at h15; exact absurd h15 (by decide))])
        · refine x_iload_n C d_XL_greatestOpen_18 rfl rfl ?_
          exact x_iret rt d_XL_greatestOpen_19 (by omega) (by omega) ⟨by rw [← hm, if_pos (by cases hb : f_isOpen σ ((i : Int) + 1) <;> simp_all [b2i])], rfl, rfl⟩
  have hl := loop (σ 2 11).toNat (by omega) rfl
  rw [show (((σ 2 11).toNat : Nat) : Int) = σ 2 11 by omega] at hl
  refine x_aload_n C d_XL_greatestOpen_0 rfl rfl ?_
  refine x_getI C 11 cf_XL fl_XL_47 d_XL_greatestOpen_1 rfl (by decide) rfl rfl (by omega) (by omega) (fun r1 => ?_)
  refine x_istore_n C d_XL_greatestOpen_4 rfl (by decide) ?_
  exact hl
theorem c_XL_makeStable {n : Nat} {σ : Hp} {u : Int} (hn : 85 ≤ n) : Ok LyX TX y_XL_makeStable b_XL_makeStable 2 none 1 0 0 [.inr 2, .inl u] n σ (pV n (f_ms σ u)) := by
  refine ok_mk (by decide) (Nat.le_of_ble_eq_true rfl) (fun K C rt ha hok hfx => ?_)
  show XW LyX TX K n σ 0 0 0 [some (.inr 2), some (.inl u)] []
  refine x_aload_n C d_XL_makeStable_0 rfl rfl ?_
  refine x_getI C 12 cf_XL fl_XL_71 d_XL_makeStable_1 rfl (by decide) rfl rfl (by omega) (by omega) (fun r1 => ?_)
  refine x_iload_n C d_XL_makeStable_4 rfl rfl ?_
  refine x_icmp_ge (tgt := 13) C d_XL_makeStable_5 rfl (fun h5 => ?_) (fun h5 => ?_)
  · exact x_vret rt d_XL_makeStable_13 (by omega) (by omega) ⟨rfl, rfl, by simp only [f_ms]; first | rw [if_pos (by omega)] | rw [if_neg (by omega)]⟩
  · refine x_aload_n C d_XL_makeStable_8 rfl rfl ?_
    refine x_iload_n C d_XL_makeStable_9 rfl rfl ?_
    refine x_putI C 12 rfl cf_XL fl_XL_71 d_XL_makeStable_10 rfl (Or.inl ⟨rfl, rfl⟩) rfl rfl rfl (by omega) (by omega) ?_
    exact x_vret rt d_XL_makeStable_13 (by omega) (by omega) ⟨rfl, rfl, by simp only [f_ms]; first | rw [if_pos (by omega)] | rw [if_neg (by omega)]⟩
theorem c_XL_forget {n : Nat} {σ : Hp} {i : Int} (hn : 85 ≤ n) (u0 : 0 ≤ i) (u1 : i ≤ 200) (o0 : 0 ≤ σ 4 i) (o1 : σ 4 i ≤ 60) (p0 : 0 ≤ σ 10 i) (p1 : σ 10 i ≤ 200) (c0 : -1000 ≤ σ 2 13) (c1 : σ 2 13 ≤ 1000) (c2 : -1000 ≤ σ 2 14) (c3 : σ 2 14 ≤ 1000) : Ok LyX TX y_XL_forget b_XL_forget 2 none 1 0 0 [.inr 2, .inl i] n σ (pV n (f_forget σ i)) := by
  refine ok_mk (by decide) (Nat.le_of_ble_eq_true rfl) (fun K C rt ha hok hfx => ?_)
  show XW LyX TX K n σ 0 0 0 [some (.inr 2), some (.inl i)] []
  refine x_aload_n C d_XL_forget_0 rfl rfl ?_
  refine x_getC C 0 3 cf_XL fl_XL_9 d_XL_forget_1 rfl rfl rfl (by omega) (by omega) rfl ?_
  refine x_iload_n C d_XL_forget_4 rfl rfl ?_
  refine x_iald C d_XL_forget_5 (by first | rfl | exact lx_A (by omega) (by omega) (by omega) | exact lx_H (by omega) (by omega) | exact lx_K (by omega) (by omega)) (by omega) (by omega) (by omega) (by omega) (fun r5 => ?_)
  by_cases h6 : 1 ≤ σ 3 i ∧ σ 3 i ≤ 3
  · rcases (show σ 3 i = 1 ∨ σ 3 i = 2 ∨ σ 3 i = 3 by omega) with h6x | h6x | h6x
    · refine x_table (off := 26) (tgt := 32) C d_XL_forget_6 (Or.inl ⟨by omega, by omega, by rw [h6x]; rfl⟩) rfl ?_
      refine x_aload_n C d_XL_forget_32 rfl rfl ?_
      refine x_dup C d_XL_forget_33 ?_
      refine x_getI C 13 cf_XL fl_XL_55 d_XL_forget_34 rfl (by decide) rfl rfl (by omega) (by omega) (fun r34 => ?_)
      refine x_iconst C d_XL_forget_37 (by decide) ?_
      refine x_isub C d_XL_forget_38 ⟨by omega, by omega⟩ ?_
      refine x_putI C 13 rfl cf_XL fl_XL_55 d_XL_forget_39 rfl (Or.inl ⟨rfl, rfl⟩) rfl rfl rfl (by omega) (by omega) ?_
      refine x_goto (tgt := 85) C d_XL_forget_42 rfl ?_
      exact x_vret rt d_XL_forget_85 (by omega) (by omega) ⟨rfl, rfl, by simp only [f_forget]; first | (rw [if_pos h6x]; done) | (rw [if_neg (by omega), if_pos h6x]; done) | (rw [if_neg (by omega), if_neg (by omega), if_pos h6x]; done) | (rw [if_neg (by omega), if_neg (by omega), if_neg (by omega)]; done)⟩
    · refine x_table (off := 39) (tgt := 45) C d_XL_forget_6 (Or.inl ⟨by omega, by omega, by rw [h6x]; rfl⟩) rfl ?_
      refine x_aload_n C d_XL_forget_45 rfl rfl ?_
      refine x_getC C 7 10 cf_XL fl_XL_33 d_XL_forget_46 rfl rfl rfl (by omega) (by omega) rfl ?_
      refine x_aload_n C d_XL_forget_49 rfl rfl ?_
      refine x_getC C 7 10 cf_XL fl_XL_33 d_XL_forget_50 rfl rfl rfl (by omega) (by omega) rfl ?_
      refine x_iload_n C d_XL_forget_53 rfl rfl ?_
      refine x_iald C d_XL_forget_54 (by first | rfl | exact lx_A (by omega) (by omega) (by omega) | exact lx_H (by omega) (by omega) | exact lx_K (by omega) (by omega)) (by omega) (by omega) (by omega) (by omega) (fun r54 => ?_)
      refine x_iconst C d_XL_forget_55 (by decide) ?_
      refine x_iast C d_XL_forget_56 (by first | rfl | exact lx_A (by omega) (by omega) (by omega) | exact lx_H (by omega) (by omega) | exact lx_K (by omega) (by omega)) (by first | rfl | exact tx_T (by omega) | exact tx_A (by omega) (by omega) (by omega) | exact tx_HR (by omega) (by omega) | exact tx_KR (by omega) (by omega) | exact tx_L (by omega) (by omega)) (by omega) (by omega) (by omega) (by omega) ?_
      refine x_goto (tgt := 85) C d_XL_forget_57 rfl ?_
      exact x_vret rt d_XL_forget_85 (by omega) (by omega) ⟨rfl, rfl, by simp only [f_forget]; first | (rw [if_pos h6x]; done) | (rw [if_neg (by omega), if_pos h6x]; done) | (rw [if_neg (by omega), if_neg (by omega), if_pos h6x]; done) | (rw [if_neg (by omega), if_neg (by omega), if_neg (by omega)]; done)⟩
    · refine x_table (off := 54) (tgt := 60) C d_XL_forget_6 (Or.inl ⟨by omega, by omega, by rw [h6x]; rfl⟩) rfl ?_
      refine x_aload_n C d_XL_forget_60 rfl rfl ?_
      refine x_getC C 8 11 cf_XL fl_XL_36 d_XL_forget_61 rfl rfl rfl (by omega) (by omega) rfl ?_
      refine x_aload_n C d_XL_forget_64 rfl rfl ?_
      refine x_getC C 1 4 cf_XL fl_XL_15 d_XL_forget_65 rfl rfl rfl (by omega) (by omega) rfl ?_
      refine x_iload_n C d_XL_forget_68 rfl rfl ?_
      refine x_iald C d_XL_forget_69 (by first | rfl | exact lx_A (by omega) (by omega) (by omega) | exact lx_H (by omega) (by omega) | exact lx_K (by omega) (by omega)) (by omega) (by omega) (by omega) (by omega) (fun r69 => ?_)
      refine x_iconst C d_XL_forget_70 (by decide) ?_
      refine x_iast C d_XL_forget_71 (by first | rfl | exact lx_A (by omega) (by omega) (by omega) | exact lx_H (by omega) (by omega) | exact lx_K (by omega) (by omega)) (by first | rfl | exact tx_T (by omega) | exact tx_A (by omega) (by omega) (by omega) | exact tx_HR (by omega) (by omega) | exact tx_KR (by omega) (by omega) | exact tx_L (by omega) (by omega)) (by omega) (by omega) (by omega) (by omega) ?_
      refine x_goto (tgt := 85) C d_XL_forget_72 rfl ?_
      exact x_vret rt d_XL_forget_85 (by omega) (by omega) ⟨rfl, rfl, by simp only [f_forget]; first | (rw [if_pos h6x]; done) | (rw [if_neg (by omega), if_pos h6x]; done) | (rw [if_neg (by omega), if_neg (by omega), if_pos h6x]; done) | (rw [if_neg (by omega), if_neg (by omega), if_neg (by omega)]; done)⟩
  · refine x_table (off := 69) (tgt := 75) C d_XL_forget_6 (Or.inr ⟨by omega, rfl⟩) rfl ?_
    refine x_aload_n C d_XL_forget_75 rfl rfl ?_
    refine x_dup C d_XL_forget_76 ?_
    refine x_getI C 14 cf_XL fl_XL_58 d_XL_forget_77 rfl (by decide) rfl rfl (by omega) (by omega) (fun r77 => ?_)
    refine x_iconst C d_XL_forget_80 (by decide) ?_
    refine x_isub C d_XL_forget_81 ⟨by omega, by omega⟩ ?_
    refine x_putI C 14 rfl cf_XL fl_XL_58 d_XL_forget_82 rfl (Or.inl ⟨rfl, rfl⟩) rfl rfl rfl (by omega) (by omega) ?_
    exact x_vret rt d_XL_forget_85 (by omega) (by omega) ⟨rfl, rfl, by simp only [f_forget]; first | (rw [if_pos h6x]; done) | (rw [if_neg (by omega), if_pos h6x]; done) | (rw [if_neg (by omega), if_neg (by omega), if_pos h6x]; done) | (rw [if_neg (by omega), if_neg (by omega), if_neg (by omega)]; done)⟩
theorem c_XL_loseUnstable {n : Nat} {σ : Hp} (hn : 85 ≤ n) (h0 : 0 ≤ σ 2 12) (h1 : σ 2 12 ≤ σ 2 11) (h2 : σ 2 11 ≤ 200) (ho : ∀ i : Int, 1 ≤ i → i ≤ σ 2 11 → 0 ≤ σ 4 i ∧ σ 4 i ≤ 60 ∧ 0 ≤ σ 10 i ∧ σ 10 i ≤ 200) (c0 : 0 ≤ σ 2 13) (c1 : σ 2 13 ≤ 300) (c2 : 0 ≤ σ 2 14) (c3 : σ 2 14 ≤ 300) : Ok LyX TX y_XL_loseUnstable b_XL_loseUnstable 2 none 2 0 0 [.inr 2] n σ (pV n (f_lose σ)) := by
  refine ok_mk (by decide) (Nat.le_of_ble_eq_true rfl) (fun K C rt ha hok hfx => ?_)
  show XW LyX TX K n σ 0 0 0 [some (.inr 2), none] []
  have loop : ∀ (k : Nat) (i : Int) (τ : Hp), i = σ 2 12 + k → i ≤ σ 2 11 → τ 2 12 = σ 2 12 → τ 4 = σ 4 → (∀ j : Int, 1 ≤ j → j ≤ σ 2 11 → 0 ≤ τ 10 j ∧ τ 10 j ≤ 200) → (σ 2 13 - (σ 2 11 - i) ≤ τ 2 13 ∧ τ 2 13 ≤ σ 2 13) → (σ 2 14 - (σ 2 11 - i) ≤ τ 2 14 ∧ τ 2 14 ≤ σ 2 14) → f_loseL k i τ = f_loseL (σ 2 11 - σ 2 12).toNat (σ 2 11) σ → XW LyX TX K n τ 0 0 5 [some (.inr 2), some (.inl i)] [] := by
    intro k
    induction k with
    | zero =>
      intro i τ hi hi2 e12 e4 e10 e13 e14 hm
      have hm : τ = f_loseL (σ 2 11 - σ 2 12).toNat (σ 2 11) σ := hm
      refine x_iload_n C d_XL_loseUnstable_5 rfl rfl ?_
      refine x_aload_n C d_XL_loseUnstable_6 rfl rfl ?_
      refine x_getI C 12 cf_XL fl_XL_71 d_XL_loseUnstable_7 rfl (by decide) rfl rfl (by omega) (by omega) (fun r7 => ?_)
      refine x_icmp_le (tgt := 24) C d_XL_loseUnstable_10 rfl (fun h10 => ?_) (fun h10 => ?_)
      · refine x_aload_n C d_XL_loseUnstable_24 rfl rfl ?_
        refine x_aload_n C d_XL_loseUnstable_25 rfl rfl ?_
        refine x_getI C 12 cf_XL fl_XL_71 d_XL_loseUnstable_26 rfl (by decide) rfl rfl (by omega) (by omega) (fun r26 => ?_)
        refine x_putI C 11 rfl cf_XL fl_XL_47 d_XL_loseUnstable_29 rfl (Or.inl ⟨rfl, rfl⟩) rfl rfl rfl (by omega) (by omega) ?_
        exact x_vret rt d_XL_loseUnstable_32 (by omega) (by omega) ⟨rfl, rfl, by rw [f_lose, ← hm]⟩
      · exact absurd h10 (by omega)
    | succ k ih =>
      intro i τ hi hi2 e12 e4 e10 e13 e14 hm
      have hoi := ho i (by omega) hi2
      have h10i := e10 i (by omega) hi2
      have e4i : τ 4 i = σ 4 i := by rw [e4]
      have ih2 := ih (i + -1) (f_forget τ i) (by omega) (by omega) (by rw [f_forget_2 _ _ (by decide) (by decide)]; exact e12) (by rw [f_forget_fr _ _ (by decide) (by decide) (by decide)]; exact e4)
        (fun j a b => by
          have := e10 j a b
          rcases f_forget_10 τ i j with h | h <;> omega) (by
          have h := (f_forget_n τ i).1
          omega) (by
          have h := (f_forget_n τ i).2
          omega) hm
      refine x_iload_n C d_XL_loseUnstable_5 rfl rfl ?_
      refine x_aload_n C d_XL_loseUnstable_6 rfl rfl ?_
      refine x_getI C 12 cf_XL fl_XL_71 d_XL_loseUnstable_7 rfl (by decide) rfl rfl (by omega) (by omega) (fun r7 => ?_)
      refine x_icmp_le (tgt := 24) C d_XL_loseUnstable_10 rfl (fun h10 => ?_) (fun h10 => ?_)
      · exact absurd h10 (by omega)
      · refine x_aload_n C d_XL_loseUnstable_13 rfl rfl ?_
        refine x_iload_n C d_XL_loseUnstable_14 rfl rfl ?_
        refine x_callV C cl_XL_74 cb_XL_forget cs_XL_forget d_XL_loseUnstable_15 (c_XL_forget hn (by omega) (by omega) (by omega) (by omega) h10i.1 h10i.2 (by omega) (by omega) (by omega) (by omega)) rfl rfl rfl rfl (by first | rfl | exact lx_T (by omega) | exact lx_C (by omega) (by omega) (by omega)) (by omega) (by omega) (by decide) (by decide) (Nat.le_of_ble_eq_true rfl) (by omega) (by omega) ?_
        rintro _ _ _ ⟨rfl, rfl, rfl⟩ -
        skip
        refine x_iinc C d_XL_loseUnstable_18 (by decide) rfl ⟨by omega, by omega⟩ ?_
        refine x_goto (tgt := 5) C d_XL_loseUnstable_21 rfl ?_
        exact ih2
  refine x_aload_n C d_XL_loseUnstable_0 rfl rfl ?_
  refine x_getI C 11 cf_XL fl_XL_47 d_XL_loseUnstable_1 rfl (by decide) rfl rfl (by omega) (by omega) (fun r1 => ?_)
  refine x_istore_n C d_XL_loseUnstable_4 rfl (by decide) ?_
  exact loop (σ 2 11 - σ 2 12).toNat (σ 2 11) σ (by omega) (Int.le_refl _) rfl rfl (fun j a b => (ho j a b).2.2) (by omega) (by omega) rfl
theorem c_XC_copy {n : Nat} {σ : Hp} {a b : Int} (hn : 85 ≤ n) (a0 : 40 ≤ a) (a1 : a < 76) (a2 : (a - 40) % 3 = 0) (b0 : 40 ≤ b) (b1 : b < 76) (b2 : (b - 40) % 3 = 0) (hab : a ≠ b) : Ok LyX TX y_XC_copy b_XC_copy 3 none 1 0 0 [.inr a, .inr b] n σ (pV n (f_copy σ a b)) := by
  refine ok_mk (by decide) (Nat.le_of_ble_eq_true rfl) (fun K C rt ha hok hfx => ?_)
  show XW LyX TX K n σ 0 0 0 [some (.inr a), some (.inr b), none] []
  have loop : ∀ (k : Nat) (x : Int), 0 ≤ x → x + k = 4 → XW LyX TX K n (f_cp σ a b x) 0 0 2 [some (.inr a), some (.inr b), some (.inl x)] [] := by
    intro k
    induction k with
    | zero =>
      intro x hx hk
      obtain rfl : x = 4 := by omega
      refine x_iload_n C d_XC_copy_2 rfl rfl ?_
      refine x_iconst C d_XC_copy_3 (by decide) ?_
      refine x_icmp_ge (tgt := 37) C d_XC_copy_4 rfl (fun h4 => ?_) (fun h4 => ?_)
      · refine x_aload_n C d_XC_copy_37 rfl rfl ?_
        refine x_aload_n C d_XC_copy_38 rfl rfl ?_
        refine x_getI C 2 cf_XC fl_XC_18 d_XC_copy_39 rfl (by decide) rfl (by first | rfl | exact lx_T (by omega) | exact lx_C (by omega) (by omega) (by omega)) (by omega) (by omega) (fun r39 => ?_)
        refine x_putI C 2 rfl cf_XC fl_XC_18 d_XC_copy_42 rfl (Or.inl ⟨rfl, rfl⟩) rfl (by first | rfl | exact tx_T (by omega) | exact tx_A (by omega) (by omega) (by omega) | exact tx_HR (by omega) (by omega) | exact tx_KR (by omega) (by omega) | exact tx_L (by omega) (by omega)) (by first | rfl | exact lx_T (by omega) | exact lx_C (by omega) (by omega) (by omega)) (by omega) (by omega) ?_
        exact x_vret rt d_XC_copy_45 (by omega) (by omega) ⟨rfl, rfl, rfl⟩
      · exact absurd h4 (by omega)
    | succ k ih =>
      intro x hx hk
      refine x_iload_n C d_XC_copy_2 rfl rfl ?_
      refine x_iconst C d_XC_copy_3 (by decide) ?_
      refine x_icmp_ge (tgt := 37) C d_XC_copy_4 rfl (fun h4 => ?_) (fun h4 => ?_)
      · exact absurd h4 (by omega)
      · refine x_aload_n C d_XC_copy_7 rfl rfl ?_
        refine x_getC C 0 _ cf_XC fl_XC_9 d_XC_copy_8 rfl rfl (by first | rfl | exact lx_T (by omega) | exact lx_C (by omega) (by omega) (by omega)) (by omega) (by omega) (tx_C0 (by omega) (by omega) (by omega)) ?_
        refine x_iload_n C d_XC_copy_11 rfl rfl ?_
        refine x_aload_n C d_XC_copy_12 rfl rfl ?_
        refine x_getC C 0 _ cf_XC fl_XC_9 d_XC_copy_13 rfl rfl (by first | rfl | exact lx_T (by omega) | exact lx_C (by omega) (by omega) (by omega)) (by omega) (by omega) (tx_C0 (by omega) (by omega) (by omega)) ?_
        refine x_iload_n C d_XC_copy_16 rfl rfl ?_
        refine x_iald C d_XC_copy_17 (by first | rfl | exact lx_A (by omega) (by omega) (by omega) | exact lx_H (by omega) (by omega) | exact lx_K (by omega) (by omega)) (by omega) (by omega) (by omega) (by omega) (fun r17 => ?_)
        refine x_iast C d_XC_copy_18 (by first | rfl | exact lx_A (by omega) (by omega) (by omega) | exact lx_H (by omega) (by omega) | exact lx_K (by omega) (by omega)) (by first | rfl | exact tx_T (by omega) | exact tx_A (by omega) (by omega) (by omega) | exact tx_HR (by omega) (by omega) | exact tx_KR (by omega) (by omega) | exact tx_L (by omega) (by omega)) (by omega) (by omega) (by omega) (by omega) ?_
        refine x_aload_n C d_XC_copy_19 rfl rfl ?_
        refine x_getC C 1 _ cf_XC fl_XC_15 d_XC_copy_20 rfl rfl (by first | rfl | exact lx_T (by omega) | exact lx_C (by omega) (by omega) (by omega)) (by omega) (by omega) (tx_C1 (by omega) (by omega) (by omega)) ?_
        refine x_iload_n C d_XC_copy_23 rfl rfl ?_
        refine x_aload_n C d_XC_copy_24 rfl rfl ?_
        refine x_getC C 1 _ cf_XC fl_XC_15 d_XC_copy_25 rfl rfl (by first | rfl | exact lx_T (by omega) | exact lx_C (by omega) (by omega) (by omega)) (by omega) (by omega) (tx_C1 (by omega) (by omega) (by omega)) ?_
        refine x_iload_n C d_XC_copy_28 rfl rfl ?_
        refine x_iald C d_XC_copy_29 (by first | rfl | exact lx_A (by omega) (by omega) (by omega) | exact lx_H (by omega) (by omega) | exact lx_K (by omega) (by omega)) (by omega) (by omega) (by omega) (by omega) (fun r29 => ?_)
        refine x_iast C d_XC_copy_30 (by first | rfl | exact lx_A (by omega) (by omega) (by omega) | exact lx_H (by omega) (by omega) | exact lx_K (by omega) (by omega)) (by first | rfl | exact tx_T (by omega) | exact tx_A (by omega) (by omega) (by omega) | exact tx_HR (by omega) (by omega) | exact tx_KR (by omega) (by omega) | exact tx_L (by omega) (by omega)) (by omega) (by omega) (by omega) (by omega) ?_
        refine x_iinc C d_XC_copy_31 (by decide) rfl ⟨by omega, by omega⟩ ?_
        refine x_goto (tgt := 2) C d_XC_copy_34 rfl ?_
        rw [f_cp_step hx (by omega) (by omega) (by omega) (by omega)]
        exact ih (x + 1) (by omega) (by omega)
  have hl := loop 4 0 (by omega) (by omega)
  rw [f_cp_0] at hl
  refine x_iconst C d_XC_copy_0 (by decide) ?_
  refine x_istore_n C d_XC_copy_1 rfl (by decide) ?_
  exact hl
theorem c_XT_ask {n : Nat} {σ : Hp} {one r k w v : Int} (h0 : 86 ≤ one) (h1 : one ≤ (n : Int)) : Ok LyX TX y_XT_ask b_XT_ask 5 none 1 0 0 [.inr one, .inl r, .inl k, .inl w, .inl v] n σ (pV n (f_ask σ one r k w v)) := by
  refine ok_mk (by decide) (Nat.le_of_ble_eq_true rfl) (fun K C rt ha hok hfx => ?_)
  show XW LyX TX K n σ 0 0 0 [some (.inr one), some (.inl r), some (.inl k), some (.inl w), some (.inl v)] []
  refine x_aload_n C d_XT_ask_0 rfl rfl ?_
  refine x_iload_n C d_XT_ask_1 rfl rfl ?_
  refine x_putI C 5 rfl cf_XT fl_XT_24 d_XT_ask_2 rfl (Or.inl ⟨rfl, rfl⟩) rfl (by first | rfl | exact tx_T (by omega) | exact tx_A (by omega) (by omega) (by omega) | exact tx_HR (by omega) (by omega) | exact tx_KR (by omega) (by omega) | exact tx_L (by omega) (by omega)) (by first | rfl | exact lx_T (by omega) | exact lx_C (by omega) (by omega) (by omega)) (by omega) (by omega) ?_
  refine x_aload_n C d_XT_ask_5 rfl rfl ?_
  refine x_iload_n C d_XT_ask_6 rfl rfl ?_
  refine x_putI C 6 rfl cf_XT fl_XT_27 d_XT_ask_7 rfl (Or.inl ⟨rfl, rfl⟩) rfl (by first | rfl | exact tx_T (by omega) | exact tx_A (by omega) (by omega) (by omega) | exact tx_HR (by omega) (by omega) | exact tx_KR (by omega) (by omega) | exact tx_L (by omega) (by omega)) (by first | rfl | exact lx_T (by omega) | exact lx_C (by omega) (by omega) (by omega)) (by omega) (by omega) ?_
  refine x_aload_n C d_XT_ask_10 rfl rfl ?_
  refine x_iload_n C d_XT_ask_11 rfl rfl ?_
  refine x_putI C 7 rfl cf_XT fl_XT_30 d_XT_ask_12 rfl (Or.inl ⟨rfl, rfl⟩) rfl (by first | rfl | exact tx_T (by omega) | exact tx_A (by omega) (by omega) (by omega) | exact tx_HR (by omega) (by omega) | exact tx_KR (by omega) (by omega) | exact tx_L (by omega) (by omega)) (by first | rfl | exact lx_T (by omega) | exact lx_C (by omega) (by omega) (by omega)) (by omega) (by omega) ?_
  refine x_aload_n C d_XT_ask_15 rfl rfl ?_
  refine x_iload C d_XT_ask_16 rfl ?_
  refine x_putI C 8 rfl cf_XT fl_XT_33 d_XT_ask_18 rfl (Or.inl ⟨rfl, rfl⟩) rfl (by first | rfl | exact tx_T (by omega) | exact tx_A (by omega) (by omega) (by omega) | exact tx_HR (by omega) (by omega) | exact tx_KR (by omega) (by omega) | exact tx_L (by omega) (by omega)) (by first | rfl | exact lx_T (by omega) | exact lx_C (by omega) (by omega) (by omega)) (by omega) (by omega) ?_
  exact x_vret rt d_XT_ask_21 (by omega) (by omega) ⟨rfl, rfl, rfl⟩

