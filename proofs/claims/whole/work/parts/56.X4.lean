-- ===== the class: its live table =====
theorem ob_a {x o z : Int} {f e : Bool} {p q : Int} (h1 : ¬ x = 0) (h2 : ¬ x = o) (h3 : f = true) : p = if (decide (¬ x = 0) && decide (¬ x = o) && (f || (decide (z = 0) && e))) = true then p else q := by
  rw [if_pos (by simp [h1, h2, h3])]
theorem ob_b {x o z : Int} {f e : Bool} {p q : Int} (h1 : ¬ x = 0) (h2 : ¬ x = o) (h3 : ¬ (if z = 0 then (1 : Int) else 0) = 0) (h4 : e = true) : p = if (decide (¬ x = 0) && decide (¬ x = o) && (f || (decide (z = 0) && e))) = true then p else q := by
  have hz : z = 0 := Classical.byContradiction (fun hc => h3 (if_neg hc))
  rw [if_pos (by simp [h1, h2, hz, h4])]
theorem ob_c {x o z : Int} {f e : Bool} {p q : Int} (h3 : f = false) (h4 : e = false) : q = if (decide (¬ x = 0) && decide (¬ x = o) && (f || (decide (z = 0) && e))) = true then p else q := by
  rw [if_neg (by simp [h3, h4])]
theorem ob_d {x o z : Int} {f e : Bool} {p q : Int} (h3 : f = false) (h4 : (if z = 0 then (1 : Int) else 0) = 0) : q = if (decide (¬ x = 0) && decide (¬ x = o) && (f || (decide (z = 0) && e))) = true then p else q := by
  have hz : ¬ z = 0 := fun hc => by rw [if_pos hc] at h4; exact absurd h4 (by decide)
  rw [if_neg (by simp [h3, hz])]
theorem c_XV_freeSeat {n : Nat} {σ : Hp} (hn : 85 ≤ n) : Ok LyX TX y_XV_freeSeat b_XV_freeSeat 2 (some .int) 1 0 0 [.inr 76] n σ (pI n σ (f_freeSeat σ)) := by
  refine ok_mk (by decide) (Nat.le_of_ble_eq_true rfl) (fun K C rt ha hok hfx => ?_)
  show XW LyX TX K n σ 0 0 0 [some (.inr 76), none] []
  have loop : ∀ (k : Nat) (x : Int), 0 ≤ x → x + k = 4 → srch (fun s => decide (σ 77 s = 0)) x k = f_freeSeat σ → XW LyX TX K n σ 0 0 2 [some (.inr 76), some (.inl x)] [] := by
    intro k
    induction k with
    | zero =>
      intro x h0 h1 h2
      refine x_iload_n C d_XV_freeSeat_2 rfl rfl ?_
      refine x_iconst C d_XV_freeSeat_3 (by decide) ?_
      refine x_icmp_ge (tgt := 24) C d_XV_freeSeat_4 rfl (fun h4 => ?_) (fun h4 => ?_)
      · refine x_iconst C d_XV_freeSeat_24 (by decide) ?_
        exact x_iret rt d_XV_freeSeat_25 (by omega) (by omega) ⟨by rw [← h2]; rfl, rfl, rfl⟩
      · exact absurd h4 (by omega)
    | succ k ih =>
      intro x h0 h1 h2
      have hs : srch (fun s => decide (σ 77 s = 0)) x (k + 1) = if σ 77 x = 0 then x else srch (fun s => decide (σ 77 s = 0)) (x + 1) k := by
        simp [srch]
      rw [hs] at h2
      refine x_iload_n C d_XV_freeSeat_2 rfl rfl ?_
      refine x_iconst C d_XV_freeSeat_3 (by decide) ?_
      refine x_icmp_ge (tgt := 24) C d_XV_freeSeat_4 rfl (fun h4 => ?_) (fun h4 => ?_)
      · exact absurd h4 (by omega)
      · refine x_aload_n C d_XV_freeSeat_7 rfl rfl ?_
        refine x_getC C 0 77 cf_XV fl_XV_11 d_XV_freeSeat_8 rfl rfl rfl (by omega) (by omega) rfl ?_
        refine x_iload_n C d_XV_freeSeat_11 rfl rfl ?_
        refine x_aald C d_XV_freeSeat_12 rfl (by decide) (by omega) (by omega) (by omega) (by omega) (fun r12 => ?_)
        refine x_ifnonnull (tgt := 18) C d_XV_freeSeat_13 rfl (fun h13 => ?_) (fun h13 => ?_)
        · refine x_iinc C d_XV_freeSeat_18 (by decide) rfl ⟨by omega, by omega⟩ ?_
          refine x_goto (tgt := 2) C d_XV_freeSeat_21 rfl ?_
          exact ih (x + 1) (by omega) (by omega) (by rw [← h2, if_neg h13])
        · refine x_iload_n C d_XV_freeSeat_16 rfl rfl ?_
          exact x_iret rt d_XV_freeSeat_17 (by omega) (by omega) ⟨by rw [← h2, if_pos h13], rfl, rfl⟩
  refine x_iconst C d_XV_freeSeat_0 (by decide) ?_
  refine x_istore_n C d_XV_freeSeat_1 rfl (by decide) ?_
  exact loop 4 0 (by omega) (by omega) rfl
theorem c_XV_enter {n : Nat} {σ : Hp} {one : Int} (hn : 85 ≤ n) (hn2 : n ≤ 1000) (o0 : 86 ≤ one) (o1 : one ≤ (n : Int)) (s0 : 0 ≤ σ one 1) (s1 : σ one 1 < 4) : Ok LyX TX y_XV_enter b_XV_enter 2 none 1 0 0 [.inr 76, .inr one] n σ (pV n (f_enter σ one)) := by
  refine ok_mk (by decide) (Nat.le_of_ble_eq_true rfl) (fun K C rt ha hok hfx => ?_)
  show XW LyX TX K n σ 0 0 0 [some (.inr 76), some (.inr one)] []
  refine x_aload_n C d_XV_enter_0 rfl rfl ?_
  refine x_getC C 0 77 cf_XV fl_XV_11 d_XV_enter_1 rfl rfl rfl (by omega) (by omega) rfl ?_
  refine x_aload_n C d_XV_enter_4 rfl rfl ?_
  refine x_getI C 1 cf_XT fl_XV_22 d_XV_enter_5 rfl (by decide) rfl (by first | rfl | exact lx_T (by omega) | exact lx_C (by omega) (by omega) (by omega)) (by omega) (by omega) (fun r5 => ?_)
  refine x_aload_n C d_XV_enter_8 rfl rfl ?_
  refine x_aast C d_XV_enter_9 (by omega) rfl (by decide) rfl (by omega) (by omega) (by omega) (by omega) (Or.inr ⟨by omega, by omega, Or.inl ⟨rfl, lx_T o0⟩⟩) ?_
  exact x_vret rt d_XV_enter_10 (by omega) (by omega) ⟨rfl, rfl, rfl⟩
theorem c_XV_leave {n : Nat} {σ : Hp} {one q : Int} (hn : 85 ≤ n) (hn2 : n ≤ 1000) (o0 : 86 ≤ one) (o1 : one ≤ (n : Int)) (s0 : 0 ≤ σ one 1) (s1 : σ one 1 < 4) : Ok LyX TX y_XV_leave b_XV_leave 4 none 1 0 0 [.inr 76, .inr one, .inl q] n σ (pV n (f_leaveT σ one q)) := by
  refine ok_mk (by decide) (Nat.le_of_ble_eq_true rfl) (fun K C rt ha hok hfx => ?_)
  show XW LyX TX K n σ 0 0 0 [some (.inr 76), some (.inr one), some (.inl q), none] []
  have e1 : st2 σ one 2 q one 1 = σ one 1 := st2_ii (by decide)
  have e2 : st2 (st2 σ one 2 q) 77 (σ one 1) 0 one 1 = σ one 1 := by rw [st2_ne (by omega)]; exact e1
  have loop : ∀ (k : Nat) (x : Int), 0 ≤ x → x + k = 100 → XW LyX TX K n (f_zero (st2 (st2 σ one 2 q) 77 (σ one 1) 0) (σ one 1) x) 0 0 17 [some (.inr 76), some (.inr one), some (.inl q), some (.inl x)] [] := by
    intro k
    induction k with
    | zero =>
      intro x hx hk
      obtain rfl : x = 100 := by omega
      refine x_iload_n C d_XV_leave_17 rfl rfl ?_
      refine x_bipush C d_XV_leave_18 (by decide) (by decide) ?_
      refine x_icmp_ge (tgt := 41) C d_XV_leave_20 rfl (fun h20 => ?_) (fun h20 => ?_)
      · exact x_vret rt d_XV_leave_41 (by omega) (by omega) ⟨rfl, rfl, rfl⟩
      · exact absurd h20 (by omega)
    | succ k ih =>
      intro x hx hk
      have e3 : f_zero (st2 (st2 σ one 2 q) 77 (σ one 1) 0) (σ one 1) x one 1 = σ one 1 := by rw [f_zero_fr _ _ _ (by omega)]; exact e2
      refine x_iload_n C d_XV_leave_17 rfl rfl ?_
      refine x_bipush C d_XV_leave_18 (by decide) (by decide) ?_
      refine x_icmp_ge (tgt := 41) C d_XV_leave_20 rfl (fun h20 => ?_) (fun h20 => ?_)
      · exact absurd h20 (by omega)
      · refine x_aload_n C d_XV_leave_23 rfl rfl ?_
        refine x_getC C 1 78 cf_XV fl_XV_19 d_XV_leave_24 rfl rfl rfl (by omega) (by omega) rfl ?_
        refine x_aload_n C d_XV_leave_27 rfl rfl ?_
        refine x_getI C 1 cf_XT fl_XV_22 d_XV_leave_28 rfl (by decide) rfl (by first | rfl | exact lx_T (by omega) | exact lx_C (by omega) (by omega) (by omega)) (by omega) (by omega) (fun r28 => ?_)
        refine x_aaldC C _ d_XV_leave_31 rfl (by decide) (by omega) (by omega) (by omega) (by omega) (tx_H (by omega) (by omega)) ?_
        refine x_iload_n C d_XV_leave_32 rfl rfl ?_
        refine x_iconst C d_XV_leave_33 (by decide) ?_
        refine x_iast C d_XV_leave_34 (by first | rfl | exact lx_A (by omega) (by omega) (by omega) | exact lx_H (by omega) (by omega) | exact lx_K (by omega) (by omega)) (by first | rfl | exact tx_T (by omega) | exact tx_A (by omega) (by omega) (by omega) | exact tx_HR (by omega) (by omega) | exact tx_KR (by omega) (by omega) | exact tx_L (by omega) (by omega)) (by omega) (by omega) (by omega) (by omega) ?_
        refine x_iinc C d_XV_leave_35 (by decide) rfl ⟨by omega, by omega⟩ ?_
        refine x_goto (tgt := 17) C d_XV_leave_38 rfl ?_
        rw [e3, f_zero_step hx]
        exact ih (x + 1) (by omega) (by omega)
  have hl := loop 100 0 (by omega) (by omega)
  rw [f_zero_0] at hl
  refine x_aload_n C d_XV_leave_0 rfl rfl ?_
  refine x_iload_n C d_XV_leave_1 rfl rfl ?_
  refine x_putI C 2 rfl cf_XT fl_XV_26 d_XV_leave_2 rfl (Or.inl ⟨rfl, rfl⟩) rfl (by first | rfl | exact tx_T (by omega) | exact tx_A (by omega) (by omega) (by omega) | exact tx_HR (by omega) (by omega) | exact tx_KR (by omega) (by omega) | exact tx_L (by omega) (by omega)) (by first | rfl | exact lx_T (by omega) | exact lx_C (by omega) (by omega) (by omega)) (by omega) (by omega) ?_
  refine x_aload_n C d_XV_leave_5 rfl rfl ?_
  refine x_getC C 0 77 cf_XV fl_XV_11 d_XV_leave_6 rfl rfl rfl (by omega) (by omega) rfl ?_
  refine x_aload_n C d_XV_leave_9 rfl rfl ?_
  refine x_getI C 1 cf_XT fl_XV_22 d_XV_leave_10 rfl (by decide) rfl (by first | rfl | exact lx_T (by omega) | exact lx_C (by omega) (by omega) (by omega)) (by omega) (by omega) (fun r10 => ?_)
  refine x_null C d_XV_leave_13 ?_
  refine x_aast C d_XV_leave_14 (by omega) rfl (by decide) rfl (by omega) (by omega) (by omega) (by omega) (Or.inl rfl) ?_
  refine x_iconst C d_XV_leave_15 (by decide) ?_
  refine x_istore_n C d_XV_leave_16 rfl (by decide) ?_
  rw [e1]
  exact hl
theorem c_XV_leaveAllInDoubt {n : Nat} {σ : Hp} (hn : 85 ≤ n) (hn2 : n ≤ 1000) (hS : xS n σ) (hT : xT n σ) : Ok LyX TX y_XV_leaveAllInDoubt b_XV_leaveAllInDoubt 2 none 2 0 0 [.inr 76] n σ (pV n (f_ldL 4 0 σ)) := by
  refine ok_mk (by decide) (Nat.le_of_ble_eq_true rfl) (fun K C rt ha hok hfx => ?_)
  show XW LyX TX K n σ 0 0 0 [some (.inr 76), none] []
  have loop : ∀ (k : Nat) (x : Int) (τ : Hp), 0 ≤ x → x + k = 4 → xS n τ → xT n τ → f_ldL k x τ = f_ldL 4 0 σ → XW LyX TX K n τ 0 0 2 [some (.inr 76), some (.inl x)] [] := by
    intro k
    induction k with
    | zero =>
      intro x τ hx hk hS hT hm
      refine x_iload_n C d_XV_leaveAllInDoubt_2 rfl rfl ?_
      refine x_iconst C d_XV_leaveAllInDoubt_3 (by decide) ?_
      refine x_icmp_ge (tgt := 34) C d_XV_leaveAllInDoubt_4 rfl (fun h4 => ?_) (fun h4 => ?_)
      · exact x_vret rt d_XV_leaveAllInDoubt_34 (by omega) (by omega) ⟨rfl, rfl, hm.symm⟩
      · exact absurd h4 (by omega)
    | succ k ih =>
      intro x τ hx hk hS hT hm
      rw [show f_ldL (k + 1) x τ = f_ldL k (x + 1) (if τ 77 x = 0 then τ else f_leaveT τ (τ 77 x) 6) from rfl] at hm
      rcases hS x hx (by omega) with hz | ⟨z1, z2⟩
      · rw [if_pos hz] at hm
        refine x_iload_n C d_XV_leaveAllInDoubt_2 rfl rfl ?_
        refine x_iconst C d_XV_leaveAllInDoubt_3 (by decide) ?_
        refine x_icmp_ge (tgt := 34) C d_XV_leaveAllInDoubt_4 rfl (fun h4 => ?_) (fun h4 => ?_)
        · exact absurd h4 (by omega)
        · refine x_aload_n C d_XV_leaveAllInDoubt_7 rfl rfl ?_
          refine x_getC C 0 77 cf_XV fl_XV_11 d_XV_leaveAllInDoubt_8 rfl rfl rfl (by omega) (by omega) rfl ?_
          refine x_iload_n C d_XV_leaveAllInDoubt_11 rfl rfl ?_
          refine x_aald C d_XV_leaveAllInDoubt_12 (by first | rfl | exact lx_A (by omega) (by omega) (by omega) | exact lx_H (by omega) (by omega) | exact lx_K (by omega) (by omega)) (by decide) (by omega) (by omega) (by omega) (by omega) (fun r12 => ?_)
          refine x_ifnull (tgt := 28) C d_XV_leaveAllInDoubt_13 rfl (fun h13 => ?_) (fun h13 => ?_)
          · refine x_iinc C d_XV_leaveAllInDoubt_28 (by decide) rfl ⟨by omega, by omega⟩ ?_
            refine x_goto (tgt := 2) C d_XV_leaveAllInDoubt_31 rfl ?_
            exact ih (x + 1) τ (by omega) (by omega) hS hT hm
          · exact absurd hz h13
      · rw [if_neg (by omega)] at hm
        have ht := hT _ z1 z2
        have hS2 : xS n (f_leaveT τ (τ 77 x) 6) := by
          intro s a b
          rw [f_leaveT_77 _ z1 ht.2.1.1, st2_at]
          split
          · left; rfl
          · exact hS s a b
        have hT2 : xT n (f_leaveT τ (τ 77 x) 6) := by
          intro v a b
          rw [f_leaveT_T _ a ht.2.1.2 (by decide), f_leaveT_T _ a ht.2.1.2 (by decide), f_leaveT_T _ a ht.2.1.2 (by decide)]
          exact hT v a b
        refine x_iload_n C d_XV_leaveAllInDoubt_2 rfl rfl ?_
        refine x_iconst C d_XV_leaveAllInDoubt_3 (by decide) ?_
        refine x_icmp_ge (tgt := 34) C d_XV_leaveAllInDoubt_4 rfl (fun h4 => ?_) (fun h4 => ?_)
        · exact absurd h4 (by omega)
        · refine x_aload_n C d_XV_leaveAllInDoubt_7 rfl rfl ?_
          refine x_getC C 0 77 cf_XV fl_XV_11 d_XV_leaveAllInDoubt_8 rfl rfl rfl (by omega) (by omega) rfl ?_
          refine x_iload_n C d_XV_leaveAllInDoubt_11 rfl rfl ?_
          refine x_aald C d_XV_leaveAllInDoubt_12 (by first | rfl | exact lx_A (by omega) (by omega) (by omega) | exact lx_H (by omega) (by omega) | exact lx_K (by omega) (by omega)) (by decide) (by omega) (by omega) (by omega) (by omega) (fun r12 => ?_)
          refine x_ifnull (tgt := 28) C d_XV_leaveAllInDoubt_13 rfl (fun h13 => ?_) (fun h13 => ?_)
          · exact absurd h13 (by omega)
          · refine x_aload_n C d_XV_leaveAllInDoubt_16 rfl rfl ?_
            refine x_aload_n C d_XV_leaveAllInDoubt_17 rfl rfl ?_
            refine x_getC C 0 77 cf_XV fl_XV_11 d_XV_leaveAllInDoubt_18 rfl rfl rfl (by omega) (by omega) rfl ?_
            refine x_iload_n C d_XV_leaveAllInDoubt_21 rfl rfl ?_
            refine x_aald C d_XV_leaveAllInDoubt_22 (by first | rfl | exact lx_A (by omega) (by omega) (by omega) | exact lx_H (by omega) (by omega) | exact lx_K (by omega) (by omega)) (by decide) (by omega) (by omega) (by omega) (by omega) (fun r22 => ?_)
            refine x_bipush C d_XV_leaveAllInDoubt_23 (by decide) (by decide) ?_
            refine x_callV C cl_XV_29 cb_XV_leave cs_XV_leave d_XV_leaveAllInDoubt_25 (c_XV_leave hn hn2 z1 z2 ht.2.1.1 ht.2.1.2) rfl rfl rfl rfl (by first | rfl | exact lx_T (by omega) | exact lx_C (by omega) (by omega) (by omega)) (by omega) (by omega) (by decide) (by decide) (Nat.le_of_ble_eq_true rfl) (by omega) (by omega) ?_
            rintro _ _ _ ⟨rfl, rfl, rfl⟩ -
            skip
            refine x_iinc C d_XV_leaveAllInDoubt_28 (by decide) rfl ⟨by omega, by omega⟩ ?_
            refine x_goto (tgt := 2) C d_XV_leaveAllInDoubt_31 rfl ?_
            exact ih (x + 1) _ (by omega) (by omega) hS2 hT2 hm
  refine x_iconst C d_XV_leaveAllInDoubt_0 (by decide) ?_
  refine x_istore_n C d_XV_leaveAllInDoubt_1 rfl (by decide) ?_
  exact loop 4 0 σ (by omega) (by omega) hS hT rfl
theorem c_XV_hold {n : Nat} {σ : Hp} {one : Int} (hn : 85 ≤ n) (o0 : 86 ≤ one) (o1 : one ≤ (n : Int)) (s0 : 0 ≤ σ one 1) (s1 : σ one 1 < 4) (k0 : 0 ≤ σ one 6) (k1 : σ one 6 ≤ 99) : Ok LyX TX y_XV_hold b_XV_hold 2 none 1 0 0 [.inr 76, .inr one] n σ (pV n (f_hold σ one)) := by
  refine ok_mk (by decide) (Nat.le_of_ble_eq_true rfl) (fun K C rt ha hok hfx => ?_)
  show XW LyX TX K n σ 0 0 0 [some (.inr 76), some (.inr one)] []
  refine x_aload_n C d_XV_hold_0 rfl rfl ?_
  refine x_getC C 1 78 cf_XV fl_XV_19 d_XV_hold_1 rfl rfl rfl (by omega) (by omega) rfl ?_
  refine x_aload_n C d_XV_hold_4 rfl rfl ?_
  refine x_getI C 1 cf_XT fl_XV_22 d_XV_hold_5 rfl (by decide) rfl (by first | rfl | exact lx_T (by omega) | exact lx_C (by omega) (by omega) (by omega)) (by omega) (by omega) (fun r5 => ?_)
  refine x_aaldC C _ d_XV_hold_8 rfl (by decide) (by omega) (by omega) (by omega) (by omega) (tx_H (by omega) (by omega)) ?_
  refine x_aload_n C d_XV_hold_9 rfl rfl ?_
  refine x_getI C 6 cf_XT fl_XV_33 d_XV_hold_10 rfl (by decide) rfl (by first | rfl | exact lx_T (by omega) | exact lx_C (by omega) (by omega) (by omega)) (by omega) (by omega) (fun r10 => ?_)
  refine x_aload_n C d_XV_hold_13 rfl rfl ?_
  refine x_getC C 1 78 cf_XV fl_XV_19 d_XV_hold_14 rfl rfl rfl (by omega) (by omega) rfl ?_
  refine x_aload_n C d_XV_hold_17 rfl rfl ?_
  refine x_getI C 1 cf_XT fl_XV_22 d_XV_hold_18 rfl (by decide) rfl (by first | rfl | exact lx_T (by omega) | exact lx_C (by omega) (by omega) (by omega)) (by omega) (by omega) (fun r18 => ?_)
  refine x_aaldC C _ d_XV_hold_21 rfl (by decide) (by omega) (by omega) (by omega) (by omega) (tx_H (by omega) (by omega)) ?_
  refine x_aload_n C d_XV_hold_22 rfl rfl ?_
  refine x_getI C 6 cf_XT fl_XV_33 d_XV_hold_23 rfl (by decide) rfl (by first | rfl | exact lx_T (by omega) | exact lx_C (by omega) (by omega) (by omega)) (by omega) (by omega) (fun r23 => ?_)
  refine x_iald C d_XV_hold_26 (by first | rfl | exact lx_A (by omega) (by omega) (by omega) | exact lx_H (by omega) (by omega) | exact lx_K (by omega) (by omega)) (by omega) (by omega) (by omega) (by omega) (fun r26 => ?_)
  refine x_aload_n C d_XV_hold_27 rfl rfl ?_
  refine x_getI C 7 cf_XT fl_XV_36 d_XV_hold_28 rfl (by decide) rfl (by first | rfl | exact lx_T (by omega) | exact lx_C (by omega) (by omega) (by omega)) (by omega) (by omega) (fun r28 => ?_)
  refine x_mmax C w_maxL w_maxS w_mi w_maxC d_XV_hold_31 (by decide) (Nat.le_of_ble_eq_true rfl) (by omega) (by omega) ?_
  refine x_iast C d_XV_hold_34 (by first | rfl | exact lx_A (by omega) (by omega) (by omega) | exact lx_H (by omega) (by omega) | exact lx_K (by omega) (by omega)) (by first | rfl | exact tx_T (by omega) | exact tx_A (by omega) (by omega) (by omega) | exact tx_HR (by omega) (by omega) | exact tx_KR (by omega) (by omega) | exact tx_L (by omega) (by omega)) (by omega) (by omega) (by omega) (by omega) ?_
  exact x_vret rt d_XV_hold_35 (by omega) (by omega) ⟨rfl, rfl, rfl⟩
theorem c_XV_conflicts {n : Nat} {σ : Hp} {h w : Int} : Ok LyX TX y_XV_conflicts b_XV_conflicts 2 (some .boolean) 1 0 0 [.inl h, .inl w] n σ (pI n σ (b2i (f_conf h w))) := by
  refine ok_mk (by decide) (Nat.le_of_ble_eq_true rfl) (fun K C rt ha hok hfx => ?_)
  show XW LyX TX K n σ 0 0 0 [some (.inl h), some (.inl w)] []
  refine x_iload_n C d_XV_conflicts_0 rfl rfl ?_
  refine x_iconst C d_XV_conflicts_1 (by decide) ?_
  refine x_icmp_eq (tgt := 15) C d_XV_conflicts_2 rfl (fun h2 => ?_) (fun h2 => ?_)
  · refine x_iconst C d_XV_conflicts_15 (by decide) ?_
    refine x_goto (tgt := 20) C d_XV_conflicts_16 rfl ?_
    exact x_zret rt d_XV_conflicts_20 (by omega) (by omega) ⟨by decide, by decide⟩ ⟨by simp [f_conf, b2i, *], rfl, rfl⟩
  · refine x_iload_n C d_XV_conflicts_5 rfl rfl ?_
    refine x_iconst C d_XV_conflicts_6 (by decide) ?_
    refine x_icmp_ne (tgt := 19) C d_XV_conflicts_7 rfl (fun h7 => ?_) (fun h7 => ?_)
    · refine x_iconst C d_XV_conflicts_19 (by decide) ?_
      exact x_zret rt d_XV_conflicts_20 (by omega) (by omega) ⟨by decide, by decide⟩ ⟨by simp [f_conf, b2i, *], rfl, rfl⟩
    · refine x_iload_n C d_XV_conflicts_10 rfl rfl ?_
      refine x_iconst C d_XV_conflicts_11 (by decide) ?_
      refine x_icmp_ne (tgt := 19) C d_XV_conflicts_12 rfl (fun h12 => ?_) (fun h12 => ?_)
      · refine x_iconst C d_XV_conflicts_19 (by decide) ?_
        exact x_zret rt d_XV_conflicts_20 (by omega) (by omega) ⟨by decide, by decide⟩ ⟨by simp [f_conf, b2i, *], rfl, rfl⟩
      · refine x_iconst C d_XV_conflicts_15 (by decide) ?_
        refine x_goto (tgt := 20) C d_XV_conflicts_16 rfl ?_
        exact x_zret rt d_XV_conflicts_20 (by omega) (by omega) ⟨by decide, by decide⟩ ⟨by simp [f_conf, b2i, *], rfl, rfl⟩
theorem c_XV_obstacles {n : Nat} {σ : Hp} {one : Int} (hn : 85 ≤ n) (hS : xS n σ) (o0 : 86 ≤ one) (o1 : one ≤ (n : Int)) (s0 : 0 ≤ σ one 1) (s1 : σ one 1 < 4) (k0 : 0 ≤ σ one 6) (k1 : σ one 6 ≤ 99) : Ok LyX TX y_XV_obstacles b_XV_obstacles 7 (some .int) 2 0 0 [.inr 76, .inr one] n σ (pI n σ (f_obs σ one 4)) := by
  refine ok_mk (by decide) (Nat.le_of_ble_eq_true rfl) (fun K C rt ha hok hfx => ?_)
  show XW LyX TX K n σ 0 0 0 [some (.inr 76), some (.inr one), none, none, none, none, none] []
  have loop : ∀ (q s : Nat) (a b : Option AV), s + q = 4 → XW LyX TX K n σ 0 0 28 [some (.inr 76), some (.inr one), some (.inl (if σ (79 + σ one 1) (σ one 6) = 0 then 1 else 0)), some (.inl (f_obs σ one s)), some (.inl (s : Int)), a, b] [] := by
    intro q
    induction q with
    | zero =>
      intro s a b hs
      obtain rfl : s = 4 := by omega
      refine x_iload C d_XV_obstacles_28 rfl ?_
      refine x_iconst C d_XV_obstacles_30 (by decide) ?_
      refine x_icmp_ge (tgt := 141) C d_XV_obstacles_31 rfl (fun h31 => ?_) (fun h31 => ?_)
      · refine x_iload_n C d_XV_obstacles_141 rfl rfl ?_
        exact x_iret rt d_XV_obstacles_142 (by omega) (by omega) ⟨rfl, rfl, rfl⟩
      · exact absurd h31 (by decide)
    | succ q ih =>
      intro s a b hs
      have hol := f_obs_lt σ one s (by omega)
      have hbl := bsh_lt (s := (s : Int)) (by omega) (by omega)
      have hsr := hS (s : Int) (by omega) (by omega)
      have ih2 := fun a b => ih (s + 1) a b (by omega)
      rw [show f_obs σ one (s + 1) = if f_ob σ one (s : Int) = true then bor (f_obs σ one s) (bsh (s : Int)) else f_obs σ one s from rfl] at ih2
      generalize f_obs σ one s = fo at *
      have hob : f_ob σ one (s : Int) = (decide (¬ σ 77 (s : Int) = 0) && decide (¬ σ 77 (s : Int) = one) && (f_conf (σ (79 + (s : Int)) (σ one 6)) (σ one 7) || (decide (σ (79 + σ one 1) (σ one 6) = 0) && f_earl σ one (σ 77 (s : Int))))) := rfl
      have J135 : ∀ (v : Int) (a b : Option AV), v = (if f_ob σ one (s : Int) = true then bor fo (bsh (s : Int)) else fo) → XW LyX TX K n σ 0 0 135 [some (.inr 76), some (.inr one), some (.inl (if σ (79 + σ one 1) (σ one 6) = 0 then 1 else 0)), some (.inl v), some (.inl (s : Int)), a, b] [] := by
        intro v a b hv
        subst hv
        refine x_iinc C d_XV_obstacles_135 (by decide) rfl ⟨by omega, by omega⟩ ?_
        refine x_goto (tgt := 28) C d_XV_obstacles_138 rfl ?_
        exact ih2 _ _
      by_cases hz : σ 77 (s : Int) = 0
      · rw [hob, hz] at J135
        refine x_iload C d_XV_obstacles_28 rfl ?_
        refine x_iconst C d_XV_obstacles_30 (by decide) ?_
        refine x_icmp_ge (tgt := 141) C d_XV_obstacles_31 rfl (fun h31 => ?_) (fun h31 => ?_)
        · exact absurd h31 (by omega)
        · refine x_aload_n C d_XV_obstacles_34 rfl rfl ?_
          refine x_getC C 0 77 cf_XV fl_XV_11 d_XV_obstacles_35 rfl rfl rfl (by omega) (by omega) rfl ?_
          refine x_iload C d_XV_obstacles_38 rfl ?_
          refine x_aald C d_XV_obstacles_40 (by first | rfl | exact lx_A (by omega) (by omega) (by omega) | exact lx_H (by omega) (by omega) | exact lx_K (by omega) (by omega)) (by decide) (by omega) (by omega) (by omega) (by omega) (fun r40 => ?_)
          refine x_astore C d_XV_obstacles_41 (by decide) ?_
          refine x_aload C d_XV_obstacles_43 rfl ?_
          refine x_ifnull (tgt := 135) C d_XV_obstacles_45 rfl (fun h45 => ?_) (fun h45 => ?_)
          · exact J135 _ _ _ (by simp)
          · exact absurd hz h45
      · have hz2 : 86 ≤ σ 77 (s : Int) ∧ σ 77 (s : Int) ≤ (n : Int) := hsr.resolve_left hz
        by_cases hone : σ 77 (s : Int) = one
        · rw [hob, hone] at J135
          refine x_iload C d_XV_obstacles_28 rfl ?_
          refine x_iconst C d_XV_obstacles_30 (by decide) ?_
          refine x_icmp_ge (tgt := 141) C d_XV_obstacles_31 rfl (fun h31 => ?_) (fun h31 => ?_)
          · exact absurd h31 (by omega)
          · refine x_aload_n C d_XV_obstacles_34 rfl rfl ?_
            refine x_getC C 0 77 cf_XV fl_XV_11 d_XV_obstacles_35 rfl rfl rfl (by omega) (by omega) rfl ?_
            refine x_iload C d_XV_obstacles_38 rfl ?_
            refine x_aald C d_XV_obstacles_40 (by first | rfl | exact lx_A (by omega) (by omega) (by omega) | exact lx_H (by omega) (by omega) | exact lx_K (by omega) (by omega)) (by decide) (by omega) (by omega) (by omega) (by omega) (fun r40 => ?_)
            refine x_astore C d_XV_obstacles_41 (by decide) ?_
            refine x_aload C d_XV_obstacles_43 rfl ?_
            refine x_ifnull (tgt := 135) C d_XV_obstacles_45 rfl (fun h45 => ?_) (fun h45 => ?_)
            · exact absurd h45 hz
            · refine x_aload C d_XV_obstacles_48 rfl ?_
              refine x_aload_n C d_XV_obstacles_50 rfl rfl ?_
              refine x_acmp_ne (tgt := 57) C d_XV_obstacles_51 rfl (fun h51 => ?_) (fun h51 => ?_)
              · exact absurd hone h51
              · refine x_goto (tgt := 135) C d_XV_obstacles_54 rfl ?_
                exact J135 _ _ _ (by simp)
        · have J95 : ∀ v : Int, v = b2i (f_earl σ one (σ 77 (s : Int))) → XW LyX TX K n σ 0 0 95 [some (.inr 76), some (.inr one), some (.inl (if σ (79 + σ one 1) (σ one 6) = 0 then 1 else 0)), some (.inl fo), some (.inl (s : Int)), some (.inr (σ 77 (s : Int))), b] [.inl v] := by
            intro v hv
            subst hv
            rw [hob] at J135
            generalize f_earl σ one (σ 77 (s : Int)) = er at *
            have hne : (¬ σ 77 (s : Int) = 0) = True := eq_true hz
            have hno : (¬ σ 77 (s : Int) = one) = True := eq_true hone
            refine x_istore C d_XV_obstacles_95 (by decide) ?_
            refine x_aload_n C d_XV_obstacles_97 rfl rfl ?_
            refine x_getC C 1 78 cf_XV fl_XV_19 d_XV_obstacles_98 rfl rfl rfl (by omega) (by omega) rfl ?_
            refine x_iload C d_XV_obstacles_101 rfl ?_
            refine x_aaldC C _ d_XV_obstacles_103 rfl (by decide) (by omega) (by omega) (by omega) (by omega) (tx_H (by omega) (by omega)) ?_
            refine x_aload_n C d_XV_obstacles_104 rfl rfl ?_
            refine x_getI C 6 cf_XT fl_XV_33 d_XV_obstacles_105 rfl (by decide) rfl (by first | rfl | exact lx_T (by omega) | exact lx_C (by omega) (by omega) (by omega)) (by omega) (by omega) (fun r105 => ?_)
            refine x_iald C d_XV_obstacles_108 (by first | rfl | exact lx_A (by omega) (by omega) (by omega) | exact lx_H (by omega) (by omega) | exact lx_K (by omega) (by omega)) (by omega) (by omega) (by omega) (by omega) (fun r108 => ?_)
            refine x_aload_n C d_XV_obstacles_109 rfl rfl ?_
            refine x_getI C 7 cf_XT fl_XV_36 d_XV_obstacles_110 rfl (by decide) rfl (by first | rfl | exact lx_T (by omega) | exact lx_C (by omega) (by omega) (by omega)) (by omega) (by omega) (fun r110 => ?_)
            refine x_callS C cl_XV_52 cb_XV_conflicts cs_XV_conflicts d_XV_obstacles_113 (c_XV_conflicts) rfl rfl (by decide) (by decide) (Nat.le_of_ble_eq_true rfl) (by omega) (by omega) ?_
            rintro _ _ _ ⟨rfl, rfl, rfl⟩ -
            skip
            refine x_if_ne (tgt := 128) C d_XV_obstacles_116 rfl (fun h116 => ?_) (fun h116 => ?_)
            · refine x_iload_n C d_XV_obstacles_128 rfl rfl ?_
              refine x_iconst C d_XV_obstacles_129 (by decide) ?_
              refine x_iload C d_XV_obstacles_130 rfl ?_
              refine x_ishl1 C d_XV_obstacles_132 (by omega) (by omega) ?_
              refine x_ior C d_XV_obstacles_133 (by omega) (by omega) (by omega) (by omega) ?_
              refine x_istore_n C d_XV_obstacles_134 rfl (by decide) ?_
              first | exact J135 _ _ _ (ob_a hz hone (b2i_1 h116)) | exact J135 _ _ _ (ob_b hz hone h120 (b2i_1 h125)) | exact J135 _ _ _ (ob_c (b2i_0 h116) (b2i_0 h125)) | exact J135 _ _ _ (ob_d (b2i_0 h116) h120)
            · refine x_iload_n C d_XV_obstacles_119 rfl rfl ?_
              refine x_if_eq (tgt := 135) C d_XV_obstacles_120 rfl (fun h120 => ?_) (fun h120 => ?_)
              · first | exact J135 _ _ _ (ob_a hz hone (b2i_1 h116)) | exact J135 _ _ _ (ob_b hz hone h120 (b2i_1 h125)) | exact J135 _ _ _ (ob_c (b2i_0 h116) (b2i_0 h125)) | exact J135 _ _ _ (ob_d (b2i_0 h116) h120)
              · refine x_iload C d_XV_obstacles_123 rfl ?_
                refine x_if_eq (tgt := 135) C d_XV_obstacles_125 rfl (fun h125 => ?_) (fun h125 => ?_)
                · first | exact J135 _ _ _ (ob_a hz hone (b2i_1 h116)) | exact J135 _ _ _ (ob_b hz hone h120 (b2i_1 h125)) | exact J135 _ _ _ (ob_c (b2i_0 h116) (b2i_0 h125)) | exact J135 _ _ _ (ob_d (b2i_0 h116) h120)
                · refine x_iload_n C d_XV_obstacles_128 rfl rfl ?_
                  refine x_iconst C d_XV_obstacles_129 (by decide) ?_
                  refine x_iload C d_XV_obstacles_130 rfl ?_
                  refine x_ishl1 C d_XV_obstacles_132 (by omega) (by omega) ?_
                  refine x_ior C d_XV_obstacles_133 (by omega) (by omega) (by omega) (by omega) ?_
                  refine x_istore_n C d_XV_obstacles_134 rfl (by decide) ?_
                  first | exact J135 _ _ _ (ob_a hz hone (b2i_1 h116)) | exact J135 _ _ _ (ob_b hz hone h120 (b2i_1 h125)) | exact J135 _ _ _ (ob_c (b2i_0 h116) (b2i_0 h125)) | exact J135 _ _ _ (ob_d (b2i_0 h116) h120)
          refine x_iload C d_XV_obstacles_28 rfl ?_
          refine x_iconst C d_XV_obstacles_30 (by decide) ?_
          refine x_icmp_ge (tgt := 141) C d_XV_obstacles_31 rfl (fun h31 => ?_) (fun h31 => ?_)
          · exact absurd h31 (by omega)
          · refine x_aload_n C d_XV_obstacles_34 rfl rfl ?_
            refine x_getC C 0 77 cf_XV fl_XV_11 d_XV_obstacles_35 rfl rfl rfl (by omega) (by omega) rfl ?_
            refine x_iload C d_XV_obstacles_38 rfl ?_
            refine x_aald C d_XV_obstacles_40 (by first | rfl | exact lx_A (by omega) (by omega) (by omega) | exact lx_H (by omega) (by omega) | exact lx_K (by omega) (by omega)) (by decide) (by omega) (by omega) (by omega) (by omega) (fun r40 => ?_)
            refine x_astore C d_XV_obstacles_41 (by decide) ?_
            refine x_aload C d_XV_obstacles_43 rfl ?_
            refine x_ifnull (tgt := 135) C d_XV_obstacles_45 rfl (fun h45 => ?_) (fun h45 => ?_)
            · exact absurd h45 hz
            · refine x_aload C d_XV_obstacles_48 rfl ?_
              refine x_aload_n C d_XV_obstacles_50 rfl rfl ?_
              refine x_acmp_ne (tgt := 57) C d_XV_obstacles_51 rfl (fun h51 => ?_) (fun h51 => ?_)
              · refine x_aload C d_XV_obstacles_57 rfl ?_
                refine x_getI C 2 cf_XT fl_XV_26 d_XV_obstacles_59 rfl (by decide) rfl (by first | rfl | exact lx_T (by omega) | exact lx_C (by omega) (by omega) (by omega)) (by omega) (by omega) (fun r59 => ?_)
                refine x_iconst C d_XV_obstacles_62 (by decide) ?_
                refine x_icmp_ne (tgt := 94) C d_XV_obstacles_63 rfl (fun h63 => ?_) (fun h63 => ?_)
                · refine x_iconst C d_XV_obstacles_94 (by decide) ?_
                  exact J95 _ (by simp [f_earl, b2i, *])
                · refine x_aload C d_XV_obstacles_66 rfl ?_
                  refine x_getI C 6 cf_XT fl_XV_33 d_XV_obstacles_68 rfl (by decide) rfl (by first | rfl | exact lx_T (by omega) | exact lx_C (by omega) (by omega) (by omega)) (by omega) (by omega) (fun r68 => ?_)
                  refine x_aload_n C d_XV_obstacles_71 rfl rfl ?_
                  refine x_getI C 6 cf_XT fl_XV_33 d_XV_obstacles_72 rfl (by decide) rfl (by first | rfl | exact lx_T (by omega) | exact lx_C (by omega) (by omega) (by omega)) (by omega) (by omega) (fun r72 => ?_)
                  refine x_icmp_ne (tgt := 94) C d_XV_obstacles_75 rfl (fun h75 => ?_) (fun h75 => ?_)
                  · refine x_iconst C d_XV_obstacles_94 (by decide) ?_
                    exact J95 _ (by simp [f_earl, b2i, *])
                  · refine x_aload C d_XV_obstacles_78 rfl ?_
                    refine x_getI C 5 cf_XT fl_XV_49 d_XV_obstacles_80 rfl (by decide) rfl (by first | rfl | exact lx_T (by omega) | exact lx_C (by omega) (by omega) (by omega)) (by omega) (by omega) (fun r80 => ?_)
                    refine x_aload_n C d_XV_obstacles_83 rfl rfl ?_
                    refine x_getI C 5 cf_XT fl_XV_49 d_XV_obstacles_84 rfl (by decide) rfl (by first | rfl | exact lx_T (by omega) | exact lx_C (by omega) (by omega) (by omega)) (by omega) (by omega) (fun r84 => ?_)
                    refine x_icmp_ge (tgt := 94) C d_XV_obstacles_87 rfl (fun h87 => ?_) (fun h87 => ?_)
                    · refine x_iconst C d_XV_obstacles_94 (by decide) ?_
                      exact J95 _ (by simp [f_earl, b2i, *])
                    · refine x_iconst C d_XV_obstacles_90 (by decide) ?_
                      refine x_goto (tgt := 95) C d_XV_obstacles_91 rfl ?_
                      exact J95 _ (by simp [f_earl, b2i, *])
              · exact absurd h51 hone
  refine x_aload_n C d_XV_obstacles_0 rfl rfl ?_
  refine x_getC C 1 78 cf_XV fl_XV_19 d_XV_obstacles_1 rfl rfl rfl (by omega) (by omega) rfl ?_
  refine x_aload_n C d_XV_obstacles_4 rfl rfl ?_
  refine x_getI C 1 cf_XT fl_XV_22 d_XV_obstacles_5 rfl (by decide) rfl (by first | rfl | exact lx_T (by omega) | exact lx_C (by omega) (by omega) (by omega)) (by omega) (by omega) (fun r5 => ?_)
  refine x_aaldC C _ d_XV_obstacles_8 rfl (by decide) (by omega) (by omega) (by omega) (by omega) (tx_H (by omega) (by omega)) ?_
  refine x_aload_n C d_XV_obstacles_9 rfl rfl ?_
  refine x_getI C 6 cf_XT fl_XV_33 d_XV_obstacles_10 rfl (by decide) rfl (by first | rfl | exact lx_T (by omega) | exact lx_C (by omega) (by omega) (by omega)) (by omega) (by omega) (fun r10 => ?_)
  refine x_iald C d_XV_obstacles_13 (by first | rfl | exact lx_A (by omega) (by omega) (by omega) | exact lx_H (by omega) (by omega) | exact lx_K (by omega) (by omega)) (by omega) (by omega) (by omega) (by omega) (fun r13 => ?_)
  refine x_if_ne (tgt := 21) C d_XV_obstacles_14 rfl (fun h14 => ?_) (fun h14 => ?_)
  · refine x_iconst C d_XV_obstacles_21 (by decide) ?_
    refine x_istore_n C d_XV_obstacles_22 rfl (by decide) ?_
    refine x_iconst C d_XV_obstacles_23 (by decide) ?_
    refine x_istore_n C d_XV_obstacles_24 rfl (by decide) ?_
    refine x_iconst C d_XV_obstacles_25 (by decide) ?_
    refine x_istore C d_XV_obstacles_26 (by decide) ?_
    first | (have hl := loop 4 0 none none (by omega); rw [if_pos h14] at hl; exact hl) | (have hl := loop 4 0 none none (by omega); rw [if_neg h14] at hl; exact hl)
  · refine x_iconst C d_XV_obstacles_17 (by decide) ?_
    refine x_goto (tgt := 22) C d_XV_obstacles_18 rfl ?_
    refine x_istore_n C d_XV_obstacles_22 rfl (by decide) ?_
    refine x_iconst C d_XV_obstacles_23 (by decide) ?_
    refine x_istore_n C d_XV_obstacles_24 rfl (by decide) ?_
    refine x_iconst C d_XV_obstacles_25 (by decide) ?_
    refine x_istore C d_XV_obstacles_26 (by decide) ?_
    first | (have hl := loop 4 0 none none (by omega); rw [if_pos h14] at hl; exact hl) | (have hl := loop 4 0 none none (by omega); rw [if_neg h14] at hl; exact hl)

