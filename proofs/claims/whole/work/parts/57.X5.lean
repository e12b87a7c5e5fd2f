-- ===== the class: its live table, second half =====
theorem c_XV_isFit {n : Nat} {σ : Hp} {one : Int} (hn : 85 ≤ n) (hS : xS n σ) (o0 : 86 ≤ one) (o1 : one ≤ (n : Int)) (s0 : 0 ≤ σ one 1) (s1 : σ one 1 < 4) (k0 : 0 ≤ σ one 6) (k1 : σ one 6 ≤ 99) : Ok LyX TX y_XV_isFit b_XV_isFit 3 (some .boolean) 3 0 0 [.inr 76, .inr one] n σ (pI n σ (b2i (f_isFit σ one))) := by
  refine ok_mk (by decide) (Nat.le_of_ble_eq_true rfl) (fun K C rt ha hok hfx => ?_)
  show XW LyX TX K n σ 0 0 0 [some (.inr 76), some (.inr one), none] []
  refine x_aload_n C d_XV_isFit_0 rfl rfl ?_
  refine x_getC C 1 78 cf_XV fl_XV_19 d_XV_isFit_1 rfl rfl rfl (by omega) (by omega) rfl ?_
  refine x_aload_n C d_XV_isFit_4 rfl rfl ?_
  refine x_getI C 1 cf_XT fl_XV_22 d_XV_isFit_5 rfl (by decide) rfl (by first | rfl | exact lx_T (by omega) | exact lx_C (by omega) (by omega) (by omega)) (by omega) (by omega) (fun r5 => ?_)
  refine x_aaldC C _ d_XV_isFit_8 rfl (by decide) (by omega) (by omega) (by omega) (by omega) (tx_H (by omega) (by omega)) ?_
  refine x_aload_n C d_XV_isFit_9 rfl rfl ?_
  refine x_getI C 6 cf_XT fl_XV_33 d_XV_isFit_10 rfl (by decide) rfl (by first | rfl | exact lx_T (by omega) | exact lx_C (by omega) (by omega) (by omega)) (by omega) (by omega) (fun r10 => ?_)
  refine x_iald C d_XV_isFit_13 (by first | rfl | exact lx_A (by omega) (by omega) (by omega) | exact lx_H (by omega) (by omega) | exact lx_K (by omega) (by omega)) (by omega) (by omega) (by omega) (by omega) (fun r13 => ?_)
  refine x_istore_n C d_XV_isFit_14 rfl (by decide) ?_
  refine x_iload_n C d_XV_isFit_15 rfl rfl ?_
  refine x_aload_n C d_XV_isFit_16 rfl rfl ?_
  refine x_getI C 7 cf_XT fl_XV_36 d_XV_isFit_17 rfl (by decide) rfl (by first | rfl | exact lx_T (by omega) | exact lx_C (by omega) (by omega) (by omega)) (by omega) (by omega) (fun r17 => ?_)
  refine x_icmp_ge (tgt := 31) C d_XV_isFit_20 rfl (fun h20 => ?_) (fun h20 => ?_)
  · refine x_iconst C d_XV_isFit_31 (by decide) ?_
    refine x_goto (tgt := 36) C d_XV_isFit_32 rfl ?_
    exact x_zret rt d_XV_isFit_36 (by omega) (by omega) ⟨by decide, by decide⟩ ⟨by simp only [f_isFit, b2i]; first | (simp [h20]; done) | (simp [show ¬ σ one 7 ≤ σ (79 + σ one 1) (σ one 6) by omega, h28]; done), rfl, rfl⟩
  · refine x_aload_n C d_XV_isFit_23 rfl rfl ?_
    refine x_aload_n C d_XV_isFit_24 rfl rfl ?_
    refine x_callV C cl_XV_45 cb_XV_obstacles cs_XV_obstacles d_XV_isFit_25 (c_XV_obstacles hn hS o0 o1 s0 s1 k0 k1) rfl rfl rfl rfl (by first | rfl | exact lx_T (by omega) | exact lx_C (by omega) (by omega) (by omega)) (by omega) (by omega) (by decide) (by decide) (Nat.le_of_ble_eq_true rfl) (by omega) (by omega) ?_
    rintro _ _ _ ⟨rfl, rfl, rfl⟩ -
    skip
    refine x_if_ne (tgt := 35) C d_XV_isFit_28 rfl (fun h28 => ?_) (fun h28 => ?_)
    · refine x_iconst C d_XV_isFit_35 (by decide) ?_
      exact x_zret rt d_XV_isFit_36 (by omega) (by omega) ⟨by decide, by decide⟩ ⟨by simp only [f_isFit, b2i]; first | (simp [h20]; done) | (simp [show ¬ σ one 7 ≤ σ (79 + σ one 1) (σ one 6) by omega, h28]; done), rfl, rfl⟩
    · refine x_iconst C d_XV_isFit_31 (by decide) ?_
      refine x_goto (tgt := 36) C d_XV_isFit_32 rfl ?_
      exact x_zret rt d_XV_isFit_36 (by omega) (by omega) ⟨by decide, by decide⟩ ⟨by simp only [f_isFit, b2i]; first | (simp [h20]; done) | (simp [show ¬ σ one 7 ≤ σ (79 + σ one 1) (σ one 6) by omega, h28]; done), rfl, rfl⟩
theorem c_XV_stepFrom {n : Nat} {σ : Hp} {m : Int} (hn : 85 ≤ n) (hS : xS n σ) (hT : xT n σ) (m0 : 0 ≤ m) (m1 : m < 16) : Ok LyX TX y_XV_stepFrom b_XV_stepFrom 5 (some .int) 3 0 0 [.inr 76, .inl m] n σ (pI n σ (f_stp σ m 4)) := by
  refine ok_mk (by decide) (Nat.le_of_ble_eq_true rfl) (fun K C rt ha hok hfx => ?_)
  show XW LyX TX K n σ 0 0 0 [some (.inr 76), some (.inl m), none, none, none] []
  have loop : ∀ (q s : Nat) (a : Option AV), s + q = 4 → XW LyX TX K n σ 0 0 4 [some (.inr 76), some (.inl m), some (.inl (f_stp σ m s)), some (.inl (s : Int)), a] [] := by
    intro q
    induction q with
    | zero =>
      intro s a hs
      obtain rfl : s = 4 := by omega
      refine x_iload_n C d_XV_stepFrom_4 rfl rfl ?_
      refine x_iconst C d_XV_stepFrom_5 (by decide) ?_
      refine x_icmp_ge (tgt := 71) C d_XV_stepFrom_6 rfl (fun h6 => ?_) (fun h6 => ?_)
      · refine x_iload_n C d_XV_stepFrom_71 rfl rfl ?_
        exact x_iret rt d_XV_stepFrom_72 (by omega) (by omega) ⟨rfl, rfl, rfl⟩
      · exact absurd h6 (by decide)
    | succ q ih =>
      intro s a hs
      have hol := f_stp_lt σ m s (by omega)
      have hsr := hS (s : Int) (by omega) (by omega)
      have hsb := bsr_lt (s := (s : Int)) m1
      have ih2 := fun a => ih (s + 1) a (by omega)
      rw [show f_stp σ m (s + 1) = if bsr m (s : Int) % 2 = 1 ∧ ¬ σ 77 (s : Int) = 0 ∧ σ (σ 77 (s : Int)) 2 = 2 then bor (f_stp σ m s) (f_obs σ (σ 77 (s : Int)) 4) else f_stp σ m s from rfl] at ih2
      generalize f_stp σ m s = fo at *
      have J65 : ∀ (v : Int) (a : Option AV), v = (if bsr m (s : Int) % 2 = 1 ∧ ¬ σ 77 (s : Int) = 0 ∧ σ (σ 77 (s : Int)) 2 = 2 then bor fo (f_obs σ (σ 77 (s : Int)) 4) else fo) → XW LyX TX K n σ 0 0 65 [some (.inr 76), some (.inl m), some (.inl v), some (.inl (s : Int)), a] [] := by
        intro v a hv
        subst hv
        refine x_iinc C d_XV_stepFrom_65 (by decide) rfl ⟨by omega, by omega⟩ ?_
        refine x_goto (tgt := 4) C d_XV_stepFrom_68 rfl ?_
        exact ih2 _
      have J23 : ∀ v : Int, v = (if bsr m (s : Int) % 2 = 1 then 1 else 0) → XW LyX TX K n σ 0 0 23 [some (.inr 76), some (.inl m), some (.inl fo), some (.inl (s : Int)), a] [.inl v] := by
        intro v hv
        have hob := f_obs_lt σ (σ 77 (s : Int)) 4 (by omega)
        by_cases hz : σ 77 (s : Int) = 0
        · skip
          refine x_istore C d_XV_stepFrom_23 (by decide) ?_
          refine x_iload C d_XV_stepFrom_25 rfl ?_
          refine x_if_eq (tgt := 65) C d_XV_stepFrom_27 rfl (fun h27 => ?_) (fun h27 => ?_)
          · exact J65 _ _ (by rw [if_neg (fun h => h.2.1 hz)])
          · refine x_aload_n C d_XV_stepFrom_30 rfl rfl ?_
            refine x_getC C 0 77 cf_XV fl_XV_11 d_XV_stepFrom_31 rfl rfl rfl (by omega) (by omega) rfl ?_
            refine x_iload_n C d_XV_stepFrom_34 rfl rfl ?_
            refine x_aald C d_XV_stepFrom_35 (by first | rfl | exact lx_A (by omega) (by omega) (by omega) | exact lx_H (by omega) (by omega) | exact lx_K (by omega) (by omega)) (by decide) (by omega) (by omega) (by omega) (by omega) (fun r35 => ?_)
            refine x_ifnull (tgt := 65) C d_XV_stepFrom_36 rfl (fun h36 => ?_) (fun h36 => ?_)
            · exact J65 _ _ (by rw [if_neg (fun h => h.2.1 hz)])
            · exact absurd hz h36
        · have hz2 : 86 ≤ σ 77 (s : Int) ∧ σ 77 (s : Int) ≤ (n : Int) := hsr.resolve_left hz
          have ht := hT _ hz2.1 hz2.2
          refine x_istore C d_XV_stepFrom_23 (by decide) ?_
          refine x_iload C d_XV_stepFrom_25 rfl ?_
          refine x_if_eq (tgt := 65) C d_XV_stepFrom_27 rfl (fun h27 => ?_) (fun h27 => ?_)
          · exact J65 _ _ (by subst hv; first | (rw [if_pos ⟨by omega, hz, h49⟩]; done) | (rw [if_neg (by omega)]; done))
          · refine x_aload_n C d_XV_stepFrom_30 rfl rfl ?_
            refine x_getC C 0 77 cf_XV fl_XV_11 d_XV_stepFrom_31 rfl rfl rfl (by omega) (by omega) rfl ?_
            refine x_iload_n C d_XV_stepFrom_34 rfl rfl ?_
            refine x_aald C d_XV_stepFrom_35 (by first | rfl | exact lx_A (by omega) (by omega) (by omega) | exact lx_H (by omega) (by omega) | exact lx_K (by omega) (by omega)) (by decide) (by omega) (by omega) (by omega) (by omega) (fun r35 => ?_)
            refine x_ifnull (tgt := 65) C d_XV_stepFrom_36 rfl (fun h36 => ?_) (fun h36 => ?_)
            · exact absurd h36 hz
            · refine x_aload_n C d_XV_stepFrom_39 rfl rfl ?_
              refine x_getC C 0 77 cf_XV fl_XV_11 d_XV_stepFrom_40 rfl rfl rfl (by omega) (by omega) rfl ?_
              refine x_iload_n C d_XV_stepFrom_43 rfl rfl ?_
              refine x_aald C d_XV_stepFrom_44 (by first | rfl | exact lx_A (by omega) (by omega) (by omega) | exact lx_H (by omega) (by omega) | exact lx_K (by omega) (by omega)) (by decide) (by omega) (by omega) (by omega) (by omega) (fun r44 => ?_)
              refine x_getI C 2 cf_XT fl_XV_26 d_XV_stepFrom_45 rfl (by decide) rfl (by first | rfl | exact lx_T (by omega) | exact lx_C (by omega) (by omega) (by omega)) (by omega) (by omega) (fun r45 => ?_)
              refine x_iconst C d_XV_stepFrom_48 (by decide) ?_
              refine x_icmp_ne (tgt := 65) C d_XV_stepFrom_49 rfl (fun h49 => ?_) (fun h49 => ?_)
              · exact J65 _ _ (by subst hv; first | (rw [if_pos ⟨by omega, hz, h49⟩]; done) | (rw [if_neg (by omega)]; done))
              · refine x_iload_n C d_XV_stepFrom_52 rfl rfl ?_
                refine x_aload_n C d_XV_stepFrom_53 rfl rfl ?_
                refine x_aload_n C d_XV_stepFrom_54 rfl rfl ?_
                refine x_getC C 0 77 cf_XV fl_XV_11 d_XV_stepFrom_55 rfl rfl rfl (by omega) (by omega) rfl ?_
                refine x_iload_n C d_XV_stepFrom_58 rfl rfl ?_
                refine x_aald C d_XV_stepFrom_59 (by first | rfl | exact lx_A (by omega) (by omega) (by omega) | exact lx_H (by omega) (by omega) | exact lx_K (by omega) (by omega)) (by decide) (by omega) (by omega) (by omega) (by omega) (fun r59 => ?_)
                refine x_callV C cl_XV_45 cb_XV_obstacles cs_XV_obstacles d_XV_stepFrom_60 (c_XV_obstacles hn hS hz2.1 hz2.2 ht.2.1.1 ht.2.1.2 ht.2.2.1 ht.2.2.2) rfl rfl rfl rfl (by first | rfl | exact lx_T (by omega) | exact lx_C (by omega) (by omega) (by omega)) (by omega) (by omega) (by decide) (by decide) (Nat.le_of_ble_eq_true rfl) (by omega) (by omega) ?_
                rintro _ _ _ ⟨rfl, rfl, rfl⟩ -
                skip
                refine x_ior C d_XV_stepFrom_63 (by omega) (by omega) (by omega) (by omega) ?_
                refine x_istore_n C d_XV_stepFrom_64 rfl (by decide) ?_
                exact J65 _ _ (by subst hv; first | (rw [if_pos ⟨by omega, hz, h49⟩]; done) | (rw [if_neg (by omega)]; done))
      refine x_iload_n C d_XV_stepFrom_4 rfl rfl ?_
      refine x_iconst C d_XV_stepFrom_5 (by decide) ?_
      refine x_icmp_ge (tgt := 71) C d_XV_stepFrom_6 rfl (fun h6 => ?_) (fun h6 => ?_)
      · exact absurd h6 (by omega)
      · refine x_iload_n C d_XV_stepFrom_9 rfl rfl ?_
        refine x_iload_n C d_XV_stepFrom_10 rfl rfl ?_
        refine x_ishr C d_XV_stepFrom_11 (by omega) (by omega) (by omega) (by omega) ?_
        refine x_iconst C d_XV_stepFrom_12 (by decide) ?_
        refine x_iand1 C d_XV_stepFrom_13 (by omega) (by omega) ?_
        refine x_iconst C d_XV_stepFrom_14 (by decide) ?_
        refine x_icmp_ne (tgt := 22) C d_XV_stepFrom_15 rfl (fun h15 => ?_) (fun h15 => ?_)
        · refine x_iconst C d_XV_stepFrom_22 (by decide) ?_
          exact J23 _ (by first | (rw [if_pos h15]; done) | (rw [if_neg h15]; done))
        · refine x_iconst C d_XV_stepFrom_18 (by decide) ?_
          refine x_goto (tgt := 23) C d_XV_stepFrom_19 rfl ?_
          exact J23 _ (by first | (rw [if_pos h15]; done) | (rw [if_neg h15]; done))
  refine x_iconst C d_XV_stepFrom_0 (by decide) ?_
  refine x_istore_n C d_XV_stepFrom_1 rfl (by decide) ?_
  refine x_iconst C d_XV_stepFrom_2 (by decide) ?_
  refine x_istore_n C d_XV_stepFrom_3 rfl (by decide) ?_
  exact loop 4 0 none (by omega)
theorem c_XV_waitsForItself {n : Nat} {σ : Hp} {one : Int} (hn : 85 ≤ n) (hS : xS n σ) (hT : xT n σ) (o0 : 86 ≤ one) (o1 : one ≤ (n : Int)) : Ok LyX TX y_XV_waitsForItself b_XV_waitsForItself 4 (some .boolean) 4 0 0 [.inr 76, .inr one] n σ (pI n σ (b2i (f_wfi σ one))) := by
  refine ok_mk (by decide) (Nat.le_of_ble_eq_true rfl) (fun K C rt ha hok hfx => ?_)
  show XW LyX TX K n σ 0 0 0 [some (.inr 76), some (.inr one), none, none] []
  have ht := hT _ o0 o1
  have hob := f_obs_lt σ one 4 (by omega)
  have loop : ∀ (q : Nat) (s m : Int), s + q = 4 → 1 ≤ s → 0 ≤ m → m < 16 → f_rch σ q m = f_rch σ 3 (f_obs σ one 4) → XW LyX TX K n σ 0 0 8 [some (.inr 76), some (.inr one), some (.inl m), some (.inl s)] [] := by
    intro q
    induction q with
    | zero =>
      intro s m hs s0 m0 m1 hm
      have hm : m = f_rch σ 3 (f_obs σ one 4) := hm
      have hsb := bsr_lt (s := σ one 1) m1
      refine x_iload_n C d_XV_waitsForItself_8 rfl rfl ?_
      refine x_iconst C d_XV_waitsForItself_9 (by decide) ?_
      refine x_icmp_ge (tgt := 27) C d_XV_waitsForItself_10 rfl (fun h10 => ?_) (fun h10 => ?_)
      · refine x_iload_n C d_XV_waitsForItself_27 rfl rfl ?_
        refine x_aload_n C d_XV_waitsForItself_28 rfl rfl ?_
        refine x_getI C 1 cf_XT fl_XV_22 d_XV_waitsForItself_29 rfl (by decide) rfl (by first | rfl | exact lx_T (by omega) | exact lx_C (by omega) (by omega) (by omega)) (by omega) (by omega) (fun r29 => ?_)
        refine x_ishr C d_XV_waitsForItself_32 (by omega) (by omega) (by omega) (by omega) ?_
        refine x_iconst C d_XV_waitsForItself_33 (by decide) ?_
        refine x_iand1 C d_XV_waitsForItself_34 (by omega) (by omega) ?_
        refine x_iconst C d_XV_waitsForItself_35 (by decide) ?_
        refine x_icmp_ne (tgt := 43) C d_XV_waitsForItself_36 rfl (fun h36 => ?_) (fun h36 => ?_)
        · refine x_iconst C d_XV_waitsForItself_43 (by decide) ?_
          exact x_zret rt d_XV_waitsForItself_44 (by omega) (by omega) ⟨by decide, by decide⟩ ⟨by simp only [f_wfi]; rw [← hm]; simp [b2i, h36], rfl, rfl⟩
        · refine x_iconst C d_XV_waitsForItself_39 (by decide) ?_
          refine x_goto (tgt := 44) C d_XV_waitsForItself_40 rfl ?_
          exact x_zret rt d_XV_waitsForItself_44 (by omega) (by omega) ⟨by decide, by decide⟩ ⟨by simp only [f_wfi]; rw [← hm]; simp [b2i, h36], rfl, rfl⟩
      · exact absurd h10 (by omega)
    | succ q ih =>
      intro s m hs s0 m0 m1 hm
      have hsl := f_stp_lt σ m 4 (by omega)
      have hbl := bor_lt m1 hsl.2
      have ih2 := ih (s + 1) (bor m (f_stp σ m 4)) (by omega) (by omega) hbl.1 hbl.2 hm
      refine x_iload_n C d_XV_waitsForItself_8 rfl rfl ?_
      refine x_iconst C d_XV_waitsForItself_9 (by decide) ?_
      refine x_icmp_ge (tgt := 27) C d_XV_waitsForItself_10 rfl (fun h10 => ?_) (fun h10 => ?_)
      · exact absurd h10 (by omega)
      · refine x_iload_n C d_XV_waitsForItself_13 rfl rfl ?_
        refine x_aload_n C d_XV_waitsForItself_14 rfl rfl ?_
        refine x_iload_n C d_XV_waitsForItself_15 rfl rfl ?_
        refine x_callV C cl_XV_56 cb_XV_stepFrom cs_XV_stepFrom d_XV_waitsForItself_16 (c_XV_stepFrom hn hS hT m0 m1) rfl rfl rfl rfl (by first | rfl | exact lx_T (by omega) | exact lx_C (by omega) (by omega) (by omega)) (by omega) (by omega) (by decide) (by decide) (Nat.le_of_ble_eq_true rfl) (by omega) (by omega) ?_
        rintro _ _ _ ⟨rfl, rfl, rfl⟩ -
        skip
        refine x_ior C d_XV_waitsForItself_19 (by omega) (by omega) (by omega) (by omega) ?_
        refine x_istore_n C d_XV_waitsForItself_20 rfl (by decide) ?_
        refine x_iinc C d_XV_waitsForItself_21 (by decide) rfl ⟨by omega, by omega⟩ ?_
        refine x_goto (tgt := 8) C d_XV_waitsForItself_24 rfl ?_
        exact ih2
  refine x_aload_n C d_XV_waitsForItself_0 rfl rfl ?_
  refine x_aload_n C d_XV_waitsForItself_1 rfl rfl ?_
  refine x_callV C cl_XV_45 cb_XV_obstacles cs_XV_obstacles d_XV_waitsForItself_2 (c_XV_obstacles hn hS o0 o1 ht.2.1.1 ht.2.1.2 ht.2.2.1 ht.2.2.2) rfl rfl rfl rfl (by first | rfl | exact lx_T (by omega) | exact lx_C (by omega) (by omega) (by omega)) (by omega) (by omega) (by decide) (by decide) (Nat.le_of_ble_eq_true rfl) (by omega) (by omega) ?_
  rintro _ _ _ ⟨rfl, rfl, rfl⟩ -
  skip
  refine x_istore_n C d_XV_waitsForItself_5 rfl (by decide) ?_
  refine x_iconst C d_XV_waitsForItself_6 (by decide) ?_
  refine x_istore_n C d_XV_waitsForItself_7 rfl (by decide) ?_
  exact loop 3 1 _ (by omega) (by omega) hob.1 hob.2 rfl
theorem c_XV_leastStableCommit {n : Nat} {σ : Hp} (hn : 85 ≤ n) (hS : xS n σ) (hT : xT n σ) : Ok LyX TX y_XV_leastStableCommit b_XV_leastStableCommit 5 (some (.object "LogStore$Transaction")) 1 0 0 [.inr 76, .inr 2] n σ (fun r n' σ' => r = some (.inr (f_lsc σ 4)) ∧ n' = n ∧ σ = σ') := by
  refine ok_mk (by decide) (Nat.le_of_ble_eq_true rfl) (fun K C rt ha hok hfx => ?_)
  show XW LyX TX K n σ 0 0 0 [some (.inr 76), some (.inr 2), none, none, none] []
  have loop : ∀ (q s : Nat) (a : Option AV), s + q = 4 → XW LyX TX K n σ 0 0 4 [some (.inr 76), some (.inr 2), some (.inr (f_lsc σ s)), some (.inl (s : Int)), a] [] := by
    intro q
    induction q with
    | zero =>
      intro s a hs
      obtain rfl : s = 4 := by omega
      refine x_iload_n C d_XV_leastStableCommit_4 rfl rfl ?_
      refine x_iconst C d_XV_leastStableCommit_5 (by decide) ?_
      refine x_icmp_ge (tgt := 83) C d_XV_leastStableCommit_6 rfl (fun h6 => ?_) (fun h6 => ?_)
      · refine x_aload_n C d_XV_leastStableCommit_83 rfl rfl ?_
        exact x_aret rt d_XV_leastStableCommit_84 (by omega) (by omega) ⟨rfl, rfl, rfl⟩
      · exact absurd h6 (by decide)
    | succ q ih =>
      intro s a hs
      have hb := f_lsc_b hS s (by omega)
      have hsr := hS (s : Int) (by omega) (by omega)
      have ih2 := fun a => ih (s + 1) a (by omega)
      rw [show f_lsc σ (s + 1) = if ¬ σ 77 (s : Int) = 0 ∧ σ (σ 77 (s : Int)) 2 = 3 ∧ σ 11 (σ (σ 77 (s : Int)) 0) ≤ σ 2 12 ∧ (f_lsc σ s = 0 ∨ σ 11 (σ (σ 77 (s : Int)) 0) < σ 11 (σ (f_lsc σ s) 0)) then σ 77 (s : Int) else f_lsc σ s from rfl] at ih2
      generalize f_lsc σ s = l at *
      have J77 : ∀ (v : Int) (a : Option AV), v = (if ¬ σ 77 (s : Int) = 0 ∧ σ (σ 77 (s : Int)) 2 = 3 ∧ σ 11 (σ (σ 77 (s : Int)) 0) ≤ σ 2 12 ∧ (l = 0 ∨ σ 11 (σ (σ 77 (s : Int)) 0) < σ 11 (σ l 0)) then σ 77 (s : Int) else l) → XW LyX TX K n σ 0 0 77 [some (.inr 76), some (.inr 2), some (.inr v), some (.inl (s : Int)), a] [] := by
        intro v a hv
        subst hv
        refine x_iinc C d_XV_leastStableCommit_77 (by decide) rfl ⟨by omega, by omega⟩ ?_
        refine x_goto (tgt := 4) C d_XV_leastStableCommit_80 rfl ?_
        exact ih2 _
      by_cases hz : σ 77 (s : Int) = 0
      · skip
        refine x_iload_n C d_XV_leastStableCommit_4 rfl rfl ?_
        refine x_iconst C d_XV_leastStableCommit_5 (by decide) ?_
        refine x_icmp_ge (tgt := 83) C d_XV_leastStableCommit_6 rfl (fun h6 => ?_) (fun h6 => ?_)
        · exact absurd h6 (by omega)
        · refine x_aload_n C d_XV_leastStableCommit_9 rfl rfl ?_
          refine x_getC C 0 77 cf_XV fl_XV_11 d_XV_leastStableCommit_10 rfl rfl rfl (by omega) (by omega) rfl ?_
          refine x_iload_n C d_XV_leastStableCommit_13 rfl rfl ?_
          refine x_aald C d_XV_leastStableCommit_14 (by first | rfl | exact lx_A (by omega) (by omega) (by omega) | exact lx_H (by omega) (by omega) | exact lx_K (by omega) (by omega)) (by decide) (by omega) (by omega) (by omega) (by omega) (fun r14 => ?_)
          refine x_astore C d_XV_leastStableCommit_15 (by decide) ?_
          refine x_aload C d_XV_leastStableCommit_17 rfl ?_
          refine x_ifnull (tgt := 77) C d_XV_leastStableCommit_19 rfl (fun h19 => ?_) (fun h19 => ?_)
          · exact J77 _ _ (by rw [if_neg (fun h => h.1 hz)])
          · exact absurd hz h19
      · have hz2 : 86 ≤ σ 77 (s : Int) ∧ σ 77 (s : Int) ≤ (n : Int) := hsr.resolve_left hz
        have ht := hT _ hz2.1 hz2.2
        by_cases hl0 : l = 0
        · skip
          refine x_iload_n C d_XV_leastStableCommit_4 rfl rfl ?_
          refine x_iconst C d_XV_leastStableCommit_5 (by decide) ?_
          refine x_icmp_ge (tgt := 83) C d_XV_leastStableCommit_6 rfl (fun h6 => ?_) (fun h6 => ?_)
          · exact absurd h6 (by omega)
          · refine x_aload_n C d_XV_leastStableCommit_9 rfl rfl ?_
            refine x_getC C 0 77 cf_XV fl_XV_11 d_XV_leastStableCommit_10 rfl rfl rfl (by omega) (by omega) rfl ?_
            refine x_iload_n C d_XV_leastStableCommit_13 rfl rfl ?_
            refine x_aald C d_XV_leastStableCommit_14 (by first | rfl | exact lx_A (by omega) (by omega) (by omega) | exact lx_H (by omega) (by omega) | exact lx_K (by omega) (by omega)) (by decide) (by omega) (by omega) (by omega) (by omega) (fun r14 => ?_)
            refine x_astore C d_XV_leastStableCommit_15 (by decide) ?_
            refine x_aload C d_XV_leastStableCommit_17 rfl ?_
            refine x_ifnull (tgt := 77) C d_XV_leastStableCommit_19 rfl (fun h19 => ?_) (fun h19 => ?_)
            · exact absurd h19 hz
            · refine x_aload C d_XV_leastStableCommit_22 rfl ?_
              refine x_getI C 2 cf_XT fl_XV_26 d_XV_leastStableCommit_24 rfl (by decide) rfl (by first | rfl | exact lx_T (by omega) | exact lx_C (by omega) (by omega) (by omega)) (by omega) (by omega) (fun r24 => ?_)
              refine x_iconst C d_XV_leastStableCommit_27 (by decide) ?_
              refine x_icmp_ne (tgt := 77) C d_XV_leastStableCommit_28 rfl (fun h28 => ?_) (fun h28 => ?_)
              · exact J77 _ _ (by first | (rw [if_pos ⟨hz, h28, h45, Or.inl hl0⟩]; done) | (rw [if_neg (by omega)]; done))
              · refine x_aload_n C d_XV_leastStableCommit_31 rfl rfl ?_
                refine x_getC C 8 11 cf_XL fl_XV_60 d_XV_leastStableCommit_32 rfl rfl rfl (by omega) (by omega) rfl ?_
                refine x_aload C d_XV_leastStableCommit_35 rfl ?_
                refine x_getI C 0 cf_XT fl_XV_66 d_XV_leastStableCommit_37 rfl (by decide) rfl (by first | rfl | exact lx_T (by omega) | exact lx_C (by omega) (by omega) (by omega)) (by omega) (by omega) (fun r37 => ?_)
                refine x_iald C d_XV_leastStableCommit_40 (by first | rfl | exact lx_A (by omega) (by omega) (by omega) | exact lx_H (by omega) (by omega) | exact lx_K (by omega) (by omega)) (by omega) (by omega) (by omega) (by omega) (fun r40 => ?_)
                refine x_aload_n C d_XV_leastStableCommit_41 rfl rfl ?_
                refine x_getI C 12 cf_XL fl_XV_69 d_XV_leastStableCommit_42 rfl (by decide) rfl rfl (by omega) (by omega) (fun r42 => ?_)
                refine x_icmp_gt (tgt := 77) C d_XV_leastStableCommit_45 rfl (fun h45 => ?_) (fun h45 => ?_)
                · exact J77 _ _ (by first | (rw [if_pos ⟨hz, h28, h45, Or.inl hl0⟩]; done) | (rw [if_neg (by omega)]; done))
                · refine x_aload_n C d_XV_leastStableCommit_48 rfl rfl ?_
                  refine x_ifnull (tgt := 74) C d_XV_leastStableCommit_49 rfl (fun h49 => ?_) (fun h49 => ?_)
                  · refine x_aload C d_XV_leastStableCommit_74 rfl ?_
                    refine x_astore_n C d_XV_leastStableCommit_76 rfl (by decide) ?_
                    exact J77 _ _ (by first | (rw [if_pos ⟨hz, h28, h45, Or.inl hl0⟩]; done) | (rw [if_neg (by omega)]; done))
                  · exact absurd hl0 h49
        · have hl2 : 86 ≤ l ∧ l ≤ (n : Int) := hb.resolve_left hl0
          have htl := hT _ hl2.1 hl2.2
          refine x_iload_n C d_XV_leastStableCommit_4 rfl rfl ?_
          refine x_iconst C d_XV_leastStableCommit_5 (by decide) ?_
          refine x_icmp_ge (tgt := 83) C d_XV_leastStableCommit_6 rfl (fun h6 => ?_) (fun h6 => ?_)
          · exact absurd h6 (by omega)
          · refine x_aload_n C d_XV_leastStableCommit_9 rfl rfl ?_
            refine x_getC C 0 77 cf_XV fl_XV_11 d_XV_leastStableCommit_10 rfl rfl rfl (by omega) (by omega) rfl ?_
            refine x_iload_n C d_XV_leastStableCommit_13 rfl rfl ?_
            refine x_aald C d_XV_leastStableCommit_14 (by first | rfl | exact lx_A (by omega) (by omega) (by omega) | exact lx_H (by omega) (by omega) | exact lx_K (by omega) (by omega)) (by decide) (by omega) (by omega) (by omega) (by omega) (fun r14 => ?_)
            refine x_astore C d_XV_leastStableCommit_15 (by decide) ?_
            refine x_aload C d_XV_leastStableCommit_17 rfl ?_
            refine x_ifnull (tgt := 77) C d_XV_leastStableCommit_19 rfl (fun h19 => ?_) (fun h19 => ?_)
            · exact absurd h19 hz
            · refine x_aload C d_XV_leastStableCommit_22 rfl ?_
              refine x_getI C 2 cf_XT fl_XV_26 d_XV_leastStableCommit_24 rfl (by decide) rfl (by first | rfl | exact lx_T (by omega) | exact lx_C (by omega) (by omega) (by omega)) (by omega) (by omega) (fun r24 => ?_)
              refine x_iconst C d_XV_leastStableCommit_27 (by decide) ?_
              refine x_icmp_ne (tgt := 77) C d_XV_leastStableCommit_28 rfl (fun h28 => ?_) (fun h28 => ?_)
              · exact J77 _ _ (by first | (rw [if_pos ⟨hz, h28, h45, Or.inr h71⟩]; done) | (rw [if_neg (by omega)]; done))
              · refine x_aload_n C d_XV_leastStableCommit_31 rfl rfl ?_
                refine x_getC C 8 11 cf_XL fl_XV_60 d_XV_leastStableCommit_32 rfl rfl rfl (by omega) (by omega) rfl ?_
                refine x_aload C d_XV_leastStableCommit_35 rfl ?_
                refine x_getI C 0 cf_XT fl_XV_66 d_XV_leastStableCommit_37 rfl (by decide) rfl (by first | rfl | exact lx_T (by omega) | exact lx_C (by omega) (by omega) (by omega)) (by omega) (by omega) (fun r37 => ?_)
                refine x_iald C d_XV_leastStableCommit_40 (by first | rfl | exact lx_A (by omega) (by omega) (by omega) | exact lx_H (by omega) (by omega) | exact lx_K (by omega) (by omega)) (by omega) (by omega) (by omega) (by omega) (fun r40 => ?_)
                refine x_aload_n C d_XV_leastStableCommit_41 rfl rfl ?_
                refine x_getI C 12 cf_XL fl_XV_69 d_XV_leastStableCommit_42 rfl (by decide) rfl rfl (by omega) (by omega) (fun r42 => ?_)
                refine x_icmp_gt (tgt := 77) C d_XV_leastStableCommit_45 rfl (fun h45 => ?_) (fun h45 => ?_)
                · exact J77 _ _ (by first | (rw [if_pos ⟨hz, h28, h45, Or.inr h71⟩]; done) | (rw [if_neg (by omega)]; done))
                · refine x_aload_n C d_XV_leastStableCommit_48 rfl rfl ?_
                  refine x_ifnull (tgt := 74) C d_XV_leastStableCommit_49 rfl (fun h49 => ?_) (fun h49 => ?_)
                  · exact absurd h49 hl0
                  · refine x_aload_n C d_XV_leastStableCommit_52 rfl rfl ?_
                    refine x_getC C 8 11 cf_XL fl_XV_60 d_XV_leastStableCommit_53 rfl rfl rfl (by omega) (by omega) rfl ?_
                    refine x_aload C d_XV_leastStableCommit_56 rfl ?_
                    refine x_getI C 0 cf_XT fl_XV_66 d_XV_leastStableCommit_58 rfl (by decide) rfl (by first | rfl | exact lx_T (by omega) | exact lx_C (by omega) (by omega) (by omega)) (by omega) (by omega) (fun r58 => ?_)
                    refine x_iald C d_XV_leastStableCommit_61 (by first | rfl | exact lx_A (by omega) (by omega) (by omega) | exact lx_H (by omega) (by omega) | exact lx_K (by omega) (by omega)) (by omega) (by omega) (by omega) (by omega) (fun r61 => ?_)
                    refine x_aload_n C d_XV_leastStableCommit_62 rfl rfl ?_
                    refine x_getC C 8 11 cf_XL fl_XV_60 d_XV_leastStableCommit_63 rfl rfl rfl (by omega) (by omega) rfl ?_
                    refine x_aload_n C d_XV_leastStableCommit_66 rfl rfl ?_
                    refine x_getI C 0 cf_XT fl_XV_66 d_XV_leastStableCommit_67 rfl (by decide) rfl (by first | rfl | exact lx_T (by omega) | exact lx_C (by omega) (by omega) (by omega)) (by omega) (by omega) (fun r67 => ?_)
                    refine x_iald C d_XV_leastStableCommit_70 (by first | rfl | exact lx_A (by omega) (by omega) (by omega) | exact lx_H (by omega) (by omega) | exact lx_K (by omega) (by omega)) (by omega) (by omega) (by omega) (by omega) (fun r70 => ?_)
                    refine x_icmp_ge (tgt := 77) C d_XV_leastStableCommit_71 rfl (fun h71 => ?_) (fun h71 => ?_)
                    · exact J77 _ _ (by first | (rw [if_pos ⟨hz, h28, h45, Or.inr h71⟩]; done) | (rw [if_neg (by omega)]; done))
                    · refine x_aload C d_XV_leastStableCommit_74 rfl ?_
                      refine x_astore_n C d_XV_leastStableCommit_76 rfl (by decide) ?_
                      exact J77 _ _ (by first | (rw [if_pos ⟨hz, h28, h45, Or.inr h71⟩]; done) | (rw [if_neg (by omega)]; done))
  refine x_null C d_XV_leastStableCommit_0 ?_
  refine x_astore_n C d_XV_leastStableCommit_1 rfl (by decide) ?_
  refine x_iconst C d_XV_leastStableCommit_2 (by decide) ?_
  refine x_istore_n C d_XV_leastStableCommit_3 rfl (by decide) ?_
  exact loop 4 0 none (by omega)
theorem c_XV_firstFitWaiting {n : Nat} {σ : Hp} (hn : 85 ≤ n) (hS : xS n σ) (hT : xT n σ) : Ok LyX TX y_XV_firstFitWaiting b_XV_firstFitWaiting 4 (some (.object "LogStore$Transaction")) 4 0 0 [.inr 76] n σ (fun r n' σ' => r = some (.inr (f_ffw σ 4)) ∧ n' = n ∧ σ = σ') := by
  refine ok_mk (by decide) (Nat.le_of_ble_eq_true rfl) (fun K C rt ha hok hfx => ?_)
  show XW LyX TX K n σ 0 0 0 [some (.inr 76), none, none, none] []
  have loop : ∀ (q s : Nat) (a : Option AV), s + q = 4 → XW LyX TX K n σ 0 0 4 [some (.inr 76), some (.inr (f_ffw σ s)), some (.inl (s : Int)), a] [] := by
    intro q
    induction q with
    | zero =>
      intro s a hs
      obtain rfl : s = 4 := by omega
      refine x_iload_n C d_XV_firstFitWaiting_4 rfl rfl ?_
      refine x_iconst C d_XV_firstFitWaiting_5 (by decide) ?_
      refine x_icmp_ge (tgt := 59) C d_XV_firstFitWaiting_6 rfl (fun h6 => ?_) (fun h6 => ?_)
      · refine x_aload_n C d_XV_firstFitWaiting_59 rfl rfl ?_
        exact x_aret rt d_XV_firstFitWaiting_60 (by omega) (by omega) ⟨rfl, rfl, rfl⟩
      · exact absurd h6 (by decide)
    | succ q ih =>
      intro s a hs
      have hb := f_ffw_b hS s (by omega)
      have hsr := hS (s : Int) (by omega) (by omega)
      have ih2 := fun a => ih (s + 1) a (by omega)
      rw [show f_ffw σ (s + 1) = if ¬ σ 77 (s : Int) = 0 ∧ σ (σ 77 (s : Int)) 2 = 2 ∧ (f_ffw σ s = 0 ∨ σ (σ 77 (s : Int)) 5 < σ (f_ffw σ s) 5) ∧ f_isFit σ (σ 77 (s : Int)) = true then σ 77 (s : Int) else f_ffw σ s from rfl] at ih2
      generalize f_ffw σ s = l at *
      have J53 : ∀ (v : Int) (a : Option AV), v = (if ¬ σ 77 (s : Int) = 0 ∧ σ (σ 77 (s : Int)) 2 = 2 ∧ (l = 0 ∨ σ (σ 77 (s : Int)) 5 < σ l 5) ∧ f_isFit σ (σ 77 (s : Int)) = true then σ 77 (s : Int) else l) → XW LyX TX K n σ 0 0 53 [some (.inr 76), some (.inr v), some (.inl (s : Int)), a] [] := by
        intro v a hv
        subst hv
        refine x_iinc C d_XV_firstFitWaiting_53 (by decide) rfl ⟨by omega, by omega⟩ ?_
        refine x_goto (tgt := 4) C d_XV_firstFitWaiting_56 rfl ?_
        exact ih2 _
      by_cases hz : σ 77 (s : Int) = 0
      · skip
        refine x_iload_n C d_XV_firstFitWaiting_4 rfl rfl ?_
        refine x_iconst C d_XV_firstFitWaiting_5 (by decide) ?_
        refine x_icmp_ge (tgt := 59) C d_XV_firstFitWaiting_6 rfl (fun h6 => ?_) (fun h6 => ?_)
        · exact absurd h6 (by omega)
        · refine x_aload_n C d_XV_firstFitWaiting_9 rfl rfl ?_
          refine x_getC C 0 77 cf_XV fl_XV_11 d_XV_firstFitWaiting_10 rfl rfl rfl (by omega) (by omega) rfl ?_
          refine x_iload_n C d_XV_firstFitWaiting_13 rfl rfl ?_
          refine x_aald C d_XV_firstFitWaiting_14 (by first | rfl | exact lx_A (by omega) (by omega) (by omega) | exact lx_H (by omega) (by omega) | exact lx_K (by omega) (by omega)) (by decide) (by omega) (by omega) (by omega) (by omega) (fun r14 => ?_)
          refine x_astore_n C d_XV_firstFitWaiting_15 rfl (by decide) ?_
          refine x_aload_n C d_XV_firstFitWaiting_16 rfl rfl ?_
          refine x_ifnull (tgt := 53) C d_XV_firstFitWaiting_17 rfl (fun h17 => ?_) (fun h17 => ?_)
          · exact J53 _ _ (by rw [if_neg (fun h => h.1 hz)])
          · exact absurd hz h17
      · have hz2 : 86 ≤ σ 77 (s : Int) ∧ σ 77 (s : Int) ≤ (n : Int) := hsr.resolve_left hz
        have ht := hT _ hz2.1 hz2.2
        by_cases hl0 : l = 0
        · skip
          refine x_iload_n C d_XV_firstFitWaiting_4 rfl rfl ?_
          refine x_iconst C d_XV_firstFitWaiting_5 (by decide) ?_
          refine x_icmp_ge (tgt := 59) C d_XV_firstFitWaiting_6 rfl (fun h6 => ?_) (fun h6 => ?_)
          · exact absurd h6 (by omega)
          · refine x_aload_n C d_XV_firstFitWaiting_9 rfl rfl ?_
            refine x_getC C 0 77 cf_XV fl_XV_11 d_XV_firstFitWaiting_10 rfl rfl rfl (by omega) (by omega) rfl ?_
            refine x_iload_n C d_XV_firstFitWaiting_13 rfl rfl ?_
            refine x_aald C d_XV_firstFitWaiting_14 (by first | rfl | exact lx_A (by omega) (by omega) (by omega) | exact lx_H (by omega) (by omega) | exact lx_K (by omega) (by omega)) (by decide) (by omega) (by omega) (by omega) (by omega) (fun r14 => ?_)
            refine x_astore_n C d_XV_firstFitWaiting_15 rfl (by decide) ?_
            refine x_aload_n C d_XV_firstFitWaiting_16 rfl rfl ?_
            refine x_ifnull (tgt := 53) C d_XV_firstFitWaiting_17 rfl (fun h17 => ?_) (fun h17 => ?_)
            · exact absurd h17 hz
            · refine x_aload_n C d_XV_firstFitWaiting_20 rfl rfl ?_
              refine x_getI C 2 cf_XT fl_XV_26 d_XV_firstFitWaiting_21 rfl (by decide) rfl (by first | rfl | exact lx_T (by omega) | exact lx_C (by omega) (by omega) (by omega)) (by omega) (by omega) (fun r21 => ?_)
              refine x_iconst C d_XV_firstFitWaiting_24 (by decide) ?_
              refine x_icmp_ne (tgt := 53) C d_XV_firstFitWaiting_25 rfl (fun h25 => ?_) (fun h25 => ?_)
              · exact J53 _ _ (by first | (rw [if_pos ⟨hz, h25, Or.inl hl0, b2i_1 h48⟩]; done) | (rw [if_neg (fun h => by rw [h.2.2.2] at h48; exact absurd h48 (by decide))]; done) | (rw [if_neg (fun h => h25 h.2.1)]; done))
              · refine x_aload_n C d_XV_firstFitWaiting_28 rfl rfl ?_
                refine x_ifnull (tgt := 43) C d_XV_firstFitWaiting_29 rfl (fun h29 => ?_) (fun h29 => ?_)
                · refine x_aload_n C d_XV_firstFitWaiting_43 rfl rfl ?_
                  refine x_aload_n C d_XV_firstFitWaiting_44 rfl rfl ?_
                  refine x_callV C cl_XV_72 cb_XV_isFit cs_XV_isFit d_XV_firstFitWaiting_45 (c_XV_isFit hn hS hz2.1 hz2.2 ht.2.1.1 ht.2.1.2 ht.2.2.1 ht.2.2.2) rfl rfl rfl rfl (by first | rfl | exact lx_T (by omega) | exact lx_C (by omega) (by omega) (by omega)) (by omega) (by omega) (by decide) (by decide) (Nat.le_of_ble_eq_true rfl) (by omega) (by omega) ?_
                  rintro _ _ _ ⟨rfl, rfl, rfl⟩ -
                  skip
                  refine x_if_eq (tgt := 53) C d_XV_firstFitWaiting_48 rfl (fun h48 => ?_) (fun h48 => ?_)
                  · exact J53 _ _ (by first | (rw [if_pos ⟨hz, h25, Or.inl hl0, b2i_1 h48⟩]; done) | (rw [if_neg (fun h => by rw [h.2.2.2] at h48; exact absurd h48 (by decide))]; done) | (rw [if_neg (fun h => h25 h.2.1)]; done))
                  · refine x_aload_n C d_XV_firstFitWaiting_51 rfl rfl ?_
                    refine x_astore_n C d_XV_firstFitWaiting_52 rfl (by decide) ?_
                    exact J53 _ _ (by first | (rw [if_pos ⟨hz, h25, Or.inl hl0, b2i_1 h48⟩]; done) | (rw [if_neg (fun h => by rw [h.2.2.2] at h48; exact absurd h48 (by decide))]; done) | (rw [if_neg (fun h => h25 h.2.1)]; done))
                · exact absurd hl0 h29
        · have hl2 : 86 ≤ l ∧ l ≤ (n : Int) := hb.resolve_left hl0
          refine x_iload_n C d_XV_firstFitWaiting_4 rfl rfl ?_
          refine x_iconst C d_XV_firstFitWaiting_5 (by decide) ?_
          refine x_icmp_ge (tgt := 59) C d_XV_firstFitWaiting_6 rfl (fun h6 => ?_) (fun h6 => ?_)
          · exact absurd h6 (by omega)
          · refine x_aload_n C d_XV_firstFitWaiting_9 rfl rfl ?_
            refine x_getC C 0 77 cf_XV fl_XV_11 d_XV_firstFitWaiting_10 rfl rfl rfl (by omega) (by omega) rfl ?_
            refine x_iload_n C d_XV_firstFitWaiting_13 rfl rfl ?_
            refine x_aald C d_XV_firstFitWaiting_14 (by first | rfl | exact lx_A (by omega) (by omega) (by omega) | exact lx_H (by omega) (by omega) | exact lx_K (by omega) (by omega)) (by decide) (by omega) (by omega) (by omega) (by omega) (fun r14 => ?_)
            refine x_astore_n C d_XV_firstFitWaiting_15 rfl (by decide) ?_
            refine x_aload_n C d_XV_firstFitWaiting_16 rfl rfl ?_
            refine x_ifnull (tgt := 53) C d_XV_firstFitWaiting_17 rfl (fun h17 => ?_) (fun h17 => ?_)
            · exact absurd h17 hz
            · refine x_aload_n C d_XV_firstFitWaiting_20 rfl rfl ?_
              refine x_getI C 2 cf_XT fl_XV_26 d_XV_firstFitWaiting_21 rfl (by decide) rfl (by first | rfl | exact lx_T (by omega) | exact lx_C (by omega) (by omega) (by omega)) (by omega) (by omega) (fun r21 => ?_)
              refine x_iconst C d_XV_firstFitWaiting_24 (by decide) ?_
              refine x_icmp_ne (tgt := 53) C d_XV_firstFitWaiting_25 rfl (fun h25 => ?_) (fun h25 => ?_)
              · exact J53 _ _ (by first | (rw [if_pos ⟨hz, h25, Or.inr h40, b2i_1 h48⟩]; done) | (rw [if_neg (fun h => by rw [h.2.2.2] at h48; exact absurd h48 (by decide))]; done) | (rw [if_neg (fun h => h25 h.2.1)]; done) | (rw [if_neg (fun h => by rcases h.2.2.1 with h | h; exact hl0 h; omega)]; done))
              · refine x_aload_n C d_XV_firstFitWaiting_28 rfl rfl ?_
                refine x_ifnull (tgt := 43) C d_XV_firstFitWaiting_29 rfl (fun h29 => ?_) (fun h29 => ?_)
                · exact absurd h29 hl0
                · refine x_aload_n C d_XV_firstFitWaiting_32 rfl rfl ?_
                  refine x_getI C 5 cf_XT fl_XV_49 d_XV_firstFitWaiting_33 rfl (by decide) rfl (by first | rfl | exact lx_T (by omega) | exact lx_C (by omega) (by omega) (by omega)) (by omega) (by omega) (fun r33 => ?_)
                  refine x_aload_n C d_XV_firstFitWaiting_36 rfl rfl ?_
                  refine x_getI C 5 cf_XT fl_XV_49 d_XV_firstFitWaiting_37 rfl (by decide) rfl (by first | rfl | exact lx_T (by omega) | exact lx_C (by omega) (by omega) (by omega)) (by omega) (by omega) (fun r37 => ?_)
                  refine x_icmp_ge (tgt := 53) C d_XV_firstFitWaiting_40 rfl (fun h40 => ?_) (fun h40 => ?_)
                  · exact J53 _ _ (by first | (rw [if_pos ⟨hz, h25, Or.inr h40, b2i_1 h48⟩]; done) | (rw [if_neg (fun h => by rw [h.2.2.2] at h48; exact absurd h48 (by decide))]; done) | (rw [if_neg (fun h => h25 h.2.1)]; done) | (rw [if_neg (fun h => by rcases h.2.2.1 with h | h; exact hl0 h; omega)]; done))
                  · refine x_aload_n C d_XV_firstFitWaiting_43 rfl rfl ?_
                    refine x_aload_n C d_XV_firstFitWaiting_44 rfl rfl ?_
                    refine x_callV C cl_XV_72 cb_XV_isFit cs_XV_isFit d_XV_firstFitWaiting_45 (c_XV_isFit hn hS hz2.1 hz2.2 ht.2.1.1 ht.2.1.2 ht.2.2.1 ht.2.2.2) rfl rfl rfl rfl (by first | rfl | exact lx_T (by omega) | exact lx_C (by omega) (by omega) (by omega)) (by omega) (by omega) (by decide) (by decide) (Nat.le_of_ble_eq_true rfl) (by omega) (by omega) ?_
                    rintro _ _ _ ⟨rfl, rfl, rfl⟩ -
                    skip
                    refine x_if_eq (tgt := 53) C d_XV_firstFitWaiting_48 rfl (fun h48 => ?_) (fun h48 => ?_)
                    · exact J53 _ _ (by first | (rw [if_pos ⟨hz, h25, Or.inr h40, b2i_1 h48⟩]; done) | (rw [if_neg (fun h => by rw [h.2.2.2] at h48; exact absurd h48 (by decide))]; done) | (rw [if_neg (fun h => h25 h.2.1)]; done) | (rw [if_neg (fun h => by rcases h.2.2.1 with h | h; exact hl0 h; omega)]; done))
                    · refine x_aload_n C d_XV_firstFitWaiting_51 rfl rfl ?_
                      refine x_astore_n C d_XV_firstFitWaiting_52 rfl (by decide) ?_
                      exact J53 _ _ (by first | (rw [if_pos ⟨hz, h25, Or.inr h40, b2i_1 h48⟩]; done) | (rw [if_neg (fun h => by rw [h.2.2.2] at h48; exact absurd h48 (by decide))]; done) | (rw [if_neg (fun h => h25 h.2.1)]; done) | (rw [if_neg (fun h => by rcases h.2.2.1 with h | h; exact hl0 h; omega)]; done))
  refine x_null C d_XV_firstFitWaiting_0 ?_
  refine x_astore_n C d_XV_firstFitWaiting_1 rfl (by decide) ?_
  refine x_iconst C d_XV_firstFitWaiting_2 (by decide) ?_
  refine x_istore_n C d_XV_firstFitWaiting_3 rfl (by decide) ?_
  exact loop 4 0 none (by omega)

