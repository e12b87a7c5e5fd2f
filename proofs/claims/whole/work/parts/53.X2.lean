-- ===== the class: its pool =====
theorem c_XP_isDirty {n : Nat} {σ : Hp} {p : Int} (hn : 85 ≤ n) (p0 : 0 ≤ p) (p1 : p < 6) : Ok LyX TX y_XP_isDirty b_XP_isDirty 2 (some .boolean) 1 0 0 [.inr 34, .inl p] n σ (pI n σ (if σ 38 p = 0 then 0 else 1)) := by
  refine ok_mk (by decide) (Nat.le_of_ble_eq_true rfl) (fun K C rt ha hok hfx => ?_)
  show XW LyX TX K n σ 0 0 0 [some (.inr 34), some (.inl p)] []
  refine x_aload_n C d_XP_isDirty_0 rfl rfl ?_
  refine x_getC C 4 38 cf_XP fl_XP_24 d_XP_isDirty_1 rfl rfl rfl (by omega) (by omega) rfl ?_
  refine x_iload_n C d_XP_isDirty_4 rfl rfl ?_
  refine x_iald C d_XP_isDirty_5 (by first | rfl | exact lx_A (by omega) (by omega) (by omega) | exact lx_H (by omega) (by omega) | exact lx_K (by omega) (by omega)) (by omega) (by omega) (by omega) (by omega) (fun r5 => ?_)
  refine x_if_eq (tgt := 13) C d_XP_isDirty_6 rfl (fun h6 => ?_) (fun h6 => ?_)
  · refine x_iconst C d_XP_isDirty_13 (by decide) ?_
    exact x_zret rt d_XP_isDirty_14 (by omega) (by omega) ⟨by decide, by decide⟩ ⟨by simp [h6], rfl, rfl⟩
  · refine x_iconst C d_XP_isDirty_9 (by decide) ?_
    refine x_goto (tgt := 14) C d_XP_isDirty_10 rfl ?_
    exact x_zret rt d_XP_isDirty_14 (by omega) (by omega) ⟨by decide, by decide⟩ ⟨by simp [h6], rfl, rfl⟩
theorem c_XP_writeOut {n : Nat} {σ : Hp} {p : Int} (hn : 85 ≤ n) (p0 : 0 ≤ p) (p1 : p < 6) (hB : xB σ) : Ok LyX TX y_XP_writeOut b_XP_writeOut 2 none 2 0 0 [.inr 34, .inl p] n σ (pV n (f_writeOut σ p)) := by
  refine ok_mk (by decide) (Nat.le_of_ble_eq_true rfl) (fun K C rt ha hok hfx => ?_)
  show XW LyX TX K n σ 0 0 0 [some (.inr 34), some (.inl p)] []
  obtain ⟨b1, b2, b3, b4, b5, b6⟩ := hB
  have e8 : f_copy (f_ms σ (σ (43 + 6 * p) 2)) (40 + 6 * p) (43 + 6 * p) 34 8 = σ 34 8 := by rw [f_copy_fr _ _ _ (by omega) (by omega) (by omega), f_ms_fr _ _ (by decide)]
  refine x_aload_n C d_XP_writeOut_0 rfl rfl ?_
  refine x_getC C 0 2 cf_XP fl_XP_31 d_XP_writeOut_1 rfl rfl rfl (by omega) (by omega) rfl ?_
  refine x_aload_n C d_XP_writeOut_4 rfl rfl ?_
  refine x_getC C 2 36 cf_XP fl_XP_17 d_XP_writeOut_5 rfl rfl rfl (by omega) (by omega) rfl ?_
  refine x_iload_n C d_XP_writeOut_8 rfl rfl ?_
  refine x_aaldC C _ d_XP_writeOut_9 rfl (by decide) (by omega) (by omega) (by omega) (by omega) (tx_F (by omega) (by omega)) ?_
  refine x_getI C 2 cf_XC fl_XP_36 d_XP_writeOut_10 rfl (by decide) rfl (by first | rfl | exact lx_T (by omega) | exact lx_C (by omega) (by omega) (by omega)) (by omega) (by omega) (fun r10 => ?_)
  refine x_callV C cl_XP_40 cb_XL_makeStable cs_XL_makeStable d_XP_writeOut_13 (c_XL_makeStable hn) rfl rfl rfl rfl (by first | rfl | exact lx_T (by omega) | exact lx_C (by omega) (by omega) (by omega)) (by omega) (by omega) (by decide) (by decide) (Nat.le_of_ble_eq_true rfl) (by omega) (by omega) ?_
  rintro _ _ _ ⟨rfl, rfl, rfl⟩ -
  skip
  refine x_aload_n C d_XP_writeOut_16 rfl rfl ?_
  refine x_getC C 1 35 cf_XP fl_XP_11 d_XP_writeOut_17 rfl rfl rfl (by omega) (by omega) rfl ?_
  refine x_iload_n C d_XP_writeOut_20 rfl rfl ?_
  refine x_aaldC C _ d_XP_writeOut_21 rfl (by decide) (by omega) (by omega) (by omega) (by omega) (tx_D (by omega) (by omega)) ?_
  refine x_aload_n C d_XP_writeOut_22 rfl rfl ?_
  refine x_getC C 2 36 cf_XP fl_XP_17 d_XP_writeOut_23 rfl rfl rfl (by omega) (by omega) rfl ?_
  refine x_iload_n C d_XP_writeOut_26 rfl rfl ?_
  refine x_aaldC C _ d_XP_writeOut_27 rfl (by decide) (by omega) (by omega) (by omega) (by omega) (tx_F (by omega) (by omega)) ?_
  refine x_callV C cl_XP_46 cb_XC_copy cs_XC_copy d_XP_writeOut_28 (c_XC_copy hn (by omega) (by omega) (by omega) (by omega) (by omega) (by omega) (by omega)) rfl rfl rfl rfl (by first | rfl | exact lx_T (by omega) | exact lx_C (by omega) (by omega) (by omega)) (by omega) (by omega) (by decide) (by decide) (Nat.le_of_ble_eq_true rfl) (by omega) (by omega) ?_
  rintro _ _ _ ⟨rfl, rfl, rfl⟩ -
  skip
  refine x_aload_n C d_XP_writeOut_31 rfl rfl ?_
  refine x_getC C 4 38 cf_XP fl_XP_24 d_XP_writeOut_32 rfl rfl rfl (by omega) (by omega) rfl ?_
  refine x_iload_n C d_XP_writeOut_35 rfl rfl ?_
  refine x_iconst C d_XP_writeOut_36 (by decide) ?_
  refine x_iast C d_XP_writeOut_37 (by first | rfl | exact lx_A (by omega) (by omega) (by omega) | exact lx_H (by omega) (by omega) | exact lx_K (by omega) (by omega)) (by first | rfl | exact tx_T (by omega) | exact tx_A (by omega) (by omega) (by omega) | exact tx_HR (by omega) (by omega) | exact tx_KR (by omega) (by omega) | exact tx_L (by omega) (by omega)) (by omega) (by omega) (by omega) (by omega) ?_
  refine x_aload_n C d_XP_writeOut_38 rfl rfl ?_
  refine x_dup C d_XP_writeOut_39 ?_
  refine x_getI C 8 cf_XP fl_XP_50 d_XP_writeOut_40 rfl (by decide) rfl rfl (by omega) (by omega) (fun r40 => ?_)
  refine x_iconst C d_XP_writeOut_43 (by decide) ?_
  refine x_iadd C d_XP_writeOut_44 ⟨by rw [st2_ne (by decide), e8]; omega, by rw [st2_ne (by decide), e8]; omega⟩ ?_
  refine x_putI C 8 rfl cf_XP fl_XP_50 d_XP_writeOut_45 rfl (Or.inl ⟨rfl, rfl⟩) rfl rfl rfl (by omega) (by omega) ?_
  exact x_vret rt d_XP_writeOut_48 (by omega) (by omega) ⟨rfl, rfl, rfl⟩
theorem c_XP_pageToLeave {n : Nat} {σ : Hp} (hn : 85 ≤ n) : Ok LyX TX y_XP_pageToLeave b_XP_pageToLeave 4 (some .int) 1 0 0 [.inr 34] n σ (pI n σ (f_leave σ)) := by
  refine ok_mk (by decide) (Nat.le_of_ble_eq_true rfl) (fun K C rt ha hok hfx => ?_)
  show XW LyX TX K n σ 0 0 0 [some (.inr 34), none, none, none] []
  have loop : ∀ (q i : Nat), i + q = 6 → XW LyX TX K n σ 0 0 6 [some (.inr 34), some (.inl (f_scan σ i).1), some (.inl (f_scan σ i).2), some (.inl (i : Int))] [] := by
    intro q
    induction q with
    | zero =>
      intro i hi
      obtain rfl : i = 6 := by omega
      refine x_iload_n C d_XP_pageToLeave_6 rfl rfl ?_
      refine x_bipush C d_XP_pageToLeave_7 (by decide) (by decide) ?_
      refine x_icmp_ge (tgt := 52) C d_XP_pageToLeave_9 rfl (fun h9 => ?_) (fun h9 => ?_)
      · refine x_iload_n C d_XP_pageToLeave_52 rfl rfl ?_
        refine x_iconst C d_XP_pageToLeave_53 (by decide) ?_
        refine x_icmp_ge (tgt := 61) C d_XP_pageToLeave_54 rfl (fun h54 => ?_) (fun h54 => ?_)
        · refine x_iload_n C d_XP_pageToLeave_61 rfl rfl ?_
          exact x_iret rt d_XP_pageToLeave_62 (by omega) (by omega) ⟨by simp only [f_leave]; first | (rw [if_pos (by omega)]; done) | (rw [if_neg (by omega)]; done), rfl, rfl⟩
        · refine x_iconst C d_XP_pageToLeave_57 (by decide) ?_
          refine x_goto (tgt := 62) C d_XP_pageToLeave_58 rfl ?_
          exact x_iret rt d_XP_pageToLeave_62 (by omega) (by omega) ⟨by simp only [f_leave]; first | (rw [if_pos (by omega)]; done) | (rw [if_neg (by omega)]; done), rfl, rfl⟩
      · exact absurd h9 (by decide)
    | succ q ih =>
      intro i hi
      have hs := f_scan_spec σ i
      have ih2 := ih (i + 1) (by omega)
      rw [show f_scan σ (i + 1) = if σ 37 (i : Int) = 0 then f_scan σ i else ((f_scan σ i).1 + 1, if (f_scan σ i).2 = -1 ∨ σ 39 (i : Int) < σ 39 (f_scan σ i).2 then (i : Int) else (f_scan σ i).2) from rfl] at ih2
      generalize hc : (f_scan σ i).1 = c1 at *
      generalize ho : (f_scan σ i).2 = o at *
      by_cases hz : σ 37 (i : Int) = 0
      · rw [if_pos hz, hc, ho] at ih2
        refine x_iload_n C d_XP_pageToLeave_6 rfl rfl ?_
        refine x_bipush C d_XP_pageToLeave_7 (by decide) (by decide) ?_
        refine x_icmp_ge (tgt := 52) C d_XP_pageToLeave_9 rfl (fun h9 => ?_) (fun h9 => ?_)
        · exact absurd h9 (by omega)
        · refine x_aload_n C d_XP_pageToLeave_12 rfl rfl ?_
          refine x_getC C 3 37 cf_XP fl_XP_20 d_XP_pageToLeave_13 rfl rfl rfl (by omega) (by omega) rfl ?_
          refine x_iload_n C d_XP_pageToLeave_16 rfl rfl ?_
          refine x_zald C d_XP_pageToLeave_17 (by first | rfl | exact lx_A (by omega) (by omega) (by omega) | exact lx_H (by omega) (by omega) | exact lx_K (by omega) (by omega)) (by omega) (by omega) (by omega) (by omega) (fun r17 => ?_)
          refine x_if_eq (tgt := 46) C d_XP_pageToLeave_18 rfl (fun h18 => ?_) (fun h18 => ?_)
          · refine x_iinc C d_XP_pageToLeave_46 (by decide) rfl ⟨by omega, by omega⟩ ?_
            refine x_goto (tgt := 6) C d_XP_pageToLeave_49 rfl ?_
            exact ih2
          · exact absurd hz h18
      · rw [if_neg hz] at ih2
        have J46 : ∀ v : Int, v = (if o = -1 ∨ σ 39 (i : Int) < σ 39 o then (i : Int) else o) → XW LyX TX K n σ 0 0 46 [some (.inr 34), some (.inl (c1 + 1)), some (.inl v), some (.inl (i : Int))] [] := by
          intro v hv
          subst hv
          refine x_iinc C d_XP_pageToLeave_46 (by decide) rfl ⟨by omega, by omega⟩ ?_
          refine x_goto (tgt := 6) C d_XP_pageToLeave_49 rfl ?_
          exact ih2
        refine x_iload_n C d_XP_pageToLeave_6 rfl rfl ?_
        refine x_bipush C d_XP_pageToLeave_7 (by decide) (by decide) ?_
        refine x_icmp_ge (tgt := 52) C d_XP_pageToLeave_9 rfl (fun h9 => ?_) (fun h9 => ?_)
        · exact absurd h9 (by omega)
        · refine x_aload_n C d_XP_pageToLeave_12 rfl rfl ?_
          refine x_getC C 3 37 cf_XP fl_XP_20 d_XP_pageToLeave_13 rfl rfl rfl (by omega) (by omega) rfl ?_
          refine x_iload_n C d_XP_pageToLeave_16 rfl rfl ?_
          refine x_zald C d_XP_pageToLeave_17 (by first | rfl | exact lx_A (by omega) (by omega) (by omega) | exact lx_H (by omega) (by omega) | exact lx_K (by omega) (by omega)) (by omega) (by omega) (by omega) (by omega) (fun r17 => ?_)
          refine x_if_eq (tgt := 46) C d_XP_pageToLeave_18 rfl (fun h18 => ?_) (fun h18 => ?_)
          · exact absurd h18 hz
          · refine x_iinc C d_XP_pageToLeave_21 (by decide) rfl ⟨by omega, by omega⟩ ?_
            refine x_iload_n C d_XP_pageToLeave_24 rfl rfl ?_
            refine x_iconst C d_XP_pageToLeave_25 (by decide) ?_
            refine x_icmp_eq (tgt := 44) C d_XP_pageToLeave_26 rfl (fun h26 => ?_) (fun h26 => ?_)
            · refine x_iload_n C d_XP_pageToLeave_44 rfl rfl ?_
              refine x_istore_n C d_XP_pageToLeave_45 rfl (by decide) ?_
              exact J46 _ (by first | (rw [if_pos (by omega)]; done) | (rw [if_neg (by omega)]; done))
            · refine x_aload_n C d_XP_pageToLeave_29 rfl rfl ?_
              refine x_getC C 5 39 cf_XP fl_XP_28 d_XP_pageToLeave_30 rfl rfl rfl (by omega) (by omega) rfl ?_
              refine x_iload_n C d_XP_pageToLeave_33 rfl rfl ?_
              refine x_iald C d_XP_pageToLeave_34 (by first | rfl | exact lx_A (by omega) (by omega) (by omega) | exact lx_H (by omega) (by omega) | exact lx_K (by omega) (by omega)) (by omega) (by omega) (by omega) (by omega) (fun r34 => ?_)
              refine x_aload_n C d_XP_pageToLeave_35 rfl rfl ?_
              refine x_getC C 5 39 cf_XP fl_XP_28 d_XP_pageToLeave_36 rfl rfl rfl (by omega) (by omega) rfl ?_
              refine x_iload_n C d_XP_pageToLeave_39 rfl rfl ?_
              refine x_iald C d_XP_pageToLeave_40 (by first | rfl | exact lx_A (by omega) (by omega) (by omega) | exact lx_H (by omega) (by omega) | exact lx_K (by omega) (by omega)) (by omega) (by omega) (by omega) (by omega) (fun r40 => ?_)
              refine x_icmp_ge (tgt := 46) C d_XP_pageToLeave_41 rfl (fun h41 => ?_) (fun h41 => ?_)
              · exact J46 _ (by first | (rw [if_pos (by omega)]; done) | (rw [if_neg (by omega)]; done))
              · refine x_iload_n C d_XP_pageToLeave_44 rfl rfl ?_
                refine x_istore_n C d_XP_pageToLeave_45 rfl (by decide) ?_
                exact J46 _ (by first | (rw [if_pos (by omega)]; done) | (rw [if_neg (by omega)]; done))
  refine x_iconst C d_XP_pageToLeave_0 (by decide) ?_
  refine x_istore_n C d_XP_pageToLeave_1 rfl (by decide) ?_
  refine x_iconst C d_XP_pageToLeave_2 (by decide) ?_
  refine x_istore_n C d_XP_pageToLeave_3 rfl (by decide) ?_
  refine x_iconst C d_XP_pageToLeave_4 (by decide) ?_
  refine x_istore_n C d_XP_pageToLeave_5 rfl (by decide) ?_
  exact loop 6 0 (by omega)
theorem c_XP_fetch {n : Nat} {σ : Hp} {p : Int} (hn : 85 ≤ n) (p0 : 0 ≤ p) (p1 : p < 6) (hB : xB σ) : Ok LyX TX y_XP_fetch b_XP_fetch 3 none 3 0 0 [.inr 34, .inl p] n σ (pV n (f_fetch σ p)) := by
  refine ok_mk (by decide) (Nat.le_of_ble_eq_true rfl) (fun K C rt ha hok hfx => ?_)
  show XW LyX TX K n σ 0 0 0 [some (.inr 34), some (.inl p), none] []
  have hB0 := hB
  obtain ⟨b1, b2, b3, b4, b5, b6⟩ := hB0
  have hlb := f_leave_b σ
  have J71 : ∀ (τ : Hp) (w : Option AV), τ = (if σ 37 p = 0 then f_load σ p else σ) → XW LyX TX K n τ 0 0 71 [some (.inr 34), some (.inl p), w] [] := by
    intro τ w hτ
    have e6 : τ 34 6 = σ 34 6 := by
      rw [hτ]; split
      · simp only [f_load]
        rw [st2_ii (by decide), st2_ne (by decide), f_copy_fr _ _ _ (by omega) (by omega) (by omega), f_evict_34 _ (by decide)]
      · rfl
    refine x_aload_n C d_XP_fetch_71 rfl rfl ?_
    refine x_dup C d_XP_fetch_72 ?_
    refine x_getI C 6 cf_XP fl_XP_67 d_XP_fetch_73 rfl (by decide) rfl rfl (by omega) (by omega) (fun r73 => ?_)
    refine x_iconst C d_XP_fetch_76 (by decide) ?_
    refine x_iadd C d_XP_fetch_77 ⟨by omega, by omega⟩ ?_
    refine x_putI C 6 rfl cf_XP fl_XP_67 d_XP_fetch_78 rfl (Or.inl ⟨rfl, rfl⟩) rfl rfl rfl (by omega) (by omega) ?_
    refine x_aload_n C d_XP_fetch_81 rfl rfl ?_
    refine x_getC C 5 39 cf_XP fl_XP_28 d_XP_fetch_82 rfl rfl rfl (by omega) (by omega) rfl ?_
    refine x_iload_n C d_XP_fetch_85 rfl rfl ?_
    refine x_aload_n C d_XP_fetch_86 rfl rfl ?_
    refine x_getI C 6 cf_XP fl_XP_67 d_XP_fetch_87 rfl (by decide) rfl rfl (by omega) (by omega) (fun r87 => ?_)
    refine x_iast C d_XP_fetch_90 (by first | rfl | exact lx_A (by omega) (by omega) (by omega) | exact lx_H (by omega) (by omega) | exact lx_K (by omega) (by omega)) (by first | rfl | exact tx_T (by omega) | exact tx_A (by omega) (by omega) (by omega) | exact tx_HR (by omega) (by omega) | exact tx_KR (by omega) (by omega) | exact tx_L (by omega) (by omega)) (by omega) (by omega) (by omega) (by omega) ?_
    exact x_vret rt d_XP_fetch_91 (by omega) (by omega) ⟨rfl, rfl, by rw [f_fetch, ← hτ]⟩
  have J39 : ∀ (τ : Hp) (w : Option AV), σ 37 p = 0 → τ = f_evict σ → XW LyX TX K n τ 0 0 39 [some (.inr 34), some (.inl p), w] [] := by
    intro τ w hz hτ
    have e7 : st2 (f_copy τ (43 + 6 * p) (40 + 6 * p)) 37 p 1 34 7 = σ 34 7 := by
      rw [st2_ne (by decide), f_copy_fr _ _ _ (by omega) (by omega) (by omega), hτ, f_evict_34 _ (by decide)]
    refine x_aload_n C d_XP_fetch_39 rfl rfl ?_
    refine x_getC C 2 36 cf_XP fl_XP_17 d_XP_fetch_40 rfl rfl rfl (by omega) (by omega) rfl ?_
    refine x_iload_n C d_XP_fetch_43 rfl rfl ?_
    refine x_aaldC C _ d_XP_fetch_44 rfl (by decide) (by omega) (by omega) (by omega) (by omega) (tx_F (by omega) (by omega)) ?_
    refine x_aload_n C d_XP_fetch_45 rfl rfl ?_
    refine x_getC C 1 35 cf_XP fl_XP_11 d_XP_fetch_46 rfl rfl rfl (by omega) (by omega) rfl ?_
    refine x_iload_n C d_XP_fetch_49 rfl rfl ?_
    refine x_aaldC C _ d_XP_fetch_50 rfl (by decide) (by omega) (by omega) (by omega) (by omega) (tx_D (by omega) (by omega)) ?_
    refine x_callV C cl_XP_46 cb_XC_copy cs_XC_copy d_XP_fetch_51 (c_XC_copy hn (by omega) (by omega) (by omega) (by omega) (by omega) (by omega) (by omega)) rfl rfl rfl rfl (by first | rfl | exact lx_T (by omega) | exact lx_C (by omega) (by omega) (by omega)) (by omega) (by omega) (by decide) (by decide) (Nat.le_of_ble_eq_true rfl) (by omega) (by omega) ?_
    rintro _ _ _ ⟨rfl, rfl, rfl⟩ -
    skip
    refine x_aload_n C d_XP_fetch_54 rfl rfl ?_
    refine x_getC C 3 37 cf_XP fl_XP_20 d_XP_fetch_55 rfl rfl rfl (by omega) (by omega) rfl ?_
    refine x_iload_n C d_XP_fetch_58 rfl rfl ?_
    refine x_iconst C d_XP_fetch_59 (by decide) ?_
    refine x_zast C d_XP_fetch_60 (by first | rfl | exact lx_A (by omega) (by omega) (by omega) | exact lx_H (by omega) (by omega) | exact lx_K (by omega) (by omega)) (by first | rfl | exact tx_T (by omega) | exact tx_A (by omega) (by omega) (by omega) | exact tx_HR (by omega) (by omega) | exact tx_KR (by omega) (by omega) | exact tx_L (by omega) (by omega)) (by omega) (by omega) (by omega) (by omega) (by omega) (by omega) ?_
    refine x_aload_n C d_XP_fetch_61 rfl rfl ?_
    refine x_dup C d_XP_fetch_62 ?_
    refine x_getI C 7 cf_XP fl_XP_64 d_XP_fetch_63 rfl (by decide) rfl rfl (by omega) (by omega) (fun r63 => ?_)
    refine x_iconst C d_XP_fetch_66 (by decide) ?_
    refine x_iadd C d_XP_fetch_67 ⟨by rw [e7]; omega, by rw [e7]; omega⟩ ?_
    refine x_putI C 7 rfl cf_XP fl_XP_64 d_XP_fetch_68 rfl (Or.inl ⟨rfl, rfl⟩) rfl rfl rfl (by omega) (by omega) ?_
    exact J71 _ _ (by rw [if_pos hz, hτ]; rfl)
  have J32 : ∀ τ : Hp, σ 37 p = 0 → ¬ f_leave σ = -1 → τ = (if σ 38 (f_leave σ) = 0 then σ else f_writeOut σ (f_leave σ)) → XW LyX TX K n τ 0 0 32 [some (.inr 34), some (.inl p), some (.inl (f_leave σ))] [] := by
    intro τ hz hl hτ
    refine x_aload_n C d_XP_fetch_32 rfl rfl ?_
    refine x_getC C 3 37 cf_XP fl_XP_20 d_XP_fetch_33 rfl rfl rfl (by omega) (by omega) rfl ?_
    refine x_iload_n C d_XP_fetch_36 rfl rfl ?_
    refine x_iconst C d_XP_fetch_37 (by decide) ?_
    refine x_zast C d_XP_fetch_38 (by first | rfl | exact lx_A (by omega) (by omega) (by omega) | exact lx_H (by omega) (by omega) | exact lx_K (by omega) (by omega)) (by first | rfl | exact tx_T (by omega) | exact tx_A (by omega) (by omega) (by omega) | exact tx_HR (by omega) (by omega) | exact tx_KR (by omega) (by omega) | exact tx_L (by omega) (by omega)) (by omega) (by omega) (by omega) (by omega) (by omega) (by omega) ?_
    exact J39 _ _ hz (by rw [f_evict, if_neg hl, hτ])
  refine x_aload_n C d_XP_fetch_0 rfl rfl ?_
  refine x_getC C 3 37 cf_XP fl_XP_20 d_XP_fetch_1 rfl rfl rfl (by omega) (by omega) rfl ?_
  refine x_iload_n C d_XP_fetch_4 rfl rfl ?_
  refine x_zald C d_XP_fetch_5 (by first | rfl | exact lx_A (by omega) (by omega) (by omega) | exact lx_H (by omega) (by omega) | exact lx_K (by omega) (by omega)) (by omega) (by omega) (by omega) (by omega) (fun r5 => ?_)
  refine x_if_ne (tgt := 71) C d_XP_fetch_6 rfl (fun h6 => ?_) (fun h6 => ?_)
  · exact J71 _ _ (by rw [if_neg h6])
  · refine x_aload_n C d_XP_fetch_9 rfl rfl ?_
    refine x_callV C cl_XP_53 cb_XP_pageToLeave cs_XP_pageToLeave d_XP_fetch_10 (c_XP_pageToLeave hn) rfl rfl rfl rfl (by first | rfl | exact lx_T (by omega) | exact lx_C (by omega) (by omega) (by omega)) (by omega) (by omega) (by decide) (by decide) (Nat.le_of_ble_eq_true rfl) (by omega) (by omega) ?_
    rintro _ _ _ ⟨rfl, rfl, rfl⟩ -
    skip
    refine x_istore_n C d_XP_fetch_13 rfl (by decide) ?_
    refine x_iload_n C d_XP_fetch_14 rfl rfl ?_
    refine x_iconst C d_XP_fetch_15 (by decide) ?_
    refine x_icmp_eq (tgt := 39) C d_XP_fetch_16 rfl (fun h16 => ?_) (fun h16 => ?_)
    · exact J39 _ _ h6 (by rw [f_evict, if_pos h16])
    · refine x_aload_n C d_XP_fetch_19 rfl rfl ?_
      refine x_iload_n C d_XP_fetch_20 rfl rfl ?_
      refine x_callV C cl_XP_57 cb_XP_isDirty cs_XP_isDirty d_XP_fetch_21 (c_XP_isDirty hn (by omega) (by omega)) rfl rfl rfl rfl (by first | rfl | exact lx_T (by omega) | exact lx_C (by omega) (by omega) (by omega)) (by omega) (by omega) (by decide) (by decide) (Nat.le_of_ble_eq_true rfl) (by omega) (by omega) ?_
      rintro _ _ _ ⟨rfl, rfl, rfl⟩ -
      skip
      refine x_if_eq (tgt := 32) C d_XP_fetch_24 rfl (fun h24 => ?_) (fun h24 => ?_)
      · exact J32 _ h6 h16 (by by_cases hz : σ 38 (f_leave σ) = 0 <;> simp [hz] at h24 ⊢)
      · refine x_aload_n C d_XP_fetch_27 rfl rfl ?_
        refine x_iload_n C d_XP_fetch_28 rfl rfl ?_
        refine x_callV C cl_XP_61 cb_XP_writeOut cs_XP_writeOut d_XP_fetch_29 (c_XP_writeOut hn (by omega) (by omega) hB) rfl rfl rfl rfl (by first | rfl | exact lx_T (by omega) | exact lx_C (by omega) (by omega) (by omega)) (by omega) (by omega) (by decide) (by decide) (Nat.le_of_ble_eq_true rfl) (by omega) (by omega) ?_
        rintro _ _ _ ⟨rfl, rfl, rfl⟩ -
        skip
        exact J32 _ h6 h16 (by by_cases hz : σ 38 (f_leave σ) = 0 <;> simp [hz] at h24 ⊢)
theorem c_XP_empty {n : Nat} {σ : Hp} (hn : 85 ≤ n) : Ok LyX TX y_XP_empty b_XP_empty 2 none 1 0 0 [.inr 34] n σ (pV n (f_empty σ 6)) := by
  refine ok_mk (by decide) (Nat.le_of_ble_eq_true rfl) (fun K C rt ha hok hfx => ?_)
  show XW LyX TX K n σ 0 0 0 [some (.inr 34), none] []
  have loop : ∀ (k : Nat) (x : Int), 0 ≤ x → x + k = 6 → XW LyX TX K n (f_empty σ x) 0 0 2 [some (.inr 34), some (.inl x)] [] := by
    intro k
    induction k with
    | zero =>
      intro x hx hk
      obtain rfl : x = 6 := by omega
      refine x_iload_n C d_XP_empty_2 rfl rfl ?_
      refine x_bipush C d_XP_empty_3 (by decide) (by decide) ?_
      refine x_icmp_ge (tgt := 28) C d_XP_empty_5 rfl (fun h5 => ?_) (fun h5 => ?_)
      · exact x_vret rt d_XP_empty_28 (by omega) (by omega) ⟨rfl, rfl, rfl⟩
      · exact absurd h5 (by omega)
    | succ k ih =>
      intro x hx hk
      refine x_iload_n C d_XP_empty_2 rfl rfl ?_
      refine x_bipush C d_XP_empty_3 (by decide) (by decide) ?_
      refine x_icmp_ge (tgt := 28) C d_XP_empty_5 rfl (fun h5 => ?_) (fun h5 => ?_)
      · exact absurd h5 (by omega)
      · refine x_aload_n C d_XP_empty_8 rfl rfl ?_
        refine x_getC C 3 37 cf_XP fl_XP_20 d_XP_empty_9 rfl rfl rfl (by omega) (by omega) rfl ?_
        refine x_iload_n C d_XP_empty_12 rfl rfl ?_
        refine x_iconst C d_XP_empty_13 (by decide) ?_
        refine x_zast C d_XP_empty_14 (by first | rfl | exact lx_A (by omega) (by omega) (by omega) | exact lx_H (by omega) (by omega) | exact lx_K (by omega) (by omega)) (by first | rfl | exact tx_T (by omega) | exact tx_A (by omega) (by omega) (by omega) | exact tx_HR (by omega) (by omega) | exact tx_KR (by omega) (by omega) | exact tx_L (by omega) (by omega)) (by omega) (by omega) (by omega) (by omega) (by omega) (by omega) ?_
        refine x_aload_n C d_XP_empty_15 rfl rfl ?_
        refine x_getC C 4 38 cf_XP fl_XP_24 d_XP_empty_16 rfl rfl rfl (by omega) (by omega) rfl ?_
        refine x_iload_n C d_XP_empty_19 rfl rfl ?_
        refine x_iconst C d_XP_empty_20 (by decide) ?_
        refine x_iast C d_XP_empty_21 (by first | rfl | exact lx_A (by omega) (by omega) (by omega) | exact lx_H (by omega) (by omega) | exact lx_K (by omega) (by omega)) (by first | rfl | exact tx_T (by omega) | exact tx_A (by omega) (by omega) (by omega) | exact tx_HR (by omega) (by omega) | exact tx_KR (by omega) (by omega) | exact tx_L (by omega) (by omega)) (by omega) (by omega) (by omega) (by omega) ?_
        refine x_iinc C d_XP_empty_22 (by decide) rfl ⟨by omega, by omega⟩ ?_
        refine x_goto (tgt := 2) C d_XP_empty_25 rfl ?_
        rw [f_empty_step hx]
        exact ih (x + 1) (by omega) (by omega)
  have hl := loop 6 0 (by omega) (by omega)
  rw [f_empty_0] at hl
  refine x_iconst C d_XP_empty_0 (by decide) ?_
  refine x_istore_n C d_XP_empty_1 rfl (by decide) ?_
  exact hl
theorem c_XP_seen {n : Nat} {σ : Hp} {p : Int} (hn : 85 ≤ n) (p0 : 0 ≤ p) (p1 : p < 6) : Ok LyX TX y_XP_seen b_XP_seen 2 (some (.object "LogStore$Contents")) 1 0 0 [.inr 34, .inl p] n σ (fun r n' σ' => r = some (.inr (f_seen σ p)) ∧ n' = n ∧ σ = σ') := by
  refine ok_mk (by decide) (Nat.le_of_ble_eq_true rfl) (fun K C rt ha hok hfx => ?_)
  show XW LyX TX K n σ 0 0 0 [some (.inr 34), some (.inl p)] []
  refine x_aload_n C d_XP_seen_0 rfl rfl ?_
  refine x_getC C 3 37 cf_XP fl_XP_20 d_XP_seen_1 rfl rfl rfl (by omega) (by omega) rfl ?_
  refine x_iload_n C d_XP_seen_4 rfl rfl ?_
  refine x_zald C d_XP_seen_5 (by first | rfl | exact lx_A (by omega) (by omega) (by omega) | exact lx_H (by omega) (by omega) | exact lx_K (by omega) (by omega)) (by omega) (by omega) (by omega) (by omega) (fun r5 => ?_)
  refine x_if_eq (tgt := 18) C d_XP_seen_6 rfl (fun h6 => ?_) (fun h6 => ?_)
  · refine x_aload_n C d_XP_seen_18 rfl rfl ?_
    refine x_getC C 1 35 cf_XP fl_XP_11 d_XP_seen_19 rfl rfl rfl (by omega) (by omega) rfl ?_
    refine x_iload_n C d_XP_seen_22 rfl rfl ?_
    refine x_aaldC C _ d_XP_seen_23 rfl (by decide) (by omega) (by omega) (by omega) (by omega) (tx_D (by omega) (by omega)) ?_
    exact x_aret rt d_XP_seen_24 (by omega) (by omega) ⟨by simp only [f_seen]; first | (rw [if_pos h6]; done) | (rw [if_neg h6]; done), rfl, rfl⟩
  · refine x_aload_n C d_XP_seen_9 rfl rfl ?_
    refine x_getC C 2 36 cf_XP fl_XP_17 d_XP_seen_10 rfl rfl rfl (by omega) (by omega) rfl ?_
    refine x_iload_n C d_XP_seen_13 rfl rfl ?_
    refine x_aaldC C _ d_XP_seen_14 rfl (by decide) (by omega) (by omega) (by omega) (by omega) (tx_F (by omega) (by omega)) ?_
    refine x_goto (tgt := 24) C d_XP_seen_15 rfl ?_
    exact x_aret rt d_XP_seen_24 (by omega) (by omega) ⟨by simp only [f_seen]; first | (rw [if_pos h6]; done) | (rw [if_neg h6]; done), rfl, rfl⟩
theorem c_XP_keyAt {n : Nat} {σ : Hp} {x : Int} (hn : 85 ≤ n) (x0 : 0 ≤ x) (x1 : x < 24) : Ok LyX TX y_XP_keyAt b_XP_keyAt 2 (some .int) 2 0 0 [.inr 34, .inl x] n σ (pI n σ (f_keyAt σ x)) := by
  refine ok_mk (by decide) (Nat.le_of_ble_eq_true rfl) (fun K C rt ha hok hfx => ?_)
  show XW LyX TX K n σ 0 0 0 [some (.inr 34), some (.inl x)] []
  have hb := f_seen_b σ (p := x / 4) (by omega) (by omega)
  refine x_aload_n C d_XP_keyAt_0 rfl rfl ?_
  refine x_iload_n C d_XP_keyAt_1 rfl rfl ?_
  refine x_iconst C d_XP_keyAt_2 (by decide) ?_
  refine x_idiv C d_XP_keyAt_3 (by omega) (by decide) ?_
  refine x_callV C cl_XP_70 cb_XP_seen cs_XP_seen d_XP_keyAt_4 (c_XP_seen hn (by omega) (by omega)) rfl rfl rfl rfl (by first | rfl | exact lx_T (by omega) | exact lx_C (by omega) (by omega) (by omega)) (by omega) (by omega) (by decide) (by decide) (Nat.le_of_ble_eq_true rfl) (by omega) (by omega) ?_
  rintro _ _ _ ⟨rfl, rfl, rfl⟩ -
  skip
  refine x_getC C 0 _ cf_XC fl_XP_74 d_XP_keyAt_7 rfl rfl (by first | rfl | exact lx_T (by omega) | exact lx_C (by omega) (by omega) (by omega)) (by omega) (by omega) (tx_C0 (by omega) (by omega) (by omega)) ?_
  refine x_iload_n C d_XP_keyAt_10 rfl rfl ?_
  refine x_iconst C d_XP_keyAt_11 (by decide) ?_
  refine x_irem C d_XP_keyAt_12 (by omega) (by decide) ?_
  refine x_iald C d_XP_keyAt_13 (by first | rfl | exact lx_A (by omega) (by omega) (by omega) | exact lx_H (by omega) (by omega) | exact lx_K (by omega) (by omega)) (by omega) (by omega) (by omega) (by omega) (fun r13 => ?_)
  exact x_iret rt d_XP_keyAt_14 (by omega) (by omega) ⟨rfl, rfl, rfl⟩
theorem c_XP_valueAt {n : Nat} {σ : Hp} {x : Int} (hn : 85 ≤ n) (x0 : 0 ≤ x) (x1 : x < 24) : Ok LyX TX y_XP_valueAt b_XP_valueAt 2 (some .int) 2 0 0 [.inr 34, .inl x] n σ (pI n σ (f_valueAt σ x)) := by
  refine ok_mk (by decide) (Nat.le_of_ble_eq_true rfl) (fun K C rt ha hok hfx => ?_)
  show XW LyX TX K n σ 0 0 0 [some (.inr 34), some (.inl x)] []
  have hb := f_seen_b σ (p := x / 4) (by omega) (by omega)
  refine x_aload_n C d_XP_valueAt_0 rfl rfl ?_
  refine x_iload_n C d_XP_valueAt_1 rfl rfl ?_
  refine x_iconst C d_XP_valueAt_2 (by decide) ?_
  refine x_idiv C d_XP_valueAt_3 (by omega) (by decide) ?_
  refine x_callV C cl_XP_70 cb_XP_seen cs_XP_seen d_XP_valueAt_4 (c_XP_seen hn (by omega) (by omega)) rfl rfl rfl rfl (by first | rfl | exact lx_T (by omega) | exact lx_C (by omega) (by omega) (by omega)) (by omega) (by omega) (by decide) (by decide) (Nat.le_of_ble_eq_true rfl) (by omega) (by omega) ?_
  rintro _ _ _ ⟨rfl, rfl, rfl⟩ -
  skip
  refine x_getC C 1 _ cf_XC fl_XP_77 d_XP_valueAt_7 rfl rfl (by first | rfl | exact lx_T (by omega) | exact lx_C (by omega) (by omega) (by omega)) (by omega) (by omega) (tx_C1 (by omega) (by omega) (by omega)) ?_
  refine x_iload_n C d_XP_valueAt_10 rfl rfl ?_
  refine x_iconst C d_XP_valueAt_11 (by decide) ?_
  refine x_irem C d_XP_valueAt_12 (by omega) (by decide) ?_
  refine x_iald C d_XP_valueAt_13 (by first | rfl | exact lx_A (by omega) (by omega) (by omega) | exact lx_H (by omega) (by omega) | exact lx_K (by omega) (by omega)) (by omega) (by omega) (by omega) (by omega) (fun r13 => ?_)
  exact x_iret rt d_XP_valueAt_14 (by omega) (by omega) ⟨rfl, rfl, rfl⟩
theorem c_XP_placeOf {n : Nat} {σ : Hp} {key : Int} (hn : 85 ≤ n) : Ok LyX TX y_XP_placeOf b_XP_placeOf 3 (some .int) 3 0 0 [.inr 34, .inl key] n σ (pI n σ (f_placeOf σ key)) := by
  refine ok_mk (by decide) (Nat.le_of_ble_eq_true rfl) (fun K C rt ha hok hfx => ?_)
  show XW LyX TX K n σ 0 0 0 [some (.inr 34), some (.inl key), none] []
  have loop : ∀ (k : Nat) (x : Int), 0 ≤ x → x + k = 24 → srch (fun x => decide (f_keyAt σ x = key)) x k = f_placeOf σ key → XW LyX TX K n σ 0 0 2 [some (.inr 34), some (.inl key), some (.inl x)] [] := by
    intro k
    induction k with
    | zero =>
      intro x h0 h1 h2
      refine x_iload_n C d_XP_placeOf_2 rfl rfl ?_
      refine x_bipush C d_XP_placeOf_3 (by decide) (by decide) ?_
      refine x_icmp_ge (tgt := 25) C d_XP_placeOf_5 rfl (fun h5 => ?_) (fun h5 => ?_)
      · refine x_iconst C d_XP_placeOf_25 (by decide) ?_
        exact x_iret rt d_XP_placeOf_26 (by omega) (by omega) ⟨by rw [← h2]; rfl, rfl, rfl⟩
      · exact absurd h5 (by omega)
    | succ k ih =>
      intro x h0 h1 h2
      have hs : srch (fun x => decide (f_keyAt σ x = key)) x (k + 1) = if f_keyAt σ x = key then x else srch (fun x => decide (f_keyAt σ x = key)) (x + 1) k := by
        simp [srch]
      rw [hs] at h2
      refine x_iload_n C d_XP_placeOf_2 rfl rfl ?_
      refine x_bipush C d_XP_placeOf_3 (by decide) (by decide) ?_
      refine x_icmp_ge (tgt := 25) C d_XP_placeOf_5 rfl (fun h5 => ?_) (fun h5 => ?_)
      · exact absurd h5 (by omega)
      · refine x_aload_n C d_XP_placeOf_8 rfl rfl ?_
        refine x_iload_n C d_XP_placeOf_9 rfl rfl ?_
        refine x_callV C cl_XP_80 cb_XP_keyAt cs_XP_keyAt d_XP_placeOf_10 (c_XP_keyAt hn h0 (by omega)) rfl rfl rfl rfl (by first | rfl | exact lx_T (by omega) | exact lx_C (by omega) (by omega) (by omega)) (by omega) (by omega) (by decide) (by decide) (Nat.le_of_ble_eq_true rfl) (by omega) (by omega) ?_
        rintro _ _ _ ⟨rfl, rfl, rfl⟩ -
        skip
        refine x_iload_n C d_XP_placeOf_13 rfl rfl ?_
        refine x_icmp_ne (tgt := 19) C d_XP_placeOf_14 rfl (fun h14 => ?_) (fun h14 => ?_)
        · refine x_iinc C d_XP_placeOf_19 (by decide) rfl ⟨by omega, by omega⟩ ?_
          refine x_goto (tgt := 2) C d_XP_placeOf_22 rfl ?_
          exact ih (x + 1) (by omega) (by omega) (by rw [← h2, if_neg h14])
        · refine x_iload_n C d_XP_placeOf_17 rfl rfl ?_
          exact x_iret rt d_XP_placeOf_18 (by omega) (by omega) ⟨by rw [← h2, if_pos h14], rfl, rfl⟩
  refine x_iconst C d_XP_placeOf_0 (by decide) ?_
  refine x_istore_n C d_XP_placeOf_1 rfl (by decide) ?_
  exact loop 24 0 (by omega) (by omega) rfl
theorem c_XP_leastKeyAbove {n : Nat} {σ : Hp} {b : Int} (hn : 85 ≤ n) : Ok LyX TX y_XP_leastKeyAbove b_XP_leastKeyAbove 5 (some .int) 3 0 0 [.inr 34, .inl b] n σ (pI n σ (f_lka σ b 24)) := by
  refine ok_mk (by decide) (Nat.le_of_ble_eq_true rfl) (fun K C rt ha hok hfx => ?_)
  show XW LyX TX K n σ 0 0 0 [some (.inr 34), some (.inl b), none, none, none] []
  have loop : ∀ (q i : Nat) (w : Option AV), i + q = 24 → XW LyX TX K n σ 0 0 4 [some (.inr 34), some (.inl b), some (.inl (f_lka σ b i)), some (.inl (i : Int)), w] [] := by
    intro q
    induction q with
    | zero =>
      intro i w hi
      obtain rfl : i = 24 := by omega
      refine x_iload_n C d_XP_leastKeyAbove_4 rfl rfl ?_
      refine x_bipush C d_XP_leastKeyAbove_5 (by decide) (by decide) ?_
      refine x_icmp_ge (tgt := 49) C d_XP_leastKeyAbove_7 rfl (fun h7 => ?_) (fun h7 => ?_)
      · refine x_iload_n C d_XP_leastKeyAbove_49 rfl rfl ?_
        exact x_iret rt d_XP_leastKeyAbove_50 (by omega) (by omega) ⟨rfl, rfl, rfl⟩
      · exact absurd h7 (by decide)
    | succ q ih =>
      intro i w hi
      have ih2 := ih (i + 1) (some (.inl (f_keyAt σ (i : Int)))) (by omega)
      rw [show f_lka σ b (i + 1) = if ¬ f_keyAt σ (i : Int) = -1 ∧ b < f_keyAt σ (i : Int) ∧ (f_lka σ b i = -1 ∨ f_keyAt σ (i : Int) < f_lka σ b i) then f_keyAt σ (i : Int) else f_lka σ b i from rfl] at ih2
      generalize f_lka σ b i = l at *
      have J43 : ∀ v : Int, v = (if ¬ f_keyAt σ (i : Int) = -1 ∧ b < f_keyAt σ (i : Int) ∧ (l = -1 ∨ f_keyAt σ (i : Int) < l) then f_keyAt σ (i : Int) else l) → XW LyX TX K n σ 0 0 43 [some (.inr 34), some (.inl b), some (.inl v), some (.inl (i : Int)), some (.inl (f_keyAt σ (i : Int)))] [] := by
        intro v hv
        subst hv
        refine x_iinc C d_XP_leastKeyAbove_43 (by decide) rfl ⟨by omega, by omega⟩ ?_
        refine x_goto (tgt := 4) C d_XP_leastKeyAbove_46 rfl ?_
        exact ih2
      refine x_iload_n C d_XP_leastKeyAbove_4 rfl rfl ?_
      refine x_bipush C d_XP_leastKeyAbove_5 (by decide) (by decide) ?_
      refine x_icmp_ge (tgt := 49) C d_XP_leastKeyAbove_7 rfl (fun h7 => ?_) (fun h7 => ?_)
      · exact absurd h7 (by omega)
      · refine x_aload_n C d_XP_leastKeyAbove_10 rfl rfl ?_
        refine x_iload_n C d_XP_leastKeyAbove_11 rfl rfl ?_
        refine x_callV C cl_XP_80 cb_XP_keyAt cs_XP_keyAt d_XP_leastKeyAbove_12 (c_XP_keyAt hn (by omega) (by omega)) rfl rfl rfl rfl (by first | rfl | exact lx_T (by omega) | exact lx_C (by omega) (by omega) (by omega)) (by omega) (by omega) (by decide) (by decide) (Nat.le_of_ble_eq_true rfl) (by omega) (by omega) ?_
        rintro _ _ _ ⟨rfl, rfl, rfl⟩ -
        skip
        refine x_istore C d_XP_leastKeyAbove_15 (by decide) ?_
        refine x_iload C d_XP_leastKeyAbove_17 rfl ?_
        refine x_iconst C d_XP_leastKeyAbove_19 (by decide) ?_
        refine x_icmp_eq (tgt := 43) C d_XP_leastKeyAbove_20 rfl (fun h20 => ?_) (fun h20 => ?_)
        · exact J43 _ (by first | (rw [if_pos (by omega)]; done) | (rw [if_neg (by omega)]; done))
        · refine x_iload C d_XP_leastKeyAbove_23 rfl ?_
          refine x_iload_n C d_XP_leastKeyAbove_25 rfl rfl ?_
          refine x_icmp_le (tgt := 43) C d_XP_leastKeyAbove_26 rfl (fun h26 => ?_) (fun h26 => ?_)
          · exact J43 _ (by first | (rw [if_pos (by omega)]; done) | (rw [if_neg (by omega)]; done))
          · refine x_iload_n C d_XP_leastKeyAbove_29 rfl rfl ?_
            refine x_iconst C d_XP_leastKeyAbove_30 (by decide) ?_
            refine x_icmp_eq (tgt := 40) C d_XP_leastKeyAbove_31 rfl (fun h31 => ?_) (fun h31 => ?_)
            · refine x_iload C d_XP_leastKeyAbove_40 rfl ?_
              refine x_istore_n C d_XP_leastKeyAbove_42 rfl (by decide) ?_
              exact J43 _ (by first | (rw [if_pos (by omega)]; done) | (rw [if_neg (by omega)]; done))
            · refine x_iload C d_XP_leastKeyAbove_34 rfl ?_
              refine x_iload_n C d_XP_leastKeyAbove_36 rfl rfl ?_
              refine x_icmp_ge (tgt := 43) C d_XP_leastKeyAbove_37 rfl (fun h37 => ?_) (fun h37 => ?_)
              · exact J43 _ (by first | (rw [if_pos (by omega)]; done) | (rw [if_neg (by omega)]; done))
              · refine x_iload C d_XP_leastKeyAbove_40 rfl ?_
                refine x_istore_n C d_XP_leastKeyAbove_42 rfl (by decide) ?_
                exact J43 _ (by first | (rw [if_pos (by omega)]; done) | (rw [if_neg (by omega)]; done))
  refine x_iconst C d_XP_leastKeyAbove_0 (by decide) ?_
  refine x_istore_n C d_XP_leastKeyAbove_1 rfl (by decide) ?_
  refine x_iconst C d_XP_leastKeyAbove_2 (by decide) ?_
  refine x_istore_n C d_XP_leastKeyAbove_3 rfl (by decide) ?_
  exact loop 24 0 none (by omega)
theorem c_XP_apply {n : Nat} {σ : Hp} {r : Int} (hn : 85 ≤ n) (r0 : 0 ≤ r) (r1 : r ≤ 200) (x0 : 0 ≤ σ 5 r) (x1 : σ 5 r < 24) : Ok LyX TX y_XP_apply b_XP_apply 4 none 2 0 0 [.inr 34, .inl r] n σ (pV n (f_apply σ r)) := by
  refine ok_mk (by decide) (Nat.le_of_ble_eq_true rfl) (fun K C rt ha hok hfx => ?_)
  show XW LyX TX K n σ 0 0 0 [some (.inr 34), some (.inl r), none, none] []
  have hend : f_apply σ r = if st2 (st2 (st2 σ (43 + 6 * (σ 5 r / 4) + 1) (σ 5 r % 4) (σ 8 r)) (43 + 6 * (σ 5 r / 4) + 2) (σ 5 r % 4) (st2 σ (43 + 6 * (σ 5 r / 4) + 1) (σ 5 r % 4) (σ 8 r) 9 r)) (43 + 6 * (σ 5 r / 4)) 2 r 38 (σ 5 r / 4) = 0 then st2 (st2 (st2 (st2 σ (43 + 6 * (σ 5 r / 4) + 1) (σ 5 r % 4) (σ 8 r)) (43 + 6 * (σ 5 r / 4) + 2) (σ 5 r % 4) (st2 σ (43 + 6 * (σ 5 r / 4) + 1) (σ 5 r % 4) (σ 8 r) 9 r)) (43 + 6 * (σ 5 r / 4)) 2 r) 38 (σ 5 r / 4) r else st2 (st2 (st2 σ (43 + 6 * (σ 5 r / 4) + 1) (σ 5 r % 4) (σ 8 r)) (43 + 6 * (σ 5 r / 4) + 2) (σ 5 r % 4) (st2 σ (43 + 6 * (σ 5 r / 4) + 1) (σ 5 r % 4) (σ 8 r) 9 r)) (43 + 6 * (σ 5 r / 4)) 2 r := rfl
  refine x_aload_n C d_XP_apply_0 rfl rfl ?_
  refine x_getC C 0 2 cf_XP fl_XP_31 d_XP_apply_1 rfl rfl rfl (by omega) (by omega) rfl ?_
  refine x_getC C 2 5 cf_XL fl_XP_84 d_XP_apply_4 rfl rfl rfl (by omega) (by omega) rfl ?_
  refine x_iload_n C d_XP_apply_7 rfl rfl ?_
  refine x_iald C d_XP_apply_8 (by first | rfl | exact lx_A (by omega) (by omega) (by omega) | exact lx_H (by omega) (by omega) | exact lx_K (by omega) (by omega)) (by omega) (by omega) (by omega) (by omega) (fun r8 => ?_)
  refine x_iconst C d_XP_apply_9 (by decide) ?_
  refine x_idiv C d_XP_apply_10 (by omega) (by decide) ?_
  refine x_istore_n C d_XP_apply_11 rfl (by decide) ?_
  refine x_aload_n C d_XP_apply_12 rfl rfl ?_
  refine x_getC C 0 2 cf_XP fl_XP_31 d_XP_apply_13 rfl rfl rfl (by omega) (by omega) rfl ?_
  refine x_getC C 2 5 cf_XL fl_XP_84 d_XP_apply_16 rfl rfl rfl (by omega) (by omega) rfl ?_
  refine x_iload_n C d_XP_apply_19 rfl rfl ?_
  refine x_iald C d_XP_apply_20 (by first | rfl | exact lx_A (by omega) (by omega) (by omega) | exact lx_H (by omega) (by omega) | exact lx_K (by omega) (by omega)) (by omega) (by omega) (by omega) (by omega) (fun r20 => ?_)
  refine x_iconst C d_XP_apply_21 (by decide) ?_
  refine x_irem C d_XP_apply_22 (by omega) (by decide) ?_
  refine x_istore_n C d_XP_apply_23 rfl (by decide) ?_
  refine x_aload_n C d_XP_apply_24 rfl rfl ?_
  refine x_getC C 2 36 cf_XP fl_XP_17 d_XP_apply_25 rfl rfl rfl (by omega) (by omega) rfl ?_
  refine x_iload_n C d_XP_apply_28 rfl rfl ?_
  refine x_aaldC C _ d_XP_apply_29 rfl (by decide) (by omega) (by omega) (by omega) (by omega) (tx_F (by omega) (by omega)) ?_
  refine x_getC C 0 _ cf_XC fl_XP_74 d_XP_apply_30 rfl rfl (by first | rfl | exact lx_T (by omega) | exact lx_C (by omega) (by omega) (by omega)) (by omega) (by omega) (tx_C0 (by omega) (by omega) (by omega)) ?_
  refine x_iload_n C d_XP_apply_33 rfl rfl ?_
  refine x_aload_n C d_XP_apply_34 rfl rfl ?_
  refine x_getC C 0 2 cf_XP fl_XP_31 d_XP_apply_35 rfl rfl rfl (by omega) (by omega) rfl ?_
  refine x_getC C 5 8 cf_XL fl_XP_96 d_XP_apply_38 rfl rfl rfl (by omega) (by omega) rfl ?_
  refine x_iload_n C d_XP_apply_41 rfl rfl ?_
  refine x_iald C d_XP_apply_42 (by first | rfl | exact lx_A (by omega) (by omega) (by omega) | exact lx_H (by omega) (by omega) | exact lx_K (by omega) (by omega)) (by omega) (by omega) (by omega) (by omega) (fun r42 => ?_)
  refine x_iast C d_XP_apply_43 (by first | rfl | exact lx_A (by omega) (by omega) (by omega) | exact lx_H (by omega) (by omega) | exact lx_K (by omega) (by omega)) (by first | rfl | exact tx_T (by omega) | exact tx_A (by omega) (by omega) (by omega) | exact tx_HR (by omega) (by omega) | exact tx_KR (by omega) (by omega) | exact tx_L (by omega) (by omega)) (by omega) (by omega) (by omega) (by omega) ?_
  refine x_aload_n C d_XP_apply_44 rfl rfl ?_
  refine x_getC C 2 36 cf_XP fl_XP_17 d_XP_apply_45 rfl rfl rfl (by omega) (by omega) rfl ?_
  refine x_iload_n C d_XP_apply_48 rfl rfl ?_
  refine x_aaldC C _ d_XP_apply_49 rfl (by decide) (by omega) (by omega) (by omega) (by omega) (tx_F (by omega) (by omega)) ?_
  refine x_getC C 1 _ cf_XC fl_XP_77 d_XP_apply_50 rfl rfl (by first | rfl | exact lx_T (by omega) | exact lx_C (by omega) (by omega) (by omega)) (by omega) (by omega) (tx_C1 (by omega) (by omega) (by omega)) ?_
  refine x_iload_n C d_XP_apply_53 rfl rfl ?_
  refine x_aload_n C d_XP_apply_54 rfl rfl ?_
  refine x_getC C 0 2 cf_XP fl_XP_31 d_XP_apply_55 rfl rfl rfl (by omega) (by omega) rfl ?_
  refine x_getC C 6 9 cf_XL fl_XP_99 d_XP_apply_58 rfl rfl rfl (by omega) (by omega) rfl ?_
  refine x_iload_n C d_XP_apply_61 rfl rfl ?_
  refine x_iald C d_XP_apply_62 (by first | rfl | exact lx_A (by omega) (by omega) (by omega) | exact lx_H (by omega) (by omega) | exact lx_K (by omega) (by omega)) (by omega) (by omega) (by omega) (by omega) (fun r62 => ?_)
  refine x_iast C d_XP_apply_63 (by first | rfl | exact lx_A (by omega) (by omega) (by omega) | exact lx_H (by omega) (by omega) | exact lx_K (by omega) (by omega)) (by first | rfl | exact tx_T (by omega) | exact tx_A (by omega) (by omega) (by omega) | exact tx_HR (by omega) (by omega) | exact tx_KR (by omega) (by omega) | exact tx_L (by omega) (by omega)) (by omega) (by omega) (by omega) (by omega) ?_
  refine x_aload_n C d_XP_apply_64 rfl rfl ?_
  refine x_getC C 2 36 cf_XP fl_XP_17 d_XP_apply_65 rfl rfl rfl (by omega) (by omega) rfl ?_
  refine x_iload_n C d_XP_apply_68 rfl rfl ?_
  refine x_aaldC C _ d_XP_apply_69 rfl (by decide) (by omega) (by omega) (by omega) (by omega) (tx_F (by omega) (by omega)) ?_
  refine x_iload_n C d_XP_apply_70 rfl rfl ?_
  refine x_putI C 2 rfl cf_XC fl_XP_36 d_XP_apply_71 rfl (Or.inl ⟨rfl, rfl⟩) rfl (by first | rfl | exact tx_T (by omega) | exact tx_A (by omega) (by omega) (by omega) | exact tx_HR (by omega) (by omega) | exact tx_KR (by omega) (by omega) | exact tx_L (by omega) (by omega)) (by first | rfl | exact lx_T (by omega) | exact lx_C (by omega) (by omega) (by omega)) (by omega) (by omega) ?_
  refine x_aload_n C d_XP_apply_74 rfl rfl ?_
  refine x_iload_n C d_XP_apply_75 rfl rfl ?_
  refine x_callV C cl_XP_57 cb_XP_isDirty cs_XP_isDirty d_XP_apply_76 (c_XP_isDirty hn (by omega) (by omega)) rfl rfl rfl rfl (by first | rfl | exact lx_T (by omega) | exact lx_C (by omega) (by omega) (by omega)) (by omega) (by omega) (by decide) (by decide) (Nat.le_of_ble_eq_true rfl) (by omega) (by omega) ?_
  rintro _ _ _ ⟨rfl, rfl, rfl⟩ -
  skip
  refine x_if_ne (tgt := 89) C d_XP_apply_79 rfl (fun h79 => ?_) (fun h79 => ?_)
  · exact x_vret rt d_XP_apply_89 (by omega) (by omega) ⟨rfl, rfl, by rw [hend]; first | (rw [if_pos (by by_cases hz : st2 (st2 (st2 σ (43 + 6 * (σ 5 r / 4) + 1) (σ 5 r % 4) (σ 8 r)) (43 + 6 * (σ 5 r / 4) + 2) (σ 5 r % 4) (st2 σ (43 + 6 * (σ 5 r / 4) + 1) (σ 5 r % 4) (σ 8 r) 9 r)) (43 + 6 * (σ 5 r / 4)) 2 r 38 (σ 5 r / 4) = 0; exact hz; rw [if_neg hz] at h79; exact absurd h79 (by decide))]; done) | (rw [if_neg (fun hz => h79 (if_pos hz))]; done)⟩
  · refine x_aload_n C d_XP_apply_82 rfl rfl ?_
    refine x_getC C 4 38 cf_XP fl_XP_24 d_XP_apply_83 rfl rfl rfl (by omega) (by omega) rfl ?_
    refine x_iload_n C d_XP_apply_86 rfl rfl ?_
    refine x_iload_n C d_XP_apply_87 rfl rfl ?_
    refine x_iast C d_XP_apply_88 (by first | rfl | exact lx_A (by omega) (by omega) (by omega) | exact lx_H (by omega) (by omega) | exact lx_K (by omega) (by omega)) (by first | rfl | exact tx_T (by omega) | exact tx_A (by omega) (by omega) (by omega) | exact tx_HR (by omega) (by omega) | exact tx_KR (by omega) (by omega) | exact tx_L (by omega) (by omega)) (by omega) (by omega) (by omega) (by omega) ?_
    exact x_vret rt d_XP_apply_89 (by omega) (by omega) ⟨rfl, rfl, by rw [hend]; first | (rw [if_pos (by by_cases hz : st2 (st2 (st2 σ (43 + 6 * (σ 5 r / 4) + 1) (σ 5 r % 4) (σ 8 r)) (43 + 6 * (σ 5 r / 4) + 2) (σ 5 r % 4) (st2 σ (43 + 6 * (σ 5 r / 4) + 1) (σ 5 r % 4) (σ 8 r) 9 r)) (43 + 6 * (σ 5 r / 4)) 2 r 38 (σ 5 r / 4) = 0; exact hz; rw [if_neg hz] at h79; exact absurd h79 (by decide))]; done) | (rw [if_neg (fun hz => h79 (if_pos hz))]; done)⟩
theorem c_XP_takeBack {n : Nat} {σ : Hp} {u : Int} (hn : 85 ≤ n) (r0 : 0 ≤ u) (r1 : u ≤ 200) (x0 : 0 ≤ σ 5 u) (x1 : σ 5 u < 24) (hB : xB σ) (z0 : 0 ≤ σ 2 11) (z1 : σ 2 11 < 200) : Ok LyX TX y_XP_takeBack b_XP_takeBack 2 none 4 0 0 [.inr 34, .inl u] n σ (pV n (f_takeBack σ u)) := by
  refine ok_mk (by decide) (Nat.le_of_ble_eq_true rfl) (fun K C rt ha hok hfx => ?_)
  show XW LyX TX K n σ 0 0 0 [some (.inr 34), some (.inl u)] []
  have ez : f_fetch σ (σ 5 u / 4) 2 11 = σ 2 11 := f_fetch_2 _ (by omega) (by decide)
  have e5 : f_fetch σ (σ 5 u / 4) 5 = σ 5 := f_fetch_fr _ (by omega) (by omega) (by omega) (by decide)
  have ep : f_addClr (f_fetch σ (σ 5 u / 4)) u 5 (f_fetch σ (σ 5 u / 4) 2 11 + 1) = σ 5 u := by
    simp only [f_addClr]
    rw [st2_ne (by decide), st2_ne (by decide), st2_ne (by decide), st2_ne (by decide), st2_eq, f_append_eq]
    dsimp only
    rw [if_neg (by omega)]
    split
    · rw [if_neg (by decide), if_neg (by decide), if_neg (by decide), e5]
    · rw [e5]
  refine x_aload_n C d_XP_takeBack_0 rfl rfl ?_
  refine x_aload_n C d_XP_takeBack_1 rfl rfl ?_
  refine x_getC C 0 2 cf_XP fl_XP_31 d_XP_takeBack_2 rfl rfl rfl (by omega) (by omega) rfl ?_
  refine x_getC C 2 5 cf_XL fl_XP_84 d_XP_takeBack_5 rfl rfl rfl (by omega) (by omega) rfl ?_
  refine x_iload_n C d_XP_takeBack_8 rfl rfl ?_
  refine x_iald C d_XP_takeBack_9 (by first | rfl | exact lx_A (by omega) (by omega) (by omega) | exact lx_H (by omega) (by omega) | exact lx_K (by omega) (by omega)) (by omega) (by omega) (by omega) (by omega) (fun r9 => ?_)
  refine x_iconst C d_XP_takeBack_10 (by decide) ?_
  refine x_idiv C d_XP_takeBack_11 (by omega) (by decide) ?_
  refine x_callV C cl_XP_87 cb_XP_fetch cs_XP_fetch d_XP_takeBack_12 (c_XP_fetch hn (by omega) (by omega) hB) rfl rfl rfl rfl (by first | rfl | exact lx_T (by omega) | exact lx_C (by omega) (by omega) (by omega)) (by omega) (by omega) (by decide) (by decide) (Nat.le_of_ble_eq_true rfl) (by omega) (by omega) ?_
  rintro _ _ _ ⟨rfl, rfl, rfl⟩ -
  skip
  refine x_aload_n C d_XP_takeBack_15 rfl rfl ?_
  refine x_aload_n C d_XP_takeBack_16 rfl rfl ?_
  refine x_getC C 0 2 cf_XP fl_XP_31 d_XP_takeBack_17 rfl rfl rfl (by omega) (by omega) rfl ?_
  refine x_iload_n C d_XP_takeBack_20 rfl rfl ?_
  refine x_callV C cl_XP_90 cb_XL_addClr cs_XL_addClr d_XP_takeBack_21 (c_XL_addClr hn (by omega) (by omega) r0 r1) rfl rfl rfl rfl (by first | rfl | exact lx_T (by omega) | exact lx_C (by omega) (by omega) (by omega)) (by omega) (by omega) (by decide) (by decide) (Nat.le_of_ble_eq_true rfl) (by omega) (by omega) ?_
  rintro _ _ _ ⟨rfl, rfl, rfl⟩ -
  skip
  refine x_callV C cl_XP_93 cb_XP_apply cs_XP_apply d_XP_takeBack_24 (c_XP_apply hn (by omega) (by omega) (by rw [ep]; exact x0) (by rw [ep]; exact x1)) rfl rfl rfl rfl (by first | rfl | exact lx_T (by omega) | exact lx_C (by omega) (by omega) (by omega)) (by omega) (by omega) (by decide) (by decide) (Nat.le_of_ble_eq_true rfl) (by omega) (by omega) ?_
  rintro _ _ _ ⟨rfl, rfl, rfl⟩ -
  skip
  exact x_vret rt d_XP_takeBack_27 (by omega) (by omega) ⟨rfl, rfl, rfl⟩
theorem c_XP_redo {n : Nat} {σ : Hp} {i : Int} (hn : 85 ≤ n) (r0 : 0 ≤ i) (r1 : i ≤ 200) (x0 : 0 ≤ σ 5 i) (x1 : σ 5 i < 24) (hB : xB σ) : Ok LyX TX y_XP_redo b_XP_redo 3 none 4 0 0 [.inr 34, .inl i] n σ (pV n (f_redo σ i)) := by
  refine ok_mk (by decide) (Nat.le_of_ble_eq_true rfl) (fun K C rt ha hok hfx => ?_)
  show XW LyX TX K n σ 0 0 0 [some (.inr 34), some (.inl i), none] []
  have e5 : f_fetch σ (σ 5 i / 4) 5 i = σ 5 i := by rw [f_fetch_fr _ (by omega) (by omega) (by omega) (by decide)]
  refine x_aload_n C d_XP_redo_0 rfl rfl ?_
  refine x_getC C 0 2 cf_XP fl_XP_31 d_XP_redo_1 rfl rfl rfl (by omega) (by omega) rfl ?_
  refine x_getC C 2 5 cf_XL fl_XP_84 d_XP_redo_4 rfl rfl rfl (by omega) (by omega) rfl ?_
  refine x_iload_n C d_XP_redo_7 rfl rfl ?_
  refine x_iald C d_XP_redo_8 (by first | rfl | exact lx_A (by omega) (by omega) (by omega) | exact lx_H (by omega) (by omega) | exact lx_K (by omega) (by omega)) (by omega) (by omega) (by omega) (by omega) (fun r8 => ?_)
  refine x_iconst C d_XP_redo_9 (by decide) ?_
  refine x_idiv C d_XP_redo_10 (by omega) (by decide) ?_
  refine x_istore_n C d_XP_redo_11 rfl (by decide) ?_
  refine x_aload_n C d_XP_redo_12 rfl rfl ?_
  refine x_iload_n C d_XP_redo_13 rfl rfl ?_
  refine x_callV C cl_XP_87 cb_XP_fetch cs_XP_fetch d_XP_redo_14 (c_XP_fetch hn (by omega) (by omega) hB) rfl rfl rfl rfl (by first | rfl | exact lx_T (by omega) | exact lx_C (by omega) (by omega) (by omega)) (by omega) (by omega) (by decide) (by decide) (Nat.le_of_ble_eq_true rfl) (by omega) (by omega) ?_
  rintro _ _ _ ⟨rfl, rfl, rfl⟩ -
  skip
  refine x_aload_n C d_XP_redo_17 rfl rfl ?_
  refine x_getC C 2 36 cf_XP fl_XP_17 d_XP_redo_18 rfl rfl rfl (by omega) (by omega) rfl ?_
  refine x_iload_n C d_XP_redo_21 rfl rfl ?_
  refine x_aaldC C _ d_XP_redo_22 rfl (by decide) (by omega) (by omega) (by omega) (by omega) (tx_F (by omega) (by omega)) ?_
  refine x_getI C 2 cf_XC fl_XP_36 d_XP_redo_23 rfl (by decide) rfl (by first | rfl | exact lx_T (by omega) | exact lx_C (by omega) (by omega) (by omega)) (by omega) (by omega) (fun r23 => ?_)
  refine x_iload_n C d_XP_redo_26 rfl rfl ?_
  refine x_icmp_ge (tgt := 35) C d_XP_redo_27 rfl (fun h27 => ?_) (fun h27 => ?_)
  · exact x_vret rt d_XP_redo_35 (by omega) (by omega) ⟨rfl, rfl, by simp only [f_redo]; first | (rw [if_pos (by omega)]; done) | (rw [if_neg (by omega)]; done)⟩
  · refine x_aload_n C d_XP_redo_30 rfl rfl ?_
    refine x_iload_n C d_XP_redo_31 rfl rfl ?_
    refine x_callV C cl_XP_93 cb_XP_apply cs_XP_apply d_XP_redo_32 (c_XP_apply hn r0 r1 (by omega) (by omega)) rfl rfl rfl rfl (by first | rfl | exact lx_T (by omega) | exact lx_C (by omega) (by omega) (by omega)) (by omega) (by omega) (by decide) (by decide) (Nat.le_of_ble_eq_true rfl) (by omega) (by omega) ?_
    rintro _ _ _ ⟨rfl, rfl, rfl⟩ -
    skip
    exact x_vret rt d_XP_redo_35 (by omega) (by omega) ⟨rfl, rfl, by simp only [f_redo]; first | (rw [if_pos (by omega)]; done) | (rw [if_neg (by omega)]; done)⟩

