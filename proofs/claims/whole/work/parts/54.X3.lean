-- ===== the class: its recovery =====
theorem c_XR_startAnew {n : Nat} {σ : Hp} (hn : 85 ≤ n) : Ok LyX TX y_XR_startAnew b_XR_startAnew 1 none 1 0 0 [.inr 83] n σ (pV n (st2 σ 83 3 0)) := by
  refine ok_mk (by decide) (Nat.le_of_ble_eq_true rfl) (fun K C rt ha hok hfx => ?_)
  show XW LyX TX K n σ 0 0 0 [some (.inr 83)] []
  refine x_aload_n C d_XR_startAnew_0 rfl rfl ?_
  refine x_iconst C d_XR_startAnew_1 (by decide) ?_
  refine x_putI C 3 rfl cf_XR fl_XR_23 d_XR_startAnew_2 rfl (Or.inr ⟨rfl, rfl, by omega, by omega⟩) rfl rfl rfl (by omega) (by omega) ?_
  exact x_vret rt d_XR_startAnew_5 (by omega) (by omega) ⟨rfl, rfl, rfl⟩
theorem c_XR_isFinished {n : Nat} {σ : Hp} (hn : 85 ≤ n) (h0 : 0 ≤ σ 2 11) (h1 : σ 2 11 ≤ 200) (ho : ∀ i : Int, 1 ≤ i → i ≤ σ 2 11 → 0 ≤ σ 4 i ∧ σ 4 i ≤ 60) : Ok LyX TX y_XR_isFinished b_XR_isFinished 1 (some .boolean) 3 0 0 [.inr 83] n σ (pI n σ (b2i (f_finished σ))) := by
  refine ok_mk (by decide) (Nat.le_of_ble_eq_true rfl) (fun K C rt ha hok hfx => ?_)
  show XW LyX TX K n σ 0 0 0 [some (.inr 83)] []
  refine x_aload_n C d_XR_isFinished_0 rfl rfl ?_
  refine x_getI C 3 cf_XR fl_XR_23 d_XR_isFinished_1 rfl (by decide) rfl rfl (by omega) (by omega) (fun r1 => ?_)
  refine x_if_eq (tgt := 32) C d_XR_isFinished_4 rfl (fun h4 => ?_) (fun h4 => ?_)
  · refine x_iconst C d_XR_isFinished_32 (by decide) ?_
    exact x_zret rt d_XR_isFinished_33 (by omega) (by omega) ⟨by decide, by decide⟩ ⟨by simp only [f_finished, b2i]; first | (simp [*]; done) | (simp [*]; omega), rfl, rfl⟩
  · refine x_aload_n C d_XR_isFinished_7 rfl rfl ?_
    refine x_getI C 4 cf_XR fl_XR_27 d_XR_isFinished_8 rfl (by decide) rfl rfl (by omega) (by omega) (fun r8 => ?_)
    refine x_aload_n C d_XR_isFinished_11 rfl rfl ?_
    refine x_getI C 5 cf_XR fl_XR_31 d_XR_isFinished_12 rfl (by decide) rfl rfl (by omega) (by omega) (fun r12 => ?_)
    refine x_icmp_le (tgt := 32) C d_XR_isFinished_15 rfl (fun h15 => ?_) (fun h15 => ?_)
    · refine x_iconst C d_XR_isFinished_32 (by decide) ?_
      exact x_zret rt d_XR_isFinished_33 (by omega) (by omega) ⟨by decide, by decide⟩ ⟨by simp only [f_finished, b2i]; first | (simp [*]; done) | (simp [*]; omega), rfl, rfl⟩
    · refine x_aload_n C d_XR_isFinished_18 rfl rfl ?_
      refine x_getC C 0 2 cf_XR fl_XR_15 d_XR_isFinished_19 rfl rfl rfl (by omega) (by omega) rfl ?_
      refine x_callV C cl_XR_34 cb_XL_greatestOpen cs_XL_greatestOpen d_XR_isFinished_22 (c_XL_greatestOpen hn h0 h1 ho) rfl rfl rfl rfl (by first | rfl | exact lx_T (by omega) | exact lx_C (by omega) (by omega) (by omega)) (by omega) (by omega) (by decide) (by decide) (Nat.le_of_ble_eq_true rfl) (by omega) (by omega) ?_
      rintro _ _ _ ⟨rfl, rfl, rfl⟩ -
      skip
      refine x_if_ne (tgt := 32) C d_XR_isFinished_25 rfl (fun h25 => ?_) (fun h25 => ?_)
      · refine x_iconst C d_XR_isFinished_32 (by decide) ?_
        exact x_zret rt d_XR_isFinished_33 (by omega) (by omega) ⟨by decide, by decide⟩ ⟨by simp only [f_finished, b2i]; first | (simp [*]; done) | (simp [*]; omega), rfl, rfl⟩
      · refine x_iconst C d_XR_isFinished_28 (by decide) ?_
        refine x_goto (tgt := 33) C d_XR_isFinished_29 rfl ?_
        exact x_zret rt d_XR_isFinished_33 (by omega) (by omega) ⟨by decide, by decide⟩ ⟨by simp only [f_finished, b2i]; first | (simp [*]; done) | (simp [*]; omega), rfl, rfl⟩
theorem c_XR_fillTable {n : Nat} {σ : Hp} (hn : 85 ≤ n) (h0 : 0 ≤ σ 2 11) (h1 : σ 2 11 ≤ 200) (c0 : 0 ≤ σ 2 14) (c1 : σ 2 14 ≤ 20) (hp : ∀ i : Int, 0 ≤ i → i ≤ σ 2 11 → 0 ≤ σ 5 i ∧ σ 5 i < 24) (hl : 0 < σ 2 14 → 0 ≤ σ 12 (σ 2 14 - 1) ∧ σ 12 (σ 2 14 - 1) ≤ σ 2 11) : Ok LyX TX y_XR_fillTable b_XR_fillTable 5 none 2 0 0 [.inr 83] n σ (pV n (f_fill σ)) := by
  refine ok_mk (by decide) (Nat.le_of_ble_eq_true rfl) (fun K C rt ha hok hfx => ?_)
  show XW LyX TX K n σ 0 0 0 [some (.inr 83), none, none, none, none] []
  have hfirst : 1 ≤ f_first σ ∧ f_first σ ≤ σ 2 11 + 1 := by
    simp only [f_first]; split
    · omega
    · have := hl (by omega); omega
  have loop2 : ∀ (k : Nat) (i : Int) (τ : Hp) (w : Option AV), 1 ≤ i → i + k = σ 2 11 + 1 → (∀ v : Int, v ≠ 84 → τ v = σ v) → f_ftL k i τ = f_fill σ → XW LyX TX K n τ 0 0 71 [some (.inr 83), some (.inl (σ 2 14 - 1)), some (.inl (f_first σ)), some (.inl i), w] [] := by
    intro k
    induction k with
    | zero =>
      intro i τ w hi hk hf hm
      have hm : τ = f_fill σ := hm
      have ez : τ 2 11 = σ 2 11 := by rw [hf 2 (by decide)]
      refine x_iload_n C d_XR_fillTable_71 rfl rfl ?_
      refine x_aload_n C d_XR_fillTable_72 rfl rfl ?_
      refine x_getC C 0 2 cf_XR fl_XR_15 d_XR_fillTable_73 rfl rfl rfl (by omega) (by omega) rfl ?_
      refine x_getI C 11 cf_XL fl_XR_52 d_XR_fillTable_76 rfl (by decide) rfl rfl (by omega) (by omega) (fun r76 => ?_)
      refine x_icmp_gt (tgt := 130) C d_XR_fillTable_79 rfl (fun h79 => ?_) (fun h79 => ?_)
      · exact x_vret rt d_XR_fillTable_130 (by omega) (by omega) ⟨rfl, rfl, hm.symm⟩
      · exact absurd h79 (by omega)
    | succ k ih =>
      intro i τ w hi hk hf hm
      have ez : τ 2 11 = σ 2 11 := by rw [hf 2 (by decide)]
      have e5 : τ 5 i = σ 5 i := by rw [hf 5 (by decide)]
      have hpi := hp i (by omega) (by omega)
      have ih2 := ih (i + 1) (if f_isChange τ i = true ∧ τ 84 (τ 5 i / 4) = 0 then st2 τ 84 (τ 5 i / 4) i else τ) (some (.inl (τ 5 i / 4))) (by omega) (by omega) (by
        intro v hv
        split
        · rw [st2_ne hv]; exact hf v hv
        · exact hf v hv) hm
      refine x_iload_n C d_XR_fillTable_71 rfl rfl ?_
      refine x_aload_n C d_XR_fillTable_72 rfl rfl ?_
      refine x_getC C 0 2 cf_XR fl_XR_15 d_XR_fillTable_73 rfl rfl rfl (by omega) (by omega) rfl ?_
      refine x_getI C 11 cf_XL fl_XR_52 d_XR_fillTable_76 rfl (by decide) rfl rfl (by omega) (by omega) (fun r76 => ?_)
      refine x_icmp_gt (tgt := 130) C d_XR_fillTable_79 rfl (fun h79 => ?_) (fun h79 => ?_)
      · exact absurd h79 (by omega)
      · refine x_aload_n C d_XR_fillTable_82 rfl rfl ?_
        refine x_getC C 0 2 cf_XR fl_XR_15 d_XR_fillTable_83 rfl rfl rfl (by omega) (by omega) rfl ?_
        refine x_getC C 2 5 cf_XL fl_XR_71 d_XR_fillTable_86 rfl rfl rfl (by omega) (by omega) rfl ?_
        refine x_iload_n C d_XR_fillTable_89 rfl rfl ?_
        refine x_iald C d_XR_fillTable_90 (by first | rfl | exact lx_A (by omega) (by omega) (by omega) | exact lx_H (by omega) (by omega) | exact lx_K (by omega) (by omega)) (by omega) (by omega) (by omega) (by omega) (fun r90 => ?_)
        refine x_iconst C d_XR_fillTable_91 (by decide) ?_
        refine x_idiv C d_XR_fillTable_92 (by omega) (by decide) ?_
        refine x_istore C d_XR_fillTable_93 (by decide) ?_
        refine x_aload_n C d_XR_fillTable_95 rfl rfl ?_
        refine x_getC C 0 2 cf_XR fl_XR_15 d_XR_fillTable_96 rfl rfl rfl (by omega) (by omega) rfl ?_
        refine x_iload_n C d_XR_fillTable_99 rfl rfl ?_
        refine x_callV C cl_XR_74 cb_XL_isChange cs_XL_isChange d_XR_fillTable_100 (c_XL_isChange hn (by omega) (by omega)) rfl rfl rfl rfl (by first | rfl | exact lx_T (by omega) | exact lx_C (by omega) (by omega) (by omega)) (by omega) (by omega) (by decide) (by decide) (Nat.le_of_ble_eq_true rfl) (by omega) (by omega) ?_
        rintro _ _ _ ⟨rfl, rfl, rfl⟩ -
        skip
        refine x_if_eq (tgt := 124) C d_XR_fillTable_103 rfl (fun h103 => ?_) (fun h103 => ?_)
        · refine x_iinc C d_XR_fillTable_124 (by decide) rfl ⟨by omega, by omega⟩ ?_
          refine x_goto (tgt := 71) C d_XR_fillTable_127 rfl ?_
          first | (rw [if_pos ⟨b2i_1 h103, h113⟩] at ih2; exact ih2) | (rw [if_neg (fun h => h113 h.2)] at ih2; exact ih2) | (rw [if_neg (fun h => by rw [h.1] at h103; exact absurd h103 (by decide))] at ih2; exact ih2)
        · refine x_aload_n C d_XR_fillTable_106 rfl rfl ?_
          refine x_getC C 2 84 cf_XR fl_XR_9 d_XR_fillTable_107 rfl rfl rfl (by omega) (by omega) rfl ?_
          refine x_iload C d_XR_fillTable_110 rfl ?_
          refine x_iald C d_XR_fillTable_112 (by first | rfl | exact lx_A (by omega) (by omega) (by omega) | exact lx_H (by omega) (by omega) | exact lx_K (by omega) (by omega)) (by omega) (by omega) (by omega) (by omega) (fun r112 => ?_)
          refine x_if_ne (tgt := 124) C d_XR_fillTable_113 rfl (fun h113 => ?_) (fun h113 => ?_)
          · refine x_iinc C d_XR_fillTable_124 (by decide) rfl ⟨by omega, by omega⟩ ?_
            refine x_goto (tgt := 71) C d_XR_fillTable_127 rfl ?_
            first | (rw [if_pos ⟨b2i_1 h103, h113⟩] at ih2; exact ih2) | (rw [if_neg (fun h => h113 h.2)] at ih2; exact ih2) | (rw [if_neg (fun h => by rw [h.1] at h103; exact absurd h103 (by decide))] at ih2; exact ih2)
          · refine x_aload_n C d_XR_fillTable_116 rfl rfl ?_
            refine x_getC C 2 84 cf_XR fl_XR_9 d_XR_fillTable_117 rfl rfl rfl (by omega) (by omega) rfl ?_
            refine x_iload C d_XR_fillTable_120 rfl ?_
            refine x_iload_n C d_XR_fillTable_122 rfl rfl ?_
            refine x_iast C d_XR_fillTable_123 (by first | rfl | exact lx_A (by omega) (by omega) (by omega) | exact lx_H (by omega) (by omega) | exact lx_K (by omega) (by omega)) (by first | rfl | exact tx_T (by omega) | exact tx_A (by omega) (by omega) (by omega) | exact tx_HR (by omega) (by omega) | exact tx_KR (by omega) (by omega) | exact tx_L (by omega) (by omega)) (by omega) (by omega) (by omega) (by omega) ?_
            refine x_iinc C d_XR_fillTable_124 (by decide) rfl ⟨by omega, by omega⟩ ?_
            refine x_goto (tgt := 71) C d_XR_fillTable_127 rfl ?_
            first | (rw [if_pos ⟨b2i_1 h103, h113⟩] at ih2; exact ih2) | (rw [if_neg (fun h => h113 h.2)] at ih2; exact ih2) | (rw [if_neg (fun h => by rw [h.1] at h103; exact absurd h103 (by decide))] at ih2; exact ih2)
  have J68 : ∀ v : Int, v = f_first σ → XW LyX TX K n (f_ft1 σ 6) 0 0 68 [some (.inr 83), some (.inl (σ 2 14 - 1)), some (.inl 6), none, none] [.inl v] := by
    intro v hv
    subst hv
    have hl2 := loop2 (σ 2 11 + 1 - f_first σ).toNat (f_first σ) (f_ft1 σ 6) none (by omega) (by omega) (fun v hv => f_ft1_fr _ _ hv) rfl
    refine x_istore_n C d_XR_fillTable_68 rfl (by decide) ?_
    refine x_iload_n C d_XR_fillTable_69 rfl rfl ?_
    refine x_istore_n C d_XR_fillTable_70 rfl (by decide) ?_
    exact hl2
  have loop1 : ∀ (k : Nat) (x : Int), 0 ≤ x → x + k = 6 → XW LyX TX K n (f_ft1 σ x) 0 0 12 [some (.inr 83), some (.inl (σ 2 14 - 1)), some (.inl x), none, none] [] := by
    intro k
    induction k with
    | zero =>
      intro x hx hk
      obtain rfl : x = 6 := by omega
      have e12 : f_ft1 σ 6 12 = σ 12 := f_ft1_fr _ _ (by decide)
      refine x_iload_n C d_XR_fillTable_12 rfl rfl ?_
      refine x_bipush C d_XR_fillTable_13 (by decide) (by decide) ?_
      refine x_icmp_ge (tgt := 49) C d_XR_fillTable_15 rfl (fun h15 => ?_) (fun h15 => ?_)
      · refine x_iload_n C d_XR_fillTable_49 rfl rfl ?_
        refine x_if_ge (tgt := 57) C d_XR_fillTable_50 rfl (fun h50 => ?_) (fun h50 => ?_)
        · refine x_aload_n C d_XR_fillTable_57 rfl rfl ?_
          refine x_getC C 0 2 cf_XR fl_XR_15 d_XR_fillTable_58 rfl rfl rfl (by omega) (by omega) rfl ?_
          refine x_getC C 9 12 cf_XL fl_XR_68 d_XR_fillTable_61 rfl rfl rfl (by omega) (by omega) rfl ?_
          refine x_iload_n C d_XR_fillTable_64 rfl rfl ?_
          refine x_iald C d_XR_fillTable_65 (by first | rfl | exact lx_A (by omega) (by omega) (by omega) | exact lx_H (by omega) (by omega) | exact lx_K (by omega) (by omega)) (by omega) (by omega) (by omega) (by omega) (fun r65 => ?_)
          refine x_iconst C d_XR_fillTable_66 (by decide) ?_
          refine x_iadd C d_XR_fillTable_67 ⟨by rw [e12]; have := hl (by omega); omega, by rw [e12]; have := hl (by omega); omega⟩ ?_
          exact J68 _ (by simp only [f_first]; first | (rw [if_pos (by omega)]; done) | (rw [if_neg (by omega), e12]; done))
        · refine x_iconst C d_XR_fillTable_53 (by decide) ?_
          refine x_goto (tgt := 68) C d_XR_fillTable_54 rfl ?_
          exact J68 _ (by simp only [f_first]; first | (rw [if_pos (by omega)]; done) | (rw [if_neg (by omega), e12]; done))
      · exact absurd h15 (by omega)
    | succ k ih =>
      intro x hx hk
      have ih2 := ih (x + 1) (by omega) (by omega)
      rw [← f_ft1_step hx] at ih2
      have er : 0 < σ 2 14 → f_ft1 σ x (14 + (σ 2 14 - 1)) = σ (14 + (σ 2 14 - 1)) := fun _ => f_ft1_fr _ _ (by omega)
      have J42 : ∀ v : Int, v = (if σ 2 14 - 1 < 0 then 0 else σ (14 + (σ 2 14 - 1)) x) → XW LyX TX K n (f_ft1 σ x) 0 0 42 [some (.inr 83), some (.inl (σ 2 14 - 1)), some (.inl x), none, none] [.inl v, .inl x, .inr 84] := by
        intro v hv
        subst hv
        refine x_iast C d_XR_fillTable_42 (by first | rfl | exact lx_A (by omega) (by omega) (by omega) | exact lx_H (by omega) (by omega) | exact lx_K (by omega) (by omega)) (by first | rfl | exact tx_T (by omega) | exact tx_A (by omega) (by omega) (by omega) | exact tx_HR (by omega) (by omega) | exact tx_KR (by omega) (by omega) | exact tx_L (by omega) (by omega)) (by omega) (by omega) (by omega) (by omega) ?_
        refine x_iinc C d_XR_fillTable_43 (by decide) rfl ⟨by omega, by omega⟩ ?_
        refine x_goto (tgt := 12) C d_XR_fillTable_46 rfl ?_
        exact ih2
      refine x_iload_n C d_XR_fillTable_12 rfl rfl ?_
      refine x_bipush C d_XR_fillTable_13 (by decide) (by decide) ?_
      refine x_icmp_ge (tgt := 49) C d_XR_fillTable_15 rfl (fun h15 => ?_) (fun h15 => ?_)
      · exact absurd h15 (by omega)
      · refine x_aload_n C d_XR_fillTable_18 rfl rfl ?_
        refine x_getC C 2 84 cf_XR fl_XR_9 d_XR_fillTable_19 rfl rfl rfl (by omega) (by omega) rfl ?_
        refine x_iload_n C d_XR_fillTable_22 rfl rfl ?_
        refine x_iload_n C d_XR_fillTable_23 rfl rfl ?_
        refine x_if_ge (tgt := 31) C d_XR_fillTable_24 rfl (fun h24 => ?_) (fun h24 => ?_)
        · refine x_aload_n C d_XR_fillTable_31 rfl rfl ?_
          refine x_getC C 0 2 cf_XR fl_XR_15 d_XR_fillTable_32 rfl rfl rfl (by omega) (by omega) rfl ?_
          refine x_getC C 10 13 cf_XL fl_XR_64 d_XR_fillTable_35 rfl rfl rfl (by omega) (by omega) rfl ?_
          refine x_iload_n C d_XR_fillTable_38 rfl rfl ?_
          refine x_aaldC C _ d_XR_fillTable_39 rfl (by decide) (by omega) (by omega) (by omega) (by omega) (tx_K (by omega) (by omega)) ?_
          refine x_iload_n C d_XR_fillTable_40 rfl rfl ?_
          refine x_iald C d_XR_fillTable_41 (by first | rfl | exact lx_A (by omega) (by omega) (by omega) | exact lx_H (by omega) (by omega) | exact lx_K (by omega) (by omega)) (by omega) (by omega) (by omega) (by omega) (fun r41 => ?_)
          exact J42 _ (by first | (rw [if_pos (by omega)]; done) | (rw [if_neg (by omega), er (by omega)]; done))
        · refine x_iconst C d_XR_fillTable_27 (by decide) ?_
          refine x_goto (tgt := 42) C d_XR_fillTable_28 rfl ?_
          exact J42 _ (by first | (rw [if_pos (by omega)]; done) | (rw [if_neg (by omega), er (by omega)]; done))
  have hl1 := loop1 6 0 (by omega) (by omega)
  rw [f_ft1_0] at hl1
  refine x_aload_n C d_XR_fillTable_0 rfl rfl ?_
  refine x_getC C 0 2 cf_XR fl_XR_15 d_XR_fillTable_1 rfl rfl rfl (by omega) (by omega) rfl ?_
  refine x_getI C 14 cf_XL fl_XR_61 d_XR_fillTable_4 rfl (by decide) rfl rfl (by omega) (by omega) (fun r4 => ?_)
  refine x_iconst C d_XR_fillTable_7 (by decide) ?_
  refine x_isub C d_XR_fillTable_8 ⟨by omega, by omega⟩ ?_
  refine x_istore_n C d_XR_fillTable_9 rfl (by decide) ?_
  refine x_iconst C d_XR_fillTable_10 (by decide) ?_
  refine x_istore_n C d_XR_fillTable_11 rfl (by decide) ?_
  exact hl1
theorem c_XR_analyse {n : Nat} {σ : Hp} (hn : 85 ≤ n) (h0 : 0 ≤ σ 2 11) (h1 : σ 2 11 ≤ 200) (hF : Ok LyX TX y_XR_fillTable b_XR_fillTable 5 none 2 0 0 [.inr 83] n σ (pV n (f_fill σ))) : Ok LyX TX y_XR_analyse b_XR_analyse 2 none 3 0 0 [.inr 83] n σ (pV n (f_analyse σ)) := by
  refine ok_mk (by decide) (Nat.le_of_ble_eq_true rfl) (fun K C rt ha hok hfx => ?_)
  show XW LyX TX K n σ 0 0 0 [some (.inr 83), none] []
  have ez : f_fill σ 2 11 = σ 2 11 := by rw [f_fill, f_ftL_fr _ _ _ (by decide), f_ft1_fr _ _ (by decide)]
  have ez2 : f_an0 σ 2 11 = σ 2 11 := by rw [f_an0, st2_ne (by decide)]; exact ez
  have loop : ∀ (q x : Nat), x + q = 6 → XW LyX TX K n (st2 (f_an0 σ) 83 4 (f_nx (f_an0 σ) x)) 0 0 30 [some (.inr 83), some (.inl (x : Int))] [] := by
    intro q
    induction q with
    | zero =>
      intro x hx
      obtain rfl : x = 6 := by omega
      refine x_iload_n C d_XR_analyse_30 rfl rfl ?_
      refine x_bipush C d_XR_analyse_31 (by decide) (by decide) ?_
      refine x_icmp_ge (tgt := 68) C d_XR_analyse_33 rfl (fun h33 => ?_) (fun h33 => ?_)
      · refine x_aload_n C d_XR_analyse_68 rfl rfl ?_
        refine x_iconst C d_XR_analyse_69 (by decide) ?_
        refine x_putI C 3 rfl cf_XR fl_XR_23 d_XR_analyse_70 rfl (Or.inr ⟨rfl, rfl, by omega, by omega⟩) rfl rfl rfl (by omega) (by omega) ?_
        exact x_vret rt d_XR_analyse_73 (by omega) (by omega) ⟨rfl, rfl, rfl⟩
      · exact absurd h33 (by decide)
    | succ q ih =>
      intro x hx
      have ih2 := ih (x + 1) (by omega)
      have e84 : st2 (f_an0 σ) 83 4 (f_nx (f_an0 σ) x) 84 = f_an0 σ 84 := st2_ne (by decide)
      have en : st2 (f_an0 σ) 83 4 (f_nx (f_an0 σ) x) 83 4 = f_nx (f_an0 σ) x := st2_eq
      rw [show f_nx (f_an0 σ) (x + 1) = if f_an0 σ 84 (x : Int) = 0 then f_nx (f_an0 σ) x else (if f_an0 σ 84 (x : Int) < f_nx (f_an0 σ) x then f_an0 σ 84 (x : Int) else f_nx (f_an0 σ) x) from rfl] at ih2
      have ess : ∀ y : Int, st2 (st2 (f_an0 σ) 83 4 (f_nx (f_an0 σ) x)) 83 4 y = st2 (f_an0 σ) 83 4 y := by
        intro y
        funext a b; simp only [st2]; by_cases h1 : a = 83 <;> by_cases h2 : b = 4 <;> simp [h1, h2]
      refine x_iload_n C d_XR_analyse_30 rfl rfl ?_
      refine x_bipush C d_XR_analyse_31 (by decide) (by decide) ?_
      refine x_icmp_ge (tgt := 68) C d_XR_analyse_33 rfl (fun h33 => ?_) (fun h33 => ?_)
      · exact absurd h33 (by omega)
      · refine x_aload_n C d_XR_analyse_36 rfl rfl ?_
        refine x_getC C 2 84 cf_XR fl_XR_9 d_XR_analyse_37 rfl rfl rfl (by omega) (by omega) rfl ?_
        refine x_iload_n C d_XR_analyse_40 rfl rfl ?_
        refine x_iald C d_XR_analyse_41 (by first | rfl | exact lx_A (by omega) (by omega) (by omega) | exact lx_H (by omega) (by omega) | exact lx_K (by omega) (by omega)) (by omega) (by omega) (by omega) (by omega) (fun r41 => ?_)
        refine x_if_eq (tgt := 62) C d_XR_analyse_42 rfl (fun h42 => ?_) (fun h42 => ?_)
        · refine x_iinc C d_XR_analyse_62 (by decide) rfl ⟨by omega, by omega⟩ ?_
          refine x_goto (tgt := 30) C d_XR_analyse_65 rfl ?_
          rw [e84] at h42
          first | (rw [if_pos h42] at ih2; exact ih2) | (rw [if_neg h42] at ih2; rw [en, e84, ess]; exact ih2)
        · refine x_aload_n C d_XR_analyse_45 rfl rfl ?_
          refine x_aload_n C d_XR_analyse_46 rfl rfl ?_
          refine x_getI C 4 cf_XR fl_XR_27 d_XR_analyse_47 rfl (by decide) rfl rfl (by omega) (by omega) (fun r47 => ?_)
          refine x_aload_n C d_XR_analyse_50 rfl rfl ?_
          refine x_getC C 2 84 cf_XR fl_XR_9 d_XR_analyse_51 rfl rfl rfl (by omega) (by omega) rfl ?_
          refine x_iload_n C d_XR_analyse_54 rfl rfl ?_
          refine x_iald C d_XR_analyse_55 (by first | rfl | exact lx_A (by omega) (by omega) (by omega) | exact lx_H (by omega) (by omega) | exact lx_K (by omega) (by omega)) (by omega) (by omega) (by omega) (by omega) (fun r55 => ?_)
          refine x_mmin C w_minLR w_minS w_mi w_minC d_XR_analyse_56 (by decide) (Nat.le_of_ble_eq_true rfl) (by omega) (by omega) ?_
          refine x_putI C 4 rfl cf_XR fl_XR_27 d_XR_analyse_59 rfl (Or.inl ⟨rfl, rfl⟩) rfl rfl rfl (by omega) (by omega) ?_
          refine x_iinc C d_XR_analyse_62 (by decide) rfl ⟨by omega, by omega⟩ ?_
          refine x_goto (tgt := 30) C d_XR_analyse_65 rfl ?_
          rw [e84] at h42
          first | (rw [if_pos h42] at ih2; exact ih2) | (rw [if_neg h42] at ih2; rw [en, e84, ess]; exact ih2)
  have hl := loop 6 0 (by omega)
  refine x_aload_n C d_XR_analyse_0 rfl rfl ?_
  refine x_callV C cl_XR_49 cb_XR_fillTable cs_XR_fillTable d_XR_analyse_1 (hF) rfl rfl rfl rfl (by first | rfl | exact lx_T (by omega) | exact lx_C (by omega) (by omega) (by omega)) (by omega) (by omega) (by decide) (by decide) (Nat.le_of_ble_eq_true rfl) (by omega) (by omega) ?_
  rintro _ _ _ ⟨rfl, rfl, rfl⟩ -
  skip
  refine x_aload_n C d_XR_analyse_4 rfl rfl ?_
  refine x_aload_n C d_XR_analyse_5 rfl rfl ?_
  refine x_getC C 0 2 cf_XR fl_XR_15 d_XR_analyse_6 rfl rfl rfl (by omega) (by omega) rfl ?_
  refine x_getI C 11 cf_XL fl_XR_52 d_XR_analyse_9 rfl (by decide) rfl rfl (by omega) (by omega) (fun r9 => ?_)
  refine x_putI C 5 rfl cf_XR fl_XR_31 d_XR_analyse_12 rfl (Or.inl ⟨rfl, rfl⟩) rfl rfl rfl (by omega) (by omega) ?_
  refine x_aload_n C d_XR_analyse_15 rfl rfl ?_
  refine x_aload_n C d_XR_analyse_16 rfl rfl ?_
  refine x_getC C 0 2 cf_XR fl_XR_15 d_XR_analyse_17 rfl rfl rfl (by omega) (by omega) rfl ?_
  refine x_getI C 11 cf_XL fl_XR_52 d_XR_analyse_20 rfl (by decide) rfl rfl (by omega) (by omega) (fun r20 => ?_)
  refine x_iconst C d_XR_analyse_23 (by decide) ?_
  refine x_iadd C d_XR_analyse_24 ⟨by first | (show _ ≤ f_an0 σ 2 11 + 1; rw [ez2]; omega) | (show f_an0 σ 2 11 + 1 ≤ _; rw [ez2]; omega), by first | (show _ ≤ f_an0 σ 2 11 + 1; rw [ez2]; omega) | (show f_an0 σ 2 11 + 1 ≤ _; rw [ez2]; omega)⟩ ?_
  refine x_putI C 4 rfl cf_XR fl_XR_27 d_XR_analyse_25 rfl (Or.inl ⟨rfl, rfl⟩) rfl rfl rfl (by omega) (by omega) ?_
  refine x_iconst C d_XR_analyse_28 (by decide) ?_
  refine x_istore_n C d_XR_analyse_29 rfl (by decide) ?_
  exact hl
theorem c_XR_repeatNext {n : Nat} {σ : Hp} (hn : 85 ≤ n) (i0 : 0 ≤ σ 83 4) (i1 : σ 83 4 ≤ 200) (x0 : 0 ≤ σ 5 (σ 83 4)) (x1 : σ 5 (σ 83 4) < 24) (hB : xB σ) : Ok LyX TX y_XR_repeatNext b_XR_repeatNext 3 none 5 0 0 [.inr 83] n σ (pV n (f_repeat σ)) := by
  refine ok_mk (by decide) (Nat.le_of_ble_eq_true rfl) (fun K C rt ha hok hfx => ?_)
  show XW LyX TX K n σ 0 0 0 [some (.inr 83), none, none] []
  have hr : f_repeat σ = if f_isChange (st2 σ 83 4 (σ 83 4 + 1)) (σ 83 4) = true ∧ ¬ st2 σ 83 4 (σ 83 4 + 1) 84 (st2 σ 83 4 (σ 83 4 + 1) 5 (σ 83 4) / 4) = 0 ∧ st2 σ 83 4 (σ 83 4 + 1) 84 (st2 σ 83 4 (σ 83 4 + 1) 5 (σ 83 4) / 4) ≤ σ 83 4 then f_redo (st2 σ 83 4 (σ 83 4 + 1)) (σ 83 4) else st2 σ 83 4 (σ 83 4 + 1) := rfl
  have e5 : st2 σ 83 4 (σ 83 4 + 1) 5 = σ 5 := st2_ne (by decide)
  have e5i : st2 σ 83 4 (σ 83 4 + 1) 5 (σ 83 4) = σ 5 (σ 83 4) := by rw [e5]
  have hB2 : xB (st2 σ 83 4 (σ 83 4 + 1)) := by
    have e34 : st2 σ 83 4 (σ 83 4 + 1) 34 = σ 34 := st2_ne (by decide)
    simpa only [xB, e34] using hB
  generalize hτ : st2 σ 83 4 (σ 83 4 + 1) = τ at *
  have J15 : XW LyX TX K n τ 0 0 15 [some (.inr 83), some (.inl (σ 83 4)), none] [] := by
    generalize σ 83 4 = i at *
    refine x_aload_n C d_XR_repeatNext_15 rfl rfl ?_
    refine x_getC C 0 2 cf_XR fl_XR_15 d_XR_repeatNext_16 rfl rfl rfl (by omega) (by omega) rfl ?_
    refine x_iload_n C d_XR_repeatNext_19 rfl rfl ?_
    refine x_callV C cl_XR_74 cb_XL_isChange cs_XL_isChange d_XR_repeatNext_20 (c_XL_isChange hn i0 i1) rfl rfl rfl rfl (by first | rfl | exact lx_T (by omega) | exact lx_C (by omega) (by omega) (by omega)) (by omega) (by omega) (by decide) (by decide) (Nat.le_of_ble_eq_true rfl) (by omega) (by omega) ?_
    rintro _ _ _ ⟨rfl, rfl, rfl⟩ -
    skip
    refine x_if_ne (tgt := 27) C d_XR_repeatNext_23 rfl (fun h23 => ?_) (fun h23 => ?_)
    · refine x_aload_n C d_XR_repeatNext_27 rfl rfl ?_
      refine x_getC C 2 84 cf_XR fl_XR_9 d_XR_repeatNext_28 rfl rfl rfl (by omega) (by omega) rfl ?_
      refine x_aload_n C d_XR_repeatNext_31 rfl rfl ?_
      refine x_getC C 0 2 cf_XR fl_XR_15 d_XR_repeatNext_32 rfl rfl rfl (by omega) (by omega) rfl ?_
      refine x_getC C 2 5 cf_XL fl_XR_71 d_XR_repeatNext_35 rfl rfl rfl (by omega) (by omega) rfl ?_
      refine x_iload_n C d_XR_repeatNext_38 rfl rfl ?_
      refine x_iald C d_XR_repeatNext_39 (by first | rfl | exact lx_A (by omega) (by omega) (by omega) | exact lx_H (by omega) (by omega) | exact lx_K (by omega) (by omega)) (by omega) (by omega) (by omega) (by omega) (fun r39 => ?_)
      refine x_iconst C d_XR_repeatNext_40 (by decide) ?_
      refine x_idiv C d_XR_repeatNext_41 (by omega) (by decide) ?_
      refine x_iald C d_XR_repeatNext_42 (by first | rfl | exact lx_A (by omega) (by omega) (by omega) | exact lx_H (by omega) (by omega) | exact lx_K (by omega) (by omega)) (by omega) (by omega) (by omega) (by omega) (fun r42 => ?_)
      refine x_istore_n C d_XR_repeatNext_43 rfl (by decide) ?_
      refine x_iload_n C d_XR_repeatNext_44 rfl rfl ?_
      refine x_if_eq (tgt := 61) C d_XR_repeatNext_45 rfl (fun h45 => ?_) (fun h45 => ?_)
      · exact x_vret rt d_XR_repeatNext_61 (by omega) (by omega) ⟨rfl, rfl, by rw [hr]; first | (rw [if_pos ⟨b2i_1 h23, h45, h50⟩]; done) | (rw [if_neg (fun h => by rw [h.1] at h23; exact absurd h23 (by decide))]; done) | (rw [if_neg (by omega)]; done)⟩
      · refine x_iload_n C d_XR_repeatNext_48 rfl rfl ?_
        refine x_iload_n C d_XR_repeatNext_49 rfl rfl ?_
        refine x_icmp_gt (tgt := 61) C d_XR_repeatNext_50 rfl (fun h50 => ?_) (fun h50 => ?_)
        · exact x_vret rt d_XR_repeatNext_61 (by omega) (by omega) ⟨rfl, rfl, by rw [hr]; first | (rw [if_pos ⟨b2i_1 h23, h45, h50⟩]; done) | (rw [if_neg (fun h => by rw [h.1] at h23; exact absurd h23 (by decide))]; done) | (rw [if_neg (by omega)]; done)⟩
        · refine x_aload_n C d_XR_repeatNext_53 rfl rfl ?_
          refine x_getC C 1 34 cf_XR fl_XR_19 d_XR_repeatNext_54 rfl rfl rfl (by omega) (by omega) rfl ?_
          refine x_iload_n C d_XR_repeatNext_57 rfl rfl ?_
          refine x_callV C cl_XR_78 cb_XP_redo cs_XP_redo d_XR_repeatNext_58 (c_XP_redo hn i0 i1 (by omega) (by omega) hB2) rfl rfl rfl rfl (by first | rfl | exact lx_T (by omega) | exact lx_C (by omega) (by omega) (by omega)) (by omega) (by omega) (by decide) (by decide) (Nat.le_of_ble_eq_true rfl) (by omega) (by omega) ?_
          rintro _ _ _ ⟨rfl, rfl, rfl⟩ -
          skip
          exact x_vret rt d_XR_repeatNext_61 (by omega) (by omega) ⟨rfl, rfl, by rw [hr]; first | (rw [if_pos ⟨b2i_1 h23, h45, h50⟩]; done) | (rw [if_neg (fun h => by rw [h.1] at h23; exact absurd h23 (by decide))]; done) | (rw [if_neg (by omega)]; done)⟩
    · exact x_vret rt d_XR_repeatNext_26 (by omega) (by omega) ⟨rfl, rfl, by rw [hr]; first | (rw [if_pos ⟨b2i_1 h23, h45, h50⟩]; done) | (rw [if_neg (fun h => by rw [h.1] at h23; exact absurd h23 (by decide))]; done) | (rw [if_neg (by omega)]; done)⟩
  rw [← hτ] at J15
  refine x_aload_n C d_XR_repeatNext_0 rfl rfl ?_
  refine x_getI C 4 cf_XR fl_XR_27 d_XR_repeatNext_1 rfl (by decide) rfl rfl (by omega) (by omega) (fun r1 => ?_)
  refine x_istore_n C d_XR_repeatNext_4 rfl (by decide) ?_
  refine x_aload_n C d_XR_repeatNext_5 rfl rfl ?_
  refine x_dup C d_XR_repeatNext_6 ?_
  refine x_getI C 4 cf_XR fl_XR_27 d_XR_repeatNext_7 rfl (by decide) rfl rfl (by omega) (by omega) (fun r7 => ?_)
  refine x_iconst C d_XR_repeatNext_10 (by decide) ?_
  refine x_iadd C d_XR_repeatNext_11 ⟨by omega, by omega⟩ ?_
  refine x_putI C 4 rfl cf_XR fl_XR_27 d_XR_repeatNext_12 rfl (Or.inl ⟨rfl, rfl⟩) rfl rfl rfl (by omega) (by omega) ?_
  exact J15
theorem c_XR_takeBackNext {n : Nat} {σ : Hp} (hn : 85 ≤ n) (h0 : 0 ≤ σ 2 11) (h1 : σ 2 11 ≤ 200) (ho : ∀ i : Int, 1 ≤ i → i ≤ σ 2 11 → 0 ≤ σ 4 i ∧ σ 4 i ≤ 60) (hB : xB σ) (hz : ¬ f_gOpen σ = 0 → σ 2 11 < 200 ∧ 0 ≤ σ 5 (f_gOpen σ) ∧ σ 5 (f_gOpen σ) < 24) : Ok LyX TX y_XR_takeBackNext b_XR_takeBackNext 2 none 5 0 0 [.inr 83] n σ (pV n (f_undo σ)) := by
  refine ok_mk (by decide) (Nat.le_of_ble_eq_true rfl) (fun K C rt ha hok hfx => ?_)
  show XW LyX TX K n σ 0 0 0 [some (.inr 83), none] []
  have hg : 0 ≤ f_gOpen σ ∧ f_gOpen σ ≤ 200 := by
    have h := srchD_spec (f_isOpen σ) (σ 2 11).toNat
    have e : srchD (f_isOpen σ) (σ 2 11).toNat = f_gOpen σ := rfl
    rw [e] at h
    rcases h with ⟨a, -⟩ | ⟨a, b, -⟩ <;> omega
  refine x_aload_n C d_XR_takeBackNext_0 rfl rfl ?_
  refine x_getC C 0 2 cf_XR fl_XR_15 d_XR_takeBackNext_1 rfl rfl rfl (by omega) (by omega) rfl ?_
  refine x_callV C cl_XR_34 cb_XL_greatestOpen cs_XL_greatestOpen d_XR_takeBackNext_4 (c_XL_greatestOpen hn h0 h1 ho) rfl rfl rfl rfl (by first | rfl | exact lx_T (by omega) | exact lx_C (by omega) (by omega) (by omega)) (by omega) (by omega) (by decide) (by decide) (Nat.le_of_ble_eq_true rfl) (by omega) (by omega) ?_
  rintro _ _ _ ⟨rfl, rfl, rfl⟩ -
  skip
  refine x_istore_n C d_XR_takeBackNext_7 rfl (by decide) ?_
  refine x_iload_n C d_XR_takeBackNext_8 rfl rfl ?_
  refine x_if_eq (tgt := 20) C d_XR_takeBackNext_9 rfl (fun h9 => ?_) (fun h9 => ?_)
  · exact x_vret rt d_XR_takeBackNext_20 (by omega) (by omega) ⟨rfl, rfl, by simp only [f_undo]; first | (rw [if_pos h9]; done) | (rw [if_neg h9]; done)⟩
  · have hzz := hz h9
    refine x_aload_n C d_XR_takeBackNext_12 rfl rfl ?_
    refine x_getC C 1 34 cf_XR fl_XR_19 d_XR_takeBackNext_13 rfl rfl rfl (by omega) (by omega) rfl ?_
    refine x_iload_n C d_XR_takeBackNext_16 rfl rfl ?_
    refine x_callV C cl_XR_84 cb_XP_takeBack cs_XP_takeBack d_XR_takeBackNext_17 (c_XP_takeBack hn hg.1 hg.2 hzz.2.1 hzz.2.2 hB h0 hzz.1) rfl rfl rfl rfl (by first | rfl | exact lx_T (by omega) | exact lx_C (by omega) (by omega) (by omega)) (by omega) (by omega) (by decide) (by decide) (Nat.le_of_ble_eq_true rfl) (by omega) (by omega) ?_
    rintro _ _ _ ⟨rfl, rfl, rfl⟩ -
    skip
    exact x_vret rt d_XR_takeBackNext_20 (by omega) (by omega) ⟨rfl, rfl, by simp only [f_undo]; first | (rw [if_pos h9]; done) | (rw [if_neg h9]; done)⟩
theorem c_XR_makeUnit {n : Nat} {σ : Hp} (hn : 85 ≤ n) (hA : σ 83 3 = 0 → Ok LyX TX y_XR_analyse b_XR_analyse 2 none 3 0 0 [.inr 83] n σ (pV n (f_analyse σ))) (hR : ¬ σ 83 3 = 0 → σ 83 4 ≤ σ 83 5 → Ok LyX TX y_XR_repeatNext b_XR_repeatNext 3 none 5 0 0 [.inr 83] n σ (pV n (f_repeat σ))) (hU : ¬ σ 83 3 = 0 → ¬ σ 83 4 ≤ σ 83 5 → Ok LyX TX y_XR_takeBackNext b_XR_takeBackNext 2 none 5 0 0 [.inr 83] n σ (pV n (f_undo σ))) : Ok LyX TX y_XR_makeUnit b_XR_makeUnit 1 none 6 0 0 [.inr 83] n σ (pV n (f_unit σ)) := by
  refine ok_mk (by decide) (Nat.le_of_ble_eq_true rfl) (fun K C rt ha hok hfx => ?_)
  show XW LyX TX K n σ 0 0 0 [some (.inr 83)] []
  refine x_aload_n C d_XR_makeUnit_0 rfl rfl ?_
  refine x_getI C 3 cf_XR fl_XR_23 d_XR_makeUnit_1 rfl (by decide) rfl rfl (by omega) (by omega) (fun r1 => ?_)
  refine x_if_ne (tgt := 14) C d_XR_makeUnit_4 rfl (fun h4 => ?_) (fun h4 => ?_)
  · refine x_aload_n C d_XR_makeUnit_14 rfl rfl ?_
    refine x_getI C 4 cf_XR fl_XR_27 d_XR_makeUnit_15 rfl (by decide) rfl rfl (by omega) (by omega) (fun r15 => ?_)
    refine x_aload_n C d_XR_makeUnit_18 rfl rfl ?_
    refine x_getI C 5 cf_XR fl_XR_31 d_XR_makeUnit_19 rfl (by decide) rfl rfl (by omega) (by omega) (fun r19 => ?_)
    refine x_icmp_gt (tgt := 32) C d_XR_makeUnit_22 rfl (fun h22 => ?_) (fun h22 => ?_)
    · refine x_aload_n C d_XR_makeUnit_32 rfl rfl ?_
      refine x_callV C cl_XR_46 cb_XR_takeBackNext cs_XR_takeBackNext d_XR_makeUnit_33 (hU h4 (by omega)) rfl rfl rfl rfl (by first | rfl | exact lx_T (by omega) | exact lx_C (by omega) (by omega) (by omega)) (by omega) (by omega) (by decide) (by decide) (Nat.le_of_ble_eq_true rfl) (by omega) (by omega) ?_
      rintro _ _ _ ⟨rfl, rfl, rfl⟩ -
      skip
      exact x_vret rt d_XR_makeUnit_36 (by omega) (by omega) ⟨rfl, rfl, by simp only [f_unit]; first | (rw [if_pos h4]; done) | (rw [if_neg h4, if_pos h22]; done) | (rw [if_neg h4, if_neg (by omega)]; done)⟩
    · refine x_aload_n C d_XR_makeUnit_25 rfl rfl ?_
      refine x_callV C cl_XR_43 cb_XR_repeatNext cs_XR_repeatNext d_XR_makeUnit_26 (hR h4 h22) rfl rfl rfl rfl (by first | rfl | exact lx_T (by omega) | exact lx_C (by omega) (by omega) (by omega)) (by omega) (by omega) (by decide) (by decide) (Nat.le_of_ble_eq_true rfl) (by omega) (by omega) ?_
      rintro _ _ _ ⟨rfl, rfl, rfl⟩ -
      skip
      refine x_goto (tgt := 36) C d_XR_makeUnit_29 rfl ?_
      exact x_vret rt d_XR_makeUnit_36 (by omega) (by omega) ⟨rfl, rfl, by simp only [f_unit]; first | (rw [if_pos h4]; done) | (rw [if_neg h4, if_pos h22]; done) | (rw [if_neg h4, if_neg (by omega)]; done)⟩
  · refine x_aload_n C d_XR_makeUnit_7 rfl rfl ?_
    refine x_callV C cl_XR_40 cb_XR_analyse cs_XR_analyse d_XR_makeUnit_8 (hA h4) rfl rfl rfl rfl (by first | rfl | exact lx_T (by omega) | exact lx_C (by omega) (by omega) (by omega)) (by omega) (by omega) (by decide) (by decide) (Nat.le_of_ble_eq_true rfl) (by omega) (by omega) ?_
    rintro _ _ _ ⟨rfl, rfl, rfl⟩ -
    skip
    refine x_goto (tgt := 36) C d_XR_makeUnit_11 rfl ?_
    exact x_vret rt d_XR_makeUnit_36 (by omega) (by omega) ⟨rfl, rfl, by simp only [f_unit]; first | (rw [if_pos h4]; done) | (rw [if_neg h4, if_pos h22]; done) | (rw [if_neg h4, if_neg (by omega)]; done)⟩

