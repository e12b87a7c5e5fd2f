-- ===== the class: looks, granting =====
theorem c_X_isKey {n : Nat} {σ : Hp} {k : Int} : Ok LyX TX y_X_isKey b_X_isKey 1 (some .boolean) 1 0 0 [.inl k] n σ (pI n σ (if 0 ≤ k ∧ k < 100 then 1 else 0)) := by
  refine ok_mk (by decide) (Nat.le_of_ble_eq_true rfl) (fun K C rt ha hok hfx => ?_)
  show XW LyX TX K n σ 0 0 0 [some (.inl k)] []
  refine x_iload_n C d_X_isKey_0 rfl rfl ?_
  refine x_if_lt (tgt := 14) C d_X_isKey_1 rfl (fun h1 => ?_) (fun h1 => ?_)
  · refine x_iconst C d_X_isKey_14 (by decide) ?_
    exact x_zret rt d_X_isKey_15 (by omega) (by omega) ⟨by decide, by decide⟩ ⟨by first | (rw [if_pos (by omega)]; done) | (rw [if_neg (by omega)]; done), rfl, rfl⟩
  · refine x_iload_n C d_X_isKey_4 rfl rfl ?_
    refine x_bipush C d_X_isKey_5 (by decide) (by decide) ?_
    refine x_icmp_ge (tgt := 14) C d_X_isKey_7 rfl (fun h7 => ?_) (fun h7 => ?_)
    · refine x_iconst C d_X_isKey_14 (by decide) ?_
      exact x_zret rt d_X_isKey_15 (by omega) (by omega) ⟨by decide, by decide⟩ ⟨by first | (rw [if_pos (by omega)]; done) | (rw [if_neg (by omega)]; done), rfl, rfl⟩
    · refine x_iconst C d_X_isKey_10 (by decide) ?_
      refine x_goto (tgt := 15) C d_X_isKey_11 rfl ?_
      exact x_zret rt d_X_isKey_15 (by omega) (by omega) ⟨by decide, by decide⟩ ⟨by first | (rw [if_pos (by omega)]; done) | (rw [if_neg (by omega)]; done), rfl, rfl⟩
theorem c_X_isPage {n : Nat} {σ : Hp} {k : Int} : Ok LyX TX y_X_isPage b_X_isPage 1 (some .boolean) 1 0 0 [.inl k] n σ (pI n σ (if 0 ≤ k ∧ k < 6 then 1 else 0)) := by
  refine ok_mk (by decide) (Nat.le_of_ble_eq_true rfl) (fun K C rt ha hok hfx => ?_)
  show XW LyX TX K n σ 0 0 0 [some (.inl k)] []
  refine x_iload_n C d_X_isPage_0 rfl rfl ?_
  refine x_if_lt (tgt := 14) C d_X_isPage_1 rfl (fun h1 => ?_) (fun h1 => ?_)
  · refine x_iconst C d_X_isPage_14 (by decide) ?_
    exact x_zret rt d_X_isPage_15 (by omega) (by omega) ⟨by decide, by decide⟩ ⟨by first | (rw [if_pos (by omega)]; done) | (rw [if_neg (by omega)]; done), rfl, rfl⟩
  · refine x_iload_n C d_X_isPage_4 rfl rfl ?_
    refine x_bipush C d_X_isPage_5 (by decide) (by decide) ?_
    refine x_icmp_ge (tgt := 14) C d_X_isPage_7 rfl (fun h7 => ?_) (fun h7 => ?_)
    · refine x_iconst C d_X_isPage_14 (by decide) ?_
      exact x_zret rt d_X_isPage_15 (by omega) (by omega) ⟨by decide, by decide⟩ ⟨by first | (rw [if_pos (by omega)]; done) | (rw [if_neg (by omega)]; done), rfl, rfl⟩
    · refine x_iconst C d_X_isPage_10 (by decide) ?_
      refine x_goto (tgt := 15) C d_X_isPage_11 rfl ?_
      exact x_zret rt d_X_isPage_15 (by omega) (by omega) ⟨by decide, by decide⟩ ⟨by first | (rw [if_pos (by omega)]; done) | (rw [if_neg (by omega)]; done), rfl, rfl⟩
theorem c_X_find {n : Nat} {σ : Hp} {t : Int} (hF : xF n σ) : Ok LyX TX y_X_find b_X_find 2 (some (.object "LogStore$Transaction")) 1 0 0 [.inr 1, .inl t] n σ (fun r n' σ' => r = some (.inr (f_find σ t)) ∧ n' = n ∧ σ = σ') := by
  refine ok_mk (by decide) (Nat.le_of_ble_eq_true rfl) (fun K C rt ha hok hfx => ?_)
  show XW LyX TX K n σ 0 0 0 [some (.inr 1), some (.inl t)] []
  obtain ⟨f0, f1, f2, f3⟩ := hF
  refine x_iload_n C d_X_find_0 rfl rfl ?_
  refine x_iconst C d_X_find_1 (by decide) ?_
  refine x_icmp_lt (tgt := 22) C d_X_find_2 rfl (fun h2 => ?_) (fun h2 => ?_)
  · refine x_null C d_X_find_22 ?_
    exact x_aret rt d_X_find_23 (by omega) (by omega) ⟨by simp only [f_find]; first | (rw [if_pos ⟨by omega, by omega⟩, f3 t (by omega) (by omega)]; done) | (rw [if_neg (by omega)]; done), rfl, rfl⟩
  · refine x_iload_n C d_X_find_5 rfl rfl ?_
    refine x_aload_n C d_X_find_6 rfl rfl ?_
    refine x_getI C 5 cf_X fl_X_55 d_X_find_7 rfl (by decide) rfl rfl (by omega) (by omega) (fun r7 => ?_)
    refine x_icmp_gt (tgt := 22) C d_X_find_10 rfl (fun h10 => ?_) (fun h10 => ?_)
    · refine x_null C d_X_find_22 ?_
      exact x_aret rt d_X_find_23 (by omega) (by omega) ⟨by simp only [f_find]; first | (rw [if_pos ⟨by omega, by omega⟩, f3 t (by omega) (by omega)]; done) | (rw [if_neg (by omega)]; done), rfl, rfl⟩
    · refine x_aload_n C d_X_find_13 rfl rfl ?_
      refine x_getC C 4 85 cf_X fl_X_43 d_X_find_14 rfl rfl rfl (by omega) (by omega) rfl ?_
      refine x_iload_n C d_X_find_17 rfl rfl ?_
      refine x_aald C d_X_find_18 (by first | rfl | exact lx_A (by omega) (by omega) (by omega) | exact lx_H (by omega) (by omega) | exact lx_K (by omega) (by omega)) (by decide) (by omega) (by omega) (by omega) (by omega) (fun r18 => ?_)
      refine x_goto (tgt := 23) C d_X_find_19 rfl ?_
      exact x_aret rt d_X_find_23 (by omega) (by omega) ⟨by simp only [f_find]; first | (rw [if_pos ⟨by omega, by omega⟩, f3 t (by omega) (by omega)]; done) | (rw [if_neg (by omega)]; done), rfl, rfl⟩
theorem c_X_state {n : Nat} {σ : Hp} {t : Int} (hF : xF n σ) : Ok LyX TX y_X_state b_X_state 3 (some .int) 2 0 0 [.inr 1, .inl t] n σ (pI n σ (if 1 ≤ t ∧ t ≤ σ 1 5 then σ (85 + t) 2 else 0)) := by
  refine ok_mk (by decide) (Nat.le_of_ble_eq_true rfl) (fun K C rt ha hok hfx => ?_)
  show XW LyX TX K n σ 0 0 0 [some (.inr 1), some (.inl t), none] []
  have hF0 := hF
  obtain ⟨f0, f1, f2, f3⟩ := hF0
  by_cases ht : 1 ≤ t ∧ t ≤ σ 1 5
  · have hf : f_find σ t = 85 + t := if_pos ht
    refine x_aload_n C d_X_state_0 rfl rfl ?_
    refine x_iload_n C d_X_state_1 rfl rfl ?_
    refine x_callV C cl_X_73 cb_X_find cs_X_find d_X_state_2 (c_X_find hF) rfl rfl rfl rfl (by first | rfl | exact lx_T (by omega) | exact lx_C (by omega) (by omega) (by omega)) (by omega) (by omega) (by decide) (by decide) (Nat.le_of_ble_eq_true rfl) (by omega) (by omega) ?_
    rintro _ _ _ ⟨rfl, rfl, rfl⟩ -
    skip
    rw [hf]
    refine x_astore_n C d_X_state_5 rfl (by decide) ?_
    refine x_aload_n C d_X_state_6 rfl rfl ?_
    refine x_ifnonnull (tgt := 14) C d_X_state_7 rfl (fun h7 => ?_) (fun h7 => ?_)
    · refine x_aload_n C d_X_state_14 rfl rfl ?_
      refine x_getI C 2 cf_XT fl_X_77 d_X_state_15 rfl (by decide) rfl (by first | rfl | exact lx_T (by omega) | exact lx_C (by omega) (by omega) (by omega)) (by omega) (by omega) (fun r15 => ?_)
      exact x_iret rt d_X_state_18 (by omega) (by omega) ⟨by rw [if_pos ht], rfl, rfl⟩
    · exact absurd h7 (by omega)
  · have hf : f_find σ t = 0 := if_neg ht
    refine x_aload_n C d_X_state_0 rfl rfl ?_
    refine x_iload_n C d_X_state_1 rfl rfl ?_
    refine x_callV C cl_X_73 cb_X_find cs_X_find d_X_state_2 (c_X_find hF) rfl rfl rfl rfl (by first | rfl | exact lx_T (by omega) | exact lx_C (by omega) (by omega) (by omega)) (by omega) (by omega) (by decide) (by decide) (Nat.le_of_ble_eq_true rfl) (by omega) (by omega) ?_
    rintro _ _ _ ⟨rfl, rfl, rfl⟩ -
    skip
    rw [hf]
    refine x_astore_n C d_X_state_5 rfl (by decide) ?_
    refine x_aload_n C d_X_state_6 rfl rfl ?_
    refine x_ifnonnull (tgt := 14) C d_X_state_7 rfl (fun h7 => ?_) (fun h7 => ?_)
    · exact absurd rfl h7
    · refine x_iconst C d_X_state_10 (by decide) ?_
      refine x_goto (tgt := 18) C d_X_state_11 rfl ?_
      exact x_iret rt d_X_state_18 (by omega) (by omega) ⟨by rw [if_neg ht], rfl, rfl⟩
theorem c_X_outcome {n : Nat} {σ : Hp} {t : Int} (hF : xF n σ) : Ok LyX TX y_X_outcome b_X_outcome 3 (some .int) 2 0 0 [.inr 1, .inl t] n σ (pI n σ (if 1 ≤ t ∧ t ≤ σ 1 5 then σ (85 + t) 3 else -1)) := by
  refine ok_mk (by decide) (Nat.le_of_ble_eq_true rfl) (fun K C rt ha hok hfx => ?_)
  show XW LyX TX K n σ 0 0 0 [some (.inr 1), some (.inl t), none] []
  have hF0 := hF
  obtain ⟨f0, f1, f2, f3⟩ := hF0
  by_cases ht : 1 ≤ t ∧ t ≤ σ 1 5
  · have hf : f_find σ t = 85 + t := if_pos ht
    refine x_aload_n C d_X_outcome_0 rfl rfl ?_
    refine x_iload_n C d_X_outcome_1 rfl rfl ?_
    refine x_callV C cl_X_73 cb_X_find cs_X_find d_X_outcome_2 (c_X_find hF) rfl rfl rfl rfl (by first | rfl | exact lx_T (by omega) | exact lx_C (by omega) (by omega) (by omega)) (by omega) (by omega) (by decide) (by decide) (Nat.le_of_ble_eq_true rfl) (by omega) (by omega) ?_
    rintro _ _ _ ⟨rfl, rfl, rfl⟩ -
    skip
    rw [hf]
    refine x_astore_n C d_X_outcome_5 rfl (by decide) ?_
    refine x_aload_n C d_X_outcome_6 rfl rfl ?_
    refine x_ifnonnull (tgt := 14) C d_X_outcome_7 rfl (fun h7 => ?_) (fun h7 => ?_)
    · refine x_aload_n C d_X_outcome_14 rfl rfl ?_
      refine x_getI C 3 cf_XT fl_X_148 d_X_outcome_15 rfl (by decide) rfl (by first | rfl | exact lx_T (by omega) | exact lx_C (by omega) (by omega) (by omega)) (by omega) (by omega) (fun r15 => ?_)
      exact x_iret rt d_X_outcome_18 (by omega) (by omega) ⟨by rw [if_pos ht], rfl, rfl⟩
    · exact absurd h7 (by omega)
  · have hf : f_find σ t = 0 := if_neg ht
    refine x_aload_n C d_X_outcome_0 rfl rfl ?_
    refine x_iload_n C d_X_outcome_1 rfl rfl ?_
    refine x_callV C cl_X_73 cb_X_find cs_X_find d_X_outcome_2 (c_X_find hF) rfl rfl rfl rfl (by first | rfl | exact lx_T (by omega) | exact lx_C (by omega) (by omega) (by omega)) (by omega) (by omega) (by decide) (by decide) (Nat.le_of_ble_eq_true rfl) (by omega) (by omega) ?_
    rintro _ _ _ ⟨rfl, rfl, rfl⟩ -
    skip
    rw [hf]
    refine x_astore_n C d_X_outcome_5 rfl (by decide) ?_
    refine x_aload_n C d_X_outcome_6 rfl rfl ?_
    refine x_ifnonnull (tgt := 14) C d_X_outcome_7 rfl (fun h7 => ?_) (fun h7 => ?_)
    · exact absurd rfl h7
    · refine x_iconst C d_X_outcome_10 (by decide) ?_
      refine x_goto (tgt := 18) C d_X_outcome_11 rfl ?_
      exact x_iret rt d_X_outcome_18 (by omega) (by omega) ⟨by rw [if_neg ht], rfl, rfl⟩
theorem c_X_value {n : Nat} {σ : Hp} {t : Int} (hF : xF n σ) : Ok LyX TX y_X_value b_X_value 3 (some .int) 2 0 0 [.inr 1, .inl t] n σ (pI n σ (if 1 ≤ t ∧ t ≤ σ 1 5 then σ (85 + t) 4 else 0)) := by
  refine ok_mk (by decide) (Nat.le_of_ble_eq_true rfl) (fun K C rt ha hok hfx => ?_)
  show XW LyX TX K n σ 0 0 0 [some (.inr 1), some (.inl t), none] []
  have hF0 := hF
  obtain ⟨f0, f1, f2, f3⟩ := hF0
  by_cases ht : 1 ≤ t ∧ t ≤ σ 1 5
  · have hf : f_find σ t = 85 + t := if_pos ht
    refine x_aload_n C d_X_value_0 rfl rfl ?_
    refine x_iload_n C d_X_value_1 rfl rfl ?_
    refine x_callV C cl_X_73 cb_X_find cs_X_find d_X_value_2 (c_X_find hF) rfl rfl rfl rfl (by first | rfl | exact lx_T (by omega) | exact lx_C (by omega) (by omega) (by omega)) (by omega) (by omega) (by decide) (by decide) (Nat.le_of_ble_eq_true rfl) (by omega) (by omega) ?_
    rintro _ _ _ ⟨rfl, rfl, rfl⟩ -
    skip
    rw [hf]
    refine x_astore_n C d_X_value_5 rfl (by decide) ?_
    refine x_aload_n C d_X_value_6 rfl rfl ?_
    refine x_ifnonnull (tgt := 14) C d_X_value_7 rfl (fun h7 => ?_) (fun h7 => ?_)
    · refine x_aload_n C d_X_value_14 rfl rfl ?_
      refine x_getI C 4 cf_XT fl_X_151 d_X_value_15 rfl (by decide) rfl (by first | rfl | exact lx_T (by omega) | exact lx_C (by omega) (by omega) (by omega)) (by omega) (by omega) (fun r15 => ?_)
      exact x_iret rt d_X_value_18 (by omega) (by omega) ⟨by rw [if_pos ht], rfl, rfl⟩
    · exact absurd h7 (by omega)
  · have hf : f_find σ t = 0 := if_neg ht
    refine x_aload_n C d_X_value_0 rfl rfl ?_
    refine x_iload_n C d_X_value_1 rfl rfl ?_
    refine x_callV C cl_X_73 cb_X_find cs_X_find d_X_value_2 (c_X_find hF) rfl rfl rfl rfl (by first | rfl | exact lx_T (by omega) | exact lx_C (by omega) (by omega) (by omega)) (by omega) (by omega) (by decide) (by decide) (Nat.le_of_ble_eq_true rfl) (by omega) (by omega) ?_
    rintro _ _ _ ⟨rfl, rfl, rfl⟩ -
    skip
    rw [hf]
    refine x_astore_n C d_X_value_5 rfl (by decide) ?_
    refine x_aload_n C d_X_value_6 rfl rfl ?_
    refine x_ifnonnull (tgt := 14) C d_X_value_7 rfl (fun h7 => ?_) (fun h7 => ?_)
    · exact absurd rfl h7
    · refine x_iconst C d_X_value_10 (by decide) ?_
      refine x_goto (tgt := 18) C d_X_value_11 rfl ?_
      exact x_iret rt d_X_value_18 (by omega) (by omega) ⟨by rw [if_neg ht], rfl, rfl⟩
theorem c_X_up {n : Nat} {σ : Hp} (hn : 85 ≤ n) (u0 : 0 ≤ σ 1 8) (u1 : σ 1 8 ≤ 1) : Ok LyX TX y_X_up b_X_up 1 (some .boolean) 1 0 0 [.inr 1] n σ (pI n σ (σ 1 8)) := by
  refine ok_mk (by decide) (Nat.le_of_ble_eq_true rfl) (fun K C rt ha hok hfx => ?_)
  show XW LyX TX K n σ 0 0 0 [some (.inr 1)] []
  refine x_aload_n C d_X_up_0 rfl rfl ?_
  refine x_getI C 8 cf_X fl_X_47 d_X_up_1 rfl (by decide) rfl rfl (by omega) (by omega) (fun r1 => ?_)
  exact x_zret rt d_X_up_4 (by omega) (by omega) ⟨u0, u1⟩ ⟨rfl, rfl, rfl⟩
theorem c_X_place {n : Nat} {σ : Hp} {key : Int} (hn : 85 ≤ n) : Ok LyX TX y_X_place b_X_place 2 (some .int) 4 0 0 [.inr 1, .inl key] n σ (pI n σ (if 0 ≤ key ∧ key < 100 then f_placeOf σ key else -1)) := by
  refine ok_mk (by decide) (Nat.le_of_ble_eq_true rfl) (fun K C rt ha hok hfx => ?_)
  show XW LyX TX K n σ 0 0 0 [some (.inr 1), some (.inl key)] []
  by_cases hk : 0 ≤ key ∧ key < 100
  · rw [if_pos hk] at rt
    refine x_iload_n C d_X_place_0 rfl rfl ?_
    refine x_callS C cl_X_161 cb_X_isKey cs_X_isKey d_X_place_1 (c_X_isKey) rfl rfl (by decide) (by decide) (Nat.le_of_ble_eq_true rfl) (by omega) (by omega) ?_
    rintro _ _ _ ⟨rfl, rfl, rfl⟩ -
    skip
    rw [if_pos hk]
    refine x_if_eq (tgt := 18) C d_X_place_4 rfl (fun h4 => ?_) (fun h4 => ?_)
    · exact absurd h4 (by decide)
    · refine x_aload_n C d_X_place_7 rfl rfl ?_
      refine x_getC C 1 34 cf_X fl_X_21 d_X_place_8 rfl rfl rfl (by omega) (by omega) rfl ?_
      refine x_iload_n C d_X_place_11 rfl rfl ?_
      refine x_callV C cl_X_164 cb_XP_placeOf cs_XP_placeOf d_X_place_12 (c_XP_placeOf hn) rfl rfl rfl rfl (by first | rfl | exact lx_T (by omega) | exact lx_C (by omega) (by omega) (by omega)) (by omega) (by omega) (by decide) (by decide) (Nat.le_of_ble_eq_true rfl) (by omega) (by omega) ?_
      rintro _ _ _ ⟨rfl, rfl, rfl⟩ -
      skip
      refine x_goto (tgt := 19) C d_X_place_15 rfl ?_
      exact x_iret rt d_X_place_19 (by omega) (by omega) ⟨rfl, rfl, rfl⟩
  · rw [if_neg hk] at rt
    refine x_iload_n C d_X_place_0 rfl rfl ?_
    refine x_callS C cl_X_161 cb_X_isKey cs_X_isKey d_X_place_1 (c_X_isKey) rfl rfl (by decide) (by decide) (Nat.le_of_ble_eq_true rfl) (by omega) (by omega) ?_
    rintro _ _ _ ⟨rfl, rfl, rfl⟩ -
    skip
    rw [if_neg hk]
    refine x_if_eq (tgt := 18) C d_X_place_4 rfl (fun h4 => ?_) (fun h4 => ?_)
    · refine x_iconst C d_X_place_18 (by decide) ?_
      exact x_iret rt d_X_place_19 (by omega) (by omega) ⟨rfl, rfl, rfl⟩
    · exact absurd rfl h4
theorem c_X_stored {n : Nat} {σ : Hp} {key : Int} (hn : 85 ≤ n) : Ok LyX TX y_X_stored b_X_stored 3 (some .int) 5 0 0 [.inr 1, .inl key] n σ (pI n σ (if (if 0 ≤ key ∧ key < 100 then f_placeOf σ key else -1) = -1 then 0 else f_valueAt σ (if 0 ≤ key ∧ key < 100 then f_placeOf σ key else -1))) := by
  refine ok_mk (by decide) (Nat.le_of_ble_eq_true rfl) (fun K C rt ha hok hfx => ?_)
  show XW LyX TX K n σ 0 0 0 [some (.inr 1), some (.inl key), none] []
  have hb : (if 0 ≤ key ∧ key < 100 then f_placeOf σ key else -1) = -1 ∨ (0 ≤ (if 0 ≤ key ∧ key < 100 then f_placeOf σ key else -1) ∧ (if 0 ≤ key ∧ key < 100 then f_placeOf σ key else -1) < 24) := by
    split
    · exact f_placeOf_b σ key
    · left; rfl
  have hP := c_X_place (n := n) (σ := σ) (key := key) hn
  generalize (if 0 ≤ key ∧ key < 100 then f_placeOf σ key else -1) = x at *
  refine x_aload_n C d_X_stored_0 rfl rfl ?_
  refine x_iload_n C d_X_stored_1 rfl rfl ?_
  refine x_callV C cl_X_154 cb_X_place cs_X_place d_X_stored_2 (hP) rfl rfl rfl rfl (by first | rfl | exact lx_T (by omega) | exact lx_C (by omega) (by omega) (by omega)) (by omega) (by omega) (by decide) (by decide) (Nat.le_of_ble_eq_true rfl) (by omega) (by omega) ?_
  rintro _ _ _ ⟨rfl, rfl, rfl⟩ -
  skip
  refine x_istore_n C d_X_stored_5 rfl (by decide) ?_
  refine x_iload_n C d_X_stored_6 rfl rfl ?_
  refine x_iconst C d_X_stored_7 (by decide) ?_
  refine x_icmp_ne (tgt := 15) C d_X_stored_8 rfl (fun h8 => ?_) (fun h8 => ?_)
  · refine x_aload_n C d_X_stored_15 rfl rfl ?_
    refine x_getC C 1 34 cf_X fl_X_21 d_X_stored_16 rfl rfl rfl (by omega) (by omega) rfl ?_
    refine x_iload_n C d_X_stored_19 rfl rfl ?_
    refine x_callV C cl_X_158 cb_XP_valueAt cs_XP_valueAt d_X_stored_20 (c_XP_valueAt hn (by omega) (by omega)) rfl rfl rfl rfl (by first | rfl | exact lx_T (by omega) | exact lx_C (by omega) (by omega) (by omega)) (by omega) (by omega) (by decide) (by decide) (Nat.le_of_ble_eq_true rfl) (by omega) (by omega) ?_
    rintro _ _ _ ⟨rfl, rfl, rfl⟩ -
    skip
    exact x_iret rt d_X_stored_23 (by omega) (by omega) ⟨by first | (rw [if_pos h8]; done) | (rw [if_neg h8]; done), rfl, rfl⟩
  · refine x_iconst C d_X_stored_11 (by decide) ?_
    refine x_goto (tgt := 23) C d_X_stored_12 rfl ?_
    exact x_iret rt d_X_stored_23 (by omega) (by omega) ⟨by first | (rw [if_pos h8]; done) | (rw [if_neg h8]; done), rfl, rfl⟩
theorem c_X_after {n : Nat} {σ : Hp} {key : Int} (hn : 85 ≤ n) : Ok LyX TX y_X_after b_X_after 2 (some .int) 4 0 0 [.inr 1, .inl key] n σ (pI n σ (if σ 1 8 = 0 then -1 else f_lka σ key 24)) := by
  refine ok_mk (by decide) (Nat.le_of_ble_eq_true rfl) (fun K C rt ha hok hfx => ?_)
  show XW LyX TX K n σ 0 0 0 [some (.inr 1), some (.inl key)] []
  refine x_aload_n C d_X_after_0 rfl rfl ?_
  refine x_getI C 8 cf_X fl_X_47 d_X_after_1 rfl (by decide) rfl rfl (by omega) (by omega) (fun r1 => ?_)
  refine x_if_eq (tgt := 18) C d_X_after_4 rfl (fun h4 => ?_) (fun h4 => ?_)
  · refine x_iconst C d_X_after_18 (by decide) ?_
    exact x_iret rt d_X_after_19 (by omega) (by omega) ⟨by first | (rw [if_pos h4]; done) | (rw [if_neg h4]; done), rfl, rfl⟩
  · refine x_aload_n C d_X_after_7 rfl rfl ?_
    refine x_getC C 1 34 cf_X fl_X_21 d_X_after_8 rfl rfl rfl (by omega) (by omega) rfl ?_
    refine x_iload_n C d_X_after_11 rfl rfl ?_
    refine x_callV C cl_X_167 cb_XP_leastKeyAbove cs_XP_leastKeyAbove d_X_after_12 (c_XP_leastKeyAbove hn) rfl rfl rfl rfl (by first | rfl | exact lx_T (by omega) | exact lx_C (by omega) (by omega) (by omega)) (by omega) (by omega) (by decide) (by decide) (Nat.le_of_ble_eq_true rfl) (by omega) (by omega) ?_
    rintro _ _ _ ⟨rfl, rfl, rfl⟩ -
    skip
    refine x_goto (tgt := 19) C d_X_after_15 rfl ?_
    exact x_iret rt d_X_after_19 (by omega) (by omega) ⟨by first | (rw [if_pos h4]; done) | (rw [if_neg h4]; done), rfl, rfl⟩
theorem c_X_count {n : Nat} {σ : Hp} {w : Int} (hn : 85 ≤ n) : Ok LyX TX y_X_count b_X_count 2 (some .int) 1 0 0 [.inr 1, .inl w] n σ (pI n σ (if w = 0 then σ 2 11 else if w = 1 then σ 2 12 else if w = 2 then σ 34 7 else if w = 3 then σ 34 8 else -1)) := by
  refine ok_mk (by decide) (Nat.le_of_ble_eq_true rfl) (fun K C rt ha hok hfx => ?_)
  show XW LyX TX K n σ 0 0 0 [some (.inr 1), some (.inl w)] []
  refine x_iload_n C d_X_count_0 rfl rfl ?_
  by_cases h1 : 0 ≤ w ∧ w ≤ 3
  · rcases (show w = 0 ∨ w = 1 ∨ w = 2 ∨ w = 3 by omega) with h1x | h1x | h1x | h1x
    · refine x_table (off := 31) (tgt := 32) C d_X_count_1 (Or.inl ⟨by omega, by omega, by rw [h1x]; rfl⟩) rfl ?_
      refine x_aload_n C d_X_count_32 rfl rfl ?_
      refine x_getC C 0 2 cf_X fl_X_12 d_X_count_33 rfl rfl rfl (by omega) (by omega) rfl ?_
      refine x_getI C 11 cf_XL fl_X_87 d_X_count_36 rfl (by decide) rfl rfl (by omega) (by omega) (fun r36 => ?_)
      exact x_iret rt d_X_count_39 (by omega) (by omega) ⟨by first | (rw [if_pos h1x]; done) | (rw [if_neg (by omega), if_pos h1x]; done) | (rw [if_neg (by omega), if_neg (by omega), if_pos h1x]; done) | (rw [if_neg (by omega), if_neg (by omega), if_neg (by omega), if_pos h1x]; done) | (rw [if_neg (by omega), if_neg (by omega), if_neg (by omega), if_neg (by omega)]; done), rfl, rfl⟩
    · refine x_table (off := 39) (tgt := 40) C d_X_count_1 (Or.inl ⟨by omega, by omega, by rw [h1x]; rfl⟩) rfl ?_
      refine x_aload_n C d_X_count_40 rfl rfl ?_
      refine x_getC C 0 2 cf_X fl_X_12 d_X_count_41 rfl rfl rfl (by omega) (by omega) rfl ?_
      refine x_getI C 12 cf_XL fl_X_117 d_X_count_44 rfl (by decide) rfl rfl (by omega) (by omega) (fun r44 => ?_)
      exact x_iret rt d_X_count_47 (by omega) (by omega) ⟨by first | (rw [if_pos h1x]; done) | (rw [if_neg (by omega), if_pos h1x]; done) | (rw [if_neg (by omega), if_neg (by omega), if_pos h1x]; done) | (rw [if_neg (by omega), if_neg (by omega), if_neg (by omega), if_pos h1x]; done) | (rw [if_neg (by omega), if_neg (by omega), if_neg (by omega), if_neg (by omega)]; done), rfl, rfl⟩
    · refine x_table (off := 47) (tgt := 48) C d_X_count_1 (Or.inl ⟨by omega, by omega, by rw [h1x]; rfl⟩) rfl ?_
      refine x_aload_n C d_X_count_48 rfl rfl ?_
      refine x_getC C 1 34 cf_X fl_X_21 d_X_count_49 rfl rfl rfl (by omega) (by omega) rfl ?_
      refine x_getI C 7 cf_XP fl_X_170 d_X_count_52 rfl (by decide) rfl rfl (by omega) (by omega) (fun r52 => ?_)
      exact x_iret rt d_X_count_55 (by omega) (by omega) ⟨by first | (rw [if_pos h1x]; done) | (rw [if_neg (by omega), if_pos h1x]; done) | (rw [if_neg (by omega), if_neg (by omega), if_pos h1x]; done) | (rw [if_neg (by omega), if_neg (by omega), if_neg (by omega), if_pos h1x]; done) | (rw [if_neg (by omega), if_neg (by omega), if_neg (by omega), if_neg (by omega)]; done), rfl, rfl⟩
    · refine x_table (off := 55) (tgt := 56) C d_X_count_1 (Or.inl ⟨by omega, by omega, by rw [h1x]; rfl⟩) rfl ?_
      refine x_aload_n C d_X_count_56 rfl rfl ?_
      refine x_getC C 1 34 cf_X fl_X_21 d_X_count_57 rfl rfl rfl (by omega) (by omega) rfl ?_
      refine x_getI C 8 cf_XP fl_X_173 d_X_count_60 rfl (by decide) rfl rfl (by omega) (by omega) (fun r60 => ?_)
      exact x_iret rt d_X_count_63 (by omega) (by omega) ⟨by first | (rw [if_pos h1x]; done) | (rw [if_neg (by omega), if_pos h1x]; done) | (rw [if_neg (by omega), if_neg (by omega), if_pos h1x]; done) | (rw [if_neg (by omega), if_neg (by omega), if_neg (by omega), if_pos h1x]; done) | (rw [if_neg (by omega), if_neg (by omega), if_neg (by omega), if_neg (by omega)]; done), rfl, rfl⟩
  · refine x_table (off := 63) (tgt := 64) C d_X_count_1 (Or.inr ⟨by omega, rfl⟩) rfl ?_
    refine x_iconst C d_X_count_64 (by decide) ?_
    exact x_iret rt d_X_count_65 (by omega) (by omega) ⟨by first | (rw [if_pos h1x]; done) | (rw [if_neg (by omega), if_pos h1x]; done) | (rw [if_neg (by omega), if_neg (by omega), if_pos h1x]; done) | (rw [if_neg (by omega), if_neg (by omega), if_neg (by omega), if_pos h1x]; done) | (rw [if_neg (by omega), if_neg (by omega), if_neg (by omega), if_neg (by omega)]; done), rfl, rfl⟩
theorem c_X_page {n : Nat} {σ : Hp} {p w : Int} (hn : 85 ≤ n) : Ok LyX TX y_X_page b_X_page 3 (some .int) 2 0 0 [.inr 1, .inl p, .inl w] n σ (pI n σ (if 0 ≤ p ∧ p < 6 then (if w = 0 then (if σ 37 p = 0 then -1 else σ 38 p) else if w = 1 then (if σ 37 p = 0 then -1 else σ (43 + 6 * p) 2) else if w = 2 then σ (40 + 6 * p) 2 else -1) else -1)) := by
  refine ok_mk (by decide) (Nat.le_of_ble_eq_true rfl) (fun K C rt ha hok hfx => ?_)
  show XW LyX TX K n σ 0 0 0 [some (.inr 1), some (.inl p), some (.inl w)] []
  by_cases hp : 0 ≤ p ∧ p < 6
  · rw [if_pos hp] at rt
    obtain ⟨p0, p1⟩ := hp
    refine x_iload_n C d_X_page_0 rfl rfl ?_
    refine x_callS C cl_X_104 cb_X_isPage cs_X_isPage d_X_page_1 (c_X_isPage) rfl rfl (by decide) (by decide) (Nat.le_of_ble_eq_true rfl) (by omega) (by omega) ?_
    rintro _ _ _ ⟨rfl, rfl, rfl⟩ -
    skip
    rw [if_pos ⟨p0, p1⟩]
    refine x_if_ne (tgt := 9) C d_X_page_4 rfl (fun h4 => ?_) (fun h4 => ?_)
    · refine x_iload_n C d_X_page_9 rfl rfl ?_
      by_cases h10 : 0 ≤ w ∧ w ≤ 2
      · rcases (show w = 0 ∨ w = 1 ∨ w = 2 by omega) with h10x | h10x | h10x
        · refine x_table (off := 26) (tgt := 36) C d_X_page_10 (Or.inl ⟨by omega, by omega, by rw [h10x]; rfl⟩) rfl ?_
          refine x_aload_n C d_X_page_36 rfl rfl ?_
          refine x_getC C 1 34 cf_X fl_X_21 d_X_page_37 rfl rfl rfl (by omega) (by omega) rfl ?_
          refine x_getC C 3 37 cf_XP fl_X_176 d_X_page_40 rfl rfl rfl (by omega) (by omega) rfl ?_
          refine x_iload_n C d_X_page_43 rfl rfl ?_
          refine x_zald C d_X_page_44 (by first | rfl | exact lx_A (by omega) (by omega) (by omega) | exact lx_H (by omega) (by omega) | exact lx_K (by omega) (by omega)) (by omega) (by omega) (by omega) (by omega) (fun r44 => ?_)
          refine x_if_eq (tgt := 60) C d_X_page_45 rfl (fun h45 => ?_) (fun h45 => ?_)
          · refine x_iconst C d_X_page_60 (by decide) ?_
            exact x_iret rt d_X_page_61 (by omega) (by omega) ⟨by first | (rw [if_pos h10x, if_neg h45]; done) | (rw [if_pos h10x, if_pos h45]; done) | (rw [if_neg (by omega), if_pos h10x, if_neg h71]; done) | (rw [if_neg (by omega), if_pos h10x, if_pos h71]; done) | (rw [if_neg (by omega), if_neg (by omega), if_pos h10x]; done) | (rw [if_neg (by omega), if_neg (by omega), if_neg (by omega)]; done), rfl, rfl⟩
          · refine x_aload_n C d_X_page_48 rfl rfl ?_
            refine x_getC C 1 34 cf_X fl_X_21 d_X_page_49 rfl rfl rfl (by omega) (by omega) rfl ?_
            refine x_getC C 4 38 cf_XP fl_X_96 d_X_page_52 rfl rfl rfl (by omega) (by omega) rfl ?_
            refine x_iload_n C d_X_page_55 rfl rfl ?_
            refine x_iald C d_X_page_56 (by first | rfl | exact lx_A (by omega) (by omega) (by omega) | exact lx_H (by omega) (by omega) | exact lx_K (by omega) (by omega)) (by omega) (by omega) (by omega) (by omega) (fun r56 => ?_)
            refine x_goto (tgt := 61) C d_X_page_57 rfl ?_
            exact x_iret rt d_X_page_61 (by omega) (by omega) ⟨by first | (rw [if_pos h10x, if_neg h45]; done) | (rw [if_pos h10x, if_pos h45]; done) | (rw [if_neg (by omega), if_pos h10x, if_neg h71]; done) | (rw [if_neg (by omega), if_pos h10x, if_pos h71]; done) | (rw [if_neg (by omega), if_neg (by omega), if_pos h10x]; done) | (rw [if_neg (by omega), if_neg (by omega), if_neg (by omega)]; done), rfl, rfl⟩
        · refine x_table (off := 52) (tgt := 62) C d_X_page_10 (Or.inl ⟨by omega, by omega, by rw [h10x]; rfl⟩) rfl ?_
          refine x_aload_n C d_X_page_62 rfl rfl ?_
          refine x_getC C 1 34 cf_X fl_X_21 d_X_page_63 rfl rfl rfl (by omega) (by omega) rfl ?_
          refine x_getC C 3 37 cf_XP fl_X_176 d_X_page_66 rfl rfl rfl (by omega) (by omega) rfl ?_
          refine x_iload_n C d_X_page_69 rfl rfl ?_
          refine x_zald C d_X_page_70 (by first | rfl | exact lx_A (by omega) (by omega) (by omega) | exact lx_H (by omega) (by omega) | exact lx_K (by omega) (by omega)) (by omega) (by omega) (by omega) (by omega) (fun r70 => ?_)
          refine x_if_eq (tgt := 89) C d_X_page_71 rfl (fun h71 => ?_) (fun h71 => ?_)
          · refine x_iconst C d_X_page_89 (by decide) ?_
            exact x_iret rt d_X_page_90 (by omega) (by omega) ⟨by first | (rw [if_pos h10x, if_neg h45]; done) | (rw [if_pos h10x, if_pos h45]; done) | (rw [if_neg (by omega), if_pos h10x, if_neg h71]; done) | (rw [if_neg (by omega), if_pos h10x, if_pos h71]; done) | (rw [if_neg (by omega), if_neg (by omega), if_pos h10x]; done) | (rw [if_neg (by omega), if_neg (by omega), if_neg (by omega)]; done), rfl, rfl⟩
          · refine x_aload_n C d_X_page_74 rfl rfl ?_
            refine x_getC C 1 34 cf_X fl_X_21 d_X_page_75 rfl rfl rfl (by omega) (by omega) rfl ?_
            refine x_getC C 2 36 cf_XP fl_X_180 d_X_page_78 rfl rfl rfl (by omega) (by omega) rfl ?_
            refine x_iload_n C d_X_page_81 rfl rfl ?_
            refine x_aaldC C _ d_X_page_82 rfl (by decide) (by omega) (by omega) (by omega) (by omega) (tx_F (by omega) (by omega)) ?_
            refine x_getI C 2 cf_XC fl_X_184 d_X_page_83 rfl (by decide) rfl (by first | rfl | exact lx_T (by omega) | exact lx_C (by omega) (by omega) (by omega)) (by omega) (by omega) (fun r83 => ?_)
            refine x_goto (tgt := 90) C d_X_page_86 rfl ?_
            exact x_iret rt d_X_page_90 (by omega) (by omega) ⟨by first | (rw [if_pos h10x, if_neg h45]; done) | (rw [if_pos h10x, if_pos h45]; done) | (rw [if_neg (by omega), if_pos h10x, if_neg h71]; done) | (rw [if_neg (by omega), if_pos h10x, if_pos h71]; done) | (rw [if_neg (by omega), if_neg (by omega), if_pos h10x]; done) | (rw [if_neg (by omega), if_neg (by omega), if_neg (by omega)]; done), rfl, rfl⟩
        · refine x_table (off := 81) (tgt := 91) C d_X_page_10 (Or.inl ⟨by omega, by omega, by rw [h10x]; rfl⟩) rfl ?_
          refine x_aload_n C d_X_page_91 rfl rfl ?_
          refine x_getC C 1 34 cf_X fl_X_21 d_X_page_92 rfl rfl rfl (by omega) (by omega) rfl ?_
          refine x_getC C 1 35 cf_XP fl_X_189 d_X_page_95 rfl rfl rfl (by omega) (by omega) rfl ?_
          refine x_iload_n C d_X_page_98 rfl rfl ?_
          refine x_aaldC C _ d_X_page_99 rfl (by decide) (by omega) (by omega) (by omega) (by omega) (tx_D (by omega) (by omega)) ?_
          refine x_getI C 2 cf_XC fl_X_184 d_X_page_100 rfl (by decide) rfl (by first | rfl | exact lx_T (by omega) | exact lx_C (by omega) (by omega) (by omega)) (by omega) (by omega) (fun r100 => ?_)
          exact x_iret rt d_X_page_103 (by omega) (by omega) ⟨by first | (rw [if_pos h10x, if_neg h45]; done) | (rw [if_pos h10x, if_pos h45]; done) | (rw [if_neg (by omega), if_pos h10x, if_neg h71]; done) | (rw [if_neg (by omega), if_pos h10x, if_pos h71]; done) | (rw [if_neg (by omega), if_neg (by omega), if_pos h10x]; done) | (rw [if_neg (by omega), if_neg (by omega), if_neg (by omega)]; done), rfl, rfl⟩
      · refine x_table (off := 94) (tgt := 104) C d_X_page_10 (Or.inr ⟨by omega, rfl⟩) rfl ?_
        refine x_iconst C d_X_page_104 (by decide) ?_
        exact x_iret rt d_X_page_105 (by omega) (by omega) ⟨by first | (rw [if_pos h10x, if_neg h45]; done) | (rw [if_pos h10x, if_pos h45]; done) | (rw [if_neg (by omega), if_pos h10x, if_neg h71]; done) | (rw [if_neg (by omega), if_pos h10x, if_pos h71]; done) | (rw [if_neg (by omega), if_neg (by omega), if_pos h10x]; done) | (rw [if_neg (by omega), if_neg (by omega), if_neg (by omega)]; done), rfl, rfl⟩
    · exact absurd h4 (by decide)
  · rw [if_neg hp] at rt
    refine x_iload_n C d_X_page_0 rfl rfl ?_
    refine x_callS C cl_X_104 cb_X_isPage cs_X_isPage d_X_page_1 (c_X_isPage) rfl rfl (by decide) (by decide) (Nat.le_of_ble_eq_true rfl) (by omega) (by omega) ?_
    rintro _ _ _ ⟨rfl, rfl, rfl⟩ -
    skip
    rw [if_neg hp]
    refine x_if_ne (tgt := 9) C d_X_page_4 rfl (fun h4 => ?_) (fun h4 => ?_)
    · exact absurd rfl h4
    · refine x_iconst C d_X_page_7 (by decide) ?_
      exact x_iret rt d_X_page_8 (by omega) (by omega) ⟨rfl, rfl, rfl⟩
theorem c_X_readFor {n : Nat} {σ : Hp} {one : Int} (hn : 85 ≤ n) (o0 : 86 ≤ one) (o1 : one ≤ (n : Int)) (hB : xB σ) : Ok LyX TX y_X_readFor b_X_readFor 3 none 4 0 0 [.inr 1, .inr one] n σ (pV n (f_readFor σ one)) := by
  refine ok_mk (by decide) (Nat.le_of_ble_eq_true rfl) (fun K C rt ha hok hfx => ?_)
  show XW LyX TX K n σ 0 0 0 [some (.inr 1), some (.inr one), none] []
  have hb := f_placeOf_b σ (σ one 6)
  have hr : f_readFor σ one = if f_placeOf σ (σ one 6) = -1 then st2 (st2 σ one 4 0) one 3 0 else st2 (st2 (f_fetch σ (f_placeOf σ (σ one 6) / 4)) one 4 (f_valueAt (f_fetch σ (f_placeOf σ (σ one 6) / 4)) (f_placeOf σ (σ one 6)))) one 3 0 := rfl
  have hP := c_XP_placeOf (n := n) (σ := σ) (key := σ one 6) hn
  generalize f_placeOf σ (σ one 6) = x at *
  refine x_aload_n C d_X_readFor_0 rfl rfl ?_
  refine x_getC C 1 34 cf_X fl_X_21 d_X_readFor_1 rfl rfl rfl (by omega) (by omega) rfl ?_
  refine x_aload_n C d_X_readFor_4 rfl rfl ?_
  refine x_getI C 6 cf_XT fl_X_221 d_X_readFor_5 rfl (by decide) rfl (by first | rfl | exact lx_T (by omega) | exact lx_C (by omega) (by omega) (by omega)) (by omega) (by omega) (fun r5 => ?_)
  refine x_callV C cl_X_164 cb_XP_placeOf cs_XP_placeOf d_X_readFor_8 (hP) rfl rfl rfl rfl (by first | rfl | exact lx_T (by omega) | exact lx_C (by omega) (by omega) (by omega)) (by omega) (by omega) (by decide) (by decide) (Nat.le_of_ble_eq_true rfl) (by omega) (by omega) ?_
  rintro _ _ _ ⟨rfl, rfl, rfl⟩ -
  skip
  refine x_istore_n C d_X_readFor_11 rfl (by decide) ?_
  refine x_iload_n C d_X_readFor_12 rfl rfl ?_
  refine x_iconst C d_X_readFor_13 (by decide) ?_
  refine x_icmp_ne (tgt := 25) C d_X_readFor_14 rfl (fun h14 => ?_) (fun h14 => ?_)
  · refine x_aload_n C d_X_readFor_25 rfl rfl ?_
    refine x_getC C 1 34 cf_X fl_X_21 d_X_readFor_26 rfl rfl rfl (by omega) (by omega) rfl ?_
    refine x_iload_n C d_X_readFor_29 rfl rfl ?_
    refine x_iconst C d_X_readFor_30 (by decide) ?_
    refine x_idiv C d_X_readFor_31 (by omega) (by decide) ?_
    refine x_callV C cl_X_224 cb_XP_fetch cs_XP_fetch d_X_readFor_32 (c_XP_fetch hn (by omega) (by omega) hB) rfl rfl rfl rfl (by first | rfl | exact lx_T (by omega) | exact lx_C (by omega) (by omega) (by omega)) (by omega) (by omega) (by decide) (by decide) (Nat.le_of_ble_eq_true rfl) (by omega) (by omega) ?_
    rintro _ _ _ ⟨rfl, rfl, rfl⟩ -
    skip
    refine x_aload_n C d_X_readFor_35 rfl rfl ?_
    refine x_aload_n C d_X_readFor_36 rfl rfl ?_
    refine x_getC C 1 34 cf_X fl_X_21 d_X_readFor_37 rfl rfl rfl (by omega) (by omega) rfl ?_
    refine x_iload_n C d_X_readFor_40 rfl rfl ?_
    refine x_callV C cl_X_158 cb_XP_valueAt cs_XP_valueAt d_X_readFor_41 (c_XP_valueAt hn (by omega) (by omega)) rfl rfl rfl rfl (by first | rfl | exact lx_T (by omega) | exact lx_C (by omega) (by omega) (by omega)) (by omega) (by omega) (by decide) (by decide) (Nat.le_of_ble_eq_true rfl) (by omega) (by omega) ?_
    rintro _ _ _ ⟨rfl, rfl, rfl⟩ -
    skip
    refine x_putI C 4 rfl cf_XT fl_X_151 d_X_readFor_44 rfl (Or.inl ⟨rfl, rfl⟩) rfl (by first | rfl | exact tx_T (by omega) | exact tx_A (by omega) (by omega) (by omega) | exact tx_HR (by omega) (by omega) | exact tx_KR (by omega) (by omega) | exact tx_L (by omega) (by omega)) (by first | rfl | exact lx_T (by omega) | exact lx_C (by omega) (by omega) (by omega)) (by omega) (by omega) ?_
    refine x_aload_n C d_X_readFor_47 rfl rfl ?_
    refine x_iconst C d_X_readFor_48 (by decide) ?_
    refine x_putI C 3 rfl cf_XT fl_X_148 d_X_readFor_49 rfl (Or.inl ⟨rfl, rfl⟩) rfl (by first | rfl | exact tx_T (by omega) | exact tx_A (by omega) (by omega) (by omega) | exact tx_HR (by omega) (by omega) | exact tx_KR (by omega) (by omega) | exact tx_L (by omega) (by omega)) (by first | rfl | exact lx_T (by omega) | exact lx_C (by omega) (by omega) (by omega)) (by omega) (by omega) ?_
    exact x_vret rt d_X_readFor_52 (by omega) (by omega) ⟨rfl, rfl, by rw [hr]; first | (rw [if_pos h14]; done) | (rw [if_neg h14]; done)⟩
  · refine x_aload_n C d_X_readFor_17 rfl rfl ?_
    refine x_iconst C d_X_readFor_18 (by decide) ?_
    refine x_putI C 4 rfl cf_XT fl_X_151 d_X_readFor_19 rfl (Or.inl ⟨rfl, rfl⟩) rfl (by first | rfl | exact tx_T (by omega) | exact tx_A (by omega) (by omega) (by omega) | exact tx_HR (by omega) (by omega) | exact tx_KR (by omega) (by omega) | exact tx_L (by omega) (by omega)) (by first | rfl | exact lx_T (by omega) | exact lx_C (by omega) (by omega) (by omega)) (by omega) (by omega) ?_
    refine x_goto (tgt := 47) C d_X_readFor_22 rfl ?_
    refine x_aload_n C d_X_readFor_47 rfl rfl ?_
    refine x_iconst C d_X_readFor_48 (by decide) ?_
    refine x_putI C 3 rfl cf_XT fl_X_148 d_X_readFor_49 rfl (Or.inl ⟨rfl, rfl⟩) rfl (by first | rfl | exact tx_T (by omega) | exact tx_A (by omega) (by omega) (by omega) | exact tx_HR (by omega) (by omega) | exact tx_KR (by omega) (by omega) | exact tx_L (by omega) (by omega)) (by first | rfl | exact lx_T (by omega) | exact lx_C (by omega) (by omega) (by omega)) (by omega) (by omega) ?_
    exact x_vret rt d_X_readFor_52 (by omega) (by omega) ⟨rfl, rfl, by rw [hr]; first | (rw [if_pos h14]; done) | (rw [if_neg h14]; done)⟩
theorem c_X_writeFor {n : Nat} {σ : Hp} {one : Int} (hn : 85 ≤ n) (o0 : 86 ≤ one) (o1 : one ≤ (n : Int)) (hB : xB σ) (z0 : 0 ≤ σ 2 11) (z1 : σ 2 11 < 200) (u0 : 0 ≤ σ 2 13) : Ok LyX TX y_X_writeFor b_X_writeFor 3 none 4 0 0 [.inr 1, .inr one] n σ (pV n (f_writeFor σ one)) := by
  refine ok_mk (by decide) (Nat.le_of_ble_eq_true rfl) (fun K C rt ha hok hfx => ?_)
  show XW LyX TX K n σ 0 0 0 [some (.inr 1), some (.inr one), none] []
  have hb1 := f_placeOf_b σ (σ one 6)
  have hb2 := f_placeOf_b σ (-1)
  have hw : f_writeFor σ one = if 60 ≤ σ 2 13 ∨ f_target σ one = -1 then st2 σ one 3 3 else f_upd σ one (f_target σ one) := rfl
  have J26 : ∀ x : Int, x = f_target σ one → XW LyX TX K n σ 0 0 26 [some (.inr 1), some (.inr one), some (.inl x)] [] := by
    intro x hx
    have hxb : x = -1 ∨ (0 ≤ x ∧ x < 24) := by rw [hx, f_target]; split <;> assumption
    rw [← hx] at hw
    have ez : 0 ≤ x → f_fetch σ (x / 4) 2 11 = σ 2 11 := fun h => f_fetch_2 _ (by omega) (by decide)
    have eu : 0 ≤ x → f_fetch σ (x / 4) 2 13 = σ 2 13 := fun h => f_fetch_2 _ (by omega) (by decide)
    have e5 := f_addUpdate_5 (f_fetch σ (x / 4)) (f_fetch σ (x / 4) one 0) x (f_keyAt (f_fetch σ (x / 4)) x) (f_valueAt (f_fetch σ (x / 4)) x) (f_fetch σ (x / 4) one 6) (f_fetch σ (x / 4) one 8)
    refine x_aload_n C d_X_writeFor_26 rfl rfl ?_
    refine x_getC C 0 2 cf_X fl_X_12 d_X_writeFor_27 rfl rfl rfl (by omega) (by omega) rfl ?_
    refine x_getI C 13 cf_XL fl_X_227 d_X_writeFor_30 rfl (by decide) rfl rfl (by omega) (by omega) (fun r30 => ?_)
    refine x_bipush C d_X_writeFor_33 (by decide) (by decide) ?_
    refine x_icmp_ge (tgt := 43) C d_X_writeFor_35 rfl (fun h35 => ?_) (fun h35 => ?_)
    · refine x_aload_n C d_X_writeFor_43 rfl rfl ?_
      refine x_iconst C d_X_writeFor_44 (by decide) ?_
      refine x_putI C 3 rfl cf_XT fl_X_148 d_X_writeFor_45 rfl (Or.inl ⟨rfl, rfl⟩) rfl (by first | rfl | exact tx_T (by omega) | exact tx_A (by omega) (by omega) (by omega) | exact tx_HR (by omega) (by omega) | exact tx_KR (by omega) (by omega) | exact tx_L (by omega) (by omega)) (by first | rfl | exact lx_T (by omega) | exact lx_C (by omega) (by omega) (by omega)) (by omega) (by omega) ?_
      exact x_vret rt d_X_writeFor_48 (by omega) (by omega) ⟨rfl, rfl, by rw [hw]; first | (rw [if_pos (by omega)]; done) | (rw [if_neg (by omega)]; rfl)⟩
    · refine x_iload_n C d_X_writeFor_38 rfl rfl ?_
      refine x_iconst C d_X_writeFor_39 (by decide) ?_
      refine x_icmp_ne (tgt := 49) C d_X_writeFor_40 rfl (fun h40 => ?_) (fun h40 => ?_)
      · refine x_aload_n C d_X_writeFor_49 rfl rfl ?_
        refine x_getC C 1 34 cf_X fl_X_21 d_X_writeFor_50 rfl rfl rfl (by omega) (by omega) rfl ?_
        refine x_iload_n C d_X_writeFor_53 rfl rfl ?_
        refine x_iconst C d_X_writeFor_54 (by decide) ?_
        refine x_idiv C d_X_writeFor_55 (by omega) (by decide) ?_
        refine x_callV C cl_X_224 cb_XP_fetch cs_XP_fetch d_X_writeFor_56 (c_XP_fetch hn (by omega) (by omega) hB) rfl rfl rfl rfl (by first | rfl | exact lx_T (by omega) | exact lx_C (by omega) (by omega) (by omega)) (by omega) (by omega) (by decide) (by decide) (Nat.le_of_ble_eq_true rfl) (by omega) (by omega) ?_
        rintro _ _ _ ⟨rfl, rfl, rfl⟩ -
        skip
        have ez1 := ez (by omega)
        have eu1 := eu (by omega)
        refine x_aload_n C d_X_writeFor_59 rfl rfl ?_
        refine x_getC C 1 34 cf_X fl_X_21 d_X_writeFor_60 rfl rfl rfl (by omega) (by omega) rfl ?_
        refine x_aload_n C d_X_writeFor_63 rfl rfl ?_
        refine x_getC C 0 2 cf_X fl_X_12 d_X_writeFor_64 rfl rfl rfl (by omega) (by omega) rfl ?_
        refine x_aload_n C d_X_writeFor_67 rfl rfl ?_
        refine x_getI C 0 cf_XT fl_X_230 d_X_writeFor_68 rfl (by decide) rfl (by first | rfl | exact lx_T (by omega) | exact lx_C (by omega) (by omega) (by omega)) (by omega) (by omega) (fun r68 => ?_)
        refine x_iload_n C d_X_writeFor_71 rfl rfl ?_
        refine x_aload_n C d_X_writeFor_72 rfl rfl ?_
        refine x_getC C 1 34 cf_X fl_X_21 d_X_writeFor_73 rfl rfl rfl (by omega) (by omega) rfl ?_
        refine x_iload_n C d_X_writeFor_76 rfl rfl ?_
        refine x_callV C cl_X_233 cb_XP_keyAt cs_XP_keyAt d_X_writeFor_77 (c_XP_keyAt hn (by omega) (by omega)) rfl rfl rfl rfl (by first | rfl | exact lx_T (by omega) | exact lx_C (by omega) (by omega) (by omega)) (by omega) (by omega) (by decide) (by decide) (Nat.le_of_ble_eq_true rfl) (by omega) (by omega) ?_
        rintro _ _ _ ⟨rfl, rfl, rfl⟩ -
        skip
        refine x_aload_n C d_X_writeFor_80 rfl rfl ?_
        refine x_getC C 1 34 cf_X fl_X_21 d_X_writeFor_81 rfl rfl rfl (by omega) (by omega) rfl ?_
        refine x_iload_n C d_X_writeFor_84 rfl rfl ?_
        refine x_callV C cl_X_158 cb_XP_valueAt cs_XP_valueAt d_X_writeFor_85 (c_XP_valueAt hn (by omega) (by omega)) rfl rfl rfl rfl (by first | rfl | exact lx_T (by omega) | exact lx_C (by omega) (by omega) (by omega)) (by omega) (by omega) (by decide) (by decide) (Nat.le_of_ble_eq_true rfl) (by omega) (by omega) ?_
        rintro _ _ _ ⟨rfl, rfl, rfl⟩ -
        skip
        refine x_aload_n C d_X_writeFor_88 rfl rfl ?_
        refine x_getI C 6 cf_XT fl_X_221 d_X_writeFor_89 rfl (by decide) rfl (by first | rfl | exact lx_T (by omega) | exact lx_C (by omega) (by omega) (by omega)) (by omega) (by omega) (fun r89 => ?_)
        refine x_aload_n C d_X_writeFor_92 rfl rfl ?_
        refine x_getI C 8 cf_XT fl_X_236 d_X_writeFor_93 rfl (by decide) rfl (by first | rfl | exact lx_T (by omega) | exact lx_C (by omega) (by omega) (by omega)) (by omega) (by omega) (fun r93 => ?_)
        refine x_callV C cl_X_239 cb_XL_addUpdate cs_XL_addUpdate d_X_writeFor_96 (c_XL_addUpdate hn (by omega) (by omega) (by omega) (by omega)) rfl rfl rfl rfl (by first | rfl | exact lx_T (by omega) | exact lx_C (by omega) (by omega) (by omega)) (by omega) (by omega) (by decide) (by decide) (Nat.le_of_ble_eq_true rfl) (by omega) (by omega) ?_
        rintro _ _ _ ⟨rfl, rfl, rfl⟩ -
        skip
        refine x_callV C cl_X_243 cb_XP_apply cs_XP_apply d_X_writeFor_99 (c_XP_apply hn (by omega) (by omega) (by rw [e5]; omega) (by rw [e5]; omega)) rfl rfl rfl rfl (by first | rfl | exact lx_T (by omega) | exact lx_C (by omega) (by omega) (by omega)) (by omega) (by omega) (by decide) (by decide) (Nat.le_of_ble_eq_true rfl) (by omega) (by omega) ?_
        rintro _ _ _ ⟨rfl, rfl, rfl⟩ -
        skip
        refine x_aload_n C d_X_writeFor_102 rfl rfl ?_
        refine x_iconst C d_X_writeFor_103 (by decide) ?_
        refine x_putI C 3 rfl cf_XT fl_X_148 d_X_writeFor_104 rfl (Or.inl ⟨rfl, rfl⟩) rfl (by first | rfl | exact tx_T (by omega) | exact tx_A (by omega) (by omega) (by omega) | exact tx_HR (by omega) (by omega) | exact tx_KR (by omega) (by omega) | exact tx_L (by omega) (by omega)) (by first | rfl | exact lx_T (by omega) | exact lx_C (by omega) (by omega) (by omega)) (by omega) (by omega) ?_
        exact x_vret rt d_X_writeFor_107 (by omega) (by omega) ⟨rfl, rfl, by rw [hw]; first | (rw [if_pos (by omega)]; done) | (rw [if_neg (by omega)]; rfl)⟩
      · refine x_aload_n C d_X_writeFor_43 rfl rfl ?_
        refine x_iconst C d_X_writeFor_44 (by decide) ?_
        refine x_putI C 3 rfl cf_XT fl_X_148 d_X_writeFor_45 rfl (Or.inl ⟨rfl, rfl⟩) rfl (by first | rfl | exact tx_T (by omega) | exact tx_A (by omega) (by omega) (by omega) | exact tx_HR (by omega) (by omega) | exact tx_KR (by omega) (by omega) | exact tx_L (by omega) (by omega)) (by first | rfl | exact lx_T (by omega) | exact lx_C (by omega) (by omega) (by omega)) (by omega) (by omega) ?_
        exact x_vret rt d_X_writeFor_48 (by omega) (by omega) ⟨rfl, rfl, by rw [hw]; first | (rw [if_pos (by omega)]; done) | (rw [if_neg (by omega)]; rfl)⟩
  refine x_aload_n C d_X_writeFor_0 rfl rfl ?_
  refine x_getC C 1 34 cf_X fl_X_21 d_X_writeFor_1 rfl rfl rfl (by omega) (by omega) rfl ?_
  refine x_aload_n C d_X_writeFor_4 rfl rfl ?_
  refine x_getI C 6 cf_XT fl_X_221 d_X_writeFor_5 rfl (by decide) rfl (by first | rfl | exact lx_T (by omega) | exact lx_C (by omega) (by omega) (by omega)) (by omega) (by omega) (fun r5 => ?_)
  refine x_callV C cl_X_164 cb_XP_placeOf cs_XP_placeOf d_X_writeFor_8 (c_XP_placeOf hn) rfl rfl rfl rfl (by first | rfl | exact lx_T (by omega) | exact lx_C (by omega) (by omega) (by omega)) (by omega) (by omega) (by decide) (by decide) (Nat.le_of_ble_eq_true rfl) (by omega) (by omega) ?_
  rintro _ _ _ ⟨rfl, rfl, rfl⟩ -
  skip
  refine x_istore_n C d_X_writeFor_11 rfl (by decide) ?_
  refine x_iload_n C d_X_writeFor_12 rfl rfl ?_
  refine x_iconst C d_X_writeFor_13 (by decide) ?_
  refine x_icmp_ne (tgt := 26) C d_X_writeFor_14 rfl (fun h14 => ?_) (fun h14 => ?_)
  · exact J26 _ (by simp only [f_target]; first | (rw [if_pos h14]; done) | (rw [if_neg h14]; done))
  · refine x_aload_n C d_X_writeFor_17 rfl rfl ?_
    refine x_getC C 1 34 cf_X fl_X_21 d_X_writeFor_18 rfl rfl rfl (by omega) (by omega) rfl ?_
    refine x_iconst C d_X_writeFor_21 (by decide) ?_
    refine x_callV C cl_X_164 cb_XP_placeOf cs_XP_placeOf d_X_writeFor_22 (c_XP_placeOf hn) rfl rfl rfl rfl (by first | rfl | exact lx_T (by omega) | exact lx_C (by omega) (by omega) (by omega)) (by omega) (by omega) (by decide) (by decide) (Nat.le_of_ble_eq_true rfl) (by omega) (by omega) ?_
    rintro _ _ _ ⟨rfl, rfl, rfl⟩ -
    skip
    refine x_istore_n C d_X_writeFor_25 rfl (by decide) ?_
    exact J26 _ (by simp only [f_target]; first | (rw [if_pos h14]; done) | (rw [if_neg h14]; done))
theorem c_X_grant {n : Nat} {σ : Hp} {one : Int} (hn : 85 ≤ n) (o0 : 86 ≤ one) (o1 : one ≤ (n : Int)) (s0 : 0 ≤ σ one 1) (s1 : σ one 1 < 4) (k0 : 0 ≤ σ one 6) (k1 : σ one 6 ≤ 99) (hB : xB σ) (z0 : 0 ≤ σ 2 11) (z1 : σ 2 11 < 200) (u0 : 0 ≤ σ 2 13) : Ok LyX TX y_X_grant b_X_grant 2 none 5 0 0 [.inr 1, .inr one] n σ (pV n (f_grant σ one)) := by
  refine ok_mk (by decide) (Nat.le_of_ble_eq_true rfl) (fun K C rt ha hok hfx => ?_)
  show XW LyX TX K n σ 0 0 0 [some (.inr 1), some (.inr one)] []
  have e2 : st2 (f_hold σ one) one 2 1 2 = σ 2 := by rw [st2_ne (by omega), f_hold, st2_ne (by omega)]
  have e34 : st2 (f_hold σ one) one 2 1 34 = σ 34 := by rw [st2_ne (by omega), f_hold, st2_ne (by omega)]
  have hB2 : xB (st2 (f_hold σ one) one 2 1) := by simpa only [xB, e34] using hB
  have hg : f_grant σ one = if st2 (f_hold σ one) one 2 1 one 7 = 1 then f_readFor (st2 (f_hold σ one) one 2 1) one else f_writeFor (st2 (f_hold σ one) one 2 1) one := rfl
  have q0 : st2 (f_hold σ one) one 2 1 2 11 = σ 2 11 := by rw [e2]
  have q1 : st2 (f_hold σ one) one 2 1 2 13 = σ 2 13 := by rw [e2]
  refine x_aload_n C d_X_grant_0 rfl rfl ?_
  refine x_getC C 2 76 cf_X fl_X_28 d_X_grant_1 rfl rfl rfl (by omega) (by omega) rfl ?_
  refine x_aload_n C d_X_grant_4 rfl rfl ?_
  refine x_callV C cl_X_209 cb_XV_hold cs_XV_hold d_X_grant_5 (c_XV_hold hn o0 o1 s0 s1 k0 k1) rfl rfl rfl rfl (by first | rfl | exact lx_T (by omega) | exact lx_C (by omega) (by omega) (by omega)) (by omega) (by omega) (by decide) (by decide) (Nat.le_of_ble_eq_true rfl) (by omega) (by omega) ?_
  rintro _ _ _ ⟨rfl, rfl, rfl⟩ -
  skip
  refine x_aload_n C d_X_grant_8 rfl rfl ?_
  refine x_iconst C d_X_grant_9 (by decide) ?_
  refine x_putI C 2 rfl cf_XT fl_X_77 d_X_grant_10 rfl (Or.inl ⟨rfl, rfl⟩) rfl (by first | rfl | exact tx_T (by omega) | exact tx_A (by omega) (by omega) (by omega) | exact tx_HR (by omega) (by omega) | exact tx_KR (by omega) (by omega) | exact tx_L (by omega) (by omega)) (by first | rfl | exact lx_T (by omega) | exact lx_C (by omega) (by omega) (by omega)) (by omega) (by omega) ?_
  refine x_aload_n C d_X_grant_13 rfl rfl ?_
  refine x_getI C 7 cf_XT fl_X_212 d_X_grant_14 rfl (by decide) rfl (by first | rfl | exact lx_T (by omega) | exact lx_C (by omega) (by omega) (by omega)) (by omega) (by omega) (fun r14 => ?_)
  refine x_iconst C d_X_grant_17 (by decide) ?_
  refine x_icmp_ne (tgt := 29) C d_X_grant_18 rfl (fun h18 => ?_) (fun h18 => ?_)
  · refine x_aload_n C d_X_grant_29 rfl rfl ?_
    refine x_aload_n C d_X_grant_30 rfl rfl ?_
    refine x_callV C cl_X_218 cb_X_writeFor cs_X_writeFor d_X_grant_31 (c_X_writeFor hn o0 o1 hB2 (by omega) (by omega) (by omega)) rfl rfl rfl rfl (by first | rfl | exact lx_T (by omega) | exact lx_C (by omega) (by omega) (by omega)) (by omega) (by omega) (by decide) (by decide) (Nat.le_of_ble_eq_true rfl) (by omega) (by omega) ?_
    rintro _ _ _ ⟨rfl, rfl, rfl⟩ -
    skip
    exact x_vret rt d_X_grant_34 (by omega) (by omega) ⟨rfl, rfl, by rw [hg]; first | (rw [if_pos h18]; done) | (rw [if_neg h18]; done)⟩
  · refine x_aload_n C d_X_grant_21 rfl rfl ?_
    refine x_aload_n C d_X_grant_22 rfl rfl ?_
    refine x_callV C cl_X_215 cb_X_readFor cs_X_readFor d_X_grant_23 (c_X_readFor hn o0 o1 hB2) rfl rfl rfl rfl (by first | rfl | exact lx_T (by omega) | exact lx_C (by omega) (by omega) (by omega)) (by omega) (by omega) (by decide) (by decide) (Nat.le_of_ble_eq_true rfl) (by omega) (by omega) ?_
    rintro _ _ _ ⟨rfl, rfl, rfl⟩ -
    skip
    refine x_goto (tgt := 34) C d_X_grant_26 rfl ?_
    exact x_vret rt d_X_grant_34 (by omega) (by omega) ⟨rfl, rfl, by rw [hg]; first | (rw [if_pos h18]; done) | (rw [if_neg h18]; done)⟩

