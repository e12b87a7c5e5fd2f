-- ===== the reference: places, pages, records =====
theorem c_M_keyAt {σ : Hp} {x : Int} (h0 : 0 ≤ x) (h1 : x < 24) : Ok LyM TM y_M_keyAt b_M_keyAt 2 (some .int) 1 0 0 [.inr 1, .inl x] 28 σ (pI 28 σ (m_keyAt σ x)) := by
  refine ok_mk (by decide) (Nat.le_of_ble_eq_true rfl) (fun K C rt ha hok hfx => ?_)
  show XW LyM TM K 28 σ 0 0 0 [some (.inr 1), some (.inl x)] []
  refine x_aload_n C d_M_keyAt_0 rfl rfl ?_
  refine x_getC C 18 18 cf_M fl_M_58 d_M_keyAt_1 rfl rfl rfl (by omega) (by omega) rfl ?_
  refine x_iload_n C d_M_keyAt_4 rfl rfl ?_
  refine x_iconst C d_M_keyAt_5 (by decide) ?_
  refine x_idiv C d_M_keyAt_6 (by omega) (by decide) ?_
  refine x_iald C d_M_keyAt_7 rfl (by omega) (by omega) (by omega) (by omega) (fun r7 => ?_)
  refine x_if_le (tgt := 20) C d_M_keyAt_8 rfl (fun h8 => ?_) (fun h8 => ?_)
  · refine x_aload_n C d_M_keyAt_20 rfl rfl ?_
    refine x_getC C 11 11 cf_M fl_M_37 d_M_keyAt_21 rfl rfl rfl (by omega) (by omega) rfl ?_
    refine x_iload_n C d_M_keyAt_24 rfl rfl ?_
    refine x_iald C d_M_keyAt_25 rfl (by omega) (by omega) (by omega) (by omega) (fun r25 => ?_)
    exact x_iret rt d_M_keyAt_26 (by omega) (by omega) ⟨by grind [m_keyAt], rfl, rfl⟩
  · refine x_aload_n C d_M_keyAt_11 rfl rfl ?_
    refine x_getC C 14 14 cf_M fl_M_46 d_M_keyAt_12 rfl rfl rfl (by omega) (by omega) rfl ?_
    refine x_iload_n C d_M_keyAt_15 rfl rfl ?_
    refine x_iald C d_M_keyAt_16 rfl (by omega) (by omega) (by omega) (by omega) (fun r16 => ?_)
    refine x_goto (tgt := 26) C d_M_keyAt_17 rfl ?_
    exact x_iret rt d_M_keyAt_26 (by omega) (by omega) ⟨by grind [m_keyAt], rfl, rfl⟩
theorem c_M_valueAt {σ : Hp} {x : Int} (h0 : 0 ≤ x) (h1 : x < 24) : Ok LyM TM y_M_valueAt b_M_valueAt 2 (some .int) 1 0 0 [.inr 1, .inl x] 28 σ (pI 28 σ (m_valueAt σ x)) := by
  refine ok_mk (by decide) (Nat.le_of_ble_eq_true rfl) (fun K C rt ha hok hfx => ?_)
  show XW LyM TM K 28 σ 0 0 0 [some (.inr 1), some (.inl x)] []
  refine x_aload_n C d_M_valueAt_0 rfl rfl ?_
  refine x_getC C 18 18 cf_M fl_M_58 d_M_valueAt_1 rfl rfl rfl (by omega) (by omega) rfl ?_
  refine x_iload_n C d_M_valueAt_4 rfl rfl ?_
  refine x_iconst C d_M_valueAt_5 (by decide) ?_
  refine x_idiv C d_M_valueAt_6 (by omega) (by decide) ?_
  refine x_iald C d_M_valueAt_7 rfl (by omega) (by omega) (by omega) (by omega) (fun r7 => ?_)
  refine x_if_le (tgt := 20) C d_M_valueAt_8 rfl (fun h8 => ?_) (fun h8 => ?_)
  · refine x_aload_n C d_M_valueAt_20 rfl rfl ?_
    refine x_getC C 12 12 cf_M fl_M_40 d_M_valueAt_21 rfl rfl rfl (by omega) (by omega) rfl ?_
    refine x_iload_n C d_M_valueAt_24 rfl rfl ?_
    refine x_iald C d_M_valueAt_25 rfl (by omega) (by omega) (by omega) (by omega) (fun r25 => ?_)
    exact x_iret rt d_M_valueAt_26 (by omega) (by omega) ⟨by grind [m_valueAt], rfl, rfl⟩
  · refine x_aload_n C d_M_valueAt_11 rfl rfl ?_
    refine x_getC C 15 15 cf_M fl_M_49 d_M_valueAt_12 rfl rfl rfl (by omega) (by omega) rfl ?_
    refine x_iload_n C d_M_valueAt_15 rfl rfl ?_
    refine x_iald C d_M_valueAt_16 rfl (by omega) (by omega) (by omega) (by omega) (fun r16 => ?_)
    refine x_goto (tgt := 26) C d_M_valueAt_17 rfl ?_
    exact x_iret rt d_M_valueAt_26 (by omega) (by omega) ⟨by grind [m_valueAt], rfl, rfl⟩
theorem c_M_find {σ : Hp} {key : Int} : Ok LyM TM y_M_find b_M_find 3 (some .int) 2 0 0 [.inr 1, .inl key] 28 σ (pI 28 σ (m_find σ key)) := by
  refine ok_mk (by decide) (Nat.le_of_ble_eq_true rfl) (fun K C rt ha hok hfx => ?_)
  show XW LyM TM K 28 σ 0 0 0 [some (.inr 1), some (.inl key), none] []
  have loop : ∀ (k : Nat) (x : Int), 0 ≤ x → x + k = 24 → srch (fun x => decide (m_keyAt σ x = key)) x k = m_find σ key → XW LyM TM K 28 σ 0 0 2 [some (.inr 1), some (.inl key), some (.inl x)] [] := by
    intro k
    induction k with
    | zero =>
      intro x h0 h1 h2
      refine x_iload_n C d_M_find_2 rfl rfl ?_
      refine x_bipush C d_M_find_3 (by decide) (by decide) ?_
      refine x_icmp_ge (tgt := 25) C d_M_find_5 rfl (fun h5 => ?_) (fun h5 => ?_)
      · refine x_iconst C d_M_find_25 (by decide) ?_
        exact x_iret rt d_M_find_26 (by omega) (by omega) ⟨by rw [← h2]; rfl, rfl, rfl⟩
      · exact absurd h5 (by omega)
    | succ k ih =>
      intro x h0 h1 h2
      have hs : srch (fun x => decide (m_keyAt σ x = key)) x (k + 1) = if m_keyAt σ x = key then x else srch (fun x => decide (m_keyAt σ x = key)) (x + 1) k := by
        simp [srch]
      rw [hs] at h2
      refine x_iload_n C d_M_find_2 rfl rfl ?_
      refine x_bipush C d_M_find_3 (by decide) (by decide) ?_
      refine x_icmp_ge (tgt := 25) C d_M_find_5 rfl (fun h5 => ?_) (fun h5 => ?_)
      · exact absurd h5 (by omega)
      · refine x_aload_n C d_M_find_8 rfl rfl ?_
        refine x_iload_n C d_M_find_9 rfl rfl ?_
        refine x_callV C cl_M_93 cb_M_keyAt cs_M_keyAt d_M_find_10 (c_M_keyAt h0 (by omega)) rfl rfl rfl rfl rfl (by omega) (by omega) (by decide) (by decide) (Nat.le_of_ble_eq_true rfl) (by omega) (by omega) ?_
        rintro _ _ _ ⟨rfl, rfl, rfl⟩ -
        skip
        refine x_iload_n C d_M_find_13 rfl rfl ?_
        refine x_icmp_ne (tgt := 19) C d_M_find_14 rfl (fun h14 => ?_) (fun h14 => ?_)
        · refine x_iinc C d_M_find_19 (by decide) rfl ⟨by omega, by omega⟩ ?_
          refine x_goto (tgt := 2) C d_M_find_22 rfl ?_
          exact ih (x + 1) (by omega) (by omega) (by rw [← h2, if_neg h14])
        · refine x_iload_n C d_M_find_17 rfl rfl ?_
          exact x_iret rt d_M_find_18 (by omega) (by omega) ⟨by rw [← h2, if_pos h14], rfl, rfl⟩
  refine x_iconst C d_M_find_0 (by decide) ?_
  refine x_istore_n C d_M_find_1 rfl (by decide) ?_
  exact loop 24 0 (by omega) (by omega) rfl
theorem c_M_spill {σ : Hp} {g : Int} (h0 : 0 ≤ g) (h1 : g < 6) (hr : R3 (σ 1 21 + 1)) : Ok LyM TM y_M_spill b_M_spill 3 none 1 0 0 [.inr 1, .inl g] 28 σ (pV 28 (m_spill σ g)) := by
  refine ok_mk (by decide) (Nat.le_of_ble_eq_true rfl) (fun K C rt ha hok hfx => ?_)
  show XW LyM TM K 28 σ 0 0 0 [some (.inr 1), some (.inl g), none] []
  have hr1 := hr.1
  have hr2 := hr.2
  have loop : ∀ (k : Nat) (x : Int), 4 * g ≤ x → x + k = 4 * g + 4 → XW LyM TM K 28 (m_cp (st2 σ 1 1 (if σ 1 1 < σ 16 g then σ 16 g else σ 1 1)) 14 11 g x) 0 0 34 [some (.inr 1), some (.inl g), some (.inl x)] [] := by
    intro k
    induction k with
    | zero =>
      intro x hx hk
      obtain rfl : x = 4 * g + 4 := by omega
      refine x_iload_n C d_M_spill_34 rfl rfl ?_
      refine x_iconst C d_M_spill_35 (by decide) ?_
      refine x_iload_n C d_M_spill_36 rfl rfl ?_
      refine x_imul C d_M_spill_37 ⟨by omega, by omega⟩ ?_
      refine x_iconst C d_M_spill_38 (by decide) ?_
      refine x_iadd C d_M_spill_39 ⟨by omega, by omega⟩ ?_
      refine x_icmp_ge (tgt := 73) C d_M_spill_40 rfl (fun h40 => ?_) (fun h40 => ?_)
      · refine x_aload_n C d_M_spill_73 rfl rfl ?_
        refine x_getC C 13 13 cf_M fl_M_43 d_M_spill_74 rfl rfl rfl (by omega) (by omega) rfl ?_
        refine x_iload_n C d_M_spill_77 rfl rfl ?_
        refine x_aload_n C d_M_spill_78 rfl rfl ?_
        refine x_getC C 16 16 cf_M fl_M_52 d_M_spill_79 rfl rfl rfl (by omega) (by omega) rfl ?_
        refine x_iload_n C d_M_spill_82 rfl rfl ?_
        refine x_iald C d_M_spill_83 rfl (by omega) (by omega) (by omega) (by omega) (fun r83 => ?_)
        refine x_iast C d_M_spill_84 rfl rfl (by omega) (by omega) (by omega) (by omega) ?_
        refine x_aload_n C d_M_spill_85 rfl rfl ?_
        refine x_getC C 17 17 cf_M fl_M_55 d_M_spill_86 rfl rfl rfl (by omega) (by omega) rfl ?_
        refine x_iload_n C d_M_spill_89 rfl rfl ?_
        refine x_iconst C d_M_spill_90 (by decide) ?_
        refine x_iast C d_M_spill_91 rfl rfl (by omega) (by omega) (by omega) (by omega) ?_
        refine x_aload_n C d_M_spill_92 rfl rfl ?_
        refine x_dup C d_M_spill_93 ?_
        refine x_getI C 21 cf_M fl_M_101 d_M_spill_94 rfl (by decide) rfl rfl (by omega) (by omega) (fun r94 => ?_)
        refine x_iconst C d_M_spill_97 (by decide) ?_
        refine x_iadd C d_M_spill_98 ⟨by simp [st2, m_cp]; omega, by simp [st2, m_cp]; omega⟩ ?_
        refine x_putI C 21 rfl cf_M fl_M_101 d_M_spill_99 rfl (Or.inl ⟨rfl, rfl⟩) rfl rfl rfl (by omega) (by omega) ?_
        exact x_vret rt d_M_spill_102 (by omega) (by omega) ⟨rfl, rfl, rfl⟩
      · exact absurd h40 (by omega)
    | succ k ih =>
      intro x hx hk
      refine x_iload_n C d_M_spill_34 rfl rfl ?_
      refine x_iconst C d_M_spill_35 (by decide) ?_
      refine x_iload_n C d_M_spill_36 rfl rfl ?_
      refine x_imul C d_M_spill_37 ⟨by omega, by omega⟩ ?_
      refine x_iconst C d_M_spill_38 (by decide) ?_
      refine x_iadd C d_M_spill_39 ⟨by omega, by omega⟩ ?_
      refine x_icmp_ge (tgt := 73) C d_M_spill_40 rfl (fun h40 => ?_) (fun h40 => ?_)
      · exact absurd h40 (by omega)
      · refine x_aload_n C d_M_spill_43 rfl rfl ?_
        refine x_getC C 11 11 cf_M fl_M_37 d_M_spill_44 rfl rfl rfl (by omega) (by omega) rfl ?_
        refine x_iload_n C d_M_spill_47 rfl rfl ?_
        refine x_aload_n C d_M_spill_48 rfl rfl ?_
        refine x_getC C 14 14 cf_M fl_M_46 d_M_spill_49 rfl rfl rfl (by omega) (by omega) rfl ?_
        refine x_iload_n C d_M_spill_52 rfl rfl ?_
        refine x_iald C d_M_spill_53 rfl (by omega) (by omega) (by omega) (by omega) (fun r53 => ?_)
        refine x_iast C d_M_spill_54 rfl rfl (by omega) (by omega) (by omega) (by omega) ?_
        refine x_aload_n C d_M_spill_55 rfl rfl ?_
        refine x_getC C 12 12 cf_M fl_M_40 d_M_spill_56 rfl rfl rfl (by omega) (by omega) rfl ?_
        refine x_iload_n C d_M_spill_59 rfl rfl ?_
        refine x_aload_n C d_M_spill_60 rfl rfl ?_
        refine x_getC C 15 15 cf_M fl_M_49 d_M_spill_61 rfl rfl rfl (by omega) (by omega) rfl ?_
        refine x_iload_n C d_M_spill_64 rfl rfl ?_
        refine x_iald C d_M_spill_65 rfl (by omega) (by omega) (by omega) (by omega) (fun r65 => ?_)
        refine x_iast C d_M_spill_66 rfl rfl (by omega) (by omega) (by omega) (by omega) ?_
        refine x_iinc C d_M_spill_67 (by decide) rfl ⟨by omega, by omega⟩ ?_
        refine x_goto (tgt := 34) C d_M_spill_70 rfl ?_
        rw [cpD_step hx]
        exact ih (x + 1) (by omega) (by omega)
  have J : ∀ v : Int, v = (if σ 1 1 < σ 16 g then σ 16 g else σ 1 1) → XW LyM TM K 28 σ 0 0 27 [some (.inr 1), some (.inl g), none] [.inl v, .inr 1] := by
    intro v hv
    subst hv
    have e := loop 4 (4 * g) (by omega) (by omega)
    rw [m_cp_0] at e
    refine x_putI C 1 rfl cf_M fl_M_97 d_M_spill_27 rfl (Or.inl ⟨rfl, rfl⟩) rfl rfl rfl (by omega) (by omega) ?_
    refine x_iconst C d_M_spill_30 (by decide) ?_
    refine x_iload_n C d_M_spill_31 rfl rfl ?_
    refine x_imul C d_M_spill_32 ⟨by omega, by omega⟩ ?_
    refine x_istore_n C d_M_spill_33 rfl (by decide) ?_
    exact e
  refine x_aload_n C d_M_spill_0 rfl rfl ?_
  refine x_aload_n C d_M_spill_1 rfl rfl ?_
  refine x_getI C 1 cf_M fl_M_97 d_M_spill_2 rfl (by decide) rfl rfl (by omega) (by omega) (fun r2 => ?_)
  refine x_aload_n C d_M_spill_5 rfl rfl ?_
  refine x_getC C 16 16 cf_M fl_M_52 d_M_spill_6 rfl rfl rfl (by omega) (by omega) rfl ?_
  refine x_iload_n C d_M_spill_9 rfl rfl ?_
  refine x_iald C d_M_spill_10 rfl (by omega) (by omega) (by omega) (by omega) (fun r10 => ?_)
  refine x_icmp_ge (tgt := 23) C d_M_spill_11 rfl (fun h11 => ?_) (fun h11 => ?_)
  · refine x_aload_n C d_M_spill_23 rfl rfl ?_
    refine x_getI C 1 cf_M fl_M_97 d_M_spill_24 rfl (by decide) rfl rfl (by omega) (by omega) (fun r24 => ?_)
    exact J _ (by grind)
  · refine x_aload_n C d_M_spill_14 rfl rfl ?_
    refine x_getC C 16 16 cf_M fl_M_52 d_M_spill_15 rfl rfl rfl (by omega) (by omega) rfl ?_
    refine x_iload_n C d_M_spill_18 rfl rfl ?_
    refine x_iald C d_M_spill_19 rfl (by omega) (by omega) (by omega) (by omega) (fun r19 => ?_)
    refine x_goto (tgt := 27) C d_M_spill_20 rfl ?_
    exact J _ (by grind)
theorem c_M_fetch {σ : Hp} {g : Int} (h0 : 0 ≤ g) (h1 : g < 6) (hB : mB σ) : Ok LyM TM y_M_fetch b_M_fetch 5 none 2 0 0 [.inr 1, .inl g] 28 σ (pV 28 (m_fetch σ g)) := by
  refine ok_mk (by decide) (Nat.le_of_ble_eq_true rfl) (fun K C rt ha hok hfx => ?_)
  show XW LyM TM K 28 σ 0 0 0 [some (.inr 1), some (.inl g), none, none, none] []
  obtain ⟨b1, b2, b3, b4, b5, b6⟩ := hB
  have e20 : st2 σ 1 19 (σ 1 19 + 1) 1 20 = σ 1 20 := by simp [st2]
  have e21 : st2 σ 1 19 (σ 1 19 + 1) 1 21 = σ 1 21 := by simp [st2]
  have hend : ∀ τ1 : Hp, τ1 = (if st2 σ 1 19 (σ 1 19 + 1) 18 g = 0 then m_load (m_evict (st2 σ 1 19 (σ 1 19 + 1))) g else st2 σ 1 19 (σ 1 19 + 1)) → st2 τ1 18 g (τ1 1 19) = m_fetch σ g := fun τ1 h => by subst h; rfl
  generalize st2 σ 1 19 (σ 1 19 + 1) = τ0 at e20 e21 hend
  sorry

