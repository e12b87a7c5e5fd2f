-- ===== the reference: places, pages, records =====
theorem c_M_keyAt {σ : Hp} {x : Int} (h0 : 0 ≤ x) (h1 : x < 24) : Ok LyM TM y_M_keyAt b_M_keyAt 2 (some .int) 1 0 0 [.inr 1, .inl x] 28 σ (pI 28 σ (m_keyAt σ x)) := by
  refine ok_mk (by decide) (Nat.le_of_ble_eq_true rfl) (fun K C rt ha hok hfx => ?_)
  show XW LyM TM K 28 σ 0 0 0 [some (.inr 1), some (.inl x)] []
  refine x_aload_n C d_M_keyAt_0 rfl rfl ?_
  refine x_getC C 18 18 cf_M fl_M_58 d_M_keyAt_1 rfl rfl rfl (by omega) (by omega) rfl ?_
  refine x_iload_n C d_M_keyAt_4 rfl rfl ?_
  refine x_iconst C d_M_keyAt_5 (by decide) ?_
  refine x_idiv C d_M_keyAt_6 (by omega) (by decide) ?_
  refine x_iald C d_M_keyAt_7 rfl (by omega) (by omega) (by omega) (by omega) (fun r7 => ?_)
  refine x_if_le (tgt := 20) C d_M_keyAt_8 rfl (fun h8 => ?_) (fun h8 => ?_)
  · refine x_aload_n C d_M_keyAt_20 rfl rfl ?_
    refine x_getC C 11 11 cf_M fl_M_37 d_M_keyAt_21 rfl rfl rfl (by omega) (by omega) rfl ?_
    refine x_iload_n C d_M_keyAt_24 rfl rfl ?_
    refine x_iald C d_M_keyAt_25 rfl (by omega) (by omega) (by omega) (by omega) (fun r25 => ?_)
    exact x_iret rt d_M_keyAt_26 (by omega) (by omega) ⟨by grind [m_keyAt], rfl, rfl⟩
  · refine x_aload_n C d_M_keyAt_11 rfl rfl ?_
    refine x_getC C 14 14 cf_M fl_M_46 d_M_keyAt_12 rfl rfl rfl (by omega) (by omega) rfl ?_
    refine x_iload_n C d_M_keyAt_15 rfl rfl ?_
    refine x_iald C d_M_keyAt_16 rfl (by omega) (by omega) (by omega) (by omega) (fun r16 => ?_)
    refine x_goto (tgt := 26) C d_M_keyAt_17 rfl ?_
    exact x_iret rt d_M_keyAt_26 (by omega) (by omega) ⟨by grind [m_keyAt], rfl, rfl⟩
theorem c_M_valueAt {σ : Hp} {x : Int} (h0 : 0 ≤ x) (h1 : x < 24) : Ok LyM TM y_M_valueAt b_M_valueAt 2 (some .int) 1 0 0 [.inr 1, .inl x] 28 σ (pI 28 σ (m_valueAt σ x)) := by
  refine ok_mk (by decide) (Nat.le_of_ble_eq_true rfl) (fun K C rt ha hok hfx => ?_)
  show XW LyM TM K 28 σ 0 0 0 [some (.inr 1), some (.inl x)] []
  refine x_aload_n C d_M_valueAt_0 rfl rfl ?_
  refine x_getC C 18 18 cf_M fl_M_58 d_M_valueAt_1 rfl rfl rfl (by omega) (by omega) rfl ?_
  refine x_iload_n C d_M_valueAt_4 rfl rfl ?_
  refine x_iconst C d_M_valueAt_5 (by decide) ?_
  refine x_idiv C d_M_valueAt_6 (by omega) (by decide) ?_
  refine x_iald C d_M_valueAt_7 rfl (by omega) (by omega) (by omega) (by omega) (fun r7 => ?_)
  refine x_if_le (tgt := 20) C d_M_valueAt_8 rfl (fun h8 => ?_) (fun h8 => ?_)
  · refine x_aload_n C d_M_valueAt_20 rfl rfl ?_
    refine x_getC C 12 12 cf_M fl_M_40 d_M_valueAt_21 rfl rfl rfl (by omega) (by omega) rfl ?_
    refine x_iload_n C d_M_valueAt_24 rfl rfl ?_
    refine x_iald C d_M_valueAt_25 rfl (by omega) (by omega) (by omega) (by omega) (fun r25 => ?_)
    exact x_iret rt d_M_valueAt_26 (by omega) (by omega) ⟨by grind [m_valueAt], rfl, rfl⟩
  · refine x_aload_n C d_M_valueAt_11 rfl rfl ?_
    refine x_getC C 15 15 cf_M fl_M_49 d_M_valueAt_12 rfl rfl rfl (by omega) (by omega) rfl ?_
    refine x_iload_n C d_M_valueAt_15 rfl rfl ?_
    refine x_iald C d_M_valueAt_16 rfl (by omega) (by omega) (by omega) (by omega) (fun r16 => ?_)
    refine x_goto (tgt := 26) C d_M_valueAt_17 rfl ?_
    exact x_iret rt d_M_valueAt_26 (by omega) (by omega) ⟨by grind [m_valueAt], rfl, rfl⟩
theorem c_M_find {σ : Hp} {key : Int} : Ok LyM TM y_M_find b_M_find 3 (some .int) 2 0 0 [.inr 1, .inl key] 28 σ (pI 28 σ (m_find σ key)) := by
  refine ok_mk (by decide) (Nat.le_of_ble_eq_true rfl) (fun K C rt ha hok hfx => ?_)
  show XW LyM TM K 28 σ 0 0 0 [some (.inr 1), some (.inl key), none] []
  have loop : ∀ (k : Nat) (x : Int), 0 ≤ x → x + k = 24 → srch (fun x => decide (m_keyAt σ x = key)) x k = m_find σ key → XW LyM TM K 28 σ 0 0 2 [some (.inr 1), some (.inl key), some (.inl x)] [] := by
    intro k
    induction k with
    | zero =>
      intro x h0 h1 h2
      refine x_iload_n C d_M_find_2 rfl rfl ?_
      refine x_bipush C d_M_find_3 (by decide) (by decide) ?_
      refine x_icmp_ge (tgt := 25) C d_M_find_5 rfl (fun h5 => ?_) (fun h5 => ?_)
      · refine x_iconst C d_M_find_25 (by decide) ?_
        exact x_iret rt d_M_find_26 (by omega) (by omega) ⟨by rw [← h2]; rfl, rfl, rfl⟩
      · exact absurd h5 (by omega)
    | succ k ih =>
      intro x h0 h1 h2
      have hs : srch (fun x => decide (m_keyAt σ x = key)) x (k + 1) = if m_keyAt σ x = key then x else srch (fun x => decide (m_keyAt σ x = key)) (x + 1) k := by
        simp [srch]
      rw [hs] at h2
      refine x_iload_n C d_M_find_2 rfl rfl ?_
      refine x_bipush C d_M_find_3 (by decide) (by decide) ?_
      refine x_icmp_ge (tgt := 25) C d_M_find_5 rfl (fun h5 => ?_) (fun h5 => ?_)
      · exact absurd h5 (by omega)
      · refine x_aload_n C d_M_find_8 rfl rfl ?_
        refine x_iload_n C d_M_find_9 rfl rfl ?_
        refine x_callV C cl_M_93 cb_M_keyAt cs_M_keyAt d_M_find_10 (c_M_keyAt h0 (by omega)) rfl rfl rfl rfl rfl (by omega) (by omega) (by decide) (by decide) (Nat.le_of_ble_eq_true rfl) (by omega) (by omega) ?_
        rintro _ _ _ ⟨rfl, rfl, rfl⟩ -
        skip
        refine x_iload_n C d_M_find_13 rfl rfl ?_
        refine x_icmp_ne (tgt := 19) C d_M_find_14 rfl (fun h14 => ?_) (fun h14 => ?_)
        · refine x_iinc C d_M_find_19 (by decide) rfl ⟨by omega, by omega⟩ ?_
          refine x_goto (tgt := 2) C d_M_find_22 rfl ?_
          exact ih (x + 1) (by omega) (by omega) (by rw [← h2, if_neg h14])
        · refine x_iload_n C d_M_find_17 rfl rfl ?_
          exact x_iret rt d_M_find_18 (by omega) (by omega) ⟨by rw [← h2, if_pos h14], rfl, rfl⟩
  refine x_iconst C d_M_find_0 (by decide) ?_
  refine x_istore_n C d_M_find_1 rfl (by decide) ?_
  exact loop 24 0 (by omega) (by omega) rfl
theorem c_M_spill {σ : Hp} {g : Int} (h0 : 0 ≤ g) (h1 : g < 6) (hr : R3 (σ 1 21 + 1)) : Ok LyM TM y_M_spill b_M_spill 3 none 1 0 0 [.inr 1, .inl g] 28 σ (pV 28 (m_spill σ g)) := by
  refine ok_mk (by decide) (Nat.le_of_ble_eq_true rfl) (fun K C rt ha hok hfx => ?_)
  show XW LyM TM K 28 σ 0 0 0 [some (.inr 1), some (.inl g), none] []
  have hr1 := hr.1
  have hr2 := hr.2
  have loop : ∀ (k : Nat) (x : Int), 4 * g ≤ x → x + k = 4 * g + 4 → XW LyM TM K 28 (m_cp (st2 σ 1 1 (if σ 1 1 < σ 16 g then σ 16 g else σ 1 1)) 14 11 g x) 0 0 34 [some (.inr 1), some (.inl g), some (.inl x)] [] := by
    intro k
    induction k with
    | zero =>
      intro x hx hk
      obtain rfl : x = 4 * g + 4 := by omega
      refine x_iload_n C d_M_spill_34 rfl rfl ?_
      refine x_iconst C d_M_spill_35 (by decide) ?_
      refine x_iload_n C d_M_spill_36 rfl rfl ?_
      refine x_imul C d_M_spill_37 ⟨by omega, by omega⟩ ?_
      refine x_iconst C d_M_spill_38 (by decide) ?_
      refine x_iadd C d_M_spill_39 ⟨by omega, by omega⟩ ?_
      refine x_icmp_ge (tgt := 73) C d_M_spill_40 rfl (fun h40 => ?_) (fun h40 => ?_)
      · refine x_aload_n C d_M_spill_73 rfl rfl ?_
        refine x_getC C 13 13 cf_M fl_M_43 d_M_spill_74 rfl rfl rfl (by omega) (by omega) rfl ?_
        refine x_iload_n C d_M_spill_77 rfl rfl ?_
        refine x_aload_n C d_M_spill_78 rfl rfl ?_
        refine x_getC C 16 16 cf_M fl_M_52 d_M_spill_79 rfl rfl rfl (by omega) (by omega) rfl ?_
        refine x_iload_n C d_M_spill_82 rfl rfl ?_
        refine x_iald C d_M_spill_83 rfl (by omega) (by omega) (by omega) (by omega) (fun r83 => ?_)
        refine x_iast C d_M_spill_84 rfl rfl (by omega) (by omega) (by omega) (by omega) ?_
        refine x_aload_n C d_M_spill_85 rfl rfl ?_
        refine x_getC C 17 17 cf_M fl_M_55 d_M_spill_86 rfl rfl rfl (by omega) (by omega) rfl ?_
        refine x_iload_n C d_M_spill_89 rfl rfl ?_
        refine x_iconst C d_M_spill_90 (by decide) ?_
        refine x_iast C d_M_spill_91 rfl rfl (by omega) (by omega) (by omega) (by omega) ?_
        refine x_aload_n C d_M_spill_92 rfl rfl ?_
        refine x_dup C d_M_spill_93 ?_
        refine x_getI C 21 cf_M fl_M_101 d_M_spill_94 rfl (by decide) rfl rfl (by omega) (by omega) (fun r94 => ?_)
        refine x_iconst C d_M_spill_97 (by decide) ?_
        refine x_iadd C d_M_spill_98 ⟨by simp [st2, m_cp]; omega, by simp [st2, m_cp]; omega⟩ ?_
        refine x_putI C 21 rfl cf_M fl_M_101 d_M_spill_99 rfl (Or.inl ⟨rfl, rfl⟩) rfl rfl rfl (by omega) (by omega) ?_
        exact x_vret rt d_M_spill_102 (by omega) (by omega) ⟨rfl, rfl, rfl⟩
      · exact absurd h40 (by omega)
    | succ k ih =>
      intro x hx hk
      refine x_iload_n C d_M_spill_34 rfl rfl ?_
      refine x_iconst C d_M_spill_35 (by decide) ?_
      refine x_iload_n C d_M_spill_36 rfl rfl ?_
      refine x_imul C d_M_spill_37 ⟨by omega, by omega⟩ ?_
      refine x_iconst C d_M_spill_38 (by decide) ?_
      refine x_iadd C d_M_spill_39 ⟨by omega, by omega⟩ ?_
      refine x_icmp_ge (tgt := 73) C d_M_spill_40 rfl (fun h40 => ?_) (fun h40 => ?_)
      · exact absurd h40 (by omega)
      · refine x_aload_n C d_M_spill_43 rfl rfl ?_
        refine x_getC C 11 11 cf_M fl_M_37 d_M_spill_44 rfl rfl rfl (by omega) (by omega) rfl ?_
        refine x_iload_n C d_M_spill_47 rfl rfl ?_
        refine x_aload_n C d_M_spill_48 rfl rfl ?_
        refine x_getC C 14 14 cf_M fl_M_46 d_M_spill_49 rfl rfl rfl (by omega) (by omega) rfl ?_
        refine x_iload_n C d_M_spill_52 rfl rfl ?_
        refine x_iald C d_M_spill_53 rfl (by omega) (by omega) (by omega) (by omega) (fun r53 => ?_)
        refine x_iast C d_M_spill_54 rfl rfl (by omega) (by omega) (by omega) (by omega) ?_
        refine x_aload_n C d_M_spill_55 rfl rfl ?_
        refine x_getC C 12 12 cf_M fl_M_40 d_M_spill_56 rfl rfl rfl (by omega) (by omega) rfl ?_
        refine x_iload_n C d_M_spill_59 rfl rfl ?_
        refine x_aload_n C d_M_spill_60 rfl rfl ?_
        refine x_getC C 15 15 cf_M fl_M_49 d_M_spill_61 rfl rfl rfl (by omega) (by omega) rfl ?_
        refine x_iload_n C d_M_spill_64 rfl rfl ?_
        refine x_iald C d_M_spill_65 rfl (by omega) (by omega) (by omega) (by omega) (fun r65 => ?_)
        refine x_iast C d_M_spill_66 rfl rfl (by omega) (by omega) (by omega) (by omega) ?_
        refine x_iinc C d_M_spill_67 (by decide) rfl ⟨by omega, by omega⟩ ?_
        refine x_goto (tgt := 34) C d_M_spill_70 rfl ?_
        rw [cpD_step hx]
        exact ih (x + 1) (by omega) (by omega)
  have J : ∀ v : Int, v = (if σ 1 1 < σ 16 g then σ 16 g else σ 1 1) → XW LyM TM K 28 σ 0 0 27 [some (.inr 1), some (.inl g), none] [.inl v, .inr 1] := by
    intro v hv
    subst hv
    have e := loop 4 (4 * g) (by omega) (by omega)
    rw [m_cp_0] at e
    refine x_putI C 1 rfl cf_M fl_M_97 d_M_spill_27 rfl (Or.inl ⟨rfl, rfl⟩) rfl rfl rfl (by omega) (by omega) ?_
    refine x_iconst C d_M_spill_30 (by decide) ?_
    refine x_iload_n C d_M_spill_31 rfl rfl ?_
    refine x_imul C d_M_spill_32 ⟨by omega, by omega⟩ ?_
    refine x_istore_n C d_M_spill_33 rfl (by decide) ?_
    exact e
  refine x_aload_n C d_M_spill_0 rfl rfl ?_
  refine x_aload_n C d_M_spill_1 rfl rfl ?_
  refine x_getI C 1 cf_M fl_M_97 d_M_spill_2 rfl (by decide) rfl rfl (by omega) (by omega) (fun r2 => ?_)
  refine x_aload_n C d_M_spill_5 rfl rfl ?_
  refine x_getC C 16 16 cf_M fl_M_52 d_M_spill_6 rfl rfl rfl (by omega) (by omega) rfl ?_
  refine x_iload_n C d_M_spill_9 rfl rfl ?_
  refine x_iald C d_M_spill_10 rfl (by omega) (by omega) (by omega) (by omega) (fun r10 => ?_)
  refine x_icmp_ge (tgt := 23) C d_M_spill_11 rfl (fun h11 => ?_) (fun h11 => ?_)
  · refine x_aload_n C d_M_spill_23 rfl rfl ?_
    refine x_getI C 1 cf_M fl_M_97 d_M_spill_24 rfl (by decide) rfl rfl (by omega) (by omega) (fun r24 => ?_)
    exact J _ (by grind)
  · refine x_aload_n C d_M_spill_14 rfl rfl ?_
    refine x_getC C 16 16 cf_M fl_M_52 d_M_spill_15 rfl rfl rfl (by omega) (by omega) rfl ?_
    refine x_iload_n C d_M_spill_18 rfl rfl ?_
    refine x_iald C d_M_spill_19 rfl (by omega) (by omega) (by omega) (by omega) (fun r19 => ?_)
    refine x_goto (tgt := 27) C d_M_spill_20 rfl ?_
    exact J _ (by grind)
theorem c_M_fetch {σ : Hp} {g : Int} (h0 : 0 ≤ g) (h1 : g < 6) (hB : mB σ) : Ok LyM TM y_M_fetch b_M_fetch 5 none 2 0 0 [.inr 1, .inl g] 28 σ (pV 28 (m_fetch σ g)) := by
  refine ok_mk (by decide) (Nat.le_of_ble_eq_true rfl) (fun K C rt ha hok hfx => ?_)
  show XW LyM TM K 28 σ 0 0 0 [some (.inr 1), some (.inl g), none, none, none] []
  obtain ⟨b1, b2, b3, b4, b5, b6⟩ := hB
  have e20 : st2 σ 1 19 (σ 1 19 + 1) 1 20 = σ 1 20 := by simp [st2]
  have e21 : st2 σ 1 19 (σ 1 19 + 1) 1 21 = σ 1 21 := by simp [st2]
  have hend : ∀ τ1 : Hp, τ1 = (if st2 σ 1 19 (σ 1 19 + 1) 18 g = 0 then m_load (m_evict (st2 σ 1 19 (σ 1 19 + 1))) g else st2 σ 1 19 (σ 1 19 + 1)) → st2 τ1 18 g (τ1 1 19) = m_fetch σ g := fun τ1 h => by subst h; rfl
  have e0 : ∀ {P : Hp → Prop}, P (st2 σ 1 19 (σ 1 19 + 1)) → P (st2 σ 1 19 (σ 1 19 + 1)) := fun h => h
  generalize hτ0 : st2 σ 1 19 (σ 1 19 + 1) = τ0 at e20 e21 hend
  have J198 : ∀ (τ : Hp) (a b c : Option AV), τ = (if τ0 18 g = 0 then m_load (m_evict τ0) g else τ0) → XW LyM TM K 28 τ 0 0 198 [some (.inr 1), some (.inl g), a, b, c] [] := by
    intro τ a b c hτ
    refine x_aload_n C d_M_fetch_198 rfl rfl ?_
    refine x_getC C 18 18 cf_M fl_M_58 d_M_fetch_199 rfl rfl rfl (by omega) (by omega) rfl ?_
    refine x_iload_n C d_M_fetch_202 rfl rfl ?_
    refine x_aload_n C d_M_fetch_203 rfl rfl ?_
    refine x_getI C 19 cf_M fl_M_104 d_M_fetch_204 rfl (by decide) rfl rfl (by omega) (by omega) (fun r204 => ?_)
    refine x_iast C d_M_fetch_207 rfl rfl (by omega) (by omega) (by omega) (by omega) ?_
    exact x_vret rt d_M_fetch_208 (by omega) (by omega) ⟨rfl, rfl, (hend τ hτ).symm⟩
  have J120 : ∀ (τ : Hp) (a b c : Option AV), τ = m_evict τ0 → τ0 18 g = 0 → XW LyM TM K 28 τ 0 0 120 [some (.inr 1), some (.inl g), a, b, c] [] := by
    intro τ a b c hτ hz
    have e : τ 1 20 = σ 1 20 := by rw [hτ, m_evict_1 _ (by decide) (by decide), e20]
    have loop : ∀ (k : Nat) (x : Int), 4 * g ≤ x → x + k = 4 * g + 4 → XW LyM TM K 28 (m_cp τ 11 14 g x) 0 0 125 [some (.inr 1), some (.inl g), a, b, some (.inl x)] [] := by
      intro k
      induction k with
      | zero =>
        intro x hx hk
        obtain rfl : x = 4 * g + 4 := by omega
        refine x_iload C d_M_fetch_125 rfl ?_
        refine x_iconst C d_M_fetch_127 (by decide) ?_
        refine x_iload_n C d_M_fetch_128 rfl rfl ?_
        refine x_imul C d_M_fetch_129 ⟨by omega, by omega⟩ ?_
        refine x_iconst C d_M_fetch_130 (by decide) ?_
        refine x_iadd C d_M_fetch_131 ⟨by omega, by omega⟩ ?_
        refine x_icmp_ge (tgt := 169) C d_M_fetch_132 rfl (fun h132 => ?_) (fun h132 => ?_)
        · refine x_aload_n C d_M_fetch_169 rfl rfl ?_
          refine x_getC C 16 16 cf_M fl_M_52 d_M_fetch_170 rfl rfl rfl (by omega) (by omega) rfl ?_
          refine x_iload_n C d_M_fetch_173 rfl rfl ?_
          refine x_aload_n C d_M_fetch_174 rfl rfl ?_
          refine x_getC C 13 13 cf_M fl_M_43 d_M_fetch_175 rfl rfl rfl (by omega) (by omega) rfl ?_
          refine x_iload_n C d_M_fetch_178 rfl rfl ?_
          refine x_iald C d_M_fetch_179 rfl (by omega) (by omega) (by omega) (by omega) (fun r179 => ?_)
          refine x_iast C d_M_fetch_180 rfl rfl (by omega) (by omega) (by omega) (by omega) ?_
          refine x_aload_n C d_M_fetch_181 rfl rfl ?_
          refine x_getC C 17 17 cf_M fl_M_55 d_M_fetch_182 rfl rfl rfl (by omega) (by omega) rfl ?_
          refine x_iload_n C d_M_fetch_185 rfl rfl ?_
          refine x_iconst C d_M_fetch_186 (by decide) ?_
          refine x_iast C d_M_fetch_187 rfl rfl (by omega) (by omega) (by omega) (by omega) ?_
          refine x_aload_n C d_M_fetch_188 rfl rfl ?_
          refine x_dup C d_M_fetch_189 ?_
          refine x_getI C 20 cf_M fl_M_111 d_M_fetch_190 rfl (by decide) rfl rfl (by omega) (by omega) (fun r190 => ?_)
          refine x_iconst C d_M_fetch_193 (by decide) ?_
          refine x_iadd C d_M_fetch_194 ⟨by simp [st2, m_cp]; omega, by simp [st2, m_cp]; omega⟩ ?_
          refine x_putI C 20 rfl cf_M fl_M_111 d_M_fetch_195 rfl (Or.inl ⟨rfl, rfl⟩) rfl rfl rfl (by omega) (by omega) ?_
          exact J198 _ _ _ _ (by rw [if_pos hz, ← hτ]; rfl)
        · exact absurd h132 (by omega)
      | succ k ih =>
        intro x hx hk
        refine x_iload C d_M_fetch_125 rfl ?_
        refine x_iconst C d_M_fetch_127 (by decide) ?_
        refine x_iload_n C d_M_fetch_128 rfl rfl ?_
        refine x_imul C d_M_fetch_129 ⟨by omega, by omega⟩ ?_
        refine x_iconst C d_M_fetch_130 (by decide) ?_
        refine x_iadd C d_M_fetch_131 ⟨by omega, by omega⟩ ?_
        refine x_icmp_ge (tgt := 169) C d_M_fetch_132 rfl (fun h132 => ?_) (fun h132 => ?_)
        · exact absurd h132 (by omega)
        · refine x_aload_n C d_M_fetch_135 rfl rfl ?_
          refine x_getC C 14 14 cf_M fl_M_46 d_M_fetch_136 rfl rfl rfl (by omega) (by omega) rfl ?_
          refine x_iload C d_M_fetch_139 rfl ?_
          refine x_aload_n C d_M_fetch_141 rfl rfl ?_
          refine x_getC C 11 11 cf_M fl_M_37 d_M_fetch_142 rfl rfl rfl (by omega) (by omega) rfl ?_
          refine x_iload C d_M_fetch_145 rfl ?_
          refine x_iald C d_M_fetch_147 rfl (by omega) (by omega) (by omega) (by omega) (fun r147 => ?_)
          refine x_iast C d_M_fetch_148 rfl rfl (by omega) (by omega) (by omega) (by omega) ?_
          refine x_aload_n C d_M_fetch_149 rfl rfl ?_
          refine x_getC C 15 15 cf_M fl_M_49 d_M_fetch_150 rfl rfl rfl (by omega) (by omega) rfl ?_
          refine x_iload C d_M_fetch_153 rfl ?_
          refine x_aload_n C d_M_fetch_155 rfl rfl ?_
          refine x_getC C 12 12 cf_M fl_M_40 d_M_fetch_156 rfl rfl rfl (by omega) (by omega) rfl ?_
          refine x_iload C d_M_fetch_159 rfl ?_
          refine x_iald C d_M_fetch_161 rfl (by omega) (by omega) (by omega) (by omega) (fun r161 => ?_)
          refine x_iast C d_M_fetch_162 rfl rfl (by omega) (by omega) (by omega) (by omega) ?_
          refine x_iinc C d_M_fetch_163 (by decide) rfl ⟨by omega, by omega⟩ ?_
          refine x_goto (tgt := 125) C d_M_fetch_166 rfl ?_
          rw [cpP_step hx]
          exact ih (x + 1) (by omega) (by omega)
    have e2 := loop 4 (4 * g) (by omega) (by omega)
    rw [m_cp_0] at e2
    refine x_iconst C d_M_fetch_120 (by decide) ?_
    refine x_iload_n C d_M_fetch_121 rfl rfl ?_
    refine x_imul C d_M_fetch_122 ⟨by omega, by omega⟩ ?_
    refine x_istore C d_M_fetch_123 (by decide) ?_
    exact e2
  have J94 : XW LyM TM K 28 τ0 0 0 94 [some (.inr 1), some (.inl g), some (.inl (m_scan τ0 6).1), some (.inl (m_scan τ0 6).2), some (.inl 6)] [] ∨ ¬ τ0 18 g = 0 := by
    by_cases hz : τ0 18 g = 0
    · left
      obtain ⟨-, -, s3⟩ := m_scan_spec τ0 6
      generalize hc : (m_scan τ0 6).1 = cn at s3
      generalize ho : (m_scan τ0 6).2 = o at s3
      have J113 : ∀ τ : Hp, cn = 3 → τ = (if 0 < τ0 17 o then m_spill τ0 o else τ0) → XW LyM TM K 28 τ 0 0 113 [some (.inr 1), some (.inl g), some (.inl cn), some (.inl o), some (.inl 6)] [] := by
        intro τ h3 hτ
        refine x_aload_n C d_M_fetch_113 rfl rfl ?_
        refine x_getC C 18 18 cf_M fl_M_58 d_M_fetch_114 rfl rfl rfl (by omega) (by omega) rfl ?_
        refine x_iload_n C d_M_fetch_117 rfl rfl ?_
        refine x_iconst C d_M_fetch_118 (by decide) ?_
        refine x_iast C d_M_fetch_119 rfl rfl (by omega) (by omega) (by omega) (by omega) ?_
        exact J120 _ _ _ _ (by rw [m_evict, hc, ho, if_pos h3, hτ]) hz
      refine x_iload_n C d_M_fetch_94 rfl rfl ?_
      refine x_iconst C d_M_fetch_95 (by decide) ?_
      refine x_icmp_ne (tgt := 120) C d_M_fetch_96 rfl (fun h96 => ?_) (fun h96 => ?_)
      · exact J120 _ _ _ _ (by rw [m_evict, hc, if_neg h96]) hz
      · refine x_aload_n C d_M_fetch_99 rfl rfl ?_
        refine x_getC C 17 17 cf_M fl_M_55 d_M_fetch_100 rfl rfl rfl (by omega) (by omega) rfl ?_
        refine x_iload_n C d_M_fetch_103 rfl rfl ?_
        refine x_iald C d_M_fetch_104 rfl (by omega) (by omega) (by omega) (by omega) (fun r104 => ?_)
        refine x_if_le (tgt := 113) C d_M_fetch_105 rfl (fun h105 => ?_) (fun h105 => ?_)
        · exact J113 _ h96 (by grind)
        · refine x_aload_n C d_M_fetch_108 rfl rfl ?_
          refine x_iload_n C d_M_fetch_109 rfl rfl ?_
          refine x_callV C cl_M_107 cb_M_spill cs_M_spill d_M_fetch_110 (c_M_spill (by omega) (by omega) ⟨by omega, by omega⟩) rfl rfl rfl rfl rfl (by omega) (by omega) (by decide) (by decide) (Nat.le_of_ble_eq_true rfl) (by omega) (by omega) ?_
          rintro _ _ _ ⟨rfl, rfl, rfl⟩ -
          skip
          exact J113 _ h96 (by grind)
    · right; exact hz
  have scan : ∀ (k : Nat) (i : Nat), i + k = 6 → τ0 18 g = 0 → XW LyM TM K 28 τ0 0 0 26 [some (.inr 1), some (.inl g), some (.inl (m_scan τ0 i).1), some (.inl (m_scan τ0 i).2), some (.inl (i : Int))] [] := by
    intro k
    induction k with
    | zero =>
      intro i hi hz
      obtain rfl : i = 6 := by omega
      refine x_iload C d_M_fetch_26 rfl ?_
      refine x_bipush C d_M_fetch_28 (by decide) (by decide) ?_
      refine x_icmp_ge (tgt := 94) C d_M_fetch_30 rfl (fun h30 => ?_) (fun h30 => ?_)
      · exact J94.resolve_right (fun h => h hz)
      · exact absurd h30 (by decide)
    | succ k ih =>
      intro i hi hz
      obtain ⟨s1, s2, s3⟩ := m_scan_spec τ0 i
      have e3 : (m_scan τ0 (i + 1)).1 = (m_scan τ0 i).1 + (if 0 < τ0 18 (i : Int) then 1 else 0) := rfl
      have e4 : (m_scan τ0 (i + 1)).2 = if 0 < τ0 18 (i : Int) ∧ ((m_scan τ0 i).2 < 0 ∨ τ0 18 (i : Int) < τ0 18 (m_scan τ0 i).2) then (i : Int) else (m_scan τ0 i).2 := rfl
      have ih2 := ih (i + 1) (by omega) hz
      rw [e3, e4] at ih2
      generalize (m_scan τ0 i).1 = cn at *
      generalize (m_scan τ0 i).2 = o at *
      have J87 : ∀ v w : Int, v = (if 0 < τ0 18 (i : Int) then 1 else 0) → w = (if 0 < τ0 18 (i : Int) ∧ (o < 0 ∨ τ0 18 (i : Int) < τ0 18 o) then (i : Int) else o) → XW LyM TM K 28 τ0 0 0 87 [some (.inr 1), some (.inl g), some (.inl (cn + v)), some (.inl o), some (.inl (i : Int))] [.inl w] := by
        intro v w hv hw
        subst hv
        subst hw
        refine x_istore_n C d_M_fetch_87 rfl (by decide) ?_
        refine x_iinc C d_M_fetch_88 (by decide) rfl ⟨by omega, by omega⟩ ?_
        refine x_goto (tgt := 26) C d_M_fetch_91 rfl ?_
        exact ih2
      have J49 : ∀ v : Int, v = (if 0 < τ0 18 (i : Int) then 1 else 0) → XW LyM TM K 28 τ0 0 0 49 [some (.inr 1), some (.inl g), some (.inl cn), some (.inl o), some (.inl (i : Int))] [.inl v, .inl cn] := by
        intro v hv
        have hv2 : v = 0 ∨ v = 1 := by grind
        refine x_iadd C d_M_fetch_49 ⟨by omega, by omega⟩ ?_
        refine x_istore_n C d_M_fetch_50 rfl (by decide) ?_
        refine x_aload_n C d_M_fetch_51 rfl rfl ?_
        refine x_getC C 18 18 cf_M fl_M_58 d_M_fetch_52 rfl rfl rfl (by omega) (by omega) rfl ?_
        refine x_iload C d_M_fetch_55 rfl ?_
        refine x_iald C d_M_fetch_57 rfl (by omega) (by omega) (by omega) (by omega) (fun r57 => ?_)
        refine x_if_le (tgt := 86) C d_M_fetch_58 rfl (fun h58 => ?_) (fun h58 => ?_)
        · refine x_iload_n C d_M_fetch_86 rfl rfl ?_
          exact J87 _ _ hv (by grind)
        · refine x_iload_n C d_M_fetch_61 rfl rfl ?_
          refine x_if_lt (tgt := 81) C d_M_fetch_62 rfl (fun h62 => ?_) (fun h62 => ?_)
          · refine x_iload C d_M_fetch_81 rfl ?_
            refine x_goto (tgt := 87) C d_M_fetch_83 rfl ?_
            exact J87 _ _ hv (by grind)
          · refine x_aload_n C d_M_fetch_65 rfl rfl ?_
            refine x_getC C 18 18 cf_M fl_M_58 d_M_fetch_66 rfl rfl rfl (by omega) (by omega) rfl ?_
            refine x_iload C d_M_fetch_69 rfl ?_
            refine x_iald C d_M_fetch_71 rfl (by omega) (by omega) (by omega) (by omega) (fun r71 => ?_)
            refine x_aload_n C d_M_fetch_72 rfl rfl ?_
            refine x_getC C 18 18 cf_M fl_M_58 d_M_fetch_73 rfl rfl rfl (by omega) (by omega) rfl ?_
            refine x_iload_n C d_M_fetch_76 rfl rfl ?_
            refine x_iald C d_M_fetch_77 rfl (by omega) (by omega) (by omega) (by omega) (fun r77 => ?_)
            refine x_icmp_ge (tgt := 86) C d_M_fetch_78 rfl (fun h78 => ?_) (fun h78 => ?_)
            · refine x_iload_n C d_M_fetch_86 rfl rfl ?_
              exact J87 _ _ hv (by grind)
            · refine x_iload C d_M_fetch_81 rfl ?_
              refine x_goto (tgt := 87) C d_M_fetch_83 rfl ?_
              exact J87 _ _ hv (by grind)
      refine x_iload C d_M_fetch_26 rfl ?_
      refine x_bipush C d_M_fetch_28 (by decide) (by decide) ?_
      refine x_icmp_ge (tgt := 94) C d_M_fetch_30 rfl (fun h30 => ?_) (fun h30 => ?_)
      · exact absurd h30 (by omega)
      · refine x_iload_n C d_M_fetch_33 rfl rfl ?_
        refine x_aload_n C d_M_fetch_34 rfl rfl ?_
        refine x_getC C 18 18 cf_M fl_M_58 d_M_fetch_35 rfl rfl rfl (by omega) (by omega) rfl ?_
        refine x_iload C d_M_fetch_38 rfl ?_
        refine x_iald C d_M_fetch_40 rfl (by omega) (by omega) (by omega) (by omega) (fun r40 => ?_)
        refine x_if_le (tgt := 48) C d_M_fetch_41 rfl (fun h41 => ?_) (fun h41 => ?_)
        · refine x_iconst C d_M_fetch_48 (by decide) ?_
          exact J49 _ (by grind)
        · refine x_iconst C d_M_fetch_44 (by decide) ?_
          refine x_goto (tgt := 49) C d_M_fetch_45 rfl ?_
          exact J49 _ (by grind)
  refine x_aload_n C d_M_fetch_0 rfl rfl ?_
  refine x_dup C d_M_fetch_1 ?_
  refine x_getI C 19 cf_M fl_M_104 d_M_fetch_2 rfl (by decide) rfl rfl (by omega) (by omega) (fun r2 => ?_)
  refine x_iconst C d_M_fetch_5 (by decide) ?_
  refine x_iadd C d_M_fetch_6 ⟨by omega, by omega⟩ ?_
  refine x_putI C 19 rfl cf_M fl_M_104 d_M_fetch_7 rfl (Or.inl ⟨rfl, rfl⟩) rfl rfl rfl (by omega) (by omega) ?_
  refine x_aload_n C d_M_fetch_10 rfl rfl ?_
  refine x_getC C 18 18 cf_M fl_M_58 d_M_fetch_11 rfl rfl rfl (by omega) (by omega) rfl ?_
  refine x_iload_n C d_M_fetch_14 rfl rfl ?_
  refine x_iald C d_M_fetch_15 rfl (by omega) (by omega) (by omega) (by omega) (fun r15 => ?_)
  refine x_if_ne (tgt := 198) C d_M_fetch_16 rfl (fun h16 => ?_) (fun h16 => ?_)
  · rw [hτ0] at *
    exact J198 _ _ _ _ (by rw [if_neg h16])
  · refine x_iconst C d_M_fetch_19 (by decide) ?_
    refine x_istore_n C d_M_fetch_20 rfl (by decide) ?_
    refine x_iconst C d_M_fetch_21 (by decide) ?_
    refine x_istore_n C d_M_fetch_22 rfl (by decide) ?_
    refine x_iconst C d_M_fetch_23 (by decide) ?_
    refine x_istore C d_M_fetch_24 (by decide) ?_
    rw [hτ0] at *
    exact scan 6 0 (by omega) h16

theorem c_M_apply {σ : Hp} {r : Int} (h0 : 0 ≤ r) (h1 : r < 204) (h2 : 0 ≤ σ 4 r) (h3 : σ 4 r < 24) : Ok LyM TM y_M_apply b_M_apply 4 none 1 0 0 [.inr 1, .inl r] 28 σ (pV 28 (m_apply σ r)) := by
  refine ok_mk (by decide) (Nat.le_of_ble_eq_true rfl) (fun K C rt ha hok hfx => ?_)
  show XW LyM TM K 28 σ 0 0 0 [some (.inr 1), some (.inl r), none, none] []
  refine x_aload_n C d_M_apply_0 rfl rfl ?_
  refine x_getC C 4 4 cf_M fl_M_16 d_M_apply_1 rfl rfl rfl (by omega) (by omega) rfl ?_
  refine x_iload_n C d_M_apply_4 rfl rfl ?_
  refine x_iald C d_M_apply_5 rfl (by omega) (by omega) (by omega) (by omega) (fun r5 => ?_)
  refine x_istore_n C d_M_apply_6 rfl (by decide) ?_
  refine x_iload_n C d_M_apply_7 rfl rfl ?_
  refine x_iconst C d_M_apply_8 (by decide) ?_
  refine x_idiv C d_M_apply_9 (by omega) (by decide) ?_
  refine x_istore_n C d_M_apply_10 rfl (by decide) ?_
  refine x_aload_n C d_M_apply_11 rfl rfl ?_
  refine x_getC C 14 14 cf_M fl_M_46 d_M_apply_12 rfl rfl rfl (by omega) (by omega) rfl ?_
  refine x_iload_n C d_M_apply_15 rfl rfl ?_
  refine x_aload_n C d_M_apply_16 rfl rfl ?_
  refine x_getC C 7 7 cf_M fl_M_25 d_M_apply_17 rfl rfl rfl (by omega) (by omega) rfl ?_
  refine x_iload_n C d_M_apply_20 rfl rfl ?_
  refine x_iald C d_M_apply_21 rfl (by omega) (by omega) (by omega) (by omega) (fun r21 => ?_)
  refine x_iast C d_M_apply_22 rfl rfl (by omega) (by omega) (by omega) (by omega) ?_
  refine x_aload_n C d_M_apply_23 rfl rfl ?_
  refine x_getC C 15 15 cf_M fl_M_49 d_M_apply_24 rfl rfl rfl (by omega) (by omega) rfl ?_
  refine x_iload_n C d_M_apply_27 rfl rfl ?_
  refine x_aload_n C d_M_apply_28 rfl rfl ?_
  refine x_getC C 8 8 cf_M fl_M_28 d_M_apply_29 rfl rfl rfl (by omega) (by omega) rfl ?_
  refine x_iload_n C d_M_apply_32 rfl rfl ?_
  refine x_iald C d_M_apply_33 rfl (by omega) (by omega) (by omega) (by omega) (fun r33 => ?_)
  refine x_iast C d_M_apply_34 rfl rfl (by omega) (by omega) (by omega) (by omega) ?_
  refine x_aload_n C d_M_apply_35 rfl rfl ?_
  refine x_getC C 16 16 cf_M fl_M_52 d_M_apply_36 rfl rfl rfl (by omega) (by omega) rfl ?_
  refine x_iload_n C d_M_apply_39 rfl rfl ?_
  refine x_iload_n C d_M_apply_40 rfl rfl ?_
  refine x_iast C d_M_apply_41 rfl rfl (by omega) (by omega) (by omega) (by omega) ?_
  refine x_aload_n C d_M_apply_42 rfl rfl ?_
  refine x_getC C 17 17 cf_M fl_M_55 d_M_apply_43 rfl rfl rfl (by omega) (by omega) rfl ?_
  refine x_iload_n C d_M_apply_46 rfl rfl ?_
  refine x_aload_n C d_M_apply_47 rfl rfl ?_
  refine x_getC C 17 17 cf_M fl_M_55 d_M_apply_48 rfl rfl rfl (by omega) (by omega) rfl ?_
  refine x_iload_n C d_M_apply_51 rfl rfl ?_
  refine x_iald C d_M_apply_52 rfl (by omega) (by omega) (by omega) (by omega) (fun r52 => ?_)
  refine x_if_ne (tgt := 60) C d_M_apply_53 rfl (fun h53 => ?_) (fun h53 => ?_)
  · refine x_aload_n C d_M_apply_60 rfl rfl ?_
    refine x_getC C 17 17 cf_M fl_M_55 d_M_apply_61 rfl rfl rfl (by omega) (by omega) rfl ?_
    refine x_iload_n C d_M_apply_64 rfl rfl ?_
    refine x_iald C d_M_apply_65 rfl (by omega) (by omega) (by omega) (by omega) (fun r65 => ?_)
    refine x_iast C d_M_apply_66 rfl rfl (by omega) (by omega) (by omega) (by omega) ?_
    exact x_vret rt d_M_apply_67 (by omega) (by omega) ⟨rfl, rfl, by simp only [m_apply]; first | rw [if_pos h53] | rw [if_neg h53]⟩
  · refine x_iload_n C d_M_apply_56 rfl rfl ?_
    refine x_goto (tgt := 66) C d_M_apply_57 rfl ?_
    refine x_iast C d_M_apply_66 rfl rfl (by omega) (by omega) (by omega) (by omega) ?_
    exact x_vret rt d_M_apply_67 (by omega) (by omega) ⟨rfl, rfl, by simp only [m_apply]; first | rw [if_pos h53] | rw [if_neg h53]⟩
theorem c_M_put {σ : Hp} {k t x : Int} (h0 : 0 ≤ σ 1 0) (h1 : σ 1 0 < 203) : Ok LyM TM y_M_put b_M_put 4 (some .int) 1 0 0 [.inr 1, .inl k, .inl t, .inl x] 28 σ (pI 28 (m_put σ k t x) (σ 1 0 + 1)) := by
  refine ok_mk (by decide) (Nat.le_of_ble_eq_true rfl) (fun K C rt ha hok hfx => ?_)
  show XW LyM TM K 28 σ 0 0 0 [some (.inr 1), some (.inl k), some (.inl t), some (.inl x)] []
  refine x_aload_n C d_M_put_0 rfl rfl ?_
  refine x_dup C d_M_put_1 ?_
  refine x_getI C 0 cf_M fl_M_114 d_M_put_2 rfl (by decide) rfl rfl (by omega) (by omega) (fun r2 => ?_)
  refine x_iconst C d_M_put_5 (by decide) ?_
  refine x_iadd C d_M_put_6 ⟨by omega, by omega⟩ ?_
  refine x_putI C 0 rfl cf_M fl_M_114 d_M_put_7 rfl (Or.inl ⟨rfl, rfl⟩) rfl rfl rfl (by omega) (by omega) ?_
  refine x_aload_n C d_M_put_10 rfl rfl ?_
  refine x_getC C 2 2 cf_M fl_M_7 d_M_put_11 rfl rfl rfl (by omega) (by omega) rfl ?_
  refine x_aload_n C d_M_put_14 rfl rfl ?_
  refine x_getI C 0 cf_M fl_M_114 d_M_put_15 rfl (by decide) rfl rfl (by omega) (by omega) (fun r15 => ?_)
  refine x_iload_n C d_M_put_18 rfl rfl ?_
  refine x_iast C d_M_put_19 rfl rfl (by omega) (by omega) (by simp [st2]; omega) (by simp [st2]; omega) ?_
  refine x_aload_n C d_M_put_20 rfl rfl ?_
  refine x_getC C 3 3 cf_M fl_M_13 d_M_put_21 rfl rfl rfl (by omega) (by omega) rfl ?_
  refine x_aload_n C d_M_put_24 rfl rfl ?_
  refine x_getI C 0 cf_M fl_M_114 d_M_put_25 rfl (by decide) rfl rfl (by omega) (by omega) (fun r25 => ?_)
  refine x_iload_n C d_M_put_28 rfl rfl ?_
  refine x_iast C d_M_put_29 rfl rfl (by omega) (by omega) (by simp [st2]; omega) (by simp [st2]; omega) ?_
  refine x_aload_n C d_M_put_30 rfl rfl ?_
  refine x_getC C 4 4 cf_M fl_M_16 d_M_put_31 rfl rfl rfl (by omega) (by omega) rfl ?_
  refine x_aload_n C d_M_put_34 rfl rfl ?_
  refine x_getI C 0 cf_M fl_M_114 d_M_put_35 rfl (by decide) rfl rfl (by omega) (by omega) (fun r35 => ?_)
  refine x_iload_n C d_M_put_38 rfl rfl ?_
  refine x_iast C d_M_put_39 rfl rfl (by omega) (by omega) (by simp [st2]; omega) (by simp [st2]; omega) ?_
  refine x_aload_n C d_M_put_40 rfl rfl ?_
  refine x_getI C 0 cf_M fl_M_114 d_M_put_41 rfl (by decide) rfl rfl (by omega) (by omega) (fun r41 => ?_)
  exact x_iret rt d_M_put_44 (by omega) (by omega) ⟨by simp [st2], rfl, rfl⟩
theorem c_M_countOf {σ : Hp} {k : Int} (h0 : 0 ≤ σ 1 0) (h1 : σ 1 0 < 204) : Ok LyM TM y_M_countOf b_M_countOf 4 (some .int) 1 0 0 [.inr 1, .inl k] 28 σ (pI 28 σ (m_countOf σ k)) := by
  refine ok_mk (by decide) (Nat.le_of_ble_eq_true rfl) (fun K C rt ha hok hfx => ?_)
  show XW LyM TM K 28 σ 0 0 0 [some (.inr 1), some (.inl k), none, none] []
  have loop : ∀ (q i : Nat), (i : Int) + q = σ 1 0 → XW LyM TM K 28 σ 0 0 4 [some (.inr 1), some (.inl k), some (.inl (cntU (fun i => decide (σ 2 i = k)) i)), some (.inl ((i : Int) + 1))] [] := by
    intro q
    induction q with
    | zero =>
      intro i hi
      have e : i = (σ 1 0).toNat := by omega
      refine x_iload_n C d_M_countOf_4 rfl rfl ?_
      refine x_aload_n C d_M_countOf_5 rfl rfl ?_
      refine x_getI C 0 cf_M fl_M_114 d_M_countOf_6 rfl (by decide) rfl rfl (by omega) (by omega) (fun r6 => ?_)
      refine x_icmp_gt (tgt := 36) C d_M_countOf_9 rfl (fun h9 => ?_) (fun h9 => ?_)
      · refine x_iload_n C d_M_countOf_36 rfl rfl ?_
        exact x_iret rt d_M_countOf_37 (by omega) (by omega) ⟨by rw [e]; rfl, rfl, rfl⟩
      · exact absurd h9 (by omega)
    | succ q ih =>
      intro i hi
      have hb := cntU_le (fun i => decide (σ 2 i = k)) i
      have ih2 := ih (i + 1) (by omega)
      rw [show cntU (fun i => decide (σ 2 i = k)) (i + 1) = cntU (fun i => decide (σ 2 i = k)) i + b2i (decide (σ 2 ((i : Int) + 1) = k)) from rfl] at ih2
      generalize cntU (fun i => decide (σ 2 i = k)) i = cn at *
      have J : ∀ v : Int, v = b2i (decide (σ 2 ((i : Int) + 1) = k)) → XW LyM TM K 28 σ 0 0 28 [some (.inr 1), some (.inl k), some (.inl cn), some (.inl ((i : Int) + 1))] [.inl v, .inl cn] := by
        intro v hv
        have hv2 := b2i_b (decide (σ 2 ((i : Int) + 1) = k))
        subst hv
        refine x_iadd C d_M_countOf_28 ⟨by omega, by omega⟩ ?_
        refine x_istore_n C d_M_countOf_29 rfl (by decide) ?_
        refine x_iinc C d_M_countOf_30 (by decide) rfl ⟨by omega, by omega⟩ ?_
        refine x_goto (tgt := 4) C d_M_countOf_33 rfl ?_
        exact ih2
      refine x_iload_n C d_M_countOf_4 rfl rfl ?_
      refine x_aload_n C d_M_countOf_5 rfl rfl ?_
      refine x_getI C 0 cf_M fl_M_114 d_M_countOf_6 rfl (by decide) rfl rfl (by omega) (by omega) (fun r6 => ?_)
      refine x_icmp_gt (tgt := 36) C d_M_countOf_9 rfl (fun h9 => ?_) (fun h9 => ?_)
      · exact absurd h9 (by omega)
      · refine x_iload_n C d_M_countOf_12 rfl rfl ?_
        refine x_aload_n C d_M_countOf_13 rfl rfl ?_
        refine x_getC C 2 2 cf_M fl_M_7 d_M_countOf_14 rfl rfl rfl (by omega) (by omega) rfl ?_
        refine x_iload_n C d_M_countOf_17 rfl rfl ?_
        refine x_iald C d_M_countOf_18 rfl (by omega) (by omega) (by omega) (by omega) (fun r18 => ?_)
        refine x_iload_n C d_M_countOf_19 rfl rfl ?_
        refine x_icmp_ne (tgt := 27) C d_M_countOf_20 rfl (fun h20 => ?_) (fun h20 => ?_)
        · refine x_iconst C d_M_countOf_27 (by decide) ?_
          exact J _ (by simp [b2i, h20])
        · refine x_iconst C d_M_countOf_23 (by decide) ?_
          refine x_goto (tgt := 28) C d_M_countOf_24 rfl ?_
          exact J _ (by simp [b2i, h20])
  refine x_iconst C d_M_countOf_0 (by decide) ?_
  refine x_istore_n C d_M_countOf_1 rfl (by decide) ?_
  refine x_iconst C d_M_countOf_2 (by decide) ?_
  refine x_istore_n C d_M_countOf_3 rfl (by decide) ?_
  exact loop (σ 1 0).toNat 0 (by omega)
theorem c_M_committed {σ : Hp} {t : Int} (h0 : 0 ≤ σ 1 0) (h1 : σ 1 0 < 204) : Ok LyM TM y_M_committed b_M_committed 3 (some .boolean) 1 0 0 [.inr 1, .inl t] 28 σ (pI 28 σ (b2i (m_committed σ t))) := by
  refine ok_mk (by decide) (Nat.le_of_ble_eq_true rfl) (fun K C rt ha hok hfx => ?_)
  show XW LyM TM K 28 σ 0 0 0 [some (.inr 1), some (.inl t), none] []
  have loop : ∀ (k : Nat) (x : Int), 1 ≤ x → x + k = σ 1 0 + 1 → anyU (fun i => decide (σ 2 i = 3) && decide (σ 3 i = t)) x k = m_committed σ t → XW LyM TM K 28 σ 0 0 2 [some (.inr 1), some (.inl t), some (.inl x)] [] := by
    intro k
    induction k with
    | zero =>
      intro x hx hk hm
      refine x_iload_n C d_M_committed_2 rfl rfl ?_
      refine x_aload_n C d_M_committed_3 rfl rfl ?_
      refine x_getI C 0 cf_M fl_M_114 d_M_committed_4 rfl (by decide) rfl rfl (by omega) (by omega) (fun r4 => ?_)
      refine x_icmp_gt (tgt := 38) C d_M_committed_7 rfl (fun h7 => ?_) (fun h7 => ?_)
      · refine x_iconst C d_M_committed_38 (by decide) ?_
        exact x_zret rt d_M_committed_39 (by omega) (by omega) ⟨by decide, by decide⟩ ⟨by rw [← hm]; rfl, rfl, rfl⟩
      · exact absurd h7 (by omega)
    | succ k ih =>
      intro x hx hk hm
      have hs : anyU (fun i => decide (σ 2 i = 3) && decide (σ 3 i = t)) x (k + 1) = ((decide (σ 2 x = 3) && decide (σ 3 x = t)) || anyU (fun i => decide (σ 2 i = 3) && decide (σ 3 i = t)) (x + 1) k) := rfl
      rw [hs] at hm
      refine x_iload_n C d_M_committed_2 rfl rfl ?_
      refine x_aload_n C d_M_committed_3 rfl rfl ?_
      refine x_getI C 0 cf_M fl_M_114 d_M_committed_4 rfl (by decide) rfl rfl (by omega) (by omega) (fun r4 => ?_)
      refine x_icmp_gt (tgt := 38) C d_M_committed_7 rfl (fun h7 => ?_) (fun h7 => ?_)
      · exact absurd h7 (by omega)
      · refine x_aload_n C d_M_committed_10 rfl rfl ?_
        refine x_getC C 2 2 cf_M fl_M_7 d_M_committed_11 rfl rfl rfl (by omega) (by omega) rfl ?_
        refine x_iload_n C d_M_committed_14 rfl rfl ?_
        refine x_iald C d_M_committed_15 rfl (by omega) (by omega) (by omega) (by omega) (fun r15 => ?_)
        refine x_iconst C d_M_committed_16 (by decide) ?_
        refine x_icmp_ne (tgt := 32) C d_M_committed_17 rfl (fun h17 => ?_) (fun h17 => ?_)
        · refine x_iinc C d_M_committed_32 (by decide) rfl ⟨by omega, by omega⟩ ?_
          refine x_goto (tgt := 2) C d_M_committed_35 rfl ?_
          exact ih (x + 1) (by omega) (by omega) (by rw [← hm]; simp [*])
        · refine x_aload_n C d_M_committed_20 rfl rfl ?_
          refine x_getC C 3 3 cf_M fl_M_13 d_M_committed_21 rfl rfl rfl (by omega) (by omega) rfl ?_
          refine x_iload_n C d_M_committed_24 rfl rfl ?_
          refine x_iald C d_M_committed_25 rfl (by omega) (by omega) (by omega) (by omega) (fun r25 => ?_)
          refine x_iload_n C d_M_committed_26 rfl rfl ?_
          refine x_icmp_ne (tgt := 32) C d_M_committed_27 rfl (fun h27 => ?_) (fun h27 => ?_)
          · refine x_iinc C d_M_committed_32 (by decide) rfl ⟨by omega, by omega⟩ ?_
            refine x_goto (tgt := 2) C d_M_committed_35 rfl ?_
            exact ih (x + 1) (by omega) (by omega) (by rw [← hm]; simp [*])
          · refine x_iconst C d_M_committed_30 (by decide) ?_
            exact x_zret rt d_M_committed_31 (by omega) (by omega) ⟨by decide, by decide⟩ ⟨by rw [← hm]; simp [h17, h27, b2i], rfl, rfl⟩
  refine x_iconst C d_M_committed_0 (by decide) ?_
  refine x_istore_n C d_M_committed_1 rfl (by decide) ?_
  exact loop (σ 1 0).toNat 1 (by omega) (by omega) rfl

