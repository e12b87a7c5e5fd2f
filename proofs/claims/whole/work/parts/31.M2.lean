-- ===== the reference: open records, locks, who waits for whom =====
theorem c_M_open {σ : Hp} {t : Int} (h0 : 0 ≤ σ 1 0) (h1 : σ 1 0 < 204) : Ok LyM TM y_M_open b_M_open 5 (some .int) 2 0 0 [.inr 1, .inl t] 28 σ (pI 28 σ (m_open σ t)) := by
  refine ok_mk (by decide) (Nat.le_of_ble_eq_true rfl) (fun K C rt ha hok hfx => ?_)
  show XW LyM TM K 28 σ 0 0 0 [some (.inr 1), some (.inl t), none, none, none] []
  have loop : ∀ (i : Nat) (a b : Option AV), (i : Int) ≤ σ 1 0 → srchD (m_good σ t) i = m_open σ t → XW LyM TM K 28 σ 0 0 5 [some (.inr 1), some (.inl t), some (.inl (i : Int)), a, b] [] := by
    intro i
    induction i with
    | zero =>
      intro a b hi hm
      refine x_iload_n C d_M_open_5 rfl rfl ?_
      refine x_if_le (tgt := 116) C d_M_open_6 rfl (fun h6 => ?_) (fun h6 => ?_)
      · refine x_iconst C d_M_open_116 (by decide) ?_
        exact x_iret rt d_M_open_117 (by omega) (by omega) ⟨by rw [← hm]; rfl, rfl, rfl⟩
      · exact absurd h6 (by decide)
    | succ i ih =>
      intro a b hi hm
      have hs : srchD (m_good σ t) (i + 1) = if m_good σ t ((i : Int) + 1) = true then (i : Int) + 1 else srchD (m_good σ t) i := rfl
      rw [hs] at hm
      rw [show ((i + 1 : Nat) : Int) = (i : Int) + 1 from rfl]
      have J104 : ∀ (g : Bool) (j : Option AV), g = m_good σ t ((i : Int) + 1) → XW LyM TM K 28 σ 0 0 104 [some (.inr 1), some (.inl t), some (.inl ((i : Int) + 1)), some (.inl (b2i g)), j] [] := by
        intro g j hg
        rw [← hg] at hm
        cases g with
        | false =>
          have ih2 := ih (some (.inl (b2i false))) j (by omega) (by rw [← hm]; rfl)
          rw [show (i : Int) = (i : Int) + 1 + (-1) by omega] at ih2
          refine x_iload_n C d_M_open_104 rfl rfl ?_
          refine x_if_eq (tgt := 110) C d_M_open_105 rfl (fun h105 => ?_) (fun h105 => ?_)
          · refine x_iinc C d_M_open_110 (by decide) rfl ⟨by omega, by omega⟩ ?_
            refine x_goto (tgt := 5) C d_M_open_113 rfl ?_
            exact ih2
          · exact absurd rfl h105
        | true =>
          refine x_iload_n C d_M_open_104 rfl rfl ?_
          refine x_if_eq (tgt := 110) C d_M_open_105 rfl (fun h105 => ?_) (fun h105 => ?_)
          · exact absurd h105 (by decide)
          · refine x_iload_n C d_M_open_108 rfl rfl ?_
            exact x_iret rt d_M_open_109 (by omega) (by omega) ⟨by rw [← hm]; rfl, rfl, rfl⟩
      have inner : ∀ (k : Nat) (j : Int) (g : Bool), j + k = σ 1 0 + 1 → (i : Int) + 2 ≤ j → (g && !anyU (fun j => decide (σ 2 j = 2) && decide (σ 9 j = (i : Int) + 1)) j k) = m_good σ t ((i : Int) + 1) → XW LyM TM K 28 σ 0 0 57 [some (.inr 1), some (.inl t), some (.inl ((i : Int) + 1)), some (.inl (b2i g)), some (.inl j)] [] := by
        intro k
        induction k with
        | zero =>
          intro j g hj hij hg
          refine x_iload C d_M_open_57 rfl ?_
          refine x_aload_n C d_M_open_59 rfl rfl ?_
          refine x_getI C 0 cf_M fl_M_114 d_M_open_60 rfl (by decide) rfl rfl (by omega) (by omega) (fun r60 => ?_)
          refine x_icmp_gt (tgt := 104) C d_M_open_63 rfl (fun h63 => ?_) (fun h63 => ?_)
          · exact J104 g _ (by rw [← hg]; simp [anyU])
          · exact absurd h63 (by omega)
        | succ k ihk =>
          intro j g hj hij hg
          have hs2 : anyU (fun j => decide (σ 2 j = 2) && decide (σ 9 j = (i : Int) + 1)) j (k + 1) = ((decide (σ 2 j = 2) && decide (σ 9 j = (i : Int) + 1)) || anyU (fun j => decide (σ 2 j = 2) && decide (σ 9 j = (i : Int) + 1)) (j + 1) k) := rfl
          rw [hs2] at hg
          cases g with
          | false =>
            refine x_iload C d_M_open_57 rfl ?_
            refine x_aload_n C d_M_open_59 rfl rfl ?_
            refine x_getI C 0 cf_M fl_M_114 d_M_open_60 rfl (by decide) rfl rfl (by omega) (by omega) (fun r60 => ?_)
            refine x_icmp_gt (tgt := 104) C d_M_open_63 rfl (fun h63 => ?_) (fun h63 => ?_)
            · exact absurd h63 (by omega)
            · refine x_iload_n C d_M_open_66 rfl rfl ?_
              refine x_if_eq (tgt := 104) C d_M_open_67 rfl (fun h67 => ?_) (fun h67 => ?_)
              · exact J104 false _ (by rw [← hg]; rfl)
              · exact absurd rfl h67
          | true =>
            have J97 : ∀ g' : Bool, g' = !(decide (σ 2 j = 2) && decide (σ 9 j = (i : Int) + 1)) → XW LyM TM K 28 σ 0 0 97 [some (.inr 1), some (.inl t), some (.inl ((i : Int) + 1)), some (.inl (b2i true)), some (.inl j)] [.inl (b2i g')] := by
              intro g' hg'
              have ihk2 := ihk (j + 1) g' (by omega) (by omega) (by rw [← hg, hg']; simp [Bool.not_or])
              refine x_istore_n C d_M_open_97 rfl (by decide) ?_
              refine x_iinc C d_M_open_98 (by decide) rfl ⟨by omega, by omega⟩ ?_
              refine x_goto (tgt := 57) C d_M_open_101 rfl ?_
              exact ihk2
            refine x_iload C d_M_open_57 rfl ?_
            refine x_aload_n C d_M_open_59 rfl rfl ?_
            refine x_getI C 0 cf_M fl_M_114 d_M_open_60 rfl (by decide) rfl rfl (by omega) (by omega) (fun r60 => ?_)
            refine x_icmp_gt (tgt := 104) C d_M_open_63 rfl (fun h63 => ?_) (fun h63 => ?_)
            · exact absurd h63 (by omega)
            · refine x_iload_n C d_M_open_66 rfl rfl ?_
              refine x_if_eq (tgt := 104) C d_M_open_67 rfl (fun h67 => ?_) (fun h67 => ?_)
              · exact absurd h67 (by decide)
              · refine x_aload_n C d_M_open_70 rfl rfl ?_
                refine x_getC C 2 2 cf_M fl_M_7 d_M_open_71 rfl rfl rfl (by omega) (by omega) rfl ?_
                refine x_iload C d_M_open_74 rfl ?_
                refine x_iald C d_M_open_76 rfl (by omega) (by omega) (by omega) (by omega) (fun r76 => ?_)
                refine x_iconst C d_M_open_77 (by decide) ?_
                refine x_icmp_ne (tgt := 92) C d_M_open_78 rfl (fun h78 => ?_) (fun h78 => ?_)
                · refine x_iconst C d_M_open_92 (by decide) ?_
                  refine x_goto (tgt := 97) C d_M_open_93 rfl ?_
                  first | exact J97 true (by simp [*]) | exact J97 false (by simp [*])
                · refine x_aload_n C d_M_open_81 rfl rfl ?_
                  refine x_getC C 9 9 cf_M fl_M_31 d_M_open_82 rfl rfl rfl (by omega) (by omega) rfl ?_
                  refine x_iload C d_M_open_85 rfl ?_
                  refine x_iald C d_M_open_87 rfl (by omega) (by omega) (by omega) (by omega) (fun r87 => ?_)
                  refine x_iload_n C d_M_open_88 rfl rfl ?_
                  refine x_icmp_eq (tgt := 96) C d_M_open_89 rfl (fun h89 => ?_) (fun h89 => ?_)
                  · refine x_iconst C d_M_open_96 (by decide) ?_
                    first | exact J97 true (by simp [*]) | exact J97 false (by simp [*])
                  · refine x_iconst C d_M_open_92 (by decide) ?_
                    refine x_goto (tgt := 97) C d_M_open_93 rfl ?_
                    first | exact J97 true (by simp [*]) | exact J97 false (by simp [*])
      have J51 : ∀ g : Bool, g = (decide (σ 2 ((i : Int) + 1) = 1) && (decide (t = 0) || decide (σ 3 ((i : Int) + 1) = t)) && !m_committed σ (σ 3 ((i : Int) + 1))) → XW LyM TM K 28 σ 0 0 51 [some (.inr 1), some (.inl t), some (.inl ((i : Int) + 1)), a, b] [.inl (b2i g)] := by
        intro g hg
        have hin := inner (σ 1 0 - ((i : Int) + 1)).toNat ((i : Int) + 1 + 1) g (by omega) (by omega) (by rw [hg]; rfl)
        refine x_istore_n C d_M_open_51 rfl (by decide) ?_
        refine x_iload_n C d_M_open_52 rfl rfl ?_
        refine x_iconst C d_M_open_53 (by decide) ?_
        refine x_iadd C d_M_open_54 ⟨by omega, by omega⟩ ?_
        refine x_istore C d_M_open_55 (by decide) ?_
        exact hin
      refine x_iload_n C d_M_open_5 rfl rfl ?_
      refine x_if_le (tgt := 116) C d_M_open_6 rfl (fun h6 => ?_) (fun h6 => ?_)
      · exact absurd h6 (by omega)
      · refine x_aload_n C d_M_open_9 rfl rfl ?_
        refine x_getC C 2 2 cf_M fl_M_7 d_M_open_10 rfl rfl rfl (by omega) (by omega) rfl ?_
        refine x_iload_n C d_M_open_13 rfl rfl ?_
        refine x_iald C d_M_open_14 rfl (by omega) (by omega) (by omega) (by omega) (fun r14 => ?_)
        refine x_iconst C d_M_open_15 (by decide) ?_
        refine x_icmp_ne (tgt := 50) C d_M_open_16 rfl (fun h16 => ?_) (fun h16 => ?_)
        · refine x_iconst C d_M_open_50 (by decide) ?_
          first | exact J51 true (by cases hc : m_committed σ (σ 3 ((i : Int) + 1)) <;> simp_all [b2i]) | exact J51 false (by cases hc : m_committed σ (σ 3 ((i : Int) + 1)) <;> simp_all [b2i])
        · refine x_iload_n C d_M_open_19 rfl rfl ?_
          refine x_if_eq (tgt := 33) C d_M_open_20 rfl (fun h20 => ?_) (fun h20 => ?_)
          · refine x_aload_n C d_M_open_33 rfl rfl ?_
            refine x_aload_n C d_M_open_34 rfl rfl ?_
            refine x_getC C 3 3 cf_M fl_M_13 d_M_open_35 rfl rfl rfl (by omega) (by omega) rfl ?_
            refine x_iload_n C d_M_open_38 rfl rfl ?_
            refine x_iald C d_M_open_39 rfl (by omega) (by omega) (by omega) (by omega) (fun r39 => ?_)
            refine x_callV C cl_M_117 cb_M_committed cs_M_committed d_M_open_40 (c_M_committed h0 (by omega)) rfl rfl rfl rfl rfl (by omega) (by omega) (by decide) (by decide) (Nat.le_of_ble_eq_true rfl) (by omega) (by omega) ?_
            rintro _ _ _ ⟨rfl, rfl, rfl⟩ -
            skip
            refine x_if_ne (tgt := 50) C d_M_open_43 rfl (fun h43 => ?_) (fun h43 => ?_)
            · refine x_iconst C d_M_open_50 (by decide) ?_
              first | exact J51 true (by cases hc : m_committed σ (σ 3 ((i : Int) + 1)) <;> simp_all [b2i]) | exact J51 false (by cases hc : m_committed σ (σ 3 ((i : Int) + 1)) <;> simp_all [b2i])
            · refine x_iconst C d_M_open_46 (by decide) ?_
              refine x_goto (tgt := 51) C d_M_open_47 rfl ?_
              first | exact J51 true (by cases hc : m_committed σ (σ 3 ((i : Int) + 1)) <;> simp_all [b2i]) | exact J51 false (by cases hc : m_committed σ (σ 3 ((i : Int) + 1)) <;> simp_all [b2i])
          · refine x_aload_n C d_M_open_23 rfl rfl ?_
            refine x_getC C 3 3 cf_M fl_M_13 d_M_open_24 rfl rfl rfl (by omega) (by omega) rfl ?_
            refine x_iload_n C d_M_open_27 rfl rfl ?_
            refine x_iald C d_M_open_28 rfl (by omega) (by omega) (by omega) (by omega) (fun r28 => ?_)
            refine x_iload_n C d_M_open_29 rfl rfl ?_
            refine x_icmp_ne (tgt := 50) C d_M_open_30 rfl (fun h30 => ?_) (fun h30 => ?_)
            · refine x_iconst C d_M_open_50 (by decide) ?_
              first | exact J51 true (by cases hc : m_committed σ (σ 3 ((i : Int) + 1)) <;> simp_all [b2i]) | exact J51 false (by cases hc : m_committed σ (σ 3 ((i : Int) + 1)) <;> simp_all [b2i])
            · refine x_aload_n C d_M_open_33 rfl rfl ?_
              refine x_aload_n C d_M_open_34 rfl rfl ?_
              refine x_getC C 3 3 cf_M fl_M_13 d_M_open_35 rfl rfl rfl (by omega) (by omega) rfl ?_
              refine x_iload_n C d_M_open_38 rfl rfl ?_
              refine x_iald C d_M_open_39 rfl (by omega) (by omega) (by omega) (by omega) (fun r39 => ?_)
              refine x_callV C cl_M_117 cb_M_committed cs_M_committed d_M_open_40 (c_M_committed h0 (by omega)) rfl rfl rfl rfl rfl (by omega) (by omega) (by decide) (by decide) (Nat.le_of_ble_eq_true rfl) (by omega) (by omega) ?_
              rintro _ _ _ ⟨rfl, rfl, rfl⟩ -
              skip
              refine x_if_ne (tgt := 50) C d_M_open_43 rfl (fun h43 => ?_) (fun h43 => ?_)
              · refine x_iconst C d_M_open_50 (by decide) ?_
                first | exact J51 true (by cases hc : m_committed σ (σ 3 ((i : Int) + 1)) <;> simp_all [b2i]) | exact J51 false (by cases hc : m_committed σ (σ 3 ((i : Int) + 1)) <;> simp_all [b2i])
              · refine x_iconst C d_M_open_46 (by decide) ?_
                refine x_goto (tgt := 51) C d_M_open_47 rfl ?_
                first | exact J51 true (by cases hc : m_committed σ (σ 3 ((i : Int) + 1)) <;> simp_all [b2i]) | exact J51 false (by cases hc : m_committed σ (σ 3 ((i : Int) + 1)) <;> simp_all [b2i])
  have hl := loop (σ 1 0).toNat none none (by omega) rfl
  rw [show (((σ 1 0).toNat : Nat) : Int) = σ 1 0 by omega] at hl
  refine x_aload_n C d_M_open_0 rfl rfl ?_
  refine x_getI C 0 cf_M fl_M_114 d_M_open_1 rfl (by decide) rfl rfl (by omega) (by omega) (fun r1 => ?_)
  refine x_istore_n C d_M_open_4 rfl (by decide) ?_
  exact hl
theorem c_M_takeBack {σ : Hp} {r : Int} (h0 : 0 ≤ r) (h1 : r < 204) (h2 : 0 ≤ σ 4 r) (h3 : σ 4 r < 24) (hB : mB σ) (h4 : 0 ≤ σ 1 0) (h5 : σ 1 0 < 203) : Ok LyM TM y_M_takeBack b_M_takeBack 3 none 3 0 0 [.inr 1, .inl r] 28 σ (pV 28 (m_takeBack σ r)) := by
  refine ok_mk (by decide) (Nat.le_of_ble_eq_true rfl) (fun K C rt ha hok hfx => ?_)
  show XW LyM TM K 28 σ 0 0 0 [some (.inr 1), some (.inl r), none] []
  have hsz : m_fetch σ (σ 4 r / 4) 1 0 = σ 1 0 := m_fetch_1 _ _ (by decide) (by decide) (by decide) (by decide)
  have hend : ∀ τ : Hp, τ = m_fetch σ (σ 4 r / 4) → m_apply (st2 (st2 (st2 (m_put τ 2 (τ 3 r) (τ 4 r)) 9 (τ 1 0 + 1) r) 7 (τ 1 0 + 1) (st2 (m_put τ 2 (τ 3 r) (τ 4 r)) 9 (τ 1 0 + 1) r 5 r)) 8 (τ 1 0 + 1) (st2 (st2 (m_put τ 2 (τ 3 r) (τ 4 r)) 9 (τ 1 0 + 1) r) 7 (τ 1 0 + 1) (st2 (m_put τ 2 (τ 3 r) (τ 4 r)) 9 (τ 1 0 + 1) r 5 r) 6 r)) (τ 1 0 + 1) = m_takeBack σ r := by
    intro τ h
    subst h
    simp only [m_takeBack, m_put_0]
  have hsp : m_fetch σ (σ 4 r / 4) 4 r = σ 4 r := by rw [m_fetch_fr _ _ (by decide) (by decide)]
  refine x_aload_n C d_M_takeBack_0 rfl rfl ?_
  refine x_aload_n C d_M_takeBack_1 rfl rfl ?_
  refine x_getC C 4 4 cf_M fl_M_16 d_M_takeBack_2 rfl rfl rfl (by omega) (by omega) rfl ?_
  refine x_iload_n C d_M_takeBack_5 rfl rfl ?_
  refine x_iald C d_M_takeBack_6 rfl (by omega) (by omega) (by omega) (by omega) (fun r6 => ?_)
  refine x_iconst C d_M_takeBack_7 (by decide) ?_
  refine x_idiv C d_M_takeBack_8 (by omega) (by decide) ?_
  refine x_callV C cl_M_121 cb_M_fetch cs_M_fetch d_M_takeBack_9 (c_M_fetch (by omega) (by omega) hB) rfl rfl rfl rfl rfl (by omega) (by omega) (by decide) (by decide) (Nat.le_of_ble_eq_true rfl) (by omega) (by omega) ?_
  rintro _ _ _ ⟨rfl, rfl, rfl⟩ -
  skip
  refine x_aload_n C d_M_takeBack_12 rfl rfl ?_
  refine x_iconst C d_M_takeBack_13 (by decide) ?_
  refine x_aload_n C d_M_takeBack_14 rfl rfl ?_
  refine x_getC C 3 3 cf_M fl_M_13 d_M_takeBack_15 rfl rfl rfl (by omega) (by omega) rfl ?_
  refine x_iload_n C d_M_takeBack_18 rfl rfl ?_
  refine x_iald C d_M_takeBack_19 rfl (by omega) (by omega) (by omega) (by omega) (fun r19 => ?_)
  refine x_aload_n C d_M_takeBack_20 rfl rfl ?_
  refine x_getC C 4 4 cf_M fl_M_16 d_M_takeBack_21 rfl rfl rfl (by omega) (by omega) rfl ?_
  refine x_iload_n C d_M_takeBack_24 rfl rfl ?_
  refine x_iald C d_M_takeBack_25 rfl (by omega) (by omega) (by omega) (by omega) (fun r25 => ?_)
  refine x_callV C cl_M_124 cb_M_put cs_M_put d_M_takeBack_26 (c_M_put (by omega) (by omega)) rfl rfl rfl rfl rfl (by omega) (by omega) (by decide) (by decide) (Nat.le_of_ble_eq_true rfl) (by omega) (by omega) ?_
  rintro _ _ _ ⟨rfl, rfl, rfl⟩ -
  skip
  refine x_istore_n C d_M_takeBack_29 rfl (by decide) ?_
  refine x_aload_n C d_M_takeBack_30 rfl rfl ?_
  refine x_getC C 9 9 cf_M fl_M_31 d_M_takeBack_31 rfl rfl rfl (by omega) (by omega) rfl ?_
  refine x_iload_n C d_M_takeBack_34 rfl rfl ?_
  refine x_iload_n C d_M_takeBack_35 rfl rfl ?_
  refine x_iast C d_M_takeBack_36 rfl rfl (by omega) (by omega) (by omega) (by omega) ?_
  refine x_aload_n C d_M_takeBack_37 rfl rfl ?_
  refine x_getC C 7 7 cf_M fl_M_25 d_M_takeBack_38 rfl rfl rfl (by omega) (by omega) rfl ?_
  refine x_iload_n C d_M_takeBack_41 rfl rfl ?_
  refine x_aload_n C d_M_takeBack_42 rfl rfl ?_
  refine x_getC C 5 5 cf_M fl_M_19 d_M_takeBack_43 rfl rfl rfl (by omega) (by omega) rfl ?_
  refine x_iload_n C d_M_takeBack_46 rfl rfl ?_
  refine x_iald C d_M_takeBack_47 rfl (by omega) (by omega) (by omega) (by omega) (fun r47 => ?_)
  refine x_iast C d_M_takeBack_48 rfl rfl (by omega) (by omega) (by omega) (by omega) ?_
  refine x_aload_n C d_M_takeBack_49 rfl rfl ?_
  refine x_getC C 8 8 cf_M fl_M_28 d_M_takeBack_50 rfl rfl rfl (by omega) (by omega) rfl ?_
  refine x_iload_n C d_M_takeBack_53 rfl rfl ?_
  refine x_aload_n C d_M_takeBack_54 rfl rfl ?_
  refine x_getC C 6 6 cf_M fl_M_22 d_M_takeBack_55 rfl rfl rfl (by omega) (by omega) rfl ?_
  refine x_iload_n C d_M_takeBack_58 rfl rfl ?_
  refine x_iald C d_M_takeBack_59 rfl (by omega) (by omega) (by omega) (by omega) (fun r59 => ?_)
  refine x_iast C d_M_takeBack_60 rfl rfl (by omega) (by omega) (by omega) (by omega) ?_
  refine x_aload_n C d_M_takeBack_61 rfl rfl ?_
  refine x_iload_n C d_M_takeBack_62 rfl rfl ?_
  refine x_callV C cl_M_128 cb_M_apply cs_M_apply d_M_takeBack_63 (c_M_apply (by omega) (by omega) (by simp [st2, m_put_4]; omega) (by simp [st2, m_put_4]; omega)) rfl rfl rfl rfl rfl (by omega) (by omega) (by decide) (by decide) (Nat.le_of_ble_eq_true rfl) (by omega) (by omega) ?_
  rintro _ _ _ ⟨rfl, rfl, rfl⟩ -
  skip
  exact x_vret rt d_M_takeBack_66 (by omega) (by omega) ⟨rfl, rfl, (hend _ rfl).symm⟩
theorem c_M_live {σ : Hp} {t : Int} (h0 : 0 ≤ t) (h1 : t ≤ 60) : Ok LyM TM y_M_live b_M_live 2 (some .boolean) 1 0 0 [.inr 1, .inl t] 28 σ (pI 28 σ (b2i (m_live σ t))) := by
  refine ok_mk (by decide) (Nat.le_of_ble_eq_true rfl) (fun K C rt ha hok hfx => ?_)
  show XW LyM TM K 28 σ 0 0 0 [some (.inr 1), some (.inl t)] []
  refine x_aload_n C d_M_live_0 rfl rfl ?_
  refine x_getC C 23 19 cf_M fl_M_61 d_M_live_1 rfl rfl rfl (by omega) (by omega) rfl ?_
  refine x_iload_n C d_M_live_4 rfl rfl ?_
  refine x_iald C d_M_live_5 rfl (by omega) (by omega) (by omega) (by omega) (fun r5 => ?_)
  refine x_iconst C d_M_live_6 (by decide) ?_
  refine x_icmp_lt (tgt := 24) C d_M_live_7 rfl (fun h7 => ?_) (fun h7 => ?_)
  · refine x_iconst C d_M_live_24 (by decide) ?_
    exact x_zret rt d_M_live_25 (by omega) (by omega) ⟨by decide, by decide⟩ ⟨by grind [m_live, b2i], rfl, rfl⟩
  · refine x_aload_n C d_M_live_10 rfl rfl ?_
    refine x_getC C 23 19 cf_M fl_M_61 d_M_live_11 rfl rfl rfl (by omega) (by omega) rfl ?_
    refine x_iload_n C d_M_live_14 rfl rfl ?_
    refine x_iald C d_M_live_15 rfl (by omega) (by omega) (by omega) (by omega) (fun r15 => ?_)
    refine x_iconst C d_M_live_16 (by decide) ?_
    refine x_icmp_gt (tgt := 24) C d_M_live_17 rfl (fun h17 => ?_) (fun h17 => ?_)
    · refine x_iconst C d_M_live_24 (by decide) ?_
      exact x_zret rt d_M_live_25 (by omega) (by omega) ⟨by decide, by decide⟩ ⟨by grind [m_live, b2i], rfl, rfl⟩
    · refine x_iconst C d_M_live_20 (by decide) ?_
      refine x_goto (tgt := 25) C d_M_live_21 rfl ?_
      exact x_zret rt d_M_live_25 (by omega) (by omega) ⟨by decide, by decide⟩ ⟨by grind [m_live, b2i], rfl, rfl⟩
theorem c_M_unlock {σ : Hp} {t : Int} (h0 : 0 ≤ t) (h1 : t ≤ 60) : Ok LyM TM y_M_unlock b_M_unlock 3 none 1 0 0 [.inr 1, .inl t] 28 σ (pV 28 (m_unlock σ t 100)) := by
  refine ok_mk (by decide) (Nat.le_of_ble_eq_true rfl) (fun K C rt ha hok hfx => ?_)
  show XW LyM TM K 28 σ 0 0 0 [some (.inr 1), some (.inl t), none] []
  have loop : ∀ (k : Nat) (x : Int), 0 ≤ x → x + k = 100 → XW LyM TM K 28 (m_unlock σ t x) 0 0 2 [some (.inr 1), some (.inl t), some (.inl x)] [] := by
    intro k
    induction k with
    | zero =>
      intro x hx hk
      obtain rfl : x = 100 := by omega
      refine x_iload_n C d_M_unlock_2 rfl rfl ?_
      refine x_bipush C d_M_unlock_3 (by decide) (by decide) ?_
      refine x_icmp_ge (tgt := 26) C d_M_unlock_5 rfl (fun h5 => ?_) (fun h5 => ?_)
      · exact x_vret rt d_M_unlock_26 (by omega) (by omega) ⟨rfl, rfl, rfl⟩
      · exact absurd h5 (by omega)
    | succ k ih =>
      intro x hx hk
      refine x_iload_n C d_M_unlock_2 rfl rfl ?_
      refine x_bipush C d_M_unlock_3 (by decide) (by decide) ?_
      refine x_icmp_ge (tgt := 26) C d_M_unlock_5 rfl (fun h5 => ?_) (fun h5 => ?_)
      · exact absurd h5 (by omega)
      · refine x_aload_n C d_M_unlock_8 rfl rfl ?_
        refine x_getC C 30 26 cf_M fl_M_82 d_M_unlock_9 rfl rfl rfl (by omega) (by omega) rfl ?_
        refine x_bipush C d_M_unlock_12 (by decide) (by decide) ?_
        refine x_iload_n C d_M_unlock_14 rfl rfl ?_
        refine x_imul C d_M_unlock_15 ⟨by omega, by omega⟩ ?_
        refine x_iload_n C d_M_unlock_16 rfl rfl ?_
        refine x_iadd C d_M_unlock_17 ⟨by omega, by omega⟩ ?_
        refine x_iconst C d_M_unlock_18 (by decide) ?_
        refine x_bast C d_M_unlock_19 rfl rfl (by omega) (by omega) (by omega) (by omega) (by omega) (by omega) ?_
        refine x_iinc C d_M_unlock_20 (by decide) rfl ⟨by omega, by omega⟩ ?_
        refine x_goto (tgt := 2) C d_M_unlock_23 rfl ?_
        rw [m_unlock_step hx]
        exact ih (x + 1) (by omega) (by omega)
  have e := loop 100 0 (by omega) (by omega)
  rw [m_unlock_0] at e
  refine x_iconst C d_M_unlock_0 (by decide) ?_
  refine x_istore_n C d_M_unlock_1 rfl (by decide) ?_
  exact e
theorem c_M_conflicts {σ : Hp} {t u : Int} (h0 : 0 ≤ t) (h1 : t ≤ 60) (h2 : 0 ≤ u) (h3 : u ≤ 60) (h4 : 0 ≤ σ 22 t) (h5 : σ 22 t ≤ 99) : Ok LyM TM y_M_conflicts b_M_conflicts 4 (some .boolean) 1 0 0 [.inr 1, .inl t, .inl u] 28 σ (pI 28 σ (b2i (m_conflicts σ t u))) := by
  refine ok_mk (by decide) (Nat.le_of_ble_eq_true rfl) (fun K C rt ha hok hfx => ?_)
  show XW LyM TM K 28 σ 0 0 0 [some (.inr 1), some (.inl t), some (.inl u), none] []
  refine x_aload_n C d_M_conflicts_0 rfl rfl ?_
  refine x_getC C 30 26 cf_M fl_M_82 d_M_conflicts_1 rfl rfl rfl (by omega) (by omega) rfl ?_
  refine x_bipush C d_M_conflicts_4 (by decide) (by decide) ?_
  refine x_iload_n C d_M_conflicts_6 rfl rfl ?_
  refine x_imul C d_M_conflicts_7 ⟨by omega, by omega⟩ ?_
  refine x_aload_n C d_M_conflicts_8 rfl rfl ?_
  refine x_getC C 26 22 cf_M fl_M_70 d_M_conflicts_9 rfl rfl rfl (by omega) (by omega) rfl ?_
  refine x_iload_n C d_M_conflicts_12 rfl rfl ?_
  refine x_iald C d_M_conflicts_13 rfl (by omega) (by omega) (by omega) (by omega) (fun r13 => ?_)
  refine x_iadd C d_M_conflicts_14 ⟨by omega, by omega⟩ ?_
  refine x_bald C d_M_conflicts_15 rfl (by omega) (by omega) (by omega) (by omega) (fun r15 => ?_)
  refine x_istore_n C d_M_conflicts_16 rfl (by decide) ?_
  refine x_iload_n C d_M_conflicts_17 rfl rfl ?_
  refine x_iload_n C d_M_conflicts_18 rfl rfl ?_
  refine x_icmp_eq (tgt := 45) C d_M_conflicts_19 rfl (fun h19 => ?_) (fun h19 => ?_)
  · refine x_iconst C d_M_conflicts_45 (by decide) ?_
    exact x_zret rt d_M_conflicts_46 (by omega) (by omega) ⟨by decide, by decide⟩ ⟨by grind [m_conflicts, m_lk, b2i], rfl, rfl⟩
  · refine x_iload_n C d_M_conflicts_22 rfl rfl ?_
    refine x_if_le (tgt := 45) C d_M_conflicts_23 rfl (fun h23 => ?_) (fun h23 => ?_)
    · refine x_iconst C d_M_conflicts_45 (by decide) ?_
      exact x_zret rt d_M_conflicts_46 (by omega) (by omega) ⟨by decide, by decide⟩ ⟨by grind [m_conflicts, m_lk, b2i], rfl, rfl⟩
    · refine x_iload_n C d_M_conflicts_26 rfl rfl ?_
      refine x_iconst C d_M_conflicts_27 (by decide) ?_
      refine x_icmp_eq (tgt := 41) C d_M_conflicts_28 rfl (fun h28 => ?_) (fun h28 => ?_)
      · refine x_iconst C d_M_conflicts_41 (by decide) ?_
        refine x_goto (tgt := 46) C d_M_conflicts_42 rfl ?_
        exact x_zret rt d_M_conflicts_46 (by omega) (by omega) ⟨by decide, by decide⟩ ⟨by grind [m_conflicts, m_lk, b2i], rfl, rfl⟩
      · refine x_aload_n C d_M_conflicts_31 rfl rfl ?_
        refine x_getC C 27 23 cf_M fl_M_73 d_M_conflicts_32 rfl rfl rfl (by omega) (by omega) rfl ?_
        refine x_iload_n C d_M_conflicts_35 rfl rfl ?_
        refine x_iald C d_M_conflicts_36 rfl (by omega) (by omega) (by omega) (by omega) (fun r36 => ?_)
        refine x_iconst C d_M_conflicts_37 (by decide) ?_
        refine x_icmp_ne (tgt := 45) C d_M_conflicts_38 rfl (fun h38 => ?_) (fun h38 => ?_)
        · refine x_iconst C d_M_conflicts_45 (by decide) ?_
          exact x_zret rt d_M_conflicts_46 (by omega) (by omega) ⟨by decide, by decide⟩ ⟨by grind [m_conflicts, m_lk, b2i], rfl, rfl⟩
        · refine x_iconst C d_M_conflicts_41 (by decide) ?_
          refine x_goto (tgt := 46) C d_M_conflicts_42 rfl ?_
          exact x_zret rt d_M_conflicts_46 (by omega) (by omega) ⟨by decide, by decide⟩ ⟨by grind [m_conflicts, m_lk, b2i], rfl, rfl⟩
theorem c_M_ahead {σ : Hp} {t u : Int} (h0 : 0 ≤ t) (h1 : t ≤ 60) (h2 : 0 ≤ u) (h3 : u ≤ 60) : Ok LyM TM y_M_ahead b_M_ahead 3 (some .boolean) 1 0 0 [.inr 1, .inl t, .inl u] 28 σ (pI 28 σ (b2i (m_ahead σ t u))) := by
  refine ok_mk (by decide) (Nat.le_of_ble_eq_true rfl) (fun K C rt ha hok hfx => ?_)
  show XW LyM TM K 28 σ 0 0 0 [some (.inr 1), some (.inl t), some (.inl u)] []
  refine x_iload_n C d_M_ahead_0 rfl rfl ?_
  refine x_iload_n C d_M_ahead_1 rfl rfl ?_
  refine x_icmp_eq (tgt := 49) C d_M_ahead_2 rfl (fun h2 => ?_) (fun h2 => ?_)
  · refine x_iconst C d_M_ahead_49 (by decide) ?_
    exact x_zret rt d_M_ahead_50 (by omega) (by omega) ⟨by decide, by decide⟩ ⟨by grind [m_ahead, b2i], rfl, rfl⟩
  · refine x_aload_n C d_M_ahead_5 rfl rfl ?_
    refine x_getC C 23 19 cf_M fl_M_61 d_M_ahead_6 rfl rfl rfl (by omega) (by omega) rfl ?_
    refine x_iload_n C d_M_ahead_9 rfl rfl ?_
    refine x_iald C d_M_ahead_10 rfl (by omega) (by omega) (by omega) (by omega) (fun r10 => ?_)
    refine x_iconst C d_M_ahead_11 (by decide) ?_
    refine x_icmp_ne (tgt := 49) C d_M_ahead_12 rfl (fun h12 => ?_) (fun h12 => ?_)
    · refine x_iconst C d_M_ahead_49 (by decide) ?_
      exact x_zret rt d_M_ahead_50 (by omega) (by omega) ⟨by decide, by decide⟩ ⟨by grind [m_ahead, b2i], rfl, rfl⟩
    · refine x_aload_n C d_M_ahead_15 rfl rfl ?_
      refine x_getC C 26 22 cf_M fl_M_70 d_M_ahead_16 rfl rfl rfl (by omega) (by omega) rfl ?_
      refine x_iload_n C d_M_ahead_19 rfl rfl ?_
      refine x_iald C d_M_ahead_20 rfl (by omega) (by omega) (by omega) (by omega) (fun r20 => ?_)
      refine x_aload_n C d_M_ahead_21 rfl rfl ?_
      refine x_getC C 26 22 cf_M fl_M_70 d_M_ahead_22 rfl rfl rfl (by omega) (by omega) rfl ?_
      refine x_iload_n C d_M_ahead_25 rfl rfl ?_
      refine x_iald C d_M_ahead_26 rfl (by omega) (by omega) (by omega) (by omega) (fun r26 => ?_)
      refine x_icmp_ne (tgt := 49) C d_M_ahead_27 rfl (fun h27 => ?_) (fun h27 => ?_)
      · refine x_iconst C d_M_ahead_49 (by decide) ?_
        exact x_zret rt d_M_ahead_50 (by omega) (by omega) ⟨by decide, by decide⟩ ⟨by grind [m_ahead, b2i], rfl, rfl⟩
      · refine x_aload_n C d_M_ahead_30 rfl rfl ?_
        refine x_getC C 29 25 cf_M fl_M_79 d_M_ahead_31 rfl rfl rfl (by omega) (by omega) rfl ?_
        refine x_iload_n C d_M_ahead_34 rfl rfl ?_
        refine x_iald C d_M_ahead_35 rfl (by omega) (by omega) (by omega) (by omega) (fun r35 => ?_)
        refine x_aload_n C d_M_ahead_36 rfl rfl ?_
        refine x_getC C 29 25 cf_M fl_M_79 d_M_ahead_37 rfl rfl rfl (by omega) (by omega) rfl ?_
        refine x_iload_n C d_M_ahead_40 rfl rfl ?_
        refine x_iald C d_M_ahead_41 rfl (by omega) (by omega) (by omega) (by omega) (fun r41 => ?_)
        refine x_icmp_ge (tgt := 49) C d_M_ahead_42 rfl (fun h42 => ?_) (fun h42 => ?_)
        · refine x_iconst C d_M_ahead_49 (by decide) ?_
          exact x_zret rt d_M_ahead_50 (by omega) (by omega) ⟨by decide, by decide⟩ ⟨by grind [m_ahead, b2i], rfl, rfl⟩
        · refine x_iconst C d_M_ahead_45 (by decide) ?_
          refine x_goto (tgt := 50) C d_M_ahead_46 rfl ?_
          exact x_zret rt d_M_ahead_50 (by omega) (by omega) ⟨by decide, by decide⟩ ⟨by grind [m_ahead, b2i], rfl, rfl⟩
theorem c_M_waitsFor {σ : Hp} {t u : Int} (h0 : 0 ≤ t) (h1 : t ≤ 60) (h2 : 0 ≤ u) (h3 : u ≤ 60) (h4 : 0 ≤ σ 22 t) (h5 : σ 22 t ≤ 99) : Ok LyM TM y_M_waitsFor b_M_waitsFor 3 (some .boolean) 2 0 0 [.inr 1, .inl t, .inl u] 28 σ (pI 28 σ (b2i (m_waitsFor σ t u))) := by
  refine ok_mk (by decide) (Nat.le_of_ble_eq_true rfl) (fun K C rt ha hok hfx => ?_)
  show XW LyM TM K 28 σ 0 0 0 [some (.inr 1), some (.inl t), some (.inl u)] []
  refine x_aload_n C d_M_waitsFor_0 rfl rfl ?_
  refine x_getC C 23 19 cf_M fl_M_61 d_M_waitsFor_1 rfl rfl rfl (by omega) (by omega) rfl ?_
  refine x_iload_n C d_M_waitsFor_4 rfl rfl ?_
  refine x_iald C d_M_waitsFor_5 rfl (by omega) (by omega) (by omega) (by omega) (fun r5 => ?_)
  refine x_iconst C d_M_waitsFor_6 (by decide) ?_
  refine x_icmp_ne (tgt := 51) C d_M_waitsFor_7 rfl (fun h7 => ?_) (fun h7 => ?_)
  · refine x_iconst C d_M_waitsFor_51 (by decide) ?_
    exact x_zret rt d_M_waitsFor_52 (by omega) (by omega) ⟨by decide, by decide⟩ ⟨by grind [m_waitsFor, m_lk, b2i], rfl, rfl⟩
  · refine x_aload_n C d_M_waitsFor_10 rfl rfl ?_
    refine x_iload_n C d_M_waitsFor_11 rfl rfl ?_
    refine x_iload_n C d_M_waitsFor_12 rfl rfl ?_
    refine x_callV C cl_M_131 cb_M_conflicts cs_M_conflicts d_M_waitsFor_13 (c_M_conflicts h0 h1 h2 h3 h4 h5) rfl rfl rfl rfl rfl (by omega) (by omega) (by decide) (by decide) (Nat.le_of_ble_eq_true rfl) (by omega) (by omega) ?_
    rintro _ _ _ ⟨rfl, rfl, rfl⟩ -
    skip
    refine x_if_ne (tgt := 47) C d_M_waitsFor_16 rfl (fun h16 => ?_) (fun h16 => ?_)
    · refine x_iconst C d_M_waitsFor_47 (by decide) ?_
      refine x_goto (tgt := 52) C d_M_waitsFor_48 rfl ?_
      exact x_zret rt d_M_waitsFor_52 (by omega) (by omega) ⟨by decide, by decide⟩ ⟨by grind [m_waitsFor, m_lk, b2i], rfl, rfl⟩
    · refine x_aload_n C d_M_waitsFor_19 rfl rfl ?_
      refine x_getC C 30 26 cf_M fl_M_82 d_M_waitsFor_20 rfl rfl rfl (by omega) (by omega) rfl ?_
      refine x_bipush C d_M_waitsFor_23 (by decide) (by decide) ?_
      refine x_iload_n C d_M_waitsFor_25 rfl rfl ?_
      refine x_imul C d_M_waitsFor_26 ⟨by omega, by omega⟩ ?_
      refine x_aload_n C d_M_waitsFor_27 rfl rfl ?_
      refine x_getC C 26 22 cf_M fl_M_70 d_M_waitsFor_28 rfl rfl rfl (by omega) (by omega) rfl ?_
      refine x_iload_n C d_M_waitsFor_31 rfl rfl ?_
      refine x_iald C d_M_waitsFor_32 rfl (by omega) (by omega) (by omega) (by omega) (fun r32 => ?_)
      refine x_iadd C d_M_waitsFor_33 ⟨by omega, by omega⟩ ?_
      refine x_bald C d_M_waitsFor_34 rfl (by omega) (by omega) (by omega) (by omega) (fun r34 => ?_)
      refine x_if_ne (tgt := 51) C d_M_waitsFor_35 rfl (fun h35 => ?_) (fun h35 => ?_)
      · refine x_iconst C d_M_waitsFor_51 (by decide) ?_
        exact x_zret rt d_M_waitsFor_52 (by omega) (by omega) ⟨by decide, by decide⟩ ⟨by grind [m_waitsFor, m_lk, b2i], rfl, rfl⟩
      · refine x_aload_n C d_M_waitsFor_38 rfl rfl ?_
        refine x_iload_n C d_M_waitsFor_39 rfl rfl ?_
        refine x_iload_n C d_M_waitsFor_40 rfl rfl ?_
        refine x_callV C cl_M_135 cb_M_ahead cs_M_ahead d_M_waitsFor_41 (c_M_ahead h0 h1 h2 h3) rfl rfl rfl rfl rfl (by omega) (by omega) (by decide) (by decide) (Nat.le_of_ble_eq_true rfl) (by omega) (by omega) ?_
        rintro _ _ _ ⟨rfl, rfl, rfl⟩ -
        skip
        refine x_if_eq (tgt := 51) C d_M_waitsFor_44 rfl (fun h44 => ?_) (fun h44 => ?_)
        · refine x_iconst C d_M_waitsFor_51 (by decide) ?_
          exact x_zret rt d_M_waitsFor_52 (by omega) (by omega) ⟨by decide, by decide⟩ ⟨by grind [m_waitsFor, m_lk, b2i], rfl, rfl⟩
        · refine x_iconst C d_M_waitsFor_47 (by decide) ?_
          refine x_goto (tgt := 52) C d_M_waitsFor_48 rfl ?_
          exact x_zret rt d_M_waitsFor_52 (by omega) (by omega) ⟨by decide, by decide⟩ ⟨by grind [m_waitsFor, m_lk, b2i], rfl, rfl⟩
theorem c_M_fit {σ : Hp} {t : Int} (h0 : 0 ≤ t) (h1 : t ≤ 60) (h4 : 0 ≤ σ 22 t) (h5 : σ 22 t ≤ 99) (h6 : 0 ≤ σ 1 22) (h7 : σ 1 22 ≤ 60) : Ok LyM TM y_M_fit b_M_fit 4 (some .boolean) 2 0 0 [.inr 1, .inl t] 28 σ (pI 28 σ (b2i (m_fit σ t))) := by
  refine ok_mk (by decide) (Nat.le_of_ble_eq_true rfl) (fun K C rt ha hok hfx => ?_)
  show XW LyM TM K 28 σ 0 0 0 [some (.inr 1), some (.inl t), none, none] []
  have loop : ∀ (k : Nat) (x : Int), 1 ≤ x → x + k = σ 1 22 + 1 → (decide (σ 23 t ≤ m_lk σ t (σ 22 t)) || !anyU (fun u => m_conflicts σ t u || (decide (m_lk σ t (σ 22 t) = 0) && m_ahead σ t u)) x k) = m_fit σ t → ¬ σ 23 t ≤ m_lk σ t (σ 22 t) → XW LyM TM K 28 σ 0 0 31 [some (.inr 1), some (.inl t), some (.inl (m_lk σ t (σ 22 t))), some (.inl x)] [] := by
    intro k
    induction k with
    | zero =>
      intro x hx hk hm hn
      refine x_iload_n C d_M_fit_31 rfl rfl ?_
      refine x_aload_n C d_M_fit_32 rfl rfl ?_
      refine x_getI C 22 cf_M fl_M_138 d_M_fit_33 rfl (by decide) rfl rfl (by omega) (by omega) (fun r33 => ?_)
      refine x_icmp_gt (tgt := 69) C d_M_fit_36 rfl (fun h36 => ?_) (fun h36 => ?_)
      · refine x_iconst C d_M_fit_69 (by decide) ?_
        exact x_zret rt d_M_fit_70 (by omega) (by omega) ⟨by decide, by decide⟩ ⟨by rw [← hm]; simp [anyU, b2i], rfl, rfl⟩
      · exact absurd h36 (by omega)
    | succ k ih =>
      intro x hx hk hm hn
      rw [show anyU (fun u => m_conflicts σ t u || (decide (m_lk σ t (σ 22 t) = 0) && m_ahead σ t u)) x (k + 1) = ((m_conflicts σ t x || (decide (m_lk σ t (σ 22 t) = 0) && m_ahead σ t x)) || anyU (fun u => m_conflicts σ t u || (decide (m_lk σ t (σ 22 t) = 0) && m_ahead σ t u)) (x + 1) k) from rfl] at hm
      refine x_iload_n C d_M_fit_31 rfl rfl ?_
      refine x_aload_n C d_M_fit_32 rfl rfl ?_
      refine x_getI C 22 cf_M fl_M_138 d_M_fit_33 rfl (by decide) rfl rfl (by omega) (by omega) (fun r33 => ?_)
      refine x_icmp_gt (tgt := 69) C d_M_fit_36 rfl (fun h36 => ?_) (fun h36 => ?_)
      · exact absurd h36 (by omega)
      · refine x_aload_n C d_M_fit_39 rfl rfl ?_
        refine x_iload_n C d_M_fit_40 rfl rfl ?_
        refine x_iload_n C d_M_fit_41 rfl rfl ?_
        refine x_callV C cl_M_131 cb_M_conflicts cs_M_conflicts d_M_fit_42 (c_M_conflicts h0 h1 (by omega) (by omega) h4 h5) rfl rfl rfl rfl rfl (by omega) (by omega) (by decide) (by decide) (Nat.le_of_ble_eq_true rfl) (by omega) (by omega) ?_
        rintro _ _ _ ⟨rfl, rfl, rfl⟩ -
        skip
        refine x_if_ne (tgt := 61) C d_M_fit_45 rfl (fun h45 => ?_) (fun h45 => ?_)
        · refine x_iconst C d_M_fit_61 (by decide) ?_
          exact x_zret rt d_M_fit_62 (by omega) (by omega) ⟨by decide, by decide⟩ ⟨by rw [← hm]; grind [b2i], rfl, rfl⟩
        · refine x_iload_n C d_M_fit_48 rfl rfl ?_
          refine x_if_ne (tgt := 63) C d_M_fit_49 rfl (fun h49 => ?_) (fun h49 => ?_)
          · refine x_iinc C d_M_fit_63 (by decide) rfl ⟨by omega, by omega⟩ ?_
            refine x_goto (tgt := 31) C d_M_fit_66 rfl ?_
            exact ih (x + 1) (by omega) (by omega) (by rw [← hm]; grind [b2i]) hn
          · refine x_aload_n C d_M_fit_52 rfl rfl ?_
            refine x_iload_n C d_M_fit_53 rfl rfl ?_
            refine x_iload_n C d_M_fit_54 rfl rfl ?_
            refine x_callV C cl_M_135 cb_M_ahead cs_M_ahead d_M_fit_55 (c_M_ahead h0 h1 (by omega) (by omega)) rfl rfl rfl rfl rfl (by omega) (by omega) (by decide) (by decide) (Nat.le_of_ble_eq_true rfl) (by omega) (by omega) ?_
            rintro _ _ _ ⟨rfl, rfl, rfl⟩ -
            skip
            refine x_if_eq (tgt := 63) C d_M_fit_58 rfl (fun h58 => ?_) (fun h58 => ?_)
            · refine x_iinc C d_M_fit_63 (by decide) rfl ⟨by omega, by omega⟩ ?_
              refine x_goto (tgt := 31) C d_M_fit_66 rfl ?_
              exact ih (x + 1) (by omega) (by omega) (by rw [← hm]; grind [b2i]) hn
            · refine x_iconst C d_M_fit_61 (by decide) ?_
              exact x_zret rt d_M_fit_62 (by omega) (by omega) ⟨by decide, by decide⟩ ⟨by rw [← hm]; grind [b2i], rfl, rfl⟩
  refine x_aload_n C d_M_fit_0 rfl rfl ?_
  refine x_getC C 30 26 cf_M fl_M_82 d_M_fit_1 rfl rfl rfl (by omega) (by omega) rfl ?_
  refine x_bipush C d_M_fit_4 (by decide) (by decide) ?_
  refine x_iload_n C d_M_fit_6 rfl rfl ?_
  refine x_imul C d_M_fit_7 ⟨by omega, by omega⟩ ?_
  refine x_aload_n C d_M_fit_8 rfl rfl ?_
  refine x_getC C 26 22 cf_M fl_M_70 d_M_fit_9 rfl rfl rfl (by omega) (by omega) rfl ?_
  refine x_iload_n C d_M_fit_12 rfl rfl ?_
  refine x_iald C d_M_fit_13 rfl (by omega) (by omega) (by omega) (by omega) (fun r13 => ?_)
  refine x_iadd C d_M_fit_14 ⟨by omega, by omega⟩ ?_
  refine x_bald C d_M_fit_15 rfl (by omega) (by omega) (by omega) (by omega) (fun r15 => ?_)
  refine x_istore_n C d_M_fit_16 rfl (by decide) ?_
  refine x_iload_n C d_M_fit_17 rfl rfl ?_
  refine x_aload_n C d_M_fit_18 rfl rfl ?_
  refine x_getC C 27 23 cf_M fl_M_73 d_M_fit_19 rfl rfl rfl (by omega) (by omega) rfl ?_
  refine x_iload_n C d_M_fit_22 rfl rfl ?_
  refine x_iald C d_M_fit_23 rfl (by omega) (by omega) (by omega) (by omega) (fun r23 => ?_)
  refine x_icmp_lt (tgt := 29) C d_M_fit_24 rfl (fun h24 => ?_) (fun h24 => ?_)
  · refine x_iconst C d_M_fit_29 (by decide) ?_
    refine x_istore_n C d_M_fit_30 rfl (by decide) ?_
    exact loop (σ 1 22).toNat 1 (by omega) (by omega) rfl (Int.not_le.mpr h24)
  · refine x_iconst C d_M_fit_27 (by decide) ?_
    exact x_zret rt d_M_fit_28 (by omega) (by omega) ⟨by decide, by decide⟩ ⟨by grind [m_fit, m_lk, b2i], rfl, rfl⟩
theorem c_M_isIn {σ : Hp} {t s : Int} (h7 : σ 1 22 ≤ 60) : Ok LyM TM y_M_isIn b_M_isIn 3 (some .boolean) 1 0 0 [.inr 1, .inl t, .inl s] 28 σ (pI 28 σ (b2i (m_isIn σ t s))) := by
  refine ok_mk (by decide) (Nat.le_of_ble_eq_true rfl) (fun K C rt ha hok hfx => ?_)
  show XW LyM TM K 28 σ 0 0 0 [some (.inr 1), some (.inl t), some (.inl s)] []
  refine x_aload_n C d_M_isIn_0 rfl rfl ?_
  refine x_getI C 32 cf_M fl_M_172 d_M_isIn_1 rfl (by decide) rfl rfl (by omega) (by omega) (fun r1 => ?_)
  refine x_if_ne (tgt := 34) C d_M_isIn_4 rfl (fun h4 => ?_) (fun h4 => ?_)
  · refine x_iconst C d_M_isIn_34 (by decide) ?_
    exact x_zret rt d_M_isIn_35 (by omega) (by omega) ⟨by decide, by decide⟩ ⟨by grind [m_isIn, b2i], rfl, rfl⟩
  · refine x_iload_n C d_M_isIn_7 rfl rfl ?_
    refine x_iconst C d_M_isIn_8 (by decide) ?_
    refine x_icmp_lt (tgt := 34) C d_M_isIn_9 rfl (fun h9 => ?_) (fun h9 => ?_)
    · refine x_iconst C d_M_isIn_34 (by decide) ?_
      exact x_zret rt d_M_isIn_35 (by omega) (by omega) ⟨by decide, by decide⟩ ⟨by grind [m_isIn, b2i], rfl, rfl⟩
    · refine x_iload_n C d_M_isIn_12 rfl rfl ?_
      refine x_aload_n C d_M_isIn_13 rfl rfl ?_
      refine x_getI C 22 cf_M fl_M_138 d_M_isIn_14 rfl (by decide) rfl rfl (by omega) (by omega) (fun r14 => ?_)
      refine x_icmp_gt (tgt := 34) C d_M_isIn_17 rfl (fun h17 => ?_) (fun h17 => ?_)
      · refine x_iconst C d_M_isIn_34 (by decide) ?_
        exact x_zret rt d_M_isIn_35 (by omega) (by omega) ⟨by decide, by decide⟩ ⟨by grind [m_isIn, b2i], rfl, rfl⟩
      · refine x_aload_n C d_M_isIn_20 rfl rfl ?_
        refine x_getC C 23 19 cf_M fl_M_61 d_M_isIn_21 rfl rfl rfl (by omega) (by omega) rfl ?_
        refine x_iload_n C d_M_isIn_24 rfl rfl ?_
        refine x_iald C d_M_isIn_25 rfl (by omega) (by omega) (by omega) (by omega) (fun r25 => ?_)
        refine x_iload_n C d_M_isIn_26 rfl rfl ?_
        refine x_icmp_ne (tgt := 34) C d_M_isIn_27 rfl (fun h27 => ?_) (fun h27 => ?_)
        · refine x_iconst C d_M_isIn_34 (by decide) ?_
          exact x_zret rt d_M_isIn_35 (by omega) (by omega) ⟨by decide, by decide⟩ ⟨by grind [m_isIn, b2i], rfl, rfl⟩
        · refine x_iconst C d_M_isIn_30 (by decide) ?_
          refine x_goto (tgt := 35) C d_M_isIn_31 rfl ?_
          exact x_zret rt d_M_isIn_35 (by omega) (by omega) ⟨by decide, by decide⟩ ⟨by grind [m_isIn, b2i], rfl, rfl⟩

