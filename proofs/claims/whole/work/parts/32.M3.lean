-- ===== the reference: the ring, granting, settling =====
theorem c_M_ring {σ : Hp} {t : Int} (h0 : 0 ≤ t) (h1 : t ≤ 60) (hL : mL σ) (hbt : 0 ≤ m_ring σ t 27 t ∧ m_ring σ t 27 t ≤ 1) : Ok LyM TM y_M_ring b_M_ring 5 (some .boolean) 3 0 0 [.inr 1, .inl t] 28 σ (pI 28 (m_ring σ t) (m_ring σ t 27 t)) := by
  refine ok_mk (by decide) (Nat.le_of_ble_eq_true rfl) (fun K C rt ha hok hfx => ?_)
  show XW LyM TM K 28 σ 0 0 0 [some (.inr 1), some (.inl t), none, none, none] []
  obtain ⟨l1, l2, l3⟩ := hL
  obtain ⟨B, hB⟩ : ∃ B : Nat, σ 1 22 = (B : Int) := ⟨(σ 1 22).toNat, by omega⟩
  have hBt : (σ 1 22).toNat = B := by omega
  have key : ∀ τ : Hp, (∀ a : Int, a ≠ 27 → τ a = σ a) → τ 1 22 = (B : Int) ∧ ∀ u : Int, 0 ≤ u → u ≤ 60 → 0 ≤ τ 22 u ∧ τ 22 u ≤ 99 := fun τ h => ⟨by rw [h 1 (by decide)]; exact hB, fun u a b => by rw [h 22 (by decide)]; exact l3 u a b⟩
  have vloop : ∀ (u rd : Int), 1 ≤ u → u ≤ (B : Int) → ∀ (k : Nat) (v : Int) (τ : Hp), (∀ a : Int, a ≠ 27 → τ a = σ a) → v + k = (B : Int) + 1 → 1 ≤ v → (∀ w : Option AV, XW LyM TM K 28 (m_rv u k v τ) 0 0 104 [some (.inr 1), some (.inl t), some (.inl rd), some (.inl u), w] []) → XW LyM TM K 28 τ 0 0 48 [some (.inr 1), some (.inl t), some (.inl rd), some (.inl u), some (.inl v)] [] := by
    intro u rd hu1 hu2 k
    induction k with
    | zero =>
      intro v τ hf hv hv1 kk
      obtain ⟨e1, e2⟩ := key τ hf
      refine x_iload C d_M_ring_48 rfl ?_
      refine x_aload_n C d_M_ring_50 rfl rfl ?_
      refine x_getI C 22 cf_M fl_M_138 d_M_ring_51 rfl (by decide) rfl rfl (by omega) (by omega) (fun r51 => ?_)
      refine x_icmp_gt (tgt := 104) C d_M_ring_54 rfl (fun h54 => ?_) (fun h54 => ?_)
      · exact kk _
      · exact absurd h54 (by omega)
    | succ k ih =>
      intro v τ hf hv hv1 kk
      obtain ⟨e1, e2⟩ := key τ hf
      have hs : m_rv u (k + 1) v τ = if τ 27 u = 0 then τ else m_rv u k (v + 1) (st2 τ 27 v (if ¬ τ 27 v = 0 ∨ m_waitsFor τ u v = true then 1 else 0)) := rfl
      rw [hs] at kk
      have J97 : ∀ x : Int, ¬ τ 27 u = 0 → x = (if ¬ τ 27 v = 0 ∨ m_waitsFor τ u v = true then 1 else 0) → XW LyM TM K 28 τ 0 0 97 [some (.inr 1), some (.inl t), some (.inl rd), some (.inl u), some (.inl v)] [.inl x, .inl v, .inr 27] := by
        intro x hz hx
        have hx2 : x = 0 ∨ x = 1 := by grind
        rw [if_neg hz, ← hx] at kk
        have ih2 := ih (v + 1) (st2 τ 27 v x) (st2_fr hf _ _) (by omega) (by omega) kk
        refine x_zast C d_M_ring_97 rfl rfl (by omega) (by omega) (by omega) (by omega) (by omega) (by omega) ?_
        refine x_iinc C d_M_ring_98 (by decide) rfl ⟨by omega, by omega⟩ ?_
        refine x_goto (tgt := 48) C d_M_ring_101 rfl ?_
        exact ih2
      refine x_iload C d_M_ring_48 rfl ?_
      refine x_aload_n C d_M_ring_50 rfl rfl ?_
      refine x_getI C 22 cf_M fl_M_138 d_M_ring_51 rfl (by decide) rfl rfl (by omega) (by omega) (fun r51 => ?_)
      refine x_icmp_gt (tgt := 104) C d_M_ring_54 rfl (fun h54 => ?_) (fun h54 => ?_)
      · exact absurd h54 (by omega)
      · refine x_aload_n C d_M_ring_57 rfl rfl ?_
        refine x_getC C 31 27 cf_M fl_M_86 d_M_ring_58 rfl rfl rfl (by omega) (by omega) rfl ?_
        refine x_iload_n C d_M_ring_61 rfl rfl ?_
        refine x_zald C d_M_ring_62 rfl (by omega) (by omega) (by omega) (by omega) (fun r62 => ?_)
        refine x_if_eq (tgt := 104) C d_M_ring_63 rfl (fun h63 => ?_) (fun h63 => ?_)
        · rw [if_pos h63] at kk
          exact kk _
        · refine x_aload_n C d_M_ring_66 rfl rfl ?_
          refine x_getC C 31 27 cf_M fl_M_86 d_M_ring_67 rfl rfl rfl (by omega) (by omega) rfl ?_
          refine x_iload C d_M_ring_70 rfl ?_
          refine x_aload_n C d_M_ring_72 rfl rfl ?_
          refine x_getC C 31 27 cf_M fl_M_86 d_M_ring_73 rfl rfl rfl (by omega) (by omega) rfl ?_
          refine x_iload C d_M_ring_76 rfl ?_
          refine x_zald C d_M_ring_78 rfl (by omega) (by omega) (by omega) (by omega) (fun r78 => ?_)
          refine x_if_ne (tgt := 92) C d_M_ring_79 rfl (fun h79 => ?_) (fun h79 => ?_)
          · refine x_iconst C d_M_ring_92 (by decide) ?_
            refine x_goto (tgt := 97) C d_M_ring_93 rfl ?_
            exact J97 _ h63 (by grind [b2i])
          · refine x_aload_n C d_M_ring_82 rfl rfl ?_
            refine x_iload_n C d_M_ring_83 rfl rfl ?_
            refine x_iload C d_M_ring_84 rfl ?_
            refine x_callV C cl_M_141 cb_M_waitsFor cs_M_waitsFor d_M_ring_86 (c_M_waitsFor (by omega) (by omega) (by omega) (by omega) (e2 u (by omega) (by omega)).1 (e2 u (by omega) (by omega)).2) rfl rfl rfl rfl rfl (by omega) (by omega) (by decide) (by decide) (Nat.le_of_ble_eq_true rfl) (by omega) (by omega) ?_
            rintro _ _ _ ⟨rfl, rfl, rfl⟩ -
            skip
            refine x_if_eq (tgt := 96) C d_M_ring_89 rfl (fun h89 => ?_) (fun h89 => ?_)
            · refine x_iconst C d_M_ring_96 (by decide) ?_
              exact J97 _ h63 (by grind [b2i])
            · refine x_iconst C d_M_ring_92 (by decide) ?_
              refine x_goto (tgt := 97) C d_M_ring_93 rfl ?_
              exact J97 _ h63 (by grind [b2i])
  have uloop : ∀ (rd : Int) (k : Nat) (u : Int) (τ : Hp) (w : Option AV), (∀ a : Int, a ≠ 27 → τ a = σ a) → u + k = (B : Int) + 1 → 1 ≤ u → (∀ a b : Option AV, XW LyM TM K 28 (m_ru B k u τ) 0 0 110 [some (.inr 1), some (.inl t), some (.inl rd), a, b] []) → XW LyM TM K 28 τ 0 0 37 [some (.inr 1), some (.inl t), some (.inl rd), some (.inl u), w] [] := by
    intro rd k
    induction k with
    | zero =>
      intro u τ w hf hu hu1 kk
      obtain ⟨e1, e2⟩ := key τ hf
      refine x_iload_n C d_M_ring_37 rfl rfl ?_
      refine x_aload_n C d_M_ring_38 rfl rfl ?_
      refine x_getI C 22 cf_M fl_M_138 d_M_ring_39 rfl (by decide) rfl rfl (by omega) (by omega) (fun r39 => ?_)
      refine x_icmp_gt (tgt := 110) C d_M_ring_42 rfl (fun h42 => ?_) (fun h42 => ?_)
      · exact kk _ _
      · exact absurd h42 (by omega)
    | succ k ih =>
      intro u τ w hf hu hu1 kk
      obtain ⟨e1, e2⟩ := key τ hf
      have hv := vloop u rd hu1 (by omega) B 1 τ hf (by omega) (by omega) (fun w' => by
        have ih2 := ih (u + 1) (m_rv u B 1 τ) w' (m_rv_fr B 1 τ hf) (by omega) (by omega) kk
        refine x_iinc C d_M_ring_104 (by decide) rfl ⟨by omega, by omega⟩ ?_
        refine x_goto (tgt := 37) C d_M_ring_107 rfl ?_
        exact ih2
        )
      refine x_iload_n C d_M_ring_37 rfl rfl ?_
      refine x_aload_n C d_M_ring_38 rfl rfl ?_
      refine x_getI C 22 cf_M fl_M_138 d_M_ring_39 rfl (by decide) rfl rfl (by omega) (by omega) (fun r39 => ?_)
      refine x_icmp_gt (tgt := 110) C d_M_ring_42 rfl (fun h42 => ?_) (fun h42 => ?_)
      · exact absurd h42 (by omega)
      · refine x_iconst C d_M_ring_45 (by decide) ?_
        refine x_istore C d_M_ring_46 (by decide) ?_
        exact hv
  have rloop : ∀ (k : Nat) (rd : Int) (τ : Hp) (a b : Option AV), (∀ a : Int, a ≠ 27 → τ a = σ a) → rd + k = 4 → 0 ≤ rd → m_rr B k τ = m_ring σ t → XW LyM TM K 28 τ 0 0 30 [some (.inr 1), some (.inl t), some (.inl rd), a, b] [] := by
    intro k
    induction k with
    | zero =>
      intro rd τ a b hf hr hr0 hm
      have hm : τ = m_ring σ t := hm
      refine x_iload_n C d_M_ring_30 rfl rfl ?_
      refine x_iconst C d_M_ring_31 (by decide) ?_
      refine x_icmp_ge (tgt := 116) C d_M_ring_32 rfl (fun h32 => ?_) (fun h32 => ?_)
      · refine x_aload_n C d_M_ring_116 rfl rfl ?_
        refine x_getC C 31 27 cf_M fl_M_86 d_M_ring_117 rfl rfl rfl (by omega) (by omega) rfl ?_
        refine x_iload_n C d_M_ring_120 rfl rfl ?_
        refine x_zald C d_M_ring_121 rfl (by omega) (by omega) (by omega) (by omega) (fun r121 => ?_)
        exact x_zret rt d_M_ring_122 (by omega) (by omega) (by rw [hm]; exact hbt) ⟨by rw [hm], rfl, hm.symm⟩
      · exact absurd h32 (by omega)
    | succ k ih =>
      intro rd τ a b hf hr hr0 hm
      have hu := uloop rd B 1 τ b hf (by omega) (by omega) (fun a' b' => by
        have ih2 := ih (rd + 1) (m_ru B B 1 τ) a' b' (m_ru_fr B 1 τ hf) (by omega) (by omega) hm
        refine x_iinc C d_M_ring_110 (by decide) rfl ⟨by omega, by omega⟩ ?_
        refine x_goto (tgt := 30) C d_M_ring_113 rfl ?_
        exact ih2
        )
      refine x_iload_n C d_M_ring_30 rfl rfl ?_
      refine x_iconst C d_M_ring_31 (by decide) ?_
      refine x_icmp_ge (tgt := 116) C d_M_ring_32 rfl (fun h32 => ?_) (fun h32 => ?_)
      · exact absurd h32 (by omega)
      · refine x_iconst C d_M_ring_35 (by decide) ?_
        refine x_istore_n C d_M_ring_36 rfl (by decide) ?_
        exact hu
  have loop0 : ∀ (k : Nat) (u : Int) (τ : Hp), (∀ a : Int, a ≠ 27 → τ a = σ a) → u + k = (B : Int) + 1 → 1 ≤ u → m_r0 t k u τ = m_r0 t B 1 σ → XW LyM TM K 28 τ 0 0 2 [some (.inr 1), some (.inl t), some (.inl u), none, none] [] := by
    intro k
    induction k with
    | zero =>
      intro u τ hf hu hu1 hm
      obtain ⟨e1, e2⟩ := key τ hf
      have hm : τ = m_r0 t B 1 σ := hm
      have hr := rloop 4 0 τ none none hf (by omega) (by omega) (by rw [hm, m_ring, hBt])
      refine x_iload_n C d_M_ring_2 rfl rfl ?_
      refine x_aload_n C d_M_ring_3 rfl rfl ?_
      refine x_getI C 22 cf_M fl_M_138 d_M_ring_4 rfl (by decide) rfl rfl (by omega) (by omega) (fun r4 => ?_)
      refine x_icmp_gt (tgt := 28) C d_M_ring_7 rfl (fun h7 => ?_) (fun h7 => ?_)
      · refine x_iconst C d_M_ring_28 (by decide) ?_
        refine x_istore_n C d_M_ring_29 rfl (by decide) ?_
        exact hr
      · exact absurd h7 (by omega)
    | succ k ih =>
      intro u τ hf hu hu1 hm
      obtain ⟨e1, e2⟩ := key τ hf
      have hw := b2i_b (m_waitsFor τ t u)
      have ih2 := ih (u + 1) (st2 τ 27 u (b2i (m_waitsFor τ t u))) (st2_fr hf _ _) (by omega) (by omega) hm
      refine x_iload_n C d_M_ring_2 rfl rfl ?_
      refine x_aload_n C d_M_ring_3 rfl rfl ?_
      refine x_getI C 22 cf_M fl_M_138 d_M_ring_4 rfl (by decide) rfl rfl (by omega) (by omega) (fun r4 => ?_)
      refine x_icmp_gt (tgt := 28) C d_M_ring_7 rfl (fun h7 => ?_) (fun h7 => ?_)
      · exact absurd h7 (by omega)
      · refine x_aload_n C d_M_ring_10 rfl rfl ?_
        refine x_getC C 31 27 cf_M fl_M_86 d_M_ring_11 rfl rfl rfl (by omega) (by omega) rfl ?_
        refine x_iload_n C d_M_ring_14 rfl rfl ?_
        refine x_aload_n C d_M_ring_15 rfl rfl ?_
        refine x_iload_n C d_M_ring_16 rfl rfl ?_
        refine x_iload_n C d_M_ring_17 rfl rfl ?_
        refine x_callV C cl_M_141 cb_M_waitsFor cs_M_waitsFor d_M_ring_18 (c_M_waitsFor h0 h1 (by omega) (by omega) (e2 t h0 h1).1 (e2 t h0 h1).2) rfl rfl rfl rfl rfl (by omega) (by omega) (by decide) (by decide) (Nat.le_of_ble_eq_true rfl) (by omega) (by omega) ?_
        rintro _ _ _ ⟨rfl, rfl, rfl⟩ -
        skip
        refine x_zast C d_M_ring_21 rfl rfl (by omega) (by omega) (by omega) (by omega) (by omega) (by omega) ?_
        refine x_iinc C d_M_ring_22 (by decide) rfl ⟨by omega, by omega⟩ ?_
        refine x_goto (tgt := 2) C d_M_ring_25 rfl ?_
        exact ih2
  refine x_iconst C d_M_ring_0 (by decide) ?_
  refine x_istore_n C d_M_ring_1 rfl (by decide) ?_
  exact loop0 B 1 σ (fun _ _ => rfl) (by omega) (by omega) rfl
theorem c_M_firm {σ : Hp} (h0 : 0 ≤ σ 1 1) (h1 : σ 1 1 < 204) (hw : ∀ i : Int, 1 ≤ i → i ≤ σ 1 1 → σ 2 i = 3 → 0 ≤ σ 3 i ∧ σ 3 i ≤ 60) : Ok LyM TM y_M_firm b_M_firm 2 (some .int) 1 0 0 [.inr 1] 28 σ (pI 28 σ (m_firm σ)) := by
  refine ok_mk (by decide) (Nat.le_of_ble_eq_true rfl) (fun K C rt ha hok hfx => ?_)
  show XW LyM TM K 28 σ 0 0 0 [some (.inr 1), none] []
  have hmf : m_firm σ = if srch (fun i => decide (σ 2 i = 3) && decide (σ 19 (σ 3 i) = 3)) 1 (σ 1 1).toNat < 0 then 0 else σ 3 (srch (fun i => decide (σ 2 i = 3) && decide (σ 19 (σ 3 i) = 3)) 1 (σ 1 1).toNat) := rfl
  have loop : ∀ (k : Nat) (x : Int), 1 ≤ x → x + k = σ 1 1 + 1 → srch (fun i => decide (σ 2 i = 3) && decide (σ 19 (σ 3 i) = 3)) x k = srch (fun i => decide (σ 2 i = 3) && decide (σ 19 (σ 3 i) = 3)) 1 (σ 1 1).toNat → XW LyM TM K 28 σ 0 0 2 [some (.inr 1), some (.inl x)] [] := by
    intro k
    induction k with
    | zero =>
      intro x hx hk hm
      refine x_iload_n C d_M_firm_2 rfl rfl ?_
      refine x_aload_n C d_M_firm_3 rfl rfl ?_
      refine x_getI C 1 cf_M fl_M_97 d_M_firm_4 rfl (by decide) rfl rfl (by omega) (by omega) (fun r4 => ?_)
      refine x_icmp_gt (tgt := 48) C d_M_firm_7 rfl (fun h7 => ?_) (fun h7 => ?_)
      · refine x_iconst C d_M_firm_48 (by decide) ?_
        exact x_iret rt d_M_firm_49 (by omega) (by omega) ⟨by rw [hmf, ← hm]; rfl, rfl, rfl⟩
      · exact absurd h7 (by omega)
    | succ k ih =>
      intro x hx hk hm
      have hs : srch (fun i => decide (σ 2 i = 3) && decide (σ 19 (σ 3 i) = 3)) x (k + 1) = if (decide (σ 2 x = 3) && decide (σ 19 (σ 3 x) = 3)) = true then x else srch (fun i => decide (σ 2 i = 3) && decide (σ 19 (σ 3 i) = 3)) (x + 1) k := rfl
      rw [hs] at hm
      refine x_iload_n C d_M_firm_2 rfl rfl ?_
      refine x_aload_n C d_M_firm_3 rfl rfl ?_
      refine x_getI C 1 cf_M fl_M_97 d_M_firm_4 rfl (by decide) rfl rfl (by omega) (by omega) (fun r4 => ?_)
      refine x_icmp_gt (tgt := 48) C d_M_firm_7 rfl (fun h7 => ?_) (fun h7 => ?_)
      · exact absurd h7 (by omega)
      · refine x_aload_n C d_M_firm_10 rfl rfl ?_
        refine x_getC C 2 2 cf_M fl_M_7 d_M_firm_11 rfl rfl rfl (by omega) (by omega) rfl ?_
        refine x_iload_n C d_M_firm_14 rfl rfl ?_
        refine x_iald C d_M_firm_15 rfl (by omega) (by omega) (by omega) (by omega) (fun r15 => ?_)
        refine x_iconst C d_M_firm_16 (by decide) ?_
        refine x_icmp_ne (tgt := 42) C d_M_firm_17 rfl (fun h17 => ?_) (fun h17 => ?_)
        · refine x_iinc C d_M_firm_42 (by decide) rfl ⟨by omega, by omega⟩ ?_
          refine x_goto (tgt := 2) C d_M_firm_45 rfl ?_
          exact ih (x + 1) (by omega) (by omega) (by rw [← hm, if_neg (by simp [*])])
        · refine x_aload_n C d_M_firm_20 rfl rfl ?_
          refine x_getC C 23 19 cf_M fl_M_61 d_M_firm_21 rfl rfl rfl (by omega) (by omega) rfl ?_
          refine x_aload_n C d_M_firm_24 rfl rfl ?_
          refine x_getC C 3 3 cf_M fl_M_13 d_M_firm_25 rfl rfl rfl (by omega) (by omega) rfl ?_
          refine x_iload_n C d_M_firm_28 rfl rfl ?_
          refine x_iald C d_M_firm_29 rfl (by omega) (by omega) (by omega) (by omega) (fun r29 => ?_)
          have hwx := hw x hx (by omega) h17
          refine x_iald C d_M_firm_30 rfl (by omega) (by omega) (by omega) (by omega) (fun r30 => ?_)
          refine x_iconst C d_M_firm_31 (by decide) ?_
          refine x_icmp_ne (tgt := 42) C d_M_firm_32 rfl (fun h32 => ?_) (fun h32 => ?_)
          · refine x_iinc C d_M_firm_42 (by decide) rfl ⟨by omega, by omega⟩ ?_
            refine x_goto (tgt := 2) C d_M_firm_45 rfl ?_
            exact ih (x + 1) (by omega) (by omega) (by rw [← hm, if_neg (by simp [*])])
          · refine x_aload_n C d_M_firm_35 rfl rfl ?_
            refine x_getC C 3 3 cf_M fl_M_13 d_M_firm_36 rfl rfl rfl (by omega) (by omega) rfl ?_
            refine x_iload_n C d_M_firm_39 rfl rfl ?_
            refine x_iald C d_M_firm_40 rfl (by omega) (by omega) (by omega) (by omega) (fun r40 => ?_)
            have hm2 := hm
            rw [if_pos (by simp [h17, h32])] at hm2
            exact x_iret rt d_M_firm_41 (by omega) (by omega) ⟨by rw [hmf, ← hm2, if_neg (by omega)], rfl, rfl⟩
  refine x_iconst C d_M_firm_0 (by decide) ?_
  refine x_istore_n C d_M_firm_1 rfl (by decide) ?_
  exact loop (σ 1 1).toNat 1 (by omega) (by omega) rfl
theorem c_M_firstFit {σ : Hp} (hL : mL σ) : Ok LyM TM y_M_firstFit b_M_firstFit 3 (some .int) 3 0 0 [.inr 1] 28 σ (pI 28 σ (m_firstFit σ)) := by
  refine ok_mk (by decide) (Nat.le_of_ble_eq_true rfl) (fun K C rt ha hok hfx => ?_)
  show XW LyM TM K 28 σ 0 0 0 [some (.inr 1), none, none] []
  obtain ⟨l1, l2, l3⟩ := hL
  have loop : ∀ (q i : Nat), (i : Int) + q = σ 1 22 → XW LyM TM K 28 σ 0 0 4 [some (.inr 1), some (.inl (m_ff σ i)), some (.inl ((i : Int) + 1))] [] := by
    intro q
    induction q with
    | zero =>
      intro i hi
      have e : i = (σ 1 22).toNat := by omega
      refine x_iload_n C d_M_firstFit_4 rfl rfl ?_
      refine x_aload_n C d_M_firstFit_5 rfl rfl ?_
      refine x_getI C 22 cf_M fl_M_138 d_M_firstFit_6 rfl (by decide) rfl rfl (by omega) (by omega) (fun r6 => ?_)
      refine x_icmp_gt (tgt := 57) C d_M_firstFit_9 rfl (fun h9 => ?_) (fun h9 => ?_)
      · refine x_iload_n C d_M_firstFit_57 rfl rfl ?_
        exact x_iret rt d_M_firstFit_58 (by omega) (by omega) ⟨by rw [e]; rfl, rfl, rfl⟩
      · exact absurd h9 (by omega)
    | succ q ih =>
      intro i hi
      have hb := m_ff_le σ i
      have ih2 := ih (i + 1) (by omega)
      have hs : m_ff σ (i + 1) = if σ 19 ((i : Int) + 1) = 2 ∧ (m_ff σ i = 0 ∨ σ 25 ((i : Int) + 1) < σ 25 (m_ff σ i)) ∧ m_fit σ ((i : Int) + 1) = true then (i : Int) + 1 else m_ff σ i := rfl
      rw [hs] at ih2
      generalize m_ff σ i = best at *
      have J51 : ∀ v : Int, v = (if σ 19 ((i : Int) + 1) = 2 ∧ (best = 0 ∨ σ 25 ((i : Int) + 1) < σ 25 best) ∧ m_fit σ ((i : Int) + 1) = true then (i : Int) + 1 else best) → XW LyM TM K 28 σ 0 0 51 [some (.inr 1), some (.inl v), some (.inl ((i : Int) + 1))] [] := by
        intro v hv
        subst hv
        refine x_iinc C d_M_firstFit_51 (by decide) rfl ⟨by omega, by omega⟩ ?_
        refine x_goto (tgt := 4) C d_M_firstFit_54 rfl ?_
        exact ih2
      have l4 := l3 ((i : Int) + 1) (by omega) (by omega)
      refine x_iload_n C d_M_firstFit_4 rfl rfl ?_
      refine x_aload_n C d_M_firstFit_5 rfl rfl ?_
      refine x_getI C 22 cf_M fl_M_138 d_M_firstFit_6 rfl (by decide) rfl rfl (by omega) (by omega) (fun r6 => ?_)
      refine x_icmp_gt (tgt := 57) C d_M_firstFit_9 rfl (fun h9 => ?_) (fun h9 => ?_)
      · exact absurd h9 (by omega)
      · refine x_aload_n C d_M_firstFit_12 rfl rfl ?_
        refine x_getC C 23 19 cf_M fl_M_61 d_M_firstFit_13 rfl rfl rfl (by omega) (by omega) rfl ?_
        refine x_iload_n C d_M_firstFit_16 rfl rfl ?_
        refine x_iald C d_M_firstFit_17 rfl (by omega) (by omega) (by omega) (by omega) (fun r17 => ?_)
        refine x_iconst C d_M_firstFit_18 (by decide) ?_
        refine x_icmp_ne (tgt := 51) C d_M_firstFit_19 rfl (fun h19 => ?_) (fun h19 => ?_)
        · exact J51 _ (by grind [b2i])
        · refine x_iload_n C d_M_firstFit_22 rfl rfl ?_
          refine x_if_eq (tgt := 41) C d_M_firstFit_23 rfl (fun h23 => ?_) (fun h23 => ?_)
          · refine x_aload_n C d_M_firstFit_41 rfl rfl ?_
            refine x_iload_n C d_M_firstFit_42 rfl rfl ?_
            refine x_callV C cl_M_159 cb_M_fit cs_M_fit d_M_firstFit_43 (c_M_fit (by omega) (by omega) l4.1 l4.2 l1 l2) rfl rfl rfl rfl rfl (by omega) (by omega) (by decide) (by decide) (Nat.le_of_ble_eq_true rfl) (by omega) (by omega) ?_
            rintro _ _ _ ⟨rfl, rfl, rfl⟩ -
            skip
            refine x_if_eq (tgt := 51) C d_M_firstFit_46 rfl (fun h46 => ?_) (fun h46 => ?_)
            · exact J51 _ (by grind [b2i])
            · refine x_iload_n C d_M_firstFit_49 rfl rfl ?_
              refine x_istore_n C d_M_firstFit_50 rfl (by decide) ?_
              exact J51 _ (by grind [b2i])
          · refine x_aload_n C d_M_firstFit_26 rfl rfl ?_
            refine x_getC C 29 25 cf_M fl_M_79 d_M_firstFit_27 rfl rfl rfl (by omega) (by omega) rfl ?_
            refine x_iload_n C d_M_firstFit_30 rfl rfl ?_
            refine x_iald C d_M_firstFit_31 rfl (by omega) (by omega) (by omega) (by omega) (fun r31 => ?_)
            refine x_aload_n C d_M_firstFit_32 rfl rfl ?_
            refine x_getC C 29 25 cf_M fl_M_79 d_M_firstFit_33 rfl rfl rfl (by omega) (by omega) rfl ?_
            refine x_iload_n C d_M_firstFit_36 rfl rfl ?_
            refine x_iald C d_M_firstFit_37 rfl (by omega) (by omega) (by omega) (by omega) (fun r37 => ?_)
            refine x_icmp_ge (tgt := 51) C d_M_firstFit_38 rfl (fun h38 => ?_) (fun h38 => ?_)
            · exact J51 _ (by grind [b2i])
            · refine x_aload_n C d_M_firstFit_41 rfl rfl ?_
              refine x_iload_n C d_M_firstFit_42 rfl rfl ?_
              refine x_callV C cl_M_159 cb_M_fit cs_M_fit d_M_firstFit_43 (c_M_fit (by omega) (by omega) l4.1 l4.2 l1 l2) rfl rfl rfl rfl rfl (by omega) (by omega) (by decide) (by decide) (Nat.le_of_ble_eq_true rfl) (by omega) (by omega) ?_
              rintro _ _ _ ⟨rfl, rfl, rfl⟩ -
              skip
              refine x_if_eq (tgt := 51) C d_M_firstFit_46 rfl (fun h46 => ?_) (fun h46 => ?_)
              · exact J51 _ (by grind [b2i])
              · refine x_iload_n C d_M_firstFit_49 rfl rfl ?_
                refine x_istore_n C d_M_firstFit_50 rfl (by decide) ?_
                exact J51 _ (by grind [b2i])
  refine x_iconst C d_M_firstFit_0 (by decide) ?_
  refine x_istore_n C d_M_firstFit_1 rfl (by decide) ?_
  refine x_iconst C d_M_firstFit_2 (by decide) ?_
  refine x_istore_n C d_M_firstFit_3 rfl (by decide) ?_
  exact loop (σ 1 22).toNat 0 (by omega)

theorem c_M_grant {σ : Hp} {t : Int} (h0 : 0 ≤ t) (h1 : t ≤ 60) (hk0 : 0 ≤ σ 22 t) (hk1 : σ 22 t ≤ 99) (hw : σ 23 t = 1 ∨ σ 23 t = 2) (hB : mB σ) (hs0 : 0 ≤ σ 1 0) (hs1 : σ 1 0 < 203) : Ok LyM TM y_M_grant b_M_grant 5 none 3 0 0 [.inr 1, .inl t] 28 σ (pV 28 (m_grant σ t)) := by
  refine ok_mk (by decide) (Nat.le_of_ble_eq_true rfl) (fun K C rt ha hok hfx => ?_)
  show XW LyM TM K 28 σ 0 0 0 [some (.inr 1), some (.inl t), none, none, none] []
  have J45 : ∀ τ : Hp, τ = (if m_lk σ t (σ 22 t) < σ 23 t then st2 σ 26 (100 * t + σ 22 t) (σ 23 t) else σ) → XW LyM TM K 28 τ 0 0 45 [some (.inr 1), some (.inl t), some (.inl (σ 22 t)), none, none] [] := by
    intro τ hτ
    have hg : st2 (st2 τ 19 t 1) 20 t 0 = m_lock σ t := by rw [hτ]; rfl
    have f22 : m_lock σ t 22 = σ 22 := m_lock_fr _ _ (by decide) (by decide) (by decide)
    have f23 : m_lock σ t 23 = σ 23 := m_lock_fr _ _ (by decide) (by decide) (by decide)
    have f1 : m_lock σ t 1 = σ 1 := m_lock_fr _ _ (by decide) (by decide) (by decide)
    have hB1 : mB (m_lock σ t) := by simpa only [mB, f1] using hB
    have hgr : m_grant σ t = if m_lock σ t 23 t = 1 then m_readFor (m_lock σ t) t else m_writeFor (m_lock σ t) t := rfl
    have J59 : XW LyM TM K 28 (m_lock σ t) 0 0 59 [some (.inr 1), some (.inl t), some (.inl (σ 22 t)), none, none] [] := by
      have g0 : m_lock σ t 22 t = σ 22 t := by rw [f22]
      have g1 : m_lock σ t 23 t = σ 23 t := by rw [f23]
      have g2 : m_lock σ t 1 0 = σ 1 0 := by rw [f1]
      generalize hτ1 : m_lock σ t = τ1 at *
      have hx := srch_spec (fun x => decide (m_keyAt τ1 x = σ 22 t)) 24 0
      have hxe : srch (fun x => decide (m_keyAt τ1 x = σ 22 t)) 0 24 = m_find τ1 (σ 22 t) := rfl
      have hrd : m_readFor τ1 t = if 0 ≤ m_find τ1 (σ 22 t) then st2 (m_fetch τ1 (m_find τ1 (σ 22 t) / 4)) 21 t (m_fetch τ1 (m_find τ1 (σ 22 t) / 4) 15 (m_find τ1 (σ 22 t))) else st2 τ1 21 t 0 := by rw [← g0]; rfl
      have htg : m_target τ1 t = if m_find τ1 (σ 22 t) < 0 then m_find τ1 (-1) else m_find τ1 (σ 22 t) := by rw [← g0]; rfl
      have hwr : m_writeFor τ1 t = if m_target τ1 t < 0 ∨ 60 ≤ m_countOf τ1 1 then st2 τ1 20 t 3 else m_upd τ1 t (m_target τ1 t) := rfl
      rw [hxe] at hx
      have hx24 : m_find τ1 (σ 22 t) < 24 := by rcases hx with ⟨a, -⟩ | ⟨-, a, -⟩ <;> omega
      have hxm : -1 ≤ m_find τ1 (σ 22 t) := by rcases hx with ⟨a, -⟩ | ⟨a, -, -⟩ <;> omega
      have hy := srch_spec (fun x => decide (m_keyAt τ1 x = -1)) 24 0
      have hye : srch (fun x => decide (m_keyAt τ1 x = -1)) 0 24 = m_find τ1 (-1) := rfl
      rw [hye] at hy
      have hy24 : m_find τ1 (-1) < 24 := by rcases hy with ⟨a, -⟩ | ⟨-, a, -⟩ <;> omega
      generalize hX : m_find τ1 (σ 22 t) = X at *
      generalize hY : m_find τ1 (-1) = Y at *
      have hu : ∀ x : Int, m_upd τ1 t x = m_apply (st2 (st2 (st2 (st2 (m_put (m_fetch τ1 (x / 4)) 1 t x) 5 (m_fetch τ1 (x / 4) 1 0 + 1) (m_put (m_fetch τ1 (x / 4)) 1 t x 14 x)) 6 (m_fetch τ1 (x / 4) 1 0 + 1) (st2 (m_put (m_fetch τ1 (x / 4)) 1 t x) 5 (m_fetch τ1 (x / 4) 1 0 + 1) (m_put (m_fetch τ1 (x / 4)) 1 t x 14 x) 15 x)) 7 (m_fetch τ1 (x / 4) 1 0 + 1) (σ 22 t)) 8 (m_fetch τ1 (x / 4) 1 0 + 1) (st2 (st2 (st2 (m_put (m_fetch τ1 (x / 4)) 1 t x) 5 (m_fetch τ1 (x / 4) 1 0 + 1) (m_put (m_fetch τ1 (x / 4)) 1 t x 14 x)) 6 (m_fetch τ1 (x / 4) 1 0 + 1) (st2 (m_put (m_fetch τ1 (x / 4)) 1 t x) 5 (m_fetch τ1 (x / 4) 1 0 + 1) (m_put (m_fetch τ1 (x / 4)) 1 t x 14 x) 15 x)) 7 (m_fetch τ1 (x / 4) 1 0 + 1) (σ 22 t) 24 t)) (m_fetch τ1 (x / 4) 1 0 + 1) := by
        intro x
        simp only [m_upd, m_put_0, g0]
      have hsz : ∀ x : Int, m_fetch τ1 (x / 4) 1 0 = σ 1 0 := fun x => by rw [m_fetch_1 _ _ (by decide) (by decide) (by decide) (by decide)]; exact g2
      have J120 : ∀ z : Int, ¬ τ1 23 t = 1 → z = (if X < 0 then Y else X) → XW LyM TM K 28 τ1 0 0 120 [some (.inr 1), some (.inl t), some (.inl (σ 22 t)), some (.inl X), none] [.inl z] := by
        intro z hn1 hz
        rw [if_neg hn1, hwr, htg, ← hz] at hgr
        have hz24 : z < 24 := by rw [hz]; split <;> omega
        have hs3 := hsz z
        refine x_istore_n C d_M_grant_120 rfl (by decide) ?_
        refine x_iload_n C d_M_grant_121 rfl rfl ?_
        refine x_if_lt (tgt := 135) C d_M_grant_122 rfl (fun h122 => ?_) (fun h122 => ?_)
        · refine x_aload_n C d_M_grant_135 rfl rfl ?_
          refine x_getC C 24 20 cf_M fl_M_64 d_M_grant_136 rfl rfl rfl (by omega) (by omega) rfl ?_
          refine x_iload_n C d_M_grant_139 rfl rfl ?_
          refine x_iconst C d_M_grant_140 (by decide) ?_
          refine x_iast C d_M_grant_141 rfl rfl (by omega) (by omega) (by omega) (by omega) ?_
          exact x_vret rt d_M_grant_142 (by omega) (by omega) ⟨rfl, rfl, by rw [hgr]; first | exact (if_pos (by omega)).trans rfl | exact (if_neg (by omega)).trans (hu z)⟩
        · refine x_aload_n C d_M_grant_125 rfl rfl ?_
          refine x_iconst C d_M_grant_126 (by decide) ?_
          refine x_callV C cl_M_147 cb_M_countOf cs_M_countOf d_M_grant_127 (c_M_countOf (by omega) (by omega)) rfl rfl rfl rfl rfl (by omega) (by omega) (by decide) (by decide) (Nat.le_of_ble_eq_true rfl) (by omega) (by omega) ?_
          rintro _ _ _ ⟨rfl, rfl, rfl⟩ -
          skip
          refine x_bipush C d_M_grant_130 (by decide) (by decide) ?_
          refine x_icmp_lt (tgt := 143) C d_M_grant_132 rfl (fun h132 => ?_) (fun h132 => ?_)
          · refine x_aload_n C d_M_grant_143 rfl rfl ?_
            refine x_iload_n C d_M_grant_144 rfl rfl ?_
            refine x_iconst C d_M_grant_145 (by decide) ?_
            refine x_idiv C d_M_grant_146 (by omega) (by decide) ?_
            refine x_callV C cl_M_121 cb_M_fetch cs_M_fetch d_M_grant_147 (c_M_fetch (by omega) (by omega) hB1) rfl rfl rfl rfl rfl (by omega) (by omega) (by decide) (by decide) (Nat.le_of_ble_eq_true rfl) (by omega) (by omega) ?_
            rintro _ _ _ ⟨rfl, rfl, rfl⟩ -
            skip
            refine x_aload_n C d_M_grant_150 rfl rfl ?_
            refine x_iconst C d_M_grant_151 (by decide) ?_
            refine x_iload_n C d_M_grant_152 rfl rfl ?_
            refine x_iload_n C d_M_grant_153 rfl rfl ?_
            refine x_callV C cl_M_124 cb_M_put cs_M_put d_M_grant_154 (c_M_put (by omega) (by omega)) rfl rfl rfl rfl rfl (by omega) (by omega) (by decide) (by decide) (Nat.le_of_ble_eq_true rfl) (by omega) (by omega) ?_
            rintro _ _ _ ⟨rfl, rfl, rfl⟩ -
            skip
            refine x_istore C d_M_grant_157 (by decide) ?_
            refine x_aload_n C d_M_grant_159 rfl rfl ?_
            refine x_getC C 5 5 cf_M fl_M_19 d_M_grant_160 rfl rfl rfl (by omega) (by omega) rfl ?_
            refine x_iload C d_M_grant_163 rfl ?_
            refine x_aload_n C d_M_grant_165 rfl rfl ?_
            refine x_getC C 14 14 cf_M fl_M_46 d_M_grant_166 rfl rfl rfl (by omega) (by omega) rfl ?_
            refine x_iload_n C d_M_grant_169 rfl rfl ?_
            refine x_iald C d_M_grant_170 rfl (by omega) (by omega) (by omega) (by omega) (fun r170 => ?_)
            refine x_iast C d_M_grant_171 rfl rfl (by omega) (by omega) (by omega) (by omega) ?_
            refine x_aload_n C d_M_grant_172 rfl rfl ?_
            refine x_getC C 6 6 cf_M fl_M_22 d_M_grant_173 rfl rfl rfl (by omega) (by omega) rfl ?_
            refine x_iload C d_M_grant_176 rfl ?_
            refine x_aload_n C d_M_grant_178 rfl rfl ?_
            refine x_getC C 15 15 cf_M fl_M_49 d_M_grant_179 rfl rfl rfl (by omega) (by omega) rfl ?_
            refine x_iload_n C d_M_grant_182 rfl rfl ?_
            refine x_iald C d_M_grant_183 rfl (by omega) (by omega) (by omega) (by omega) (fun r183 => ?_)
            refine x_iast C d_M_grant_184 rfl rfl (by omega) (by omega) (by omega) (by omega) ?_
            refine x_aload_n C d_M_grant_185 rfl rfl ?_
            refine x_getC C 7 7 cf_M fl_M_25 d_M_grant_186 rfl rfl rfl (by omega) (by omega) rfl ?_
            refine x_iload C d_M_grant_189 rfl ?_
            refine x_iload_n C d_M_grant_191 rfl rfl ?_
            refine x_iast C d_M_grant_192 rfl rfl (by omega) (by omega) (by omega) (by omega) ?_
            refine x_aload_n C d_M_grant_193 rfl rfl ?_
            refine x_getC C 8 8 cf_M fl_M_28 d_M_grant_194 rfl rfl rfl (by omega) (by omega) rfl ?_
            refine x_iload C d_M_grant_197 rfl ?_
            refine x_aload_n C d_M_grant_199 rfl rfl ?_
            refine x_getC C 28 24 cf_M fl_M_76 d_M_grant_200 rfl rfl rfl (by omega) (by omega) rfl ?_
            refine x_iload_n C d_M_grant_203 rfl rfl ?_
            refine x_iald C d_M_grant_204 rfl (by omega) (by omega) (by omega) (by omega) (fun r204 => ?_)
            refine x_iast C d_M_grant_205 rfl rfl (by omega) (by omega) (by omega) (by omega) ?_
            refine x_aload_n C d_M_grant_206 rfl rfl ?_
            refine x_iload C d_M_grant_207 rfl ?_
            refine x_callV C cl_M_128 cb_M_apply cs_M_apply d_M_grant_209 (c_M_apply (by omega) (by omega) (by simp [st2, m_put_4]; omega) (by simp [st2, m_put_4]; omega)) rfl rfl rfl rfl rfl (by omega) (by omega) (by decide) (by decide) (Nat.le_of_ble_eq_true rfl) (by omega) (by omega) ?_
            rintro _ _ _ ⟨rfl, rfl, rfl⟩ -
            skip
            exact x_vret rt d_M_grant_212 (by omega) (by omega) ⟨rfl, rfl, by rw [hgr]; first | exact (if_pos (by omega)).trans rfl | exact (if_neg (by omega)).trans (hu z)⟩
          · refine x_aload_n C d_M_grant_135 rfl rfl ?_
            refine x_getC C 24 20 cf_M fl_M_64 d_M_grant_136 rfl rfl rfl (by omega) (by omega) rfl ?_
            refine x_iload_n C d_M_grant_139 rfl rfl ?_
            refine x_iconst C d_M_grant_140 (by decide) ?_
            refine x_iast C d_M_grant_141 rfl rfl (by omega) (by omega) (by omega) (by omega) ?_
            exact x_vret rt d_M_grant_142 (by omega) (by omega) ⟨rfl, rfl, by rw [hgr]; first | exact (if_pos (by omega)).trans rfl | exact (if_neg (by omega)).trans (hu z)⟩
      have J105 : ∀ (τ : Hp) (v : Int), τ1 23 t = 1 → st2 τ 21 t v = m_readFor τ1 t → XW LyM TM K 28 τ 0 0 105 [some (.inr 1), some (.inl t), some (.inl (σ 22 t)), some (.inl X), none] [.inl v, .inl t, .inr 21] := by
        intro τ v h1 hτv
        rw [if_pos h1, ← hτv] at hgr
        refine x_iast C d_M_grant_105 rfl rfl (by omega) (by omega) (by omega) (by omega) ?_
        exact x_vret rt d_M_grant_106 (by omega) (by omega) ⟨rfl, rfl, hgr⟩
      refine x_aload_n C d_M_grant_59 rfl rfl ?_
      refine x_iload_n C d_M_grant_60 rfl rfl ?_
      refine x_callV C cl_M_144 cb_M_find cs_M_find d_M_grant_61 (c_M_find) rfl rfl rfl rfl rfl (by omega) (by omega) (by decide) (by decide) (Nat.le_of_ble_eq_true rfl) (by omega) (by omega) ?_
      rintro _ _ _ ⟨rfl, rfl, rfl⟩ -
      skip
      rw [hX]
      refine x_istore_n C d_M_grant_64 rfl (by decide) ?_
      refine x_aload_n C d_M_grant_65 rfl rfl ?_
      refine x_getC C 27 23 cf_M fl_M_73 d_M_grant_66 rfl rfl rfl (by omega) (by omega) rfl ?_
      refine x_iload_n C d_M_grant_69 rfl rfl ?_
      refine x_iald C d_M_grant_70 rfl (by omega) (by omega) (by omega) (by omega) (fun r70 => ?_)
      refine x_iconst C d_M_grant_71 (by decide) ?_
      refine x_icmp_ne (tgt := 107) C d_M_grant_72 rfl (fun h72 => ?_) (fun h72 => ?_)
      · refine x_iload_n C d_M_grant_107 rfl rfl ?_
        refine x_if_ge (tgt := 119) C d_M_grant_108 rfl (fun h108 => ?_) (fun h108 => ?_)
        · refine x_iload_n C d_M_grant_119 rfl rfl ?_
          exact J120 _ h72 (by first | exact (if_pos (by omega)).symm | exact (if_neg (by omega)).symm)
        · refine x_aload_n C d_M_grant_111 rfl rfl ?_
          refine x_iconst C d_M_grant_112 (by decide) ?_
          refine x_callV C cl_M_144 cb_M_find cs_M_find d_M_grant_113 (c_M_find) rfl rfl rfl rfl rfl (by omega) (by omega) (by decide) (by decide) (Nat.le_of_ble_eq_true rfl) (by omega) (by omega) ?_
          rintro _ _ _ ⟨rfl, rfl, rfl⟩ -
          skip
          rw [hY]
          refine x_goto (tgt := 120) C d_M_grant_116 rfl ?_
          exact J120 _ h72 (by first | exact (if_pos (by omega)).symm | exact (if_neg (by omega)).symm)
      · refine x_iload_n C d_M_grant_75 rfl rfl ?_
        refine x_if_lt (tgt := 86) C d_M_grant_76 rfl (fun h76 => ?_) (fun h76 => ?_)
        · refine x_aload_n C d_M_grant_86 rfl rfl ?_
          refine x_getC C 25 21 cf_M fl_M_67 d_M_grant_87 rfl rfl rfl (by omega) (by omega) rfl ?_
          refine x_iload_n C d_M_grant_90 rfl rfl ?_
          refine x_iload_n C d_M_grant_91 rfl rfl ?_
          refine x_if_lt (tgt := 104) C d_M_grant_92 rfl (fun h92 => ?_) (fun h92 => ?_)
          · refine x_iconst C d_M_grant_104 (by decide) ?_
            first | exact absurd h92 (by omega) | exact J105 _ _ h72 (by rw [hrd]; first | exact (if_pos (by omega)).symm | exact (if_neg (by omega)).symm)
          · refine x_aload_n C d_M_grant_95 rfl rfl ?_
            refine x_getC C 15 15 cf_M fl_M_49 d_M_grant_96 rfl rfl rfl (by omega) (by omega) rfl ?_
            refine x_iload_n C d_M_grant_99 rfl rfl ?_
            refine x_iald C d_M_grant_100 rfl (by omega) (by omega) (by omega) (by omega) (fun r100 => ?_)
            refine x_goto (tgt := 105) C d_M_grant_101 rfl ?_
            first | exact absurd h92 (by omega) | exact J105 _ _ h72 (by rw [hrd]; first | exact (if_pos (by omega)).symm | exact (if_neg (by omega)).symm)
        · refine x_aload_n C d_M_grant_79 rfl rfl ?_
          refine x_iload_n C d_M_grant_80 rfl rfl ?_
          refine x_iconst C d_M_grant_81 (by decide) ?_
          refine x_idiv C d_M_grant_82 (by omega) (by decide) ?_
          refine x_callV C cl_M_121 cb_M_fetch cs_M_fetch d_M_grant_83 (c_M_fetch (by omega) (by omega) hB1) rfl rfl rfl rfl rfl (by omega) (by omega) (by decide) (by decide) (Nat.le_of_ble_eq_true rfl) (by omega) (by omega) ?_
          rintro _ _ _ ⟨rfl, rfl, rfl⟩ -
          skip
          refine x_aload_n C d_M_grant_86 rfl rfl ?_
          refine x_getC C 25 21 cf_M fl_M_67 d_M_grant_87 rfl rfl rfl (by omega) (by omega) rfl ?_
          refine x_iload_n C d_M_grant_90 rfl rfl ?_
          refine x_iload_n C d_M_grant_91 rfl rfl ?_
          refine x_if_lt (tgt := 104) C d_M_grant_92 rfl (fun h92 => ?_) (fun h92 => ?_)
          · refine x_iconst C d_M_grant_104 (by decide) ?_
            first | exact absurd h92 (by omega) | exact J105 _ _ h72 (by rw [hrd]; first | exact (if_pos (by omega)).symm | exact (if_neg (by omega)).symm)
          · refine x_aload_n C d_M_grant_95 rfl rfl ?_
            refine x_getC C 15 15 cf_M fl_M_49 d_M_grant_96 rfl rfl rfl (by omega) (by omega) rfl ?_
            refine x_iload_n C d_M_grant_99 rfl rfl ?_
            refine x_iald C d_M_grant_100 rfl (by omega) (by omega) (by omega) (by omega) (fun r100 => ?_)
            refine x_goto (tgt := 105) C d_M_grant_101 rfl ?_
            first | exact absurd h92 (by omega) | exact J105 _ _ h72 (by rw [hrd]; first | exact (if_pos (by omega)).symm | exact (if_neg (by omega)).symm)
    rw [← hg] at J59
    refine x_aload_n C d_M_grant_45 rfl rfl ?_
    refine x_getC C 23 19 cf_M fl_M_61 d_M_grant_46 rfl rfl rfl (by omega) (by omega) rfl ?_
    refine x_iload_n C d_M_grant_49 rfl rfl ?_
    refine x_iconst C d_M_grant_50 (by decide) ?_
    refine x_iast C d_M_grant_51 rfl rfl (by omega) (by omega) (by omega) (by omega) ?_
    refine x_aload_n C d_M_grant_52 rfl rfl ?_
    refine x_getC C 24 20 cf_M fl_M_64 d_M_grant_53 rfl rfl rfl (by omega) (by omega) rfl ?_
    refine x_iload_n C d_M_grant_56 rfl rfl ?_
    refine x_iconst C d_M_grant_57 (by decide) ?_
    refine x_iast C d_M_grant_58 rfl rfl (by omega) (by omega) (by omega) (by omega) ?_
    exact J59
  refine x_aload_n C d_M_grant_0 rfl rfl ?_
  refine x_getC C 26 22 cf_M fl_M_70 d_M_grant_1 rfl rfl rfl (by omega) (by omega) rfl ?_
  refine x_iload_n C d_M_grant_4 rfl rfl ?_
  refine x_iald C d_M_grant_5 rfl (by omega) (by omega) (by omega) (by omega) (fun r5 => ?_)
  refine x_istore_n C d_M_grant_6 rfl (by decide) ?_
  refine x_aload_n C d_M_grant_7 rfl rfl ?_
  refine x_getC C 30 26 cf_M fl_M_82 d_M_grant_8 rfl rfl rfl (by omega) (by omega) rfl ?_
  refine x_bipush C d_M_grant_11 (by decide) (by decide) ?_
  refine x_iload_n C d_M_grant_13 rfl rfl ?_
  refine x_imul C d_M_grant_14 ⟨by omega, by omega⟩ ?_
  refine x_iload_n C d_M_grant_15 rfl rfl ?_
  refine x_iadd C d_M_grant_16 ⟨by omega, by omega⟩ ?_
  refine x_bald C d_M_grant_17 rfl (by omega) (by omega) (by omega) (by omega) (fun r17 => ?_)
  refine x_aload_n C d_M_grant_18 rfl rfl ?_
  refine x_getC C 27 23 cf_M fl_M_73 d_M_grant_19 rfl rfl rfl (by omega) (by omega) rfl ?_
  refine x_iload_n C d_M_grant_22 rfl rfl ?_
  refine x_iald C d_M_grant_23 rfl (by omega) (by omega) (by omega) (by omega) (fun r23 => ?_)
  refine x_icmp_ge (tgt := 45) C d_M_grant_24 rfl (fun h24 => ?_) (fun h24 => ?_)
  · exact J45 _ (by grind [m_lk])
  · refine x_aload_n C d_M_grant_27 rfl rfl ?_
    refine x_getC C 30 26 cf_M fl_M_82 d_M_grant_28 rfl rfl rfl (by omega) (by omega) rfl ?_
    refine x_bipush C d_M_grant_31 (by decide) (by decide) ?_
    refine x_iload_n C d_M_grant_33 rfl rfl ?_
    refine x_imul C d_M_grant_34 ⟨by omega, by omega⟩ ?_
    refine x_iload_n C d_M_grant_35 rfl rfl ?_
    refine x_iadd C d_M_grant_36 ⟨by omega, by omega⟩ ?_
    refine x_aload_n C d_M_grant_37 rfl rfl ?_
    refine x_getC C 27 23 cf_M fl_M_73 d_M_grant_38 rfl rfl rfl (by omega) (by omega) rfl ?_
    refine x_iload_n C d_M_grant_41 rfl rfl ?_
    refine x_iald C d_M_grant_42 rfl (by omega) (by omega) (by omega) (by omega) (fun r42 => ?_)
    refine x_i2b C d_M_grant_43 (by omega) (by omega) ?_
    refine x_bast C d_M_grant_44 rfl rfl (by omega) (by omega) (by omega) (by omega) (by omega) (by omega) ?_
    exact J45 _ (by grind [m_lk])

