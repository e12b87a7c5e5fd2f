-- ===== the reference: requests and the other calls =====
abbrev OkS (τ : Hp) : Prop := Ok LyM TM y_M_settle b_M_settle 5 none 4 0 0 [.inr 1] 28 τ (pV 28 (m_settle τ))
abbrev OkD (τ : Hp) (t : Int) : Prop := Ok LyM TM y_M_drop b_M_drop 3 none 4 0 0 [.inr 1, .inl t] 28 τ (pV 28 (m_drop τ t))
abbrev OkR (τ : Hp) (t : Int) : Prop := Ok LyM TM y_M_ring b_M_ring 5 (some .boolean) 3 0 0 [.inr 1, .inl t] 28 τ (pI 28 (m_ring τ t) (m_ring τ t 27 t))
abbrev OkG (τ : Hp) (t : Int) : Prop := Ok LyM TM y_M_grant b_M_grant 5 none 3 0 0 [.inr 1, .inl t] 28 τ (pV 28 (m_grant τ t))
theorem m_isIn_b {σ : Hp} {t s : Int} (h : m_isIn σ t s = true) : σ 1 32 = 0 ∧ 1 ≤ t ∧ t ≤ σ 1 22 ∧ σ 19 t = s := by
  simp only [m_isIn, Bool.and_eq_true, decide_eq_true_eq] at h
  exact ⟨h.1.1.1, h.1.1.2, h.1.2, h.2⟩
theorem b2i_1 {b : Bool} (h : ¬ b2i b = 0) : b = true := by cases b <;> simp [b2i] at *
theorem b2i_0 {b : Bool} (h : b2i b = 0) : b = false := by cases b <;> simp [b2i] at *
theorem c_M_request {σ : Hp} {t key what v : Int} (h0 : 0 ≤ σ 1 22) (h1 : σ 1 22 ≤ 60) (hB : mB σ)
    (hG : m_isIn σ t 1 = true → 0 ≤ key → key ≤ 99 → m_fit (m_ask σ t key what v) t = true → OkG (m_ask σ t key what v) t)
    (hR : m_isIn σ t 1 = true → 0 ≤ key → key ≤ 99 → m_fit (m_ask σ t key what v) t = false → OkR (m_wait (m_ask σ t key what v) t) t)
    (hD : m_isIn σ t 1 = true → 0 ≤ key → key ≤ 99 → m_fit (m_ask σ t key what v) t = false → ¬ m_ring (m_wait (m_ask σ t key what v) t) t 27 t = 0 → OkD (st2 (m_ring (m_wait (m_ask σ t key what v) t) t) 20 t 2) t)
    (hS : m_isIn σ t 1 = true → 0 ≤ key → key ≤ 99 → OkS (m_req2 (m_ask σ t key what v) t)) : Ok LyM TM y_M_request b_M_request 6 (some .int) 5 0 0 [.inr 1, .inl t, .inl key, .inl what, .inl v] 28 σ (pI 28 (m_request σ t key what v).2 (m_request σ t key what v).1) := by
  refine ok_mk (by decide) (Nat.le_of_ble_eq_true rfl) (fun K C rt ha hok hfx => ?_)
  show XW LyM TM K 28 σ 0 0 0 [some (.inr 1), some (.inl t), some (.inl key), some (.inl what), some (.inl v), none] []
  obtain ⟨b1, b2, b3, b4, b5, b6⟩ := hB
  have J63 : m_isIn σ t 1 = true → 0 ≤ key → key ≤ 99 → XW LyM TM K 28 (m_ask σ t key what v) 0 0 63 [some (.inr 1), some (.inl t), some (.inl key), some (.inl what), some (.inl v), none] [] := by
    intro hi k0 k1
    obtain ⟨i1, i2, i3, i4⟩ := m_isIn_b hi
    have e1 : m_ask σ t key what v 22 t = key := by simp [m_ask, st2]
    have e2 : m_ask σ t key what v 1 22 = σ 1 22 := by simp [m_ask, st2]
    have hG := hG hi k0 k1
    have hR := hR hi k0 k1
    have hD := hD hi k0 k1
    have hS := hS hi k0 k1
    have hrq : m_request σ t key what v = (m_req2 (m_ask σ t key what v) t 20 t, m_settle (m_req2 (m_ask σ t key what v) t)) := if_pos ⟨hi, k0, k1⟩
    rw [hrq] at rt
    clear hrq
    generalize m_ask σ t key what v = τ1 at *
    have J113 : ∀ τ : Hp, τ = m_req2 τ1 t → XW LyM TM K 28 τ 0 0 113 [some (.inr 1), some (.inl t), some (.inl key), some (.inl what), some (.inl v), none] [] := by
      intro τ hτ
      subst hτ
      refine x_aload_n C d_M_request_113 rfl rfl ?_
      refine x_getC C 24 20 cf_M fl_M_64 d_M_request_114 rfl rfl rfl (by omega) (by omega) rfl ?_
      refine x_iload_n C d_M_request_117 rfl rfl ?_
      refine x_iald C d_M_request_118 rfl (by omega) (by omega) (by omega) (by omega) (fun r118 => ?_)
      refine x_istore C d_M_request_119 (by decide) ?_
      refine x_aload_n C d_M_request_121 rfl rfl ?_
      refine x_callV C cl_M_188 cb_M_settle cs_M_settle d_M_request_122 (hS) rfl rfl rfl rfl rfl (by omega) (by omega) (by decide) (by decide) (Nat.le_of_ble_eq_true rfl) (by omega) (by omega) ?_
      rintro _ _ _ ⟨rfl, rfl, rfl⟩ -
      skip
      refine x_iload C d_M_request_125 rfl ?_
      exact x_iret rt d_M_request_127 (by omega) (by omega) ⟨rfl, rfl, rfl⟩
    refine x_aload_n C d_M_request_63 rfl rfl ?_
    refine x_iload_n C d_M_request_64 rfl rfl ?_
    refine x_callV C cl_M_159 cb_M_fit cs_M_fit d_M_request_65 (c_M_fit (by omega) (by omega) (by omega) (by omega) (by omega) (by omega)) rfl rfl rfl rfl rfl (by omega) (by omega) (by decide) (by decide) (Nat.le_of_ble_eq_true rfl) (by omega) (by omega) ?_
    rintro _ _ _ ⟨rfl, rfl, rfl⟩ -
    skip
    refine x_if_eq (tgt := 79) C d_M_request_68 rfl (fun h68 => ?_) (fun h68 => ?_)
    · refine x_aload_n C d_M_request_79 rfl rfl ?_
      refine x_getC C 23 19 cf_M fl_M_61 d_M_request_80 rfl rfl rfl (by omega) (by omega) rfl ?_
      refine x_iload_n C d_M_request_83 rfl rfl ?_
      refine x_iconst C d_M_request_84 (by decide) ?_
      refine x_iast C d_M_request_85 rfl rfl (by omega) (by omega) (by omega) (by omega) ?_
      refine x_aload_n C d_M_request_86 rfl rfl ?_
      refine x_getC C 24 20 cf_M fl_M_64 d_M_request_87 rfl rfl rfl (by omega) (by omega) rfl ?_
      refine x_iload_n C d_M_request_90 rfl rfl ?_
      refine x_iconst C d_M_request_91 (by decide) ?_
      refine x_iast C d_M_request_92 rfl rfl (by omega) (by omega) (by omega) (by omega) ?_
      refine x_aload_n C d_M_request_93 rfl rfl ?_
      refine x_iload_n C d_M_request_94 rfl rfl ?_
      refine x_callV C cl_M_182 cb_M_ring cs_M_ring d_M_request_95 (hR (b2i_0 h68)) rfl rfl rfl rfl rfl (by omega) (by omega) (by decide) (by decide) (Nat.le_of_ble_eq_true rfl) (by omega) (by omega) ?_
      rintro _ _ _ ⟨rfl, rfl, rfl⟩ -
      skip
      refine x_if_eq (tgt := 113) C d_M_request_98 rfl (fun h98 => ?_) (fun h98 => ?_)
      · exact J113 _ (by simp only [m_req2]; first | rw [if_pos (b2i_1 h68)] | rw [if_neg (by rw [b2i_0 h68]; decide), if_pos h98] | rw [if_neg (by rw [b2i_0 h68]; decide), if_neg h98])
      · refine x_aload_n C d_M_request_101 rfl rfl ?_
        refine x_getC C 24 20 cf_M fl_M_64 d_M_request_102 rfl rfl rfl (by omega) (by omega) rfl ?_
        refine x_iload_n C d_M_request_105 rfl rfl ?_
        refine x_iconst C d_M_request_106 (by decide) ?_
        refine x_iast C d_M_request_107 rfl rfl (by omega) (by omega) (by omega) (by omega) ?_
        refine x_aload_n C d_M_request_108 rfl rfl ?_
        refine x_iload_n C d_M_request_109 rfl rfl ?_
        refine x_callV C cl_M_185 cb_M_drop cs_M_drop d_M_request_110 (hD (b2i_0 h68) h98) rfl rfl rfl rfl rfl (by omega) (by omega) (by decide) (by decide) (Nat.le_of_ble_eq_true rfl) (by omega) (by omega) ?_
        rintro _ _ _ ⟨rfl, rfl, rfl⟩ -
        skip
        exact J113 _ (by simp only [m_req2]; first | rw [if_pos (b2i_1 h68)] | rw [if_neg (by rw [b2i_0 h68]; decide), if_pos h98] | rw [if_neg (by rw [b2i_0 h68]; decide), if_neg h98])
    · refine x_aload_n C d_M_request_71 rfl rfl ?_
      refine x_iload_n C d_M_request_72 rfl rfl ?_
      refine x_callV C cl_M_169 cb_M_grant cs_M_grant d_M_request_73 (hG (b2i_1 h68)) rfl rfl rfl rfl rfl (by omega) (by omega) (by decide) (by decide) (Nat.le_of_ble_eq_true rfl) (by omega) (by omega) ?_
      rintro _ _ _ ⟨rfl, rfl, rfl⟩ -
      skip
      refine x_goto (tgt := 113) C d_M_request_76 rfl ?_
      exact J113 _ (by simp only [m_req2]; first | rw [if_pos (b2i_1 h68)] | rw [if_neg (by rw [b2i_0 h68]; decide), if_pos h98] | rw [if_neg (by rw [b2i_0 h68]; decide), if_neg h98])
  refine x_aload_n C d_M_request_0 rfl rfl ?_
  refine x_iload_n C d_M_request_1 rfl rfl ?_
  refine x_iconst C d_M_request_2 (by decide) ?_
  refine x_callV C cl_M_179 cb_M_isIn cs_M_isIn d_M_request_3 (c_M_isIn h1) rfl rfl rfl rfl rfl (by omega) (by omega) (by decide) (by decide) (Nat.le_of_ble_eq_true rfl) (by omega) (by omega) ?_
  rintro _ _ _ ⟨rfl, rfl, rfl⟩ -
  skip
  refine x_if_eq (tgt := 19) C d_M_request_6 rfl (fun h6 => ?_) (fun h6 => ?_)
  · refine x_iconst C d_M_request_19 (by decide) ?_
    have hrq : m_request σ t key what v = (-1, σ) := if_neg (by first | (rw [b2i_0 h6]; simp; done) | omega)
    rw [hrq] at rt
    exact x_iret rt d_M_request_20 (by omega) (by omega) ⟨rfl, rfl, rfl⟩
  · refine x_iload_n C d_M_request_9 rfl rfl ?_
    refine x_if_lt (tgt := 19) C d_M_request_10 rfl (fun h10 => ?_) (fun h10 => ?_)
    · refine x_iconst C d_M_request_19 (by decide) ?_
      have hrq : m_request σ t key what v = (-1, σ) := if_neg (by first | (rw [b2i_0 h6]; simp; done) | omega)
      rw [hrq] at rt
      exact x_iret rt d_M_request_20 (by omega) (by omega) ⟨rfl, rfl, rfl⟩
    · refine x_iload_n C d_M_request_13 rfl rfl ?_
      refine x_bipush C d_M_request_14 (by decide) (by decide) ?_
      refine x_icmp_le (tgt := 21) C d_M_request_16 rfl (fun h16 => ?_) (fun h16 => ?_)
      · have hi := b2i_1 h6
        obtain ⟨i1, i2, i3, i4⟩ := m_isIn_b hi
        refine x_aload_n C d_M_request_21 rfl rfl ?_
        refine x_dup C d_M_request_22 ?_
        refine x_getI C 19 cf_M fl_M_104 d_M_request_23 rfl (by decide) rfl rfl (by omega) (by omega) (fun r23 => ?_)
        refine x_iconst C d_M_request_26 (by decide) ?_
        refine x_iadd C d_M_request_27 ⟨by omega, by omega⟩ ?_
        refine x_putI C 19 rfl cf_M fl_M_104 d_M_request_28 rfl (Or.inl ⟨rfl, rfl⟩) rfl rfl rfl (by omega) (by omega) ?_
        refine x_aload_n C d_M_request_31 rfl rfl ?_
        refine x_getC C 26 22 cf_M fl_M_70 d_M_request_32 rfl rfl rfl (by omega) (by omega) rfl ?_
        refine x_iload_n C d_M_request_35 rfl rfl ?_
        refine x_iload_n C d_M_request_36 rfl rfl ?_
        refine x_iast C d_M_request_37 rfl rfl (by omega) (by omega) (by omega) (by omega) ?_
        refine x_aload_n C d_M_request_38 rfl rfl ?_
        refine x_getC C 27 23 cf_M fl_M_73 d_M_request_39 rfl rfl rfl (by omega) (by omega) rfl ?_
        refine x_iload_n C d_M_request_42 rfl rfl ?_
        refine x_iload_n C d_M_request_43 rfl rfl ?_
        refine x_iast C d_M_request_44 rfl rfl (by omega) (by omega) (by omega) (by omega) ?_
        refine x_aload_n C d_M_request_45 rfl rfl ?_
        refine x_getC C 28 24 cf_M fl_M_76 d_M_request_46 rfl rfl rfl (by omega) (by omega) rfl ?_
        refine x_iload_n C d_M_request_49 rfl rfl ?_
        refine x_iload C d_M_request_50 rfl ?_
        refine x_iast C d_M_request_52 rfl rfl (by omega) (by omega) (by omega) (by omega) ?_
        refine x_aload_n C d_M_request_53 rfl rfl ?_
        refine x_getC C 29 25 cf_M fl_M_79 d_M_request_54 rfl rfl rfl (by omega) (by omega) rfl ?_
        refine x_iload_n C d_M_request_57 rfl rfl ?_
        refine x_aload_n C d_M_request_58 rfl rfl ?_
        refine x_getI C 19 cf_M fl_M_104 d_M_request_59 rfl (by decide) rfl rfl (by omega) (by omega) (fun r59 => ?_)
        refine x_iast C d_M_request_62 rfl rfl (by omega) (by omega) (by omega) (by omega) ?_
        exact J63 hi (by omega) (by omega)
      · refine x_iconst C d_M_request_19 (by decide) ?_
        have hrq : m_request σ t key what v = (-1, σ) := if_neg (by first | (rw [b2i_0 h6]; simp; done) | omega)
        rw [hrq] at rt
        exact x_iret rt d_M_request_20 (by omega) (by omega) ⟨rfl, rfl, rfl⟩
theorem c_M_read {σ : Hp} {t key : Int} (h : Ok LyM TM y_M_request b_M_request 6 (some .int) 5 0 0 [.inr 1, .inl t, .inl key, .inl 1, .inl 0] 28 σ (pI 28 (m_request σ t key 1 0).2 (m_request σ t key 1 0).1)) : Ok LyM TM y_M_read b_M_read 3 (some .int) 6 0 0 [.inr 1, .inl t, .inl key] 28 σ (pI 28 (m_request σ t key 1 0).2 (m_request σ t key 1 0).1) := by
  refine ok_mk (by decide) (Nat.le_of_ble_eq_true rfl) (fun K C rt ha hok hfx => ?_)
  show XW LyM TM K 28 σ 0 0 0 [some (.inr 1), some (.inl t), some (.inl key)] []
  refine x_aload_n C d_M_read_0 rfl rfl ?_
  refine x_iload_n C d_M_read_1 rfl rfl ?_
  refine x_iload_n C d_M_read_2 rfl rfl ?_
  refine x_iconst C d_M_read_3 (by decide) ?_
  refine x_iconst C d_M_read_4 (by decide) ?_
  refine x_callV C cl_M_191 cb_M_request cs_M_request d_M_read_5 (h) rfl rfl rfl rfl rfl (by omega) (by omega) (by decide) (by decide) (Nat.le_of_ble_eq_true rfl) (by omega) (by omega) ?_
  rintro _ _ _ ⟨rfl, rfl, rfl⟩ -
  skip
  exact x_iret rt d_M_read_8 (by omega) (by omega) ⟨rfl, rfl, rfl⟩
theorem c_M_write {σ : Hp} {t key v : Int} (h : Ok LyM TM y_M_request b_M_request 6 (some .int) 5 0 0 [.inr 1, .inl t, .inl key, .inl 2, .inl v] 28 σ (pI 28 (m_request σ t key 2 v).2 (m_request σ t key 2 v).1)) : Ok LyM TM y_M_write b_M_write 4 (some .int) 6 0 0 [.inr 1, .inl t, .inl key, .inl v] 28 σ (pI 28 (m_request σ t key 2 v).2 (m_request σ t key 2 v).1) := by
  refine ok_mk (by decide) (Nat.le_of_ble_eq_true rfl) (fun K C rt ha hok hfx => ?_)
  show XW LyM TM K 28 σ 0 0 0 [some (.inr 1), some (.inl t), some (.inl key), some (.inl v)] []
  refine x_aload_n C d_M_write_0 rfl rfl ?_
  refine x_iload_n C d_M_write_1 rfl rfl ?_
  refine x_iload_n C d_M_write_2 rfl rfl ?_
  refine x_iconst C d_M_write_3 (by decide) ?_
  refine x_iload_n C d_M_write_4 rfl rfl ?_
  refine x_callV C cl_M_191 cb_M_request cs_M_request d_M_write_5 (h) rfl rfl rfl rfl rfl (by omega) (by omega) (by decide) (by decide) (Nat.le_of_ble_eq_true rfl) (by omega) (by omega) ?_
  rintro _ _ _ ⟨rfl, rfl, rfl⟩ -
  skip
  exact x_iret rt d_M_write_8 (by omega) (by omega) ⟨rfl, rfl, rfl⟩
theorem c_M_commit {σ : Hp} {t : Int} (h1 : σ 1 22 ≤ 60) (hz : 0 ≤ σ 1 0) (hz1 : σ 1 0 < 203) (hS : m_isIn σ t 1 = true → OkS (st2 (m_put σ 3 t 0) 19 t 3)) : Ok LyM TM y_M_commit b_M_commit 2 (some .boolean) 5 0 0 [.inr 1, .inl t] 28 σ (pI 28 (if m_isIn σ t 1 = true then m_settle (st2 (m_put σ 3 t 0) 19 t 3) else σ) (b2i (m_isIn σ t 1))) := by
  refine ok_mk (by decide) (Nat.le_of_ble_eq_true rfl) (fun K C rt ha hok hfx => ?_)
  show XW LyM TM K 28 σ 0 0 0 [some (.inr 1), some (.inl t)] []
  refine x_aload_n C d_M_commit_0 rfl rfl ?_
  refine x_iload_n C d_M_commit_1 rfl rfl ?_
  refine x_iconst C d_M_commit_2 (by decide) ?_
  refine x_callV C cl_M_179 cb_M_isIn cs_M_isIn d_M_commit_3 (c_M_isIn h1) rfl rfl rfl rfl rfl (by omega) (by omega) (by decide) (by decide) (Nat.le_of_ble_eq_true rfl) (by omega) (by omega) ?_
  rintro _ _ _ ⟨rfl, rfl, rfl⟩ -
  skip
  refine x_if_ne (tgt := 11) C d_M_commit_6 rfl (fun h6 => ?_) (fun h6 => ?_)
  · have hi := b2i_1 h6
    obtain ⟨i1, i2, i3, i4⟩ := m_isIn_b hi
    refine x_aload_n C d_M_commit_11 rfl rfl ?_
    refine x_iconst C d_M_commit_12 (by decide) ?_
    refine x_iload_n C d_M_commit_13 rfl rfl ?_
    refine x_iconst C d_M_commit_14 (by decide) ?_
    refine x_callV C cl_M_124 cb_M_put cs_M_put d_M_commit_15 (c_M_put hz hz1) rfl rfl rfl rfl rfl (by omega) (by omega) (by decide) (by decide) (Nat.le_of_ble_eq_true rfl) (by omega) (by omega) ?_
    rintro _ _ _ ⟨rfl, rfl, rfl⟩ -
    skip
    refine x_pop C d_M_commit_18 ?_
    refine x_aload_n C d_M_commit_19 rfl rfl ?_
    refine x_getC C 23 19 cf_M fl_M_61 d_M_commit_20 rfl rfl rfl (by omega) (by omega) rfl ?_
    refine x_iload_n C d_M_commit_23 rfl rfl ?_
    refine x_iconst C d_M_commit_24 (by decide) ?_
    refine x_iast C d_M_commit_25 rfl rfl (by omega) (by omega) (by omega) (by omega) ?_
    refine x_aload_n C d_M_commit_26 rfl rfl ?_
    refine x_callV C cl_M_188 cb_M_settle cs_M_settle d_M_commit_27 (hS hi) rfl rfl rfl rfl rfl (by omega) (by omega) (by decide) (by decide) (Nat.le_of_ble_eq_true rfl) (by omega) (by omega) ?_
    rintro _ _ _ ⟨rfl, rfl, rfl⟩ -
    skip
    refine x_iconst C d_M_commit_30 (by decide) ?_
    exact x_zret rt d_M_commit_31 (by omega) (by omega) ⟨by decide, by decide⟩ (by first | (rw [b2i_0 h6]; exact ⟨rfl, rfl, rfl⟩) | (rw [b2i_1 h6]; exact ⟨rfl, rfl, rfl⟩))
  · refine x_iconst C d_M_commit_9 (by decide) ?_
    exact x_zret rt d_M_commit_10 (by omega) (by omega) ⟨by decide, by decide⟩ (by first | (rw [b2i_0 h6]; exact ⟨rfl, rfl, rfl⟩) | (rw [b2i_1 h6]; exact ⟨rfl, rfl, rfl⟩))
theorem c_M_abort {σ : Hp} {t : Int} (h1 : σ 1 22 ≤ 60) (hD : m_isIn σ t 1 = true ∨ m_isIn σ t 2 = true → OkD σ t) (hS : m_isIn σ t 1 = true ∨ m_isIn σ t 2 = true → OkS (m_drop σ t)) : Ok LyM TM y_M_abort b_M_abort 2 (some .boolean) 5 0 0 [.inr 1, .inl t] 28 σ (pI 28 (if m_isIn σ t 1 = true ∨ m_isIn σ t 2 = true then m_settle (m_drop σ t) else σ) (if m_isIn σ t 1 = true ∨ m_isIn σ t 2 = true then 1 else 0)) := by
  refine ok_mk (by decide) (Nat.le_of_ble_eq_true rfl) (fun K C rt ha hok hfx => ?_)
  show XW LyM TM K 28 σ 0 0 0 [some (.inr 1), some (.inl t)] []
  have J20 : m_isIn σ t 1 = true ∨ m_isIn σ t 2 = true → XW LyM TM K 28 σ 0 0 20 [some (.inr 1), some (.inl t)] [] := by
    intro h
    refine x_aload_n C d_M_abort_20 rfl rfl ?_
    refine x_iload_n C d_M_abort_21 rfl rfl ?_
    refine x_callV C cl_M_185 cb_M_drop cs_M_drop d_M_abort_22 (hD h) rfl rfl rfl rfl rfl (by omega) (by omega) (by decide) (by decide) (Nat.le_of_ble_eq_true rfl) (by omega) (by omega) ?_
    rintro _ _ _ ⟨rfl, rfl, rfl⟩ -
    skip
    refine x_aload_n C d_M_abort_25 rfl rfl ?_
    refine x_callV C cl_M_188 cb_M_settle cs_M_settle d_M_abort_26 (hS h) rfl rfl rfl rfl rfl (by omega) (by omega) (by decide) (by decide) (Nat.le_of_ble_eq_true rfl) (by omega) (by omega) ?_
    rintro _ _ _ ⟨rfl, rfl, rfl⟩ -
    skip
    refine x_iconst C d_M_abort_29 (by decide) ?_
    exact x_zret rt d_M_abort_30 (by omega) (by omega) ⟨by decide, by decide⟩ ⟨by rw [if_pos h], rfl, by rw [if_pos h]⟩
  refine x_aload_n C d_M_abort_0 rfl rfl ?_
  refine x_iload_n C d_M_abort_1 rfl rfl ?_
  refine x_iconst C d_M_abort_2 (by decide) ?_
  refine x_callV C cl_M_179 cb_M_isIn cs_M_isIn d_M_abort_3 (c_M_isIn h1) rfl rfl rfl rfl rfl (by omega) (by omega) (by decide) (by decide) (Nat.le_of_ble_eq_true rfl) (by omega) (by omega) ?_
  rintro _ _ _ ⟨rfl, rfl, rfl⟩ -
  skip
  refine x_if_ne (tgt := 20) C d_M_abort_6 rfl (fun h6 => ?_) (fun h6 => ?_)
  · first | exact J20 (Or.inl (b2i_1 h6)) | exact J20 (Or.inr (b2i_1 h15))
  · refine x_aload_n C d_M_abort_9 rfl rfl ?_
    refine x_iload_n C d_M_abort_10 rfl rfl ?_
    refine x_iconst C d_M_abort_11 (by decide) ?_
    refine x_callV C cl_M_179 cb_M_isIn cs_M_isIn d_M_abort_12 (c_M_isIn h1) rfl rfl rfl rfl rfl (by omega) (by omega) (by decide) (by decide) (Nat.le_of_ble_eq_true rfl) (by omega) (by omega) ?_
    rintro _ _ _ ⟨rfl, rfl, rfl⟩ -
    skip
    refine x_if_ne (tgt := 20) C d_M_abort_15 rfl (fun h15 => ?_) (fun h15 => ?_)
    · first | exact J20 (Or.inl (b2i_1 h6)) | exact J20 (Or.inr (b2i_1 h15))
    · refine x_iconst C d_M_abort_18 (by decide) ?_
      have hn : ¬ (m_isIn σ t 1 = true ∨ m_isIn σ t 2 = true) := by rw [b2i_0 h6, b2i_0 h15]; decide
      exact x_zret rt d_M_abort_19 (by omega) (by omega) ⟨by decide, by decide⟩ ⟨by rw [if_neg hn], rfl, by rw [if_neg hn]⟩
theorem c_M_force {σ : Hp} (hS : σ 1 32 = 0 → OkS (st2 σ 1 1 (σ 1 0))) : Ok LyM TM y_M_force b_M_force 1 (some .boolean) 5 0 0 [.inr 1] 28 σ (pI 28 (if σ 1 32 = 0 then m_settle (st2 σ 1 1 (σ 1 0)) else σ) (if σ 1 32 = 0 then 1 else 0)) := by
  refine ok_mk (by decide) (Nat.le_of_ble_eq_true rfl) (fun K C rt ha hok hfx => ?_)
  show XW LyM TM K 28 σ 0 0 0 [some (.inr 1)] []
  refine x_aload_n C d_M_force_0 rfl rfl ?_
  refine x_getI C 32 cf_M fl_M_172 d_M_force_1 rfl (by decide) rfl rfl (by omega) (by omega) (fun r1 => ?_)
  refine x_if_eq (tgt := 9) C d_M_force_4 rfl (fun h4 => ?_) (fun h4 => ?_)
  · refine x_aload_n C d_M_force_9 rfl rfl ?_
    refine x_aload_n C d_M_force_10 rfl rfl ?_
    refine x_getI C 0 cf_M fl_M_114 d_M_force_11 rfl (by decide) rfl rfl (by omega) (by omega) (fun r11 => ?_)
    refine x_putI C 1 rfl cf_M fl_M_97 d_M_force_14 rfl (Or.inl ⟨rfl, rfl⟩) rfl rfl rfl (by omega) (by omega) ?_
    refine x_aload_n C d_M_force_17 rfl rfl ?_
    refine x_callV C cl_M_188 cb_M_settle cs_M_settle d_M_force_18 (hS h4) rfl rfl rfl rfl rfl (by omega) (by omega) (by decide) (by decide) (Nat.le_of_ble_eq_true rfl) (by omega) (by omega) ?_
    rintro _ _ _ ⟨rfl, rfl, rfl⟩ -
    skip
    refine x_iconst C d_M_force_21 (by decide) ?_
    exact x_zret rt d_M_force_22 (by omega) (by omega) ⟨by decide, by decide⟩ (by first | (rw [if_pos h4, if_pos h4]; exact ⟨rfl, rfl, rfl⟩) | (rw [if_neg h4, if_neg h4]; exact ⟨rfl, rfl, rfl⟩))
  · refine x_iconst C d_M_force_7 (by decide) ?_
    exact x_zret rt d_M_force_8 (by omega) (by omega) ⟨by decide, by decide⟩ (by first | (rw [if_pos h4, if_pos h4]; exact ⟨rfl, rfl, rfl⟩) | (rw [if_neg h4, if_neg h4]; exact ⟨rfl, rfl, rfl⟩))
theorem c_M_checkpoint {σ : Hp} (hz : 0 ≤ σ 1 0) (hz1 : σ 1 0 < 203) (hS : σ 1 32 = 0 → m_countOf σ 4 < 20 → OkS (m_ck0 (m_put σ 4 0 0) 6)) : Ok LyM TM y_M_checkpoint b_M_checkpoint 3 (some .int) 5 0 0 [.inr 1] 28 σ (pI 28 (if σ 1 32 = 0 ∧ m_countOf σ 4 < 20 then m_settle (m_ck0 (m_put σ 4 0 0) 6) else σ) (if σ 1 32 = 0 ∧ m_countOf σ 4 < 20 then σ 1 0 + 1 else -1)) := by
  refine ok_mk (by decide) (Nat.le_of_ble_eq_true rfl) (fun K C rt ha hok hfx => ?_)
  show XW LyM TM K 28 σ 0 0 0 [some (.inr 1), none, none] []
  have e0 : m_put σ 4 0 0 1 0 = σ 1 0 + 1 := m_put_0 _ _ _ _
  have loop : σ 1 32 = 0 ∧ m_countOf σ 4 < 20 → ∀ (k : Nat) (x : Int), 0 ≤ x → x + k = 6 → XW LyM TM K 28 (m_ck0 (m_put σ 4 0 0) x) 0 0 29 [some (.inr 1), some (.inl (σ 1 0 + 1)), some (.inl x)] [] := by
    intro hc k
    induction k with
    | zero =>
      intro x hx hk
      obtain rfl : x = 6 := by omega
      refine x_iload_n C d_M_checkpoint_29 rfl rfl ?_
      refine x_bipush C d_M_checkpoint_30 (by decide) (by decide) ?_
      refine x_icmp_ge (tgt := 71) C d_M_checkpoint_32 rfl (fun h32 => ?_) (fun h32 => ?_)
      · refine x_aload_n C d_M_checkpoint_71 rfl rfl ?_
        refine x_callV C cl_M_188 cb_M_settle cs_M_settle d_M_checkpoint_72 (hS hc.1 hc.2) rfl rfl rfl rfl rfl (by omega) (by omega) (by decide) (by decide) (Nat.le_of_ble_eq_true rfl) (by omega) (by omega) ?_
        rintro _ _ _ ⟨rfl, rfl, rfl⟩ -
        skip
        refine x_iload_n C d_M_checkpoint_75 rfl rfl ?_
        exact x_iret rt d_M_checkpoint_76 (by omega) (by omega) ⟨by rw [if_pos hc], rfl, by rw [if_pos hc]⟩
      · exact absurd h32 (by omega)
    | succ k ih =>
      intro x hx hk
      have ih2 := ih (x + 1) (by omega) (by omega)
      rw [← m_ck0_step hx, e0] at ih2
      have f18 : m_ck0 (m_put σ 4 0 0) x 18 = m_put σ 4 0 0 18 := m_ck0_fr _ _ (by decide)
      have f17 : m_ck0 (m_put σ 4 0 0) x 17 = m_put σ 4 0 0 17 := m_ck0_fr _ _ (by decide)
      have J64 : ∀ v : Int, v = (if 0 < m_put σ 4 0 0 18 x then m_put σ 4 0 0 17 x else 0) → XW LyM TM K 28 (m_ck0 (m_put σ 4 0 0) x) 0 0 64 [some (.inr 1), some (.inl (σ 1 0 + 1)), some (.inl x)] [.inl v, .inl (6 * (σ 1 0 + 1) + x), .inr 10] := by
        intro v hv
        subst hv
        refine x_iast C d_M_checkpoint_64 rfl rfl (by omega) (by omega) (by omega) (by omega) ?_
        refine x_iinc C d_M_checkpoint_65 (by decide) rfl ⟨by omega, by omega⟩ ?_
        refine x_goto (tgt := 29) C d_M_checkpoint_68 rfl ?_
        exact ih2
      refine x_iload_n C d_M_checkpoint_29 rfl rfl ?_
      refine x_bipush C d_M_checkpoint_30 (by decide) (by decide) ?_
      refine x_icmp_ge (tgt := 71) C d_M_checkpoint_32 rfl (fun h32 => ?_) (fun h32 => ?_)
      · exact absurd h32 (by omega)
      · refine x_aload_n C d_M_checkpoint_35 rfl rfl ?_
        refine x_getC C 10 10 cf_M fl_M_34 d_M_checkpoint_36 rfl rfl rfl (by omega) (by omega) rfl ?_
        refine x_bipush C d_M_checkpoint_39 (by decide) (by decide) ?_
        refine x_iload_n C d_M_checkpoint_41 rfl rfl ?_
        refine x_imul C d_M_checkpoint_42 ⟨by omega, by omega⟩ ?_
        refine x_iload_n C d_M_checkpoint_43 rfl rfl ?_
        refine x_iadd C d_M_checkpoint_44 ⟨by omega, by omega⟩ ?_
        refine x_aload_n C d_M_checkpoint_45 rfl rfl ?_
        refine x_getC C 18 18 cf_M fl_M_58 d_M_checkpoint_46 rfl rfl rfl (by omega) (by omega) rfl ?_
        refine x_iload_n C d_M_checkpoint_49 rfl rfl ?_
        refine x_iald C d_M_checkpoint_50 rfl (by omega) (by omega) (by omega) (by omega) (fun r50 => ?_)
        refine x_if_le (tgt := 63) C d_M_checkpoint_51 rfl (fun h51 => ?_) (fun h51 => ?_)
        · refine x_iconst C d_M_checkpoint_63 (by decide) ?_
          exact J64 _ (by rw [f18] at h51; first | (rw [if_pos (by omega), f17]; done) | (rw [if_neg (by omega)]; done))
        · refine x_aload_n C d_M_checkpoint_54 rfl rfl ?_
          refine x_getC C 17 17 cf_M fl_M_55 d_M_checkpoint_55 rfl rfl rfl (by omega) (by omega) rfl ?_
          refine x_iload_n C d_M_checkpoint_58 rfl rfl ?_
          refine x_iald C d_M_checkpoint_59 rfl (by omega) (by omega) (by omega) (by omega) (fun r59 => ?_)
          refine x_goto (tgt := 64) C d_M_checkpoint_60 rfl ?_
          exact J64 _ (by rw [f18] at h51; first | (rw [if_pos (by omega), f17]; done) | (rw [if_neg (by omega)]; done))
  refine x_aload_n C d_M_checkpoint_0 rfl rfl ?_
  refine x_getI C 32 cf_M fl_M_172 d_M_checkpoint_1 rfl (by decide) rfl rfl (by omega) (by omega) (fun r1 => ?_)
  refine x_if_ne (tgt := 17) C d_M_checkpoint_4 rfl (fun h4 => ?_) (fun h4 => ?_)
  · refine x_iconst C d_M_checkpoint_17 (by decide) ?_
    have hn : ¬ (σ 1 32 = 0 ∧ m_countOf σ 4 < 20) := by omega
    exact x_iret rt d_M_checkpoint_18 (by omega) (by omega) ⟨by rw [if_neg hn], rfl, by rw [if_neg hn]⟩
  · refine x_aload_n C d_M_checkpoint_7 rfl rfl ?_
    refine x_iconst C d_M_checkpoint_8 (by decide) ?_
    refine x_callV C cl_M_147 cb_M_countOf cs_M_countOf d_M_checkpoint_9 (c_M_countOf hz (by omega)) rfl rfl rfl rfl rfl (by omega) (by omega) (by decide) (by decide) (Nat.le_of_ble_eq_true rfl) (by omega) (by omega) ?_
    rintro _ _ _ ⟨rfl, rfl, rfl⟩ -
    skip
    refine x_bipush C d_M_checkpoint_12 (by decide) (by decide) ?_
    refine x_icmp_lt (tgt := 19) C d_M_checkpoint_14 rfl (fun h14 => ?_) (fun h14 => ?_)
    · refine x_aload_n C d_M_checkpoint_19 rfl rfl ?_
      refine x_iconst C d_M_checkpoint_20 (by decide) ?_
      refine x_iconst C d_M_checkpoint_21 (by decide) ?_
      refine x_iconst C d_M_checkpoint_22 (by decide) ?_
      refine x_callV C cl_M_124 cb_M_put cs_M_put d_M_checkpoint_23 (c_M_put hz hz1) rfl rfl rfl rfl rfl (by omega) (by omega) (by decide) (by decide) (Nat.le_of_ble_eq_true rfl) (by omega) (by omega) ?_
      rintro _ _ _ ⟨rfl, rfl, rfl⟩ -
      skip
      refine x_istore_n C d_M_checkpoint_26 rfl (by decide) ?_
      refine x_iconst C d_M_checkpoint_27 (by decide) ?_
      refine x_istore_n C d_M_checkpoint_28 rfl (by decide) ?_
      have hl := loop ⟨h4, h14⟩ 6 0 (by omega) (by omega)
      rw [m_ck0_0] at hl
      exact hl
    · refine x_iconst C d_M_checkpoint_17 (by decide) ?_
      have hn : ¬ (σ 1 32 = 0 ∧ m_countOf σ 4 < 20) := by omega
      exact x_iret rt d_M_checkpoint_18 (by omega) (by omega) ⟨by rw [if_neg hn], rfl, by rw [if_neg hn]⟩
theorem c_M_flush {σ : Hp} {p : Int} (hB : mB σ) (hS : (σ 1 32 = 0 ∧ 0 ≤ p ∧ p ≤ 5 ∧ ¬ σ 18 p = 0 ∧ ¬ σ 17 p = 0) → OkS (m_spill σ p)) : Ok LyM TM y_M_flush b_M_flush 2 (some .boolean) 5 0 0 [.inr 1, .inl p] 28 σ (pI 28 (if σ 1 32 = 0 ∧ 0 ≤ p ∧ p ≤ 5 ∧ ¬ σ 18 p = 0 ∧ ¬ σ 17 p = 0 then m_settle (m_spill σ p) else σ) (if σ 1 32 = 0 ∧ 0 ≤ p ∧ p ≤ 5 ∧ ¬ σ 18 p = 0 ∧ ¬ σ 17 p = 0 then 1 else 0)) := by
  refine ok_mk (by decide) (Nat.le_of_ble_eq_true rfl) (fun K C rt ha hok hfx => ?_)
  show XW LyM TM K 28 σ 0 0 0 [some (.inr 1), some (.inl p)] []
  obtain ⟨b1, b2, b3, b4, b5, b6⟩ := hB
  have J : ∀ q : Prop, q = (σ 1 32 = 0 ∧ 0 ≤ p ∧ p ≤ 5 ∧ ¬ σ 18 p = 0 ∧ ¬ σ 17 p = 0) → ¬ q → ∀ lv : List (Option AV), XW LyM TM K 28 σ 0 0 35 lv [.inl 0] := by
    intro q hq hn lv
    rw [hq] at hn
    exact x_zret rt d_M_flush_35 (by omega) (by omega) ⟨by decide, by decide⟩ ⟨by rw [if_neg hn], rfl, by rw [if_neg hn]⟩
  refine x_aload_n C d_M_flush_0 rfl rfl ?_
  refine x_getI C 32 cf_M fl_M_172 d_M_flush_1 rfl (by decide) rfl rfl (by omega) (by omega) (fun r1 => ?_)
  refine x_if_ne (tgt := 34) C d_M_flush_4 rfl (fun h4 => ?_) (fun h4 => ?_)
  · refine x_iconst C d_M_flush_34 (by decide) ?_
    exact J _ rfl (by omega) _
  · refine x_iload_n C d_M_flush_7 rfl rfl ?_
    refine x_if_lt (tgt := 34) C d_M_flush_8 rfl (fun h8 => ?_) (fun h8 => ?_)
    · refine x_iconst C d_M_flush_34 (by decide) ?_
      exact J _ rfl (by omega) _
    · refine x_iload_n C d_M_flush_11 rfl rfl ?_
      refine x_iconst C d_M_flush_12 (by decide) ?_
      refine x_icmp_gt (tgt := 34) C d_M_flush_13 rfl (fun h13 => ?_) (fun h13 => ?_)
      · refine x_iconst C d_M_flush_34 (by decide) ?_
        exact J _ rfl (by omega) _
      · refine x_aload_n C d_M_flush_16 rfl rfl ?_
        refine x_getC C 18 18 cf_M fl_M_58 d_M_flush_17 rfl rfl rfl (by omega) (by omega) rfl ?_
        refine x_iload_n C d_M_flush_20 rfl rfl ?_
        refine x_iald C d_M_flush_21 rfl (by omega) (by omega) (by omega) (by omega) (fun r21 => ?_)
        refine x_if_eq (tgt := 34) C d_M_flush_22 rfl (fun h22 => ?_) (fun h22 => ?_)
        · refine x_iconst C d_M_flush_34 (by decide) ?_
          exact J _ rfl (by omega) _
        · refine x_aload_n C d_M_flush_25 rfl rfl ?_
          refine x_getC C 17 17 cf_M fl_M_55 d_M_flush_26 rfl rfl rfl (by omega) (by omega) rfl ?_
          refine x_iload_n C d_M_flush_29 rfl rfl ?_
          refine x_iald C d_M_flush_30 rfl (by omega) (by omega) (by omega) (by omega) (fun r30 => ?_)
          refine x_if_ne (tgt := 36) C d_M_flush_31 rfl (fun h31 => ?_) (fun h31 => ?_)
          · have hc : σ 1 32 = 0 ∧ 0 ≤ p ∧ p ≤ 5 ∧ ¬ σ 18 p = 0 ∧ ¬ σ 17 p = 0 := ⟨h4, h8, h13, h22, h31⟩
            refine x_aload_n C d_M_flush_36 rfl rfl ?_
            refine x_iload_n C d_M_flush_37 rfl rfl ?_
            refine x_callV C cl_M_107 cb_M_spill cs_M_spill d_M_flush_38 (c_M_spill (by omega) (by omega) ⟨by omega, by omega⟩) rfl rfl rfl rfl rfl (by omega) (by omega) (by decide) (by decide) (Nat.le_of_ble_eq_true rfl) (by omega) (by omega) ?_
            rintro _ _ _ ⟨rfl, rfl, rfl⟩ -
            skip
            refine x_aload_n C d_M_flush_41 rfl rfl ?_
            refine x_callV C cl_M_188 cb_M_settle cs_M_settle d_M_flush_42 (hS hc) rfl rfl rfl rfl rfl (by omega) (by omega) (by decide) (by decide) (Nat.le_of_ble_eq_true rfl) (by omega) (by omega) ?_
            rintro _ _ _ ⟨rfl, rfl, rfl⟩ -
            skip
            refine x_iconst C d_M_flush_45 (by decide) ?_
            exact x_zret rt d_M_flush_46 (by omega) (by omega) ⟨by decide, by decide⟩ ⟨by rw [if_pos hc], rfl, by rw [if_pos hc]⟩
          · refine x_iconst C d_M_flush_34 (by decide) ?_
            exact J _ rfl (by omega) _
theorem c_M_crash {σ : Hp} {k : Int} (h0 : 0 ≤ σ 1 22) (h1 : σ 1 22 ≤ 60) (hz0 : 0 ≤ σ 1 1) (hz : σ 1 1 ≤ σ 1 0) (hz1 : σ 1 0 < 204) (hc0 : 0 ≤ σ 1 33) : Ok LyM TM y_M_crash b_M_crash 3 (some .int) 2 0 0 [.inr 1, .inl k] 28 σ (pI 28 (if k < 0 ∨ 8 ≤ σ 1 33 then σ else m_crashS σ k) (if k < 0 ∨ 8 ≤ σ 1 33 then -1 else m_crashS σ k 1 0)) := by
  refine ok_mk (by decide) (Nat.le_of_ble_eq_true rfl) (fun K C rt ha hok hfx => ?_)
  show XW LyM TM K 28 σ 0 0 0 [some (.inr 1), some (.inl k), none] []
  have hbg : m_cr1 (m_cr0 σ k) 6 1 22 = σ 1 22 := by rw [m_cr1_fr _ _ (by decide) (by decide)]; simp [m_cr0, st2]
  have loop2 : ¬ (k < 0 ∨ 8 ≤ σ 1 33) → ∀ (q : Nat) (x : Int), 1 ≤ x → x + q = σ 1 22 + 1 → XW LyM TM K 28 (m_cr2 (m_cr1 (m_cr0 σ k) 6) x) 0 0 103 [some (.inr 1), some (.inl k), some (.inl x)] [] := by
    intro hn q
    induction q with
    | zero =>
      intro x hx hq
      have e1 : m_cr2 (m_cr1 (m_cr0 σ k) 6) x 1 22 = σ 1 22 := by rw [m_cr2_fr _ _ (by decide) (by decide)]; exact hbg
      obtain rfl : x = σ 1 22 + 1 := by omega
      refine x_iload_n C d_M_crash_103 rfl rfl ?_
      refine x_aload_n C d_M_crash_104 rfl rfl ?_
      refine x_getI C 22 cf_M fl_M_138 d_M_crash_105 rfl (by decide) rfl rfl (by omega) (by omega) (fun r105 => ?_)
      refine x_icmp_gt (tgt := 138) C d_M_crash_108 rfl (fun h108 => ?_) (fun h108 => ?_)
      · refine x_aload_n C d_M_crash_138 rfl rfl ?_
        refine x_getI C 0 cf_M fl_M_114 d_M_crash_139 rfl (by decide) rfl rfl (by omega) (by omega) (fun r139 => ?_)
        exact x_iret rt d_M_crash_142 (by omega) (by omega) ⟨by rw [if_neg hn]; rfl, rfl, by rw [if_neg hn]; rfl⟩
      · exact absurd h108 (by omega)
    | succ q ih =>
      intro x hx hq
      have e1 : m_cr2 (m_cr1 (m_cr0 σ k) 6) x 1 22 = σ 1 22 := by rw [m_cr2_fr _ _ (by decide) (by decide)]; exact hbg
      have ih2 := ih (x + 1) (by omega) (by omega)
      have hlv : m_live (m_cr2 (m_cr1 (m_cr0 σ k) 6) x) x = m_live (m_cr1 (m_cr0 σ k) 6) x := by simp only [m_live]; rw [m_cr2_ge (Int.le_refl x)]
      refine x_iload_n C d_M_crash_103 rfl rfl ?_
      refine x_aload_n C d_M_crash_104 rfl rfl ?_
      refine x_getI C 22 cf_M fl_M_138 d_M_crash_105 rfl (by decide) rfl rfl (by omega) (by omega) (fun r105 => ?_)
      refine x_icmp_gt (tgt := 138) C d_M_crash_108 rfl (fun h108 => ?_) (fun h108 => ?_)
      · exact absurd h108 (by omega)
      · refine x_aload_n C d_M_crash_111 rfl rfl ?_
        refine x_iload_n C d_M_crash_112 rfl rfl ?_
        refine x_callV C cl_M_176 cb_M_live cs_M_live d_M_crash_113 (c_M_live (by omega) (by omega)) rfl rfl rfl rfl rfl (by omega) (by omega) (by decide) (by decide) (Nat.le_of_ble_eq_true rfl) (by omega) (by omega) ?_
        rintro _ _ _ ⟨rfl, rfl, rfl⟩ -
        skip
        refine x_if_eq (tgt := 132) C d_M_crash_116 rfl (fun h116 => ?_) (fun h116 => ?_)
        · refine x_iinc C d_M_crash_132 (by decide) rfl ⟨by omega, by omega⟩ ?_
          refine x_goto (tgt := 103) C d_M_crash_135 rfl ?_
          first | (rw [m_cr2_yes hx (by rw [← hlv]; exact b2i_1 h116)]; exact ih2) | (rw [m_cr2_no (by rw [← hlv]; exact b2i_0 h116)]; exact ih2)
        · refine x_aload_n C d_M_crash_119 rfl rfl ?_
          refine x_getC C 23 19 cf_M fl_M_61 d_M_crash_120 rfl rfl rfl (by omega) (by omega) rfl ?_
          refine x_iload_n C d_M_crash_123 rfl rfl ?_
          refine x_bipush C d_M_crash_124 (by decide) (by decide) ?_
          refine x_iast C d_M_crash_126 rfl rfl (by omega) (by omega) (by omega) (by omega) ?_
          refine x_aload_n C d_M_crash_127 rfl rfl ?_
          refine x_iload_n C d_M_crash_128 rfl rfl ?_
          refine x_callV C cl_M_156 cb_M_unlock cs_M_unlock d_M_crash_129 (c_M_unlock (by omega) (by omega)) rfl rfl rfl rfl rfl (by omega) (by omega) (by decide) (by decide) (Nat.le_of_ble_eq_true rfl) (by omega) (by omega) ?_
          rintro _ _ _ ⟨rfl, rfl, rfl⟩ -
          skip
          refine x_iinc C d_M_crash_132 (by decide) rfl ⟨by omega, by omega⟩ ?_
          refine x_goto (tgt := 103) C d_M_crash_135 rfl ?_
          first | (rw [m_cr2_yes hx (by rw [← hlv]; exact b2i_1 h116)]; exact ih2) | (rw [m_cr2_no (by rw [← hlv]; exact b2i_0 h116)]; exact ih2)
  have loop1 : ¬ (k < 0 ∨ 8 ≤ σ 1 33) → ∀ (q : Nat) (x : Int), 0 ≤ x → x + q = 6 → XW LyM TM K 28 (m_cr1 (m_cr0 σ k) x) 0 0 75 [some (.inr 1), some (.inl k), some (.inl x)] [] := by
    intro hn q
    induction q with
    | zero =>
      intro x hx hq
      obtain rfl : x = 6 := by omega
      have hl := loop2 hn (σ 1 22).toNat 1 (by omega) (by omega)
      rw [m_cr2_1] at hl
      refine x_iload_n C d_M_crash_75 rfl rfl ?_
      refine x_bipush C d_M_crash_76 (by decide) (by decide) ?_
      refine x_icmp_ge (tgt := 101) C d_M_crash_78 rfl (fun h78 => ?_) (fun h78 => ?_)
      · refine x_iconst C d_M_crash_101 (by decide) ?_
        refine x_istore_n C d_M_crash_102 rfl (by decide) ?_
        exact hl
      · exact absurd h78 (by omega)
    | succ q ih =>
      intro x hx hq
      refine x_iload_n C d_M_crash_75 rfl rfl ?_
      refine x_bipush C d_M_crash_76 (by decide) (by decide) ?_
      refine x_icmp_ge (tgt := 101) C d_M_crash_78 rfl (fun h78 => ?_) (fun h78 => ?_)
      · exact absurd h78 (by omega)
      · refine x_aload_n C d_M_crash_81 rfl rfl ?_
        refine x_getC C 18 18 cf_M fl_M_58 d_M_crash_82 rfl rfl rfl (by omega) (by omega) rfl ?_
        refine x_iload_n C d_M_crash_85 rfl rfl ?_
        refine x_iconst C d_M_crash_86 (by decide) ?_
        refine x_iast C d_M_crash_87 rfl rfl (by omega) (by omega) (by omega) (by omega) ?_
        refine x_aload_n C d_M_crash_88 rfl rfl ?_
        refine x_getC C 17 17 cf_M fl_M_55 d_M_crash_89 rfl rfl rfl (by omega) (by omega) rfl ?_
        refine x_iload_n C d_M_crash_92 rfl rfl ?_
        refine x_iconst C d_M_crash_93 (by decide) ?_
        refine x_iast C d_M_crash_94 rfl rfl (by omega) (by omega) (by omega) (by omega) ?_
        refine x_iinc C d_M_crash_95 (by decide) rfl ⟨by omega, by omega⟩ ?_
        refine x_goto (tgt := 75) C d_M_crash_98 rfl ?_
        rw [m_cr1_step hx]
        exact ih (x + 1) (by omega) (by omega)
  have J52 : ¬ (k < 0 ∨ 8 ≤ σ 1 33) → ∀ v : Int, v = (if st2 σ 1 33 (σ 1 33 + 1) 1 0 - st2 σ 1 33 (σ 1 33 + 1) 1 1 < k then st2 σ 1 33 (σ 1 33 + 1) 1 0 else st2 σ 1 33 (σ 1 33 + 1) 1 1 + k) → XW LyM TM K 28 (st2 σ 1 33 (σ 1 33 + 1)) 0 0 52 [some (.inr 1), some (.inl k), none] [.inl v, .inr 1] := by
    intro hn v hv
    subst hv
    have hl := loop1 hn 6 0 (by omega) (by omega)
    rw [m_cr1_0] at hl
    refine x_putI C 1 rfl cf_M fl_M_97 d_M_crash_52 rfl (Or.inl ⟨rfl, rfl⟩) rfl rfl rfl (by omega) (by omega) ?_
    refine x_aload_n C d_M_crash_55 rfl rfl ?_
    refine x_aload_n C d_M_crash_56 rfl rfl ?_
    refine x_getI C 1 cf_M fl_M_97 d_M_crash_57 rfl (by decide) rfl rfl (by omega) (by omega) (fun r57 => ?_)
    refine x_putI C 0 rfl cf_M fl_M_114 d_M_crash_60 rfl (Or.inl ⟨rfl, rfl⟩) rfl rfl rfl (by omega) (by omega) ?_
    refine x_aload_n C d_M_crash_63 rfl rfl ?_
    refine x_iconst C d_M_crash_64 (by decide) ?_
    refine x_putI C 32 rfl cf_M fl_M_172 d_M_crash_65 rfl (Or.inr ⟨rfl, rfl, by omega, by omega⟩) rfl rfl rfl (by omega) (by omega) ?_
    refine x_aload_n C d_M_crash_68 rfl rfl ?_
    refine x_iconst C d_M_crash_69 (by decide) ?_
    refine x_putI C 34 rfl cf_M fl_M_198 d_M_crash_70 rfl (Or.inl ⟨rfl, rfl⟩) rfl rfl rfl (by omega) (by omega) ?_
    refine x_iconst C d_M_crash_73 (by decide) ?_
    refine x_istore_n C d_M_crash_74 rfl (by decide) ?_
    exact hl
  have e0 : st2 σ 1 33 (σ 1 33 + 1) 1 0 = σ 1 0 := by simp [st2]
  have e1 : st2 σ 1 33 (σ 1 33 + 1) 1 1 = σ 1 1 := by simp [st2]
  refine x_iload_n C d_M_crash_0 rfl rfl ?_
  refine x_if_lt (tgt := 13) C d_M_crash_1 rfl (fun h1 => ?_) (fun h1 => ?_)
  · refine x_iconst C d_M_crash_13 (by decide) ?_
    have hn : k < 0 ∨ 8 ≤ σ 1 33 := by omega
    exact x_iret rt d_M_crash_14 (by omega) (by omega) ⟨by rw [if_pos hn], rfl, by rw [if_pos hn]⟩
  · refine x_aload_n C d_M_crash_4 rfl rfl ?_
    refine x_getI C 33 cf_M fl_M_195 d_M_crash_5 rfl (by decide) rfl rfl (by omega) (by omega) (fun r5 => ?_)
    refine x_bipush C d_M_crash_8 (by decide) (by decide) ?_
    refine x_icmp_lt (tgt := 15) C d_M_crash_10 rfl (fun h10 => ?_) (fun h10 => ?_)
    · refine x_aload_n C d_M_crash_15 rfl rfl ?_
      refine x_dup C d_M_crash_16 ?_
      refine x_getI C 33 cf_M fl_M_195 d_M_crash_17 rfl (by decide) rfl rfl (by omega) (by omega) (fun r17 => ?_)
      refine x_iconst C d_M_crash_20 (by decide) ?_
      refine x_iadd C d_M_crash_21 ⟨by omega, by omega⟩ ?_
      refine x_putI C 33 rfl cf_M fl_M_195 d_M_crash_22 rfl (Or.inl ⟨rfl, rfl⟩) rfl rfl rfl (by omega) (by omega) ?_
      refine x_aload_n C d_M_crash_25 rfl rfl ?_
      refine x_iload_n C d_M_crash_26 rfl rfl ?_
      refine x_aload_n C d_M_crash_27 rfl rfl ?_
      refine x_getI C 0 cf_M fl_M_114 d_M_crash_28 rfl (by decide) rfl rfl (by omega) (by omega) (fun r28 => ?_)
      refine x_aload_n C d_M_crash_31 rfl rfl ?_
      refine x_getI C 1 cf_M fl_M_97 d_M_crash_32 rfl (by decide) rfl rfl (by omega) (by omega) (fun r32 => ?_)
      refine x_isub C d_M_crash_35 ⟨by omega, by omega⟩ ?_
      refine x_icmp_le (tgt := 46) C d_M_crash_36 rfl (fun h36 => ?_) (fun h36 => ?_)
      · refine x_aload_n C d_M_crash_46 rfl rfl ?_
        refine x_getI C 1 cf_M fl_M_97 d_M_crash_47 rfl (by decide) rfl rfl (by omega) (by omega) (fun r47 => ?_)
        refine x_iload_n C d_M_crash_50 rfl rfl ?_
        refine x_iadd C d_M_crash_51 ⟨by omega, by omega⟩ ?_
        exact J52 (by omega) _ (by first | (rw [if_pos (by omega)]; done) | (rw [if_neg (by omega)]; done))
      · refine x_aload_n C d_M_crash_39 rfl rfl ?_
        refine x_getI C 0 cf_M fl_M_114 d_M_crash_40 rfl (by decide) rfl rfl (by omega) (by omega) (fun r40 => ?_)
        refine x_goto (tgt := 52) C d_M_crash_43 rfl ?_
        exact J52 (by omega) _ (by first | (rw [if_pos (by omega)]; done) | (rw [if_neg (by omega)]; done))
    · refine x_iconst C d_M_crash_13 (by decide) ?_
      have hn : k < 0 ∨ 8 ≤ σ 1 33 := by omega
      exact x_iret rt d_M_crash_14 (by omega) (by omega) ⟨by rw [if_pos hn], rfl, by rw [if_pos hn]⟩

