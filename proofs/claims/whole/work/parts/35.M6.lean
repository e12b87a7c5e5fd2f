-- ===== the reference: the restart =====
theorem c_M_analyse {σ : Hp} (hz : 0 ≤ σ 1 0) (hz1 : σ 1 0 < 203) (hsp : ∀ i : Int, 0 ≤ i → i ≤ σ 1 0 → 0 ≤ σ 4 i) : Ok LyM TM y_M_analyse b_M_analyse 4 none 1 0 0 [.inr 1] 28 σ (pV 28 (m_analyse σ)) := by
  refine ok_mk (by decide) (Nat.le_of_ble_eq_true rfl) (fun K C rt ha hok hfx => ?_)
  show XW LyM TM K 28 σ 0 0 0 [some (.inr 1), none, none, none] []
  have hc : 0 ≤ m_lastCk σ ∧ m_lastCk σ ≤ σ 1 0 := by
    have h := srchD_spec (fun i => decide (σ 2 i = 4)) (σ 1 0).toNat
    have e : srchD (fun i => decide (σ 2 i = 4)) (σ 1 0).toNat = m_lastCk σ := rfl
    rw [e] at h
    rcases h with ⟨a, -⟩ | ⟨a, b, -⟩ <;> omega
  generalize hcc : m_lastCk σ = c at hc
  have gl : ∀ (q x : Nat) (w : Option AV), x + q = 6 → XW LyM TM K 28 (m_an σ x) 0 0 46 [some (.inr 1), some (.inl c), some (.inl (x : Int)), w] [] := by
    intro q
    induction q with
    | zero =>
      intro x w hq
      obtain rfl : x = 6 := by omega
      refine x_iload_n C d_M_analyse_46 rfl rfl ?_
      refine x_bipush C d_M_analyse_47 (by decide) (by decide) ?_
      refine x_icmp_ge (tgt := 194) C d_M_analyse_49 rfl (fun h49 => ?_) (fun h49 => ?_)
      · refine x_aload_n C d_M_analyse_194 rfl rfl ?_
        refine x_iconst C d_M_analyse_195 (by decide) ?_
        refine x_putI C 34 rfl cf_M fl_M_198 d_M_analyse_196 rfl (Or.inl ⟨rfl, rfl⟩) rfl rfl rfl (by omega) (by omega) ?_
        exact x_vret rt d_M_analyse_199 (by omega) (by omega) ⟨rfl, rfl, rfl⟩
      · exact absurd h49 (by omega)
    | succ q ih =>
      intro x w hq
      have f10 : m_an σ x 10 = σ 10 := m_an_fr _ _ (by decide) (by decide)
      have f2 : m_an σ x 2 = σ 2 := m_an_fr _ _ (by decide) (by decide)
      have f4 : m_an σ x 4 = σ 4 := m_an_fr _ _ (by decide) (by decide)
      have fz : m_an σ x 1 0 = σ 1 0 := m_an_1 _ _ (by decide)
      have fn : m_an σ x 1 35 = m_nxt σ c x := by rw [← hcc]; simp [m_an]
      have ih2 := fun w => ih (x + 1) w (by omega)
      have e10 : ∀ v : Int, st2 (m_an σ x) 28 (x : Int) v 10 = σ 10 := fun v => by rw [st2_ne (by decide)]; exact f10
      have e2 : ∀ v : Int, st2 (m_an σ x) 28 (x : Int) v 2 = σ 2 := fun v => by rw [st2_ne (by decide)]; exact f2
      have e4 : ∀ v : Int, st2 (m_an σ x) 28 (x : Int) v 4 = σ 4 := fun v => by rw [st2_ne (by decide)]; exact f4
      have ez : ∀ v : Int, st2 (m_an σ x) 28 (x : Int) v 1 0 = σ 1 0 := fun v => by rw [st2_ne (by decide)]; exact fz
      have en : ∀ v : Int, st2 (m_an σ x) 28 (x : Int) v 1 35 = m_nxt σ c x := fun v => by rw [st2_ne (by decide)]; exact fn
      have J149 : ∀ (v : Int) (w : Option AV), v = m_tab σ c (x : Int) → XW LyM TM K 28 (st2 (m_an σ x) 28 (x : Int) v) 0 0 149 [some (.inr 1), some (.inl c), some (.inl (x : Int)), w] [] := by
        intro v w hv
        have es : st2 (m_an σ x) 28 (x : Int) v 28 (x : Int) = v := st2_eq
        have J185 : ∀ y : Int, y = m_nxt σ c (x + 1) → XW LyM TM K 28 (st2 (m_an σ x) 28 (x : Int) v) 0 0 185 [some (.inr 1), some (.inl c), some (.inl (x : Int)), w] [.inl y, .inr 1] := by
          intro y hy
          have ih3 := ih2 w
          rw [← m_an_step, hcc, ← hy, ← hv] at ih3
          refine x_putI C 35 rfl cf_M fl_M_201 d_M_analyse_185 rfl (Or.inl ⟨rfl, rfl⟩) rfl rfl rfl (by omega) (by omega) ?_
          refine x_iinc C d_M_analyse_188 (by decide) rfl ⟨by omega, by omega⟩ ?_
          refine x_goto (tgt := 46) C d_M_analyse_191 rfl ?_
          exact ih3
        have hnx : m_nxt σ c (x + 1) = if 0 < v ∧ v < m_nxt σ c x then v else m_nxt σ c x := by rw [hv]; rfl
        have e5 := en v
        refine x_aload_n C d_M_analyse_149 rfl rfl ?_
        refine x_aload_n C d_M_analyse_150 rfl rfl ?_
        refine x_getC C 36 28 cf_M fl_M_90 d_M_analyse_151 rfl rfl rfl (by omega) (by omega) rfl ?_
        refine x_iload_n C d_M_analyse_154 rfl rfl ?_
        refine x_iald C d_M_analyse_155 rfl (by omega) (by omega) (by omega) (by omega) (fun r155 => ?_)
        refine x_if_le (tgt := 181) C d_M_analyse_156 rfl (fun h156 => ?_) (fun h156 => ?_)
        · refine x_aload_n C d_M_analyse_181 rfl rfl ?_
          refine x_getI C 35 cf_M fl_M_201 d_M_analyse_182 rfl (by decide) rfl rfl (by omega) (by omega) (fun r182 => ?_)
          exact J185 _ (by rw [hnx]; first | (rw [if_pos (by omega)]; omega) | (rw [if_neg (by omega)]; omega))
        · refine x_aload_n C d_M_analyse_159 rfl rfl ?_
          refine x_getC C 36 28 cf_M fl_M_90 d_M_analyse_160 rfl rfl rfl (by omega) (by omega) rfl ?_
          refine x_iload_n C d_M_analyse_163 rfl rfl ?_
          refine x_iald C d_M_analyse_164 rfl (by omega) (by omega) (by omega) (by omega) (fun r164 => ?_)
          refine x_aload_n C d_M_analyse_165 rfl rfl ?_
          refine x_getI C 35 cf_M fl_M_201 d_M_analyse_166 rfl (by decide) rfl rfl (by omega) (by omega) (fun r166 => ?_)
          refine x_icmp_ge (tgt := 181) C d_M_analyse_169 rfl (fun h169 => ?_) (fun h169 => ?_)
          · refine x_aload_n C d_M_analyse_181 rfl rfl ?_
            refine x_getI C 35 cf_M fl_M_201 d_M_analyse_182 rfl (by decide) rfl rfl (by omega) (by omega) (fun r182 => ?_)
            exact J185 _ (by rw [hnx]; first | (rw [if_pos (by omega)]; omega) | (rw [if_neg (by omega)]; omega))
          · refine x_aload_n C d_M_analyse_172 rfl rfl ?_
            refine x_getC C 36 28 cf_M fl_M_90 d_M_analyse_173 rfl rfl rfl (by omega) (by omega) rfl ?_
            refine x_iload_n C d_M_analyse_176 rfl rfl ?_
            refine x_iald C d_M_analyse_177 rfl (by omega) (by omega) (by omega) (by omega) (fun r177 => ?_)
            refine x_goto (tgt := 185) C d_M_analyse_178 rfl ?_
            exact J185 _ (by rw [hnx]; first | (rw [if_pos (by omega)]; omega) | (rw [if_neg (by omega)]; omega))
      have il : ∀ (k : Nat) (i v : Int), i = c + k → i ≤ σ 1 0 → (c = 0 ∨ σ 10 (6 * c + (x : Int)) = 0) → v = (if srch (m_chg σ (x : Int)) (i + 1) (σ 1 0 - i).toNat < 0 then 0 else srch (m_chg σ (x : Int)) (i + 1) (σ 1 0 - i).toNat) → XW LyM TM K 28 (st2 (m_an σ x) 28 (x : Int) v) 0 0 82 [some (.inr 1), some (.inl c), some (.inl (x : Int)), some (.inl i)] [] := by
        intro k
        induction k with
        | zero =>
          intro i v hi hi2 hcz hv
          obtain rfl : i = c := by omega
          have ht : v = m_tab σ i (x : Int) := by
            have hneg : ¬ (0 < i ∧ ¬ σ 10 (6 * i + (x : Int)) = 0) := by omega
            rw [m_tab, if_neg hneg]; exact hv
          refine x_iload_n C d_M_analyse_82 rfl rfl ?_
          refine x_iload_n C d_M_analyse_83 rfl rfl ?_
          refine x_icmp_le (tgt := 149) C d_M_analyse_84 rfl (fun h84 => ?_) (fun h84 => ?_)
          · exact J149 _ _ ht
          · exact absurd h84 (by omega)
        | succ k ihk =>
          intro i v hi hi2 hcz hv
          have hd := srch_dn (p := m_chg σ (x : Int)) (i := i) (n := σ 1 0) hi2
          have es : st2 (m_an σ x) 28 (x : Int) v 28 (x : Int) = v := st2_eq
          have hs4 := hsp i (by omega) hi2
          have q10 := e10 v
          have q2 := e2 v
          have q4 := e4 v
          have J142 : ∀ y : Int, y = (if m_chg σ (x : Int) i = true then i else v) → XW LyM TM K 28 (st2 (m_an σ x) 28 (x : Int) v) 0 0 142 [some (.inr 1), some (.inl c), some (.inl (x : Int)), some (.inl i)] [.inl y, .inl (x : Int), .inr 28] := by
            intro y hy
            have ih3 := ihk (i + -1) y (by omega) (by omega) hcz (by
              rw [show i + -1 + 1 = i by omega, show σ 1 0 - (i + -1) = σ 1 0 + 1 - i by omega, hd, hy, hv]
              split
              · rw [if_neg (by omega)]
              · rfl)
            have ess : st2 (st2 (m_an σ x) 28 (x : Int) v) 28 (x : Int) y = st2 (m_an σ x) 28 (x : Int) y := by
              funext a b; simp only [st2]; by_cases h1 : a = 28 <;> by_cases h2 : b = (x : Int) <;> simp [h1, h2]
            rw [← ess] at ih3
            refine x_iast C d_M_analyse_142 rfl rfl (by omega) (by omega) (by omega) (by omega) ?_
            refine x_iinc C d_M_analyse_143 (by decide) rfl ⟨by omega, by omega⟩ ?_
            refine x_goto (tgt := 82) C d_M_analyse_146 rfl ?_
            exact ih3
          refine x_iload_n C d_M_analyse_82 rfl rfl ?_
          refine x_iload_n C d_M_analyse_83 rfl rfl ?_
          refine x_icmp_le (tgt := 149) C d_M_analyse_84 rfl (fun h84 => ?_) (fun h84 => ?_)
          · exact absurd h84 (by omega)
          · refine x_iload_n C d_M_analyse_87 rfl rfl ?_
            refine x_if_eq (tgt := 105) C d_M_analyse_88 rfl (fun h88 => ?_) (fun h88 => ?_)
            · refine x_aload_n C d_M_analyse_105 rfl rfl ?_
              refine x_getC C 36 28 cf_M fl_M_90 d_M_analyse_106 rfl rfl rfl (by omega) (by omega) rfl ?_
              refine x_iload_n C d_M_analyse_109 rfl rfl ?_
              refine x_aload_n C d_M_analyse_110 rfl rfl ?_
              refine x_getC C 2 2 cf_M fl_M_7 d_M_analyse_111 rfl rfl rfl (by omega) (by omega) rfl ?_
              refine x_iload_n C d_M_analyse_114 rfl rfl ?_
              refine x_iald C d_M_analyse_115 rfl (by omega) (by omega) (by omega) (by omega) (fun r115 => ?_)
              refine x_iconst C d_M_analyse_116 (by decide) ?_
              refine x_icmp_ge (tgt := 136) C d_M_analyse_117 rfl (fun h117 => ?_) (fun h117 => ?_)
              · refine x_aload_n C d_M_analyse_136 rfl rfl ?_
                refine x_getC C 36 28 cf_M fl_M_90 d_M_analyse_137 rfl rfl rfl (by omega) (by omega) rfl ?_
                refine x_iload_n C d_M_analyse_140 rfl rfl ?_
                refine x_iald C d_M_analyse_141 rfl (by omega) (by omega) (by omega) (by omega) (fun r141 => ?_)
                exact J142 _ (by simp only [m_chg]; rw [q2] at h117; first | (rw [q4] at h129; simp [h117, h129]; done) | (rw [es]; simp [show ¬ σ 2 i < 3 by omega]; done) | (rw [q4] at h129; rw [es]; simp [h129]; done))
              · refine x_aload_n C d_M_analyse_120 rfl rfl ?_
                refine x_getC C 4 4 cf_M fl_M_16 d_M_analyse_121 rfl rfl rfl (by omega) (by omega) rfl ?_
                refine x_iload_n C d_M_analyse_124 rfl rfl ?_
                refine x_iald C d_M_analyse_125 rfl (by omega) (by omega) (by omega) (by omega) (fun r125 => ?_)
                refine x_iconst C d_M_analyse_126 (by decide) ?_
                refine x_idiv C d_M_analyse_127 (by rw [q4]; exact hs4) (by decide) ?_
                refine x_iload_n C d_M_analyse_128 rfl rfl ?_
                refine x_icmp_ne (tgt := 136) C d_M_analyse_129 rfl (fun h129 => ?_) (fun h129 => ?_)
                · refine x_aload_n C d_M_analyse_136 rfl rfl ?_
                  refine x_getC C 36 28 cf_M fl_M_90 d_M_analyse_137 rfl rfl rfl (by omega) (by omega) rfl ?_
                  refine x_iload_n C d_M_analyse_140 rfl rfl ?_
                  refine x_iald C d_M_analyse_141 rfl (by omega) (by omega) (by omega) (by omega) (fun r141 => ?_)
                  exact J142 _ (by simp only [m_chg]; rw [q2] at h117; first | (rw [q4] at h129; simp [h117, h129]; done) | (rw [es]; simp [show ¬ σ 2 i < 3 by omega]; done) | (rw [q4] at h129; rw [es]; simp [h129]; done))
                · refine x_iload_n C d_M_analyse_132 rfl rfl ?_
                  refine x_goto (tgt := 142) C d_M_analyse_133 rfl ?_
                  exact J142 _ (by simp only [m_chg]; rw [q2] at h117; first | (rw [q4] at h129; simp [h117, h129]; done) | (rw [es]; simp [show ¬ σ 2 i < 3 by omega]; done) | (rw [q4] at h129; rw [es]; simp [h129]; done))
            · refine x_aload_n C d_M_analyse_91 rfl rfl ?_
              refine x_getC C 10 10 cf_M fl_M_34 d_M_analyse_92 rfl rfl rfl (by omega) (by omega) rfl ?_
              refine x_bipush C d_M_analyse_95 (by decide) (by decide) ?_
              refine x_iload_n C d_M_analyse_97 rfl rfl ?_
              refine x_imul C d_M_analyse_98 ⟨by omega, by omega⟩ ?_
              refine x_iload_n C d_M_analyse_99 rfl rfl ?_
              refine x_iadd C d_M_analyse_100 ⟨by omega, by omega⟩ ?_
              refine x_iald C d_M_analyse_101 rfl (by omega) (by omega) (by omega) (by omega) (fun r101 => ?_)
              refine x_if_ne (tgt := 149) C d_M_analyse_102 rfl (fun h102 => ?_) (fun h102 => ?_)
              · exact absurd h102 (by rw [q10]; omega)
              · refine x_aload_n C d_M_analyse_105 rfl rfl ?_
                refine x_getC C 36 28 cf_M fl_M_90 d_M_analyse_106 rfl rfl rfl (by omega) (by omega) rfl ?_
                refine x_iload_n C d_M_analyse_109 rfl rfl ?_
                refine x_aload_n C d_M_analyse_110 rfl rfl ?_
                refine x_getC C 2 2 cf_M fl_M_7 d_M_analyse_111 rfl rfl rfl (by omega) (by omega) rfl ?_
                refine x_iload_n C d_M_analyse_114 rfl rfl ?_
                refine x_iald C d_M_analyse_115 rfl (by omega) (by omega) (by omega) (by omega) (fun r115 => ?_)
                refine x_iconst C d_M_analyse_116 (by decide) ?_
                refine x_icmp_ge (tgt := 136) C d_M_analyse_117 rfl (fun h117 => ?_) (fun h117 => ?_)
                · refine x_aload_n C d_M_analyse_136 rfl rfl ?_
                  refine x_getC C 36 28 cf_M fl_M_90 d_M_analyse_137 rfl rfl rfl (by omega) (by omega) rfl ?_
                  refine x_iload_n C d_M_analyse_140 rfl rfl ?_
                  refine x_iald C d_M_analyse_141 rfl (by omega) (by omega) (by omega) (by omega) (fun r141 => ?_)
                  exact J142 _ (by simp only [m_chg]; rw [q2] at h117; first | (rw [q4] at h129; simp [h117, h129]; done) | (rw [es]; simp [show ¬ σ 2 i < 3 by omega]; done) | (rw [q4] at h129; rw [es]; simp [h129]; done))
                · refine x_aload_n C d_M_analyse_120 rfl rfl ?_
                  refine x_getC C 4 4 cf_M fl_M_16 d_M_analyse_121 rfl rfl rfl (by omega) (by omega) rfl ?_
                  refine x_iload_n C d_M_analyse_124 rfl rfl ?_
                  refine x_iald C d_M_analyse_125 rfl (by omega) (by omega) (by omega) (by omega) (fun r125 => ?_)
                  refine x_iconst C d_M_analyse_126 (by decide) ?_
                  refine x_idiv C d_M_analyse_127 (by rw [q4]; exact hs4) (by decide) ?_
                  refine x_iload_n C d_M_analyse_128 rfl rfl ?_
                  refine x_icmp_ne (tgt := 136) C d_M_analyse_129 rfl (fun h129 => ?_) (fun h129 => ?_)
                  · refine x_aload_n C d_M_analyse_136 rfl rfl ?_
                    refine x_getC C 36 28 cf_M fl_M_90 d_M_analyse_137 rfl rfl rfl (by omega) (by omega) rfl ?_
                    refine x_iload_n C d_M_analyse_140 rfl rfl ?_
                    refine x_iald C d_M_analyse_141 rfl (by omega) (by omega) (by omega) (by omega) (fun r141 => ?_)
                    exact J142 _ (by simp only [m_chg]; rw [q2] at h117; first | (rw [q4] at h129; simp [h117, h129]; done) | (rw [es]; simp [show ¬ σ 2 i < 3 by omega]; done) | (rw [q4] at h129; rw [es]; simp [h129]; done))
                  · refine x_iload_n C d_M_analyse_132 rfl rfl ?_
                    refine x_goto (tgt := 142) C d_M_analyse_133 rfl ?_
                    exact J142 _ (by simp only [m_chg]; rw [q2] at h117; first | (rw [q4] at h129; simp [h117, h129]; done) | (rw [es]; simp [show ¬ σ 2 i < 3 by omega]; done) | (rw [q4] at h129; rw [es]; simp [h129]; done))
      have J76 : ∀ v : Int, v = (if 0 < c then σ 10 (6 * c + (x : Int)) else 0) → XW LyM TM K 28 (m_an σ x) 0 0 76 [some (.inr 1), some (.inl c), some (.inl (x : Int)), w] [.inl v, .inl (x : Int), .inr 28] := by
        intro v hv
        by_cases hcz : c = 0 ∨ σ 10 (6 * c + (x : Int)) = 0
        · have hi := il (σ 1 0 - c).toNat (σ 1 0) v (by omega) (Int.le_refl _) hcz (by
            rw [show σ 1 0 - σ 1 0 = 0 by omega, hv]
            rcases hcz with h | h
            · simp [h, srch]
            · rw [h]; simp [srch])
          have ez2 := ez v
          rw [← ez2] at hi
          refine x_iast C d_M_analyse_76 rfl rfl (by omega) (by omega) (by omega) (by omega) ?_
          refine x_aload_n C d_M_analyse_77 rfl rfl ?_
          refine x_getI C 0 cf_M fl_M_114 d_M_analyse_78 rfl (by decide) rfl rfl (by omega) (by omega) (fun r78 => ?_)
          refine x_istore_n C d_M_analyse_81 rfl (by decide) ?_
          exact hi
        · have hc1 : ¬ c = 0 := fun h => hcz (Or.inl h)
          have hc2 : ¬ σ 10 (6 * c + (x : Int)) = 0 := fun h => hcz (Or.inr h)
          have hv2 : v = m_tab σ c (x : Int) := by rw [hv, if_pos (by omega), m_tab, if_pos ⟨by omega, hc2⟩]
          have q10 := e10 v
          have ez2 := ez v
          refine x_iast C d_M_analyse_76 rfl rfl (by omega) (by omega) (by omega) (by omega) ?_
          refine x_aload_n C d_M_analyse_77 rfl rfl ?_
          refine x_getI C 0 cf_M fl_M_114 d_M_analyse_78 rfl (by decide) rfl rfl (by omega) (by omega) (fun r78 => ?_)
          refine x_istore_n C d_M_analyse_81 rfl (by decide) ?_
          refine x_iload_n C d_M_analyse_82 rfl rfl ?_
          refine x_iload_n C d_M_analyse_83 rfl rfl ?_
          refine x_icmp_le (tgt := 149) C d_M_analyse_84 rfl (fun h84 => ?_) (fun h84 => ?_)
          · exact J149 _ _ hv2
          · refine x_iload_n C d_M_analyse_87 rfl rfl ?_
            refine x_if_eq (tgt := 105) C d_M_analyse_88 rfl (fun h88 => ?_) (fun h88 => ?_)
            · first | exact absurd h88 hc1 | exact absurd h102 (by rw [q10]; exact hc2)
            · refine x_aload_n C d_M_analyse_91 rfl rfl ?_
              refine x_getC C 10 10 cf_M fl_M_34 d_M_analyse_92 rfl rfl rfl (by omega) (by omega) rfl ?_
              refine x_bipush C d_M_analyse_95 (by decide) (by decide) ?_
              refine x_iload_n C d_M_analyse_97 rfl rfl ?_
              refine x_imul C d_M_analyse_98 ⟨by omega, by omega⟩ ?_
              refine x_iload_n C d_M_analyse_99 rfl rfl ?_
              refine x_iadd C d_M_analyse_100 ⟨by omega, by omega⟩ ?_
              refine x_iald C d_M_analyse_101 rfl (by omega) (by omega) (by omega) (by omega) (fun r101 => ?_)
              refine x_if_ne (tgt := 149) C d_M_analyse_102 rfl (fun h102 => ?_) (fun h102 => ?_)
              · exact J149 _ _ hv2
              · first | exact absurd h88 hc1 | exact absurd h102 (by rw [q10]; exact hc2)
      refine x_iload_n C d_M_analyse_46 rfl rfl ?_
      refine x_bipush C d_M_analyse_47 (by decide) (by decide) ?_
      refine x_icmp_ge (tgt := 194) C d_M_analyse_49 rfl (fun h49 => ?_) (fun h49 => ?_)
      · exact absurd h49 (by omega)
      · refine x_aload_n C d_M_analyse_52 rfl rfl ?_
        refine x_getC C 36 28 cf_M fl_M_90 d_M_analyse_53 rfl rfl rfl (by omega) (by omega) rfl ?_
        refine x_iload_n C d_M_analyse_56 rfl rfl ?_
        refine x_iload_n C d_M_analyse_57 rfl rfl ?_
        refine x_if_le (tgt := 75) C d_M_analyse_58 rfl (fun h58 => ?_) (fun h58 => ?_)
        · refine x_iconst C d_M_analyse_75 (by decide) ?_
          exact J76 _ (by first | (rw [if_pos (by omega), f10]; done) | (rw [if_neg (by omega)]; done))
        · refine x_aload_n C d_M_analyse_61 rfl rfl ?_
          refine x_getC C 10 10 cf_M fl_M_34 d_M_analyse_62 rfl rfl rfl (by omega) (by omega) rfl ?_
          refine x_bipush C d_M_analyse_65 (by decide) (by decide) ?_
          refine x_iload_n C d_M_analyse_67 rfl rfl ?_
          refine x_imul C d_M_analyse_68 ⟨by omega, by omega⟩ ?_
          refine x_iload_n C d_M_analyse_69 rfl rfl ?_
          refine x_iadd C d_M_analyse_70 ⟨by omega, by omega⟩ ?_
          refine x_iald C d_M_analyse_71 rfl (by omega) (by omega) (by omega) (by omega) (fun r71 => ?_)
          refine x_goto (tgt := 76) C d_M_analyse_72 rfl ?_
          exact J76 _ (by first | (rw [if_pos (by omega), f10]; done) | (rw [if_neg (by omega)]; done))
  have cl : ∀ (q i : Nat), (i : Int) + q = σ 1 0 → XW LyM TM K 28 σ 0 0 4 [some (.inr 1), some (.inl (srchD (fun i => decide (σ 2 i = 4)) i)), some (.inl ((i : Int) + 1)), none] [] := by
    intro q
    induction q with
    | zero =>
      intro i hi
      have e : i = (σ 1 0).toNat := by omega
      have e2 : srchD (fun i => decide (σ 2 i = 4)) i = c := by rw [e, ← hcc]; rfl
      rw [e2]
      have hg := gl 6 0 none (by omega)
      rw [m_an_0] at hg
      refine x_iload_n C d_M_analyse_4 rfl rfl ?_
      refine x_aload_n C d_M_analyse_5 rfl rfl ?_
      refine x_getI C 0 cf_M fl_M_114 d_M_analyse_6 rfl (by decide) rfl rfl (by omega) (by omega) (fun r6 => ?_)
      refine x_icmp_gt (tgt := 34) C d_M_analyse_9 rfl (fun h9 => ?_) (fun h9 => ?_)
      · refine x_aload_n C d_M_analyse_34 rfl rfl ?_
        refine x_aload_n C d_M_analyse_35 rfl rfl ?_
        refine x_getI C 0 cf_M fl_M_114 d_M_analyse_36 rfl (by decide) rfl rfl (by omega) (by omega) (fun r36 => ?_)
        refine x_iconst C d_M_analyse_39 (by decide) ?_
        refine x_iadd C d_M_analyse_40 ⟨by omega, by omega⟩ ?_
        refine x_putI C 35 rfl cf_M fl_M_201 d_M_analyse_41 rfl (Or.inl ⟨rfl, rfl⟩) rfl rfl rfl (by omega) (by omega) ?_
        refine x_iconst C d_M_analyse_44 (by decide) ?_
        refine x_istore_n C d_M_analyse_45 rfl (by decide) ?_
        exact hg
      · exact absurd h9 (by omega)
    | succ q ih =>
      intro i hi
      have ih2 := ih (i + 1) (by omega)
      rw [show srchD (fun i => decide (σ 2 i = 4)) (i + 1) = if decide (σ 2 ((i : Int) + 1) = 4) = true then (i : Int) + 1 else srchD (fun i => decide (σ 2 i = 4)) i from rfl] at ih2
      generalize srchD (fun i => decide (σ 2 i = 4)) i = cn at *
      have J27 : ∀ v : Int, v = (if decide (σ 2 ((i : Int) + 1) = 4) = true then (i : Int) + 1 else cn) → XW LyM TM K 28 σ 0 0 27 [some (.inr 1), some (.inl cn), some (.inl ((i : Int) + 1)), none] [.inl v] := by
        intro v hv
        subst hv
        refine x_istore_n C d_M_analyse_27 rfl (by decide) ?_
        refine x_iinc C d_M_analyse_28 (by decide) rfl ⟨by omega, by omega⟩ ?_
        refine x_goto (tgt := 4) C d_M_analyse_31 rfl ?_
        exact ih2
      refine x_iload_n C d_M_analyse_4 rfl rfl ?_
      refine x_aload_n C d_M_analyse_5 rfl rfl ?_
      refine x_getI C 0 cf_M fl_M_114 d_M_analyse_6 rfl (by decide) rfl rfl (by omega) (by omega) (fun r6 => ?_)
      refine x_icmp_gt (tgt := 34) C d_M_analyse_9 rfl (fun h9 => ?_) (fun h9 => ?_)
      · exact absurd h9 (by omega)
      · refine x_aload_n C d_M_analyse_12 rfl rfl ?_
        refine x_getC C 2 2 cf_M fl_M_7 d_M_analyse_13 rfl rfl rfl (by omega) (by omega) rfl ?_
        refine x_iload_n C d_M_analyse_16 rfl rfl ?_
        refine x_iald C d_M_analyse_17 rfl (by omega) (by omega) (by omega) (by omega) (fun r17 => ?_)
        refine x_iconst C d_M_analyse_18 (by decide) ?_
        refine x_icmp_ne (tgt := 26) C d_M_analyse_19 rfl (fun h19 => ?_) (fun h19 => ?_)
        · refine x_iload_n C d_M_analyse_26 rfl rfl ?_
          exact J27 _ (by simp [h19])
        · refine x_iload_n C d_M_analyse_22 rfl rfl ?_
          refine x_goto (tgt := 27) C d_M_analyse_23 rfl ?_
          exact J27 _ (by simp [h19])
  refine x_iconst C d_M_analyse_0 (by decide) ?_
  refine x_istore_n C d_M_analyse_1 rfl (by decide) ?_
  refine x_iconst C d_M_analyse_2 (by decide) ?_
  refine x_istore_n C d_M_analyse_3 rfl (by decide) ?_
  exact cl (σ 1 0).toNat 0 (by omega)
theorem c_M_redo {σ : Hp} {i : Int} (h0 : 0 ≤ i) (h1 : i < 204) (h2 : 0 ≤ σ 4 i) (h3 : σ 4 i < 24) (hB : mB σ) : Ok LyM TM y_M_redo b_M_redo 3 none 3 0 0 [.inr 1, .inl i] 28 σ (pV 28 (m_redo σ i)) := by
  refine ok_mk (by decide) (Nat.le_of_ble_eq_true rfl) (fun K C rt ha hok hfx => ?_)
  show XW LyM TM K 28 σ 0 0 0 [some (.inr 1), some (.inl i), none] []
  have f4 : m_fetch σ (σ 4 i / 4) 4 i = σ 4 i := by rw [m_fetch_fr _ _ (by decide) (by decide)]
  refine x_aload_n C d_M_redo_0 rfl rfl ?_
  refine x_getC C 4 4 cf_M fl_M_16 d_M_redo_1 rfl rfl rfl (by omega) (by omega) rfl ?_
  refine x_iload_n C d_M_redo_4 rfl rfl ?_
  refine x_iald C d_M_redo_5 rfl (by omega) (by omega) (by omega) (by omega) (fun r5 => ?_)
  refine x_iconst C d_M_redo_6 (by decide) ?_
  refine x_idiv C d_M_redo_7 (by omega) (by decide) ?_
  refine x_istore_n C d_M_redo_8 rfl (by decide) ?_
  refine x_aload_n C d_M_redo_9 rfl rfl ?_
  refine x_getC C 2 2 cf_M fl_M_7 d_M_redo_10 rfl rfl rfl (by omega) (by omega) rfl ?_
  refine x_iload_n C d_M_redo_13 rfl rfl ?_
  refine x_iald C d_M_redo_14 rfl (by omega) (by omega) (by omega) (by omega) (fun r14 => ?_)
  refine x_iconst C d_M_redo_15 (by decide) ?_
  refine x_icmp_ge (tgt := 58) C d_M_redo_16 rfl (fun h16 => ?_) (fun h16 => ?_)
  · exact x_vret rt d_M_redo_58 (by omega) (by omega) ⟨rfl, rfl, by rw [m_redo]; first | (rw [if_pos ⟨by omega, by omega, by omega⟩, if_pos (by omega)]; done) | (rw [if_pos ⟨by omega, by omega, by omega⟩, if_neg (by omega)]; done) | (rw [if_neg (by omega)]; done)⟩
  · refine x_aload_n C d_M_redo_19 rfl rfl ?_
    refine x_getC C 36 28 cf_M fl_M_90 d_M_redo_20 rfl rfl rfl (by omega) (by omega) rfl ?_
    refine x_iload_n C d_M_redo_23 rfl rfl ?_
    refine x_iald C d_M_redo_24 rfl (by omega) (by omega) (by omega) (by omega) (fun r24 => ?_)
    refine x_if_le (tgt := 58) C d_M_redo_25 rfl (fun h25 => ?_) (fun h25 => ?_)
    · exact x_vret rt d_M_redo_58 (by omega) (by omega) ⟨rfl, rfl, by rw [m_redo]; first | (rw [if_pos ⟨by omega, by omega, by omega⟩, if_pos (by omega)]; done) | (rw [if_pos ⟨by omega, by omega, by omega⟩, if_neg (by omega)]; done) | (rw [if_neg (by omega)]; done)⟩
    · refine x_aload_n C d_M_redo_28 rfl rfl ?_
      refine x_getC C 36 28 cf_M fl_M_90 d_M_redo_29 rfl rfl rfl (by omega) (by omega) rfl ?_
      refine x_iload_n C d_M_redo_32 rfl rfl ?_
      refine x_iald C d_M_redo_33 rfl (by omega) (by omega) (by omega) (by omega) (fun r33 => ?_)
      refine x_iload_n C d_M_redo_34 rfl rfl ?_
      refine x_icmp_gt (tgt := 58) C d_M_redo_35 rfl (fun h35 => ?_) (fun h35 => ?_)
      · exact x_vret rt d_M_redo_58 (by omega) (by omega) ⟨rfl, rfl, by rw [m_redo]; first | (rw [if_pos ⟨by omega, by omega, by omega⟩, if_pos (by omega)]; done) | (rw [if_pos ⟨by omega, by omega, by omega⟩, if_neg (by omega)]; done) | (rw [if_neg (by omega)]; done)⟩
      · refine x_aload_n C d_M_redo_38 rfl rfl ?_
        refine x_iload_n C d_M_redo_39 rfl rfl ?_
        refine x_callV C cl_M_121 cb_M_fetch cs_M_fetch d_M_redo_40 (c_M_fetch (by omega) (by omega) hB) rfl rfl rfl rfl rfl (by omega) (by omega) (by decide) (by decide) (Nat.le_of_ble_eq_true rfl) (by omega) (by omega) ?_
        rintro _ _ _ ⟨rfl, rfl, rfl⟩ -
        skip
        refine x_aload_n C d_M_redo_43 rfl rfl ?_
        refine x_getC C 16 16 cf_M fl_M_52 d_M_redo_44 rfl rfl rfl (by omega) (by omega) rfl ?_
        refine x_iload_n C d_M_redo_47 rfl rfl ?_
        refine x_iald C d_M_redo_48 rfl (by omega) (by omega) (by omega) (by omega) (fun r48 => ?_)
        refine x_iload_n C d_M_redo_49 rfl rfl ?_
        refine x_icmp_ge (tgt := 58) C d_M_redo_50 rfl (fun h50 => ?_) (fun h50 => ?_)
        · exact x_vret rt d_M_redo_58 (by omega) (by omega) ⟨rfl, rfl, by rw [m_redo]; first | (rw [if_pos ⟨by omega, by omega, by omega⟩, if_pos (by omega)]; done) | (rw [if_pos ⟨by omega, by omega, by omega⟩, if_neg (by omega)]; done) | (rw [if_neg (by omega)]; done)⟩
        · refine x_aload_n C d_M_redo_53 rfl rfl ?_
          refine x_iload_n C d_M_redo_54 rfl rfl ?_
          refine x_callV C cl_M_128 cb_M_apply cs_M_apply d_M_redo_55 (c_M_apply h0 h1 (by omega) (by omega)) rfl rfl rfl rfl rfl (by omega) (by omega) (by decide) (by decide) (Nat.le_of_ble_eq_true rfl) (by omega) (by omega) ?_
          rintro _ _ _ ⟨rfl, rfl, rfl⟩ -
          skip
          exact x_vret rt d_M_redo_58 (by omega) (by omega) ⟨rfl, rfl, by rw [m_redo]; first | (rw [if_pos ⟨by omega, by omega, by omega⟩, if_pos (by omega)]; done) | (rw [if_pos ⟨by omega, by omega, by omega⟩, if_neg (by omega)]; done) | (rw [if_neg (by omega)]; done)⟩
theorem c_M_finish {σ : Hp} (h0 : 0 ≤ σ 1 22) (h1 : σ 1 22 ≤ 60) (hz : 0 ≤ σ 1 0) (hz1 : σ 1 0 < 204) : Ok LyM TM y_M_finish b_M_finish 2 none 2 0 0 [.inr 1] 28 σ (pV 28 (m_finish σ)) := by
  refine ok_mk (by decide) (Nat.le_of_ble_eq_true rfl) (fun K C rt ha hok hfx => ?_)
  show XW LyM TM K 28 σ 0 0 0 [some (.inr 1), none] []
  have loop : ∀ (q : Nat) (x : Int), 1 ≤ x → x + q = σ 1 22 + 1 → XW LyM TM K 28 (m_fin (st2 σ 1 32 0) x) 0 0 7 [some (.inr 1), some (.inl x)] [] := by
    intro q
    induction q with
    | zero =>
      intro x hx hq
      have e1 : m_fin (st2 σ 1 32 0) x 1 22 = σ 1 22 := by simp [m_fin, st2]
      obtain rfl : x = σ 1 22 + 1 := by omega
      refine x_iload_n C d_M_finish_7 rfl rfl ?_
      refine x_aload_n C d_M_finish_8 rfl rfl ?_
      refine x_getI C 22 cf_M fl_M_138 d_M_finish_9 rfl (by decide) rfl rfl (by omega) (by omega) (fun r9 => ?_)
      refine x_icmp_gt (tgt := 51) C d_M_finish_12 rfl (fun h12 => ?_) (fun h12 => ?_)
      · exact x_vret rt d_M_finish_51 (by omega) (by omega) ⟨rfl, rfl, rfl⟩
      · exact absurd h12 (by omega)
    | succ q ih =>
      intro x hx hq
      have e1 : m_fin (st2 σ 1 32 0) x 1 22 = σ 1 22 := by simp [m_fin, st2]
      have e2 : m_fin (st2 σ 1 32 0) x 1 0 = σ 1 0 := by simp [m_fin, st2]
      have e3 : m_fin (st2 σ 1 32 0) x 19 x = σ 19 x := by simp [m_fin, st2]
      have hcm : m_committed (m_fin (st2 σ 1 32 0) x) x = m_committed (st2 σ 1 32 0) x := m_committed_c (by simp [m_fin, st2]) (by funext b; simp [m_fin]) (by funext b; simp [m_fin]) x
      have ih2 := ih (x + 1) (by omega) (by omega)
      have hno : ¬ σ 19 x = 6 → m_fin (st2 σ 1 32 0) (x + 1) = m_fin (st2 σ 1 32 0) x := by
        intro hn
        clear ih ih2 rt ha hok hfx C
        funext a b
        simp only [m_fin]
        have e5 : st2 σ 1 32 0 19 b = σ 19 b := by simp [st2]
        rw [e5]
        by_cases hb : b = x
        · subst hb; simp [hn]
        · have : b < x + 1 ↔ b < x := by omega
          simp [this]
      have hyes : σ 19 x = 6 → m_fin (st2 σ 1 32 0) (x + 1) = st2 (m_fin (st2 σ 1 32 0) x) 19 x (if m_committed (st2 σ 1 32 0) x = true then 4 else 5) := by
        intro hy
        clear ih ih2 rt ha hok hfx C
        funext a b
        have e5 : st2 σ 1 32 0 19 b = σ 19 b := by simp [st2]
        by_cases ha : a = 19
        · subst ha
          by_cases hb : b = x
          · subst hb
            rw [st2_eq]
            simp only [m_fin]
            rw [if_pos ⟨trivial, hx, by omega, by rw [e5]; exact hy⟩]
          · rw [st2_ii hb]
            simp only [m_fin]
            have : b < x + 1 ↔ b < x := by omega
            simp [this]
        · rw [st2_ne ha]
          simp [m_fin, ha]
      have J44 : ∀ v : Int, σ 19 x = 6 → v = (if m_committed (st2 σ 1 32 0) x = true then 4 else 5) → XW LyM TM K 28 (m_fin (st2 σ 1 32 0) x) 0 0 44 [some (.inr 1), some (.inl x)] [.inl v, .inl x, .inr 19] := by
        intro v h6 hv
        rw [hyes h6, ← hv] at ih2
        refine x_iast C d_M_finish_44 rfl rfl (by omega) (by omega) (by omega) (by omega) ?_
        refine x_iinc C d_M_finish_45 (by decide) rfl ⟨by omega, by omega⟩ ?_
        refine x_goto (tgt := 7) C d_M_finish_48 rfl ?_
        exact ih2
      refine x_iload_n C d_M_finish_7 rfl rfl ?_
      refine x_aload_n C d_M_finish_8 rfl rfl ?_
      refine x_getI C 22 cf_M fl_M_138 d_M_finish_9 rfl (by decide) rfl rfl (by omega) (by omega) (fun r9 => ?_)
      refine x_icmp_gt (tgt := 51) C d_M_finish_12 rfl (fun h12 => ?_) (fun h12 => ?_)
      · exact absurd h12 (by omega)
      · refine x_aload_n C d_M_finish_15 rfl rfl ?_
        refine x_getC C 23 19 cf_M fl_M_61 d_M_finish_16 rfl rfl rfl (by omega) (by omega) rfl ?_
        refine x_iload_n C d_M_finish_19 rfl rfl ?_
        refine x_iald C d_M_finish_20 rfl (by omega) (by omega) (by omega) (by omega) (fun r20 => ?_)
        refine x_bipush C d_M_finish_21 (by decide) (by decide) ?_
        refine x_icmp_ne (tgt := 45) C d_M_finish_23 rfl (fun h23 => ?_) (fun h23 => ?_)
        · refine x_iinc C d_M_finish_45 (by decide) rfl ⟨by omega, by omega⟩ ?_
          refine x_goto (tgt := 7) C d_M_finish_48 rfl ?_
          rw [hno (by omega)] at ih2
          exact ih2
        · refine x_aload_n C d_M_finish_26 rfl rfl ?_
          refine x_getC C 23 19 cf_M fl_M_61 d_M_finish_27 rfl rfl rfl (by omega) (by omega) rfl ?_
          refine x_iload_n C d_M_finish_30 rfl rfl ?_
          refine x_aload_n C d_M_finish_31 rfl rfl ?_
          refine x_iload_n C d_M_finish_32 rfl rfl ?_
          refine x_callV C cl_M_117 cb_M_committed cs_M_committed d_M_finish_33 (c_M_committed (by omega) (by omega)) rfl rfl rfl rfl rfl (by omega) (by omega) (by decide) (by decide) (Nat.le_of_ble_eq_true rfl) (by omega) (by omega) ?_
          rintro _ _ _ ⟨rfl, rfl, rfl⟩ -
          skip
          refine x_if_eq (tgt := 43) C d_M_finish_36 rfl (fun h36 => ?_) (fun h36 => ?_)
          · refine x_iconst C d_M_finish_43 (by decide) ?_
            exact J44 _ (by omega) (by rw [hcm] at h36; first | (rw [b2i_1 h36]; rfl) | (rw [b2i_0 h36]; rfl))
          · refine x_iconst C d_M_finish_39 (by decide) ?_
            refine x_goto (tgt := 44) C d_M_finish_40 rfl ?_
            exact J44 _ (by omega) (by rw [hcm] at h36; first | (rw [b2i_1 h36]; rfl) | (rw [b2i_0 h36]; rfl))
  have hl := loop (σ 1 22).toNat 1 (by omega) (by omega)
  rw [m_fin_1] at hl
  refine x_aload_n C d_M_finish_0 rfl rfl ?_
  refine x_iconst C d_M_finish_1 (by decide) ?_
  refine x_putI C 32 rfl cf_M fl_M_172 d_M_finish_2 rfl (Or.inr ⟨rfl, rfl, by omega, by omega⟩) rfl rfl rfl (by omega) (by omega) ?_
  refine x_iconst C d_M_finish_5 (by decide) ?_
  refine x_istore_n C d_M_finish_6 rfl (by decide) ?_
  exact hl
theorem c_M_unit {σ : Hp} (h0 : 0 ≤ σ 1 22) (h1 : σ 1 22 ≤ 60) (hz : 0 ≤ σ 1 0) (hz1 : σ 1 0 < 203) (hB : mB σ) (hsp : ∀ i : Int, 0 ≤ i → i ≤ σ 1 0 → 0 ≤ σ 4 i ∧ σ 4 i < 24) (hnx : ¬ σ 1 34 = 0 → 0 ≤ σ 1 35)
    (hz2 : 0 ≤ m_unit1 σ 1 0 ∧ m_unit1 σ 1 0 < 204) (hb2 : m_unit1 σ 1 22 = σ 1 22) : Ok LyM TM y_M_unit b_M_unit 1 none 4 0 0 [.inr 1] 28 σ (pV 28 (m_unit σ)) := by
  refine ok_mk (by decide) (Nat.le_of_ble_eq_true rfl) (fun K C rt ha hok hfx => ?_)
  show XW LyM TM K 28 σ 0 0 0 [some (.inr 1)] []
  have hu1 : m_unit1 σ = if σ 1 34 = 0 then m_analyse σ else if σ 1 35 ≤ σ 1 0 ∧ σ 1 35 < 1000 then st2 (m_redo σ (σ 1 35)) 1 35 (m_redo σ (σ 1 35) 1 35 + 1) else m_takeBack σ (m_open σ 0) := rfl
  have hol := m_open_le σ 0 hz
  have hos := hsp (m_open σ 0) hol.1 hol.2
  have J87 : ∀ v : Int, v = (if m_unit1 σ 1 0 < m_unit1 σ 1 35 then 1000 else m_unit1 σ 1 35) → XW LyM TM K 28 (m_unit1 σ) 0 0 87 [some (.inr 1)] [.inl v, .inr 1] := by
    intro v hv
    have e2 : st2 (m_unit1 σ) 1 35 v = m_unit2 (m_unit1 σ) := by rw [hv]; rfl
    have z2 : m_unit2 (m_unit1 σ) 1 0 = m_unit1 σ 1 0 := by rw [m_unit2, st2_ii (by decide)]
    have b2 : m_unit2 (m_unit1 σ) 1 22 = m_unit1 σ 1 22 := by rw [m_unit2, st2_ii (by decide)]
    have hu : m_unit σ = if m_unit2 (m_unit1 σ) 1 35 = 1000 ∧ m_open (m_unit2 (m_unit1 σ)) 0 = 0 then m_finish (m_unit2 (m_unit1 σ)) else m_unit2 (m_unit1 σ) := rfl
    rw [← z2] at hz2
    rw [← b2] at hb2
    refine x_putI C 35 rfl cf_M fl_M_201 d_M_unit_87 rfl (Or.inl ⟨rfl, rfl⟩) rfl rfl rfl (by omega) (by omega) ?_
    rw [e2]
    refine x_aload_n C d_M_unit_90 rfl rfl ?_
    refine x_getI C 35 cf_M fl_M_201 d_M_unit_91 rfl (by decide) rfl rfl (by omega) (by omega) (fun r91 => ?_)
    refine x_sipush C d_M_unit_94 (by decide) (by decide) ?_
    refine x_icmp_ne (tgt := 112) C d_M_unit_97 rfl (fun h97 => ?_) (fun h97 => ?_)
    · exact x_vret rt d_M_unit_112 (by omega) (by omega) ⟨rfl, rfl, by rw [hu]; first | (rw [if_pos ⟨by omega, by omega⟩]; done) | (rw [if_neg (by omega)]; done)⟩
    · refine x_aload_n C d_M_unit_100 rfl rfl ?_
      refine x_iconst C d_M_unit_101 (by decide) ?_
      refine x_callV C cl_M_150 cb_M_open cs_M_open d_M_unit_102 (c_M_open hz2.1 hz2.2) rfl rfl rfl rfl rfl (by omega) (by omega) (by decide) (by decide) (Nat.le_of_ble_eq_true rfl) (by omega) (by omega) ?_
      rintro _ _ _ ⟨rfl, rfl, rfl⟩ -
      skip
      refine x_if_ne (tgt := 112) C d_M_unit_105 rfl (fun h105 => ?_) (fun h105 => ?_)
      · exact x_vret rt d_M_unit_112 (by omega) (by omega) ⟨rfl, rfl, by rw [hu]; first | (rw [if_pos ⟨by omega, by omega⟩]; done) | (rw [if_neg (by omega)]; done)⟩
      · refine x_aload_n C d_M_unit_108 rfl rfl ?_
        refine x_callV C cl_M_210 cb_M_finish cs_M_finish d_M_unit_109 (c_M_finish (by omega) (by omega) hz2.1 hz2.2) rfl rfl rfl rfl rfl (by omega) (by omega) (by decide) (by decide) (Nat.le_of_ble_eq_true rfl) (by omega) (by omega) ?_
        rintro _ _ _ ⟨rfl, rfl, rfl⟩ -
        skip
        exact x_vret rt d_M_unit_112 (by omega) (by omega) ⟨rfl, rfl, by rw [hu]; first | (rw [if_pos ⟨by omega, by omega⟩]; done) | (rw [if_neg (by omega)]; done)⟩
  have J65 : ∀ τ : Hp, τ = m_unit1 σ → XW LyM TM K 28 τ 0 0 65 [some (.inr 1)] [] := by
    intro τ hτ
    subst hτ
    refine x_aload_n C d_M_unit_65 rfl rfl ?_
    refine x_aload_n C d_M_unit_66 rfl rfl ?_
    refine x_getI C 35 cf_M fl_M_201 d_M_unit_67 rfl (by decide) rfl rfl (by omega) (by omega) (fun r67 => ?_)
    refine x_aload_n C d_M_unit_70 rfl rfl ?_
    refine x_getI C 0 cf_M fl_M_114 d_M_unit_71 rfl (by decide) rfl rfl (by omega) (by omega) (fun r71 => ?_)
    refine x_icmp_le (tgt := 83) C d_M_unit_74 rfl (fun h74 => ?_) (fun h74 => ?_)
    · refine x_aload_n C d_M_unit_83 rfl rfl ?_
      refine x_getI C 35 cf_M fl_M_201 d_M_unit_84 rfl (by decide) rfl rfl (by omega) (by omega) (fun r84 => ?_)
      exact J87 _ (by first | (rw [if_pos (by omega)]; done) | (rw [if_neg (by omega)]; done))
    · refine x_sipush C d_M_unit_77 (by decide) (by decide) ?_
      refine x_goto (tgt := 87) C d_M_unit_80 rfl ?_
      exact J87 _ (by first | (rw [if_pos (by omega)]; done) | (rw [if_neg (by omega)]; done))
  have hrd : ¬ σ 1 34 = 0 → σ 1 35 ≤ σ 1 0 → m_redo σ (σ 1 35) 1 35 = σ 1 35 := by
    intro _ _
    simp only [m_redo]
    split
    · split
      · simp [m_apply, st2, m_fetch_1]
      · rw [m_fetch_1 _ _ (by decide) (by decide) (by decide) (by decide)]
    · rfl
  refine x_aload_n C d_M_unit_0 rfl rfl ?_
  refine x_getI C 34 cf_M fl_M_198 d_M_unit_1 rfl (by decide) rfl rfl (by omega) (by omega) (fun r1 => ?_)
  refine x_if_ne (tgt := 14) C d_M_unit_4 rfl (fun h4 => ?_) (fun h4 => ?_)
  · refine x_aload_n C d_M_unit_14 rfl rfl ?_
    refine x_getI C 35 cf_M fl_M_201 d_M_unit_15 rfl (by decide) rfl rfl (by omega) (by omega) (fun r15 => ?_)
    refine x_aload_n C d_M_unit_18 rfl rfl ?_
    refine x_getI C 0 cf_M fl_M_114 d_M_unit_19 rfl (by decide) rfl rfl (by omega) (by omega) (fun r19 => ?_)
    refine x_icmp_gt (tgt := 56) C d_M_unit_22 rfl (fun h22 => ?_) (fun h22 => ?_)
    · refine x_aload_n C d_M_unit_56 rfl rfl ?_
      refine x_aload_n C d_M_unit_57 rfl rfl ?_
      refine x_iconst C d_M_unit_58 (by decide) ?_
      refine x_callV C cl_M_150 cb_M_open cs_M_open d_M_unit_59 (c_M_open hz (by omega)) rfl rfl rfl rfl rfl (by omega) (by omega) (by decide) (by decide) (Nat.le_of_ble_eq_true rfl) (by omega) (by omega) ?_
      rintro _ _ _ ⟨rfl, rfl, rfl⟩ -
      skip
      refine x_callV C cl_M_153 cb_M_takeBack cs_M_takeBack d_M_unit_62 (c_M_takeBack hol.1 (by omega) hos.1 hos.2 hB hz hz1) rfl rfl rfl rfl rfl (by omega) (by omega) (by decide) (by decide) (Nat.le_of_ble_eq_true rfl) (by omega) (by omega) ?_
      rintro _ _ _ ⟨rfl, rfl, rfl⟩ -
      skip
      exact J65 _ (by rw [hu1]; first | (rw [if_pos h4]; done) | (rw [if_neg h4, if_pos ⟨by omega, by omega⟩]; done) | (rw [if_neg h4, if_neg (by omega)]; done))
    · refine x_aload_n C d_M_unit_25 rfl rfl ?_
      refine x_getI C 35 cf_M fl_M_201 d_M_unit_26 rfl (by decide) rfl rfl (by omega) (by omega) (fun r26 => ?_)
      refine x_sipush C d_M_unit_29 (by decide) (by decide) ?_
      refine x_icmp_ge (tgt := 56) C d_M_unit_32 rfl (fun h32 => ?_) (fun h32 => ?_)
      · refine x_aload_n C d_M_unit_56 rfl rfl ?_
        refine x_aload_n C d_M_unit_57 rfl rfl ?_
        refine x_iconst C d_M_unit_58 (by decide) ?_
        refine x_callV C cl_M_150 cb_M_open cs_M_open d_M_unit_59 (c_M_open hz (by omega)) rfl rfl rfl rfl rfl (by omega) (by omega) (by decide) (by decide) (Nat.le_of_ble_eq_true rfl) (by omega) (by omega) ?_
        rintro _ _ _ ⟨rfl, rfl, rfl⟩ -
        skip
        refine x_callV C cl_M_153 cb_M_takeBack cs_M_takeBack d_M_unit_62 (c_M_takeBack hol.1 (by omega) hos.1 hos.2 hB hz hz1) rfl rfl rfl rfl rfl (by omega) (by omega) (by decide) (by decide) (Nat.le_of_ble_eq_true rfl) (by omega) (by omega) ?_
        rintro _ _ _ ⟨rfl, rfl, rfl⟩ -
        skip
        exact J65 _ (by rw [hu1]; first | (rw [if_pos h4]; done) | (rw [if_neg h4, if_pos ⟨by omega, by omega⟩]; done) | (rw [if_neg h4, if_neg (by omega)]; done))
      · refine x_aload_n C d_M_unit_35 rfl rfl ?_
        refine x_aload_n C d_M_unit_36 rfl rfl ?_
        refine x_getI C 35 cf_M fl_M_201 d_M_unit_37 rfl (by decide) rfl rfl (by omega) (by omega) (fun r37 => ?_)
        refine x_callV C cl_M_207 cb_M_redo cs_M_redo d_M_unit_40 (c_M_redo (hnx h4) (by omega) (hsp _ (hnx h4) h22).1 (hsp _ (hnx h4) h22).2 hB) rfl rfl rfl rfl rfl (by omega) (by omega) (by decide) (by decide) (Nat.le_of_ble_eq_true rfl) (by omega) (by omega) ?_
        rintro _ _ _ ⟨rfl, rfl, rfl⟩ -
        skip
        refine x_aload_n C d_M_unit_43 rfl rfl ?_
        refine x_dup C d_M_unit_44 ?_
        refine x_getI C 35 cf_M fl_M_201 d_M_unit_45 rfl (by decide) rfl rfl (by omega) (by omega) (fun r45 => ?_)
        refine x_iconst C d_M_unit_48 (by decide) ?_
        refine x_iadd C d_M_unit_49 ⟨by rw [hrd h4 h22]; omega, by rw [hrd h4 h22]; omega⟩ ?_
        refine x_putI C 35 rfl cf_M fl_M_201 d_M_unit_50 rfl (Or.inl ⟨rfl, rfl⟩) rfl rfl rfl (by omega) (by omega) ?_
        refine x_goto (tgt := 65) C d_M_unit_53 rfl ?_
        exact J65 _ (by rw [hu1]; first | (rw [if_pos h4]; done) | (rw [if_neg h4, if_pos ⟨by omega, by omega⟩]; done) | (rw [if_neg h4, if_neg (by omega)]; done))
  · refine x_aload_n C d_M_unit_7 rfl rfl ?_
    refine x_callV C cl_M_204 cb_M_analyse cs_M_analyse d_M_unit_8 (c_M_analyse hz hz1 (fun i a b => (hsp i a b).1)) rfl rfl rfl rfl rfl (by omega) (by omega) (by decide) (by decide) (Nat.le_of_ble_eq_true rfl) (by omega) (by omega) ?_
    rintro _ _ _ ⟨rfl, rfl, rfl⟩ -
    skip
    refine x_goto (tgt := 65) C d_M_unit_11 rfl ?_
    exact J65 _ (by rw [hu1]; first | (rw [if_pos h4]; done) | (rw [if_neg h4, if_pos ⟨by omega, by omega⟩]; done) | (rw [if_neg h4, if_neg (by omega)]; done))
theorem c_M_restart {σ : Hp} {n : Int} (P : Nat → Hp → Prop) (hP : ¬ σ 1 32 = 0 → P 0 σ) (hs : ∀ (k : Nat) (τ : Hp), k < 100 → P k τ → ¬ τ 1 32 = 0 → Ok LyM TM y_M_unit b_M_unit 1 none 4 0 0 [.inr 1] 28 τ (pV 28 (m_unit τ)) ∧ P (k + 1) (m_unit τ)) : Ok LyM TM y_M_restart b_M_restart 3 (some .int) 5 0 0 [.inr 1, .inl n] 28 σ (pI 28 (m_restart σ n).2 (m_restart σ n).1) := by
  refine ok_mk (by decide) (Nat.le_of_ble_eq_true rfl) (fun K C rt ha hok hfx => ?_)
  show XW LyM TM K 28 σ 0 0 0 [some (.inr 1), some (.inl n), none] []
  by_cases hc : σ 1 32 = 0 ∨ n < 1 ∨ 100 < n
  · have hr : m_restart σ n = (-1, σ) := if_pos hc
    rw [hr] at rt
    refine x_aload_n C d_M_restart_0 rfl rfl ?_
    refine x_getI C 32 cf_M fl_M_172 d_M_restart_1 rfl (by decide) rfl rfl (by omega) (by omega) (fun r1 => ?_)
    refine x_if_eq (tgt := 18) C d_M_restart_4 rfl (fun h4 => ?_) (fun h4 => ?_)
    · refine x_iconst C d_M_restart_18 (by decide) ?_
      exact x_iret rt d_M_restart_19 (by omega) (by omega) ⟨rfl, rfl, rfl⟩
    · refine x_iload_n C d_M_restart_7 rfl rfl ?_
      refine x_iconst C d_M_restart_8 (by decide) ?_
      refine x_icmp_lt (tgt := 18) C d_M_restart_9 rfl (fun h9 => ?_) (fun h9 => ?_)
      · refine x_iconst C d_M_restart_18 (by decide) ?_
        exact x_iret rt d_M_restart_19 (by omega) (by omega) ⟨rfl, rfl, rfl⟩
      · refine x_iload_n C d_M_restart_12 rfl rfl ?_
        refine x_bipush C d_M_restart_13 (by decide) (by decide) ?_
        refine x_icmp_le (tgt := 20) C d_M_restart_15 rfl (fun h15 => ?_) (fun h15 => ?_)
        · exact absurd hc (by omega)
        · refine x_iconst C d_M_restart_18 (by decide) ?_
          exact x_iret rt d_M_restart_19 (by omega) (by omega) ⟨rfl, rfl, rfl⟩
  · have hr : m_restart σ n = m_rsL n.toNat 0 σ := if_neg hc
    have hP := hP (fun h => hc (Or.inl h))
    rw [hr] at rt
    have loop : ∀ (q k : Nat) (τ : Hp), (k : Int) + q = n → P k τ → m_rsL q (k : Int) τ = m_rsL n.toNat 0 σ → XW LyM TM K 28 τ 0 0 22 [some (.inr 1), some (.inl n), some (.inl (k : Int))] [] := by
      intro q
      induction q with
      | zero =>
        intro k τ hk hp hm
        rw [← hm] at rt
        refine x_iload_n C d_M_restart_22 rfl rfl ?_
        refine x_iload_n C d_M_restart_23 rfl rfl ?_
        refine x_icmp_ge (tgt := 44) C d_M_restart_24 rfl (fun h24 => ?_) (fun h24 => ?_)
        · refine x_iload_n C d_M_restart_44 rfl rfl ?_
          exact x_iret rt d_M_restart_45 (by omega) (by omega) ⟨rfl, rfl, rfl⟩
        · exact absurd h24 (by omega)
      | succ q ih =>
        intro k τ hk hp hm
        have hm2 : m_rsL (q + 1) (k : Int) τ = if τ 1 32 = 0 then ((k : Int), τ) else m_rsL q ((k : Int) + 1) (m_unit τ) := rfl
        rw [hm2] at hm
        by_cases hd : τ 1 32 = 0
        · rw [if_pos hd] at hm
          rw [← hm] at rt
          refine x_iload_n C d_M_restart_22 rfl rfl ?_
          refine x_iload_n C d_M_restart_23 rfl rfl ?_
          refine x_icmp_ge (tgt := 44) C d_M_restart_24 rfl (fun h24 => ?_) (fun h24 => ?_)
          · exact absurd h24 (by omega)
          · refine x_aload_n C d_M_restart_27 rfl rfl ?_
            refine x_getI C 32 cf_M fl_M_172 d_M_restart_28 rfl (by decide) rfl rfl (by omega) (by omega) (fun r28 => ?_)
            refine x_if_eq (tgt := 44) C d_M_restart_31 rfl (fun h31 => ?_) (fun h31 => ?_)
            · refine x_iload_n C d_M_restart_44 rfl rfl ?_
              exact x_iret rt d_M_restart_45 (by omega) (by omega) ⟨rfl, rfl, rfl⟩
            · exact absurd hd h31
        · rw [if_neg hd] at hm
          obtain ⟨o1, o2⟩ := hs k τ (by omega) hp hd
          have ih2 := ih (k + 1) (m_unit τ) (by omega) o2 hm
          refine x_iload_n C d_M_restart_22 rfl rfl ?_
          refine x_iload_n C d_M_restart_23 rfl rfl ?_
          refine x_icmp_ge (tgt := 44) C d_M_restart_24 rfl (fun h24 => ?_) (fun h24 => ?_)
          · exact absurd h24 (by omega)
          · refine x_aload_n C d_M_restart_27 rfl rfl ?_
            refine x_getI C 32 cf_M fl_M_172 d_M_restart_28 rfl (by decide) rfl rfl (by omega) (by omega) (fun r28 => ?_)
            refine x_if_eq (tgt := 44) C d_M_restart_31 rfl (fun h31 => ?_) (fun h31 => ?_)
            · exact absurd h31 hd
            · refine x_aload_n C d_M_restart_34 rfl rfl ?_
              refine x_callV C cl_M_213 cb_M_unit cs_M_unit d_M_restart_35 (o1) rfl rfl rfl rfl rfl (by omega) (by omega) (by decide) (by decide) (Nat.le_of_ble_eq_true rfl) (by omega) (by omega) ?_
              rintro _ _ _ ⟨rfl, rfl, rfl⟩ -
              skip
              refine x_iinc C d_M_restart_38 (by decide) rfl ⟨by omega, by omega⟩ ?_
              refine x_goto (tgt := 22) C d_M_restart_41 rfl ?_
              exact ih2
    refine x_aload_n C d_M_restart_0 rfl rfl ?_
    refine x_getI C 32 cf_M fl_M_172 d_M_restart_1 rfl (by decide) rfl rfl (by omega) (by omega) (fun r1 => ?_)
    refine x_if_eq (tgt := 18) C d_M_restart_4 rfl (fun h4 => ?_) (fun h4 => ?_)
    · refine x_iconst C d_M_restart_18 (by decide) ?_
      exact absurd hc (by omega)
    · refine x_iload_n C d_M_restart_7 rfl rfl ?_
      refine x_iconst C d_M_restart_8 (by decide) ?_
      refine x_icmp_lt (tgt := 18) C d_M_restart_9 rfl (fun h9 => ?_) (fun h9 => ?_)
      · refine x_iconst C d_M_restart_18 (by decide) ?_
        exact absurd hc (by omega)
      · refine x_iload_n C d_M_restart_12 rfl rfl ?_
        refine x_bipush C d_M_restart_13 (by decide) (by decide) ?_
        refine x_icmp_le (tgt := 20) C d_M_restart_15 rfl (fun h15 => ?_) (fun h15 => ?_)
        · refine x_iconst C d_M_restart_20 (by decide) ?_
          refine x_istore_n C d_M_restart_21 rfl (by decide) ?_
          exact loop n.toNat 0 σ (by omega) hP rfl
        · refine x_iconst C d_M_restart_18 (by decide) ?_
          exact absurd hc (by omega)

