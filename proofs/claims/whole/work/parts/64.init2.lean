-- ===== the reference's constructor, a new transaction =====
def i_ML (s : Hp) (x : Int) : Hp := fun a b => if a = 11 ∧ 0 ≤ b ∧ b < x then -1 else s a b
def i_M0 (σ : Hp) : Hp := st2 (st2 (st2 (st2 (st2 (st2 (st2 (st2 (st2 (st2 (st2 (st2 (st2 (st2 (st2 (st2 (st2 (st2 (st2 (st2 (st2 (st2 (st2 (st2 (st2 (st2 (st2 σ 1 2 2) 1 3 3) 1 4 4) 1 5 5) 1 6 6) 1 7 7) 1 8 8) 1 9 9) 1 10 10) 1 11 11) 1 12 12) 1 13 13) 1 14 14) 1 15 15) 1 16 16) 1 17 17) 1 18 18) 1 23 19) 1 24 20) 1 25 21) 1 26 22) 1 27 23) 1 28 24) 1 29 25) 1 30 26) 1 31 27) 1 36 28
def i_M (σ : Hp) : Hp := i_ML (i_M0 σ) 24
theorem i_ML_0 (s : Hp) : i_ML s 0 = s := by
  funext a b
  simp only [i_ML]
  rw [if_neg (by omega)]
theorem i_ML_st {s : Hp} {x : Int} (h : 0 ≤ x) : st2 (i_ML s x) 11 x (-1) = i_ML s (x + 1) := by
  funext a b
  simp only [i_ML, st2]
  grind
theorem i_M0_11 {σ : Hp} : i_M0 σ 1 11 = 11 := by simp [i_M0, st2]
theorem c_M_init {σ : Hp} (hz : ∀ a i : Int, 1 < a → σ a i = 0) : Ok LyM TN y_M_init b_M_init 2 none 1 27 9570 [.inr 1] 1 σ (pV 28 (i_M σ)) := by
  refine ok_mkI (by decide) (Nat.le_of_ble_eq_true rfl) rfl (fun K C hin rt ha hok hfx => ?_)
  show XW LyM TN K 1 σ 0 0 0 [some (.inr 1), none] []
  have L : ∀ (q x : Nat), x + q = 24 → XW LyM TN K 28 (i_ML (i_M0 σ) x) 27 9570 232 [some (.inr 1), some (.inl (x : Int))] [] := by
    intro q
    induction q with
    | zero =>
      intro x hx
      refine x_iload_n C d_M_init_232 rfl rfl ?_
      refine x_bipush C d_M_init_233 (by decide) (by decide) ?_
      refine x_icmp_ge (tgt := 251) C d_M_init_235 rfl (fun h235 => ?_) (fun h235 => ?_)
      · exact x_vret rt d_M_init_251 (by omega) (by omega) ⟨rfl, rfl, by rw [show (x : Int) = 24 by omega]; rfl⟩
      · exact absurd h235 (by omega)
    | succ q ih =>
      intro x hx
      refine x_iload_n C d_M_init_232 rfl rfl ?_
      refine x_bipush C d_M_init_233 (by decide) (by decide) ?_
      refine x_icmp_ge (tgt := 251) C d_M_init_235 rfl (fun h235 => ?_) (fun h235 => ?_)
      · exact absurd h235 (by omega)
      · refine x_aload_n C d_M_init_238 rfl rfl ?_
        refine x_getR C 11 (11) cf_M fl_M_37 d_M_init_239 rfl rfl rfl (by omega) (by omega) (by simp only [i_ML]; rw [if_neg (by omega)]; exact i_M0_11) ?_
        refine x_iload_n C d_M_init_242 rfl rfl ?_
        refine x_iconst C d_M_init_243 (by decide) ?_
        refine x_iast C d_M_init_244 rfl rfl (by omega) (by omega) (by omega) (by omega) ?_
        refine x_iinc C d_M_init_245 (by decide) rfl ⟨by omega, by omega⟩ ?_
        refine x_goto (tgt := 232) C d_M_init_248 rfl ?_
        exact x_cast (ih (x + 1) (by omega)) rfl rfl rfl (i_ML_st (by omega))
  refine x_aload_n C d_M_init_0 rfl rfl ?_
  refine x_objInit C w_ol_M w_oiI w_oiC d_M_init_1 (by omega) (by decide) (Nat.le_of_ble_eq_true rfl) ?_
  refine x_aload_n C d_M_init_4 rfl rfl ?_
  refine x_sipush C d_M_init_5 (by decide) (by decide) ?_
  refine x_newa (len := 204) C (2) (2) (_) (by first | rfl | omega) (by first | rfl | omega) (Or.inl ⟨rfl, rfl⟩) w_ac_int d_M_init_8 (by first | rfl | exact lx_T (by omega) | exact lx_C (by omega) (by omega) (by omega) | exact lx_A (by omega) (by omega) (by omega)) rfl (by decide) (fun _ _ => rfl) (fun i => (by (repeat rw [st2_ne (by decide)]); exact hz _ i (by decide))) (fun _ _ h => by cases h) (by omega) (by omega) ?_
  refine x_putFR C hin 2 rfl (by omega) cf_M w_fl_M_7 d_M_init_10 rfl (fun _ => nfA) rfl rfl rfl rfl (by omega) (by omega) ?_
  refine x_aload_n C d_M_init_13 rfl rfl ?_
  refine x_sipush C d_M_init_14 (by decide) (by decide) ?_
  refine x_newa (len := 204) C (3) (3) (_) (by first | rfl | omega) (by first | rfl | omega) (Or.inl ⟨rfl, rfl⟩) w_ac_int d_M_init_17 (by first | rfl | exact lx_T (by omega) | exact lx_C (by omega) (by omega) (by omega) | exact lx_A (by omega) (by omega) (by omega)) rfl (by decide) (fun _ _ => rfl) (fun i => (by (repeat rw [st2_ne (by decide)]); exact hz _ i (by decide))) (fun _ _ h => by cases h) (by omega) (by omega) ?_
  refine x_putFR C hin 3 rfl (by omega) cf_M w_fl_M_13 d_M_init_19 rfl (fun _ => nfA) rfl rfl rfl rfl (by omega) (by omega) ?_
  refine x_aload_n C d_M_init_22 rfl rfl ?_
  refine x_sipush C d_M_init_23 (by decide) (by decide) ?_
  refine x_newa (len := 204) C (4) (4) (_) (by first | rfl | omega) (by first | rfl | omega) (Or.inl ⟨rfl, rfl⟩) w_ac_int d_M_init_26 (by first | rfl | exact lx_T (by omega) | exact lx_C (by omega) (by omega) (by omega) | exact lx_A (by omega) (by omega) (by omega)) rfl (by decide) (fun _ _ => rfl) (fun i => (by (repeat rw [st2_ne (by decide)]); exact hz _ i (by decide))) (fun _ _ h => by cases h) (by omega) (by omega) ?_
  refine x_putFR C hin 4 rfl (by omega) cf_M w_fl_M_16 d_M_init_28 rfl (fun _ => nfA) rfl rfl rfl rfl (by omega) (by omega) ?_
  refine x_aload_n C d_M_init_31 rfl rfl ?_
  refine x_sipush C d_M_init_32 (by decide) (by decide) ?_
  refine x_newa (len := 204) C (5) (5) (_) (by first | rfl | omega) (by first | rfl | omega) (Or.inl ⟨rfl, rfl⟩) w_ac_int d_M_init_35 (by first | rfl | exact lx_T (by omega) | exact lx_C (by omega) (by omega) (by omega) | exact lx_A (by omega) (by omega) (by omega)) rfl (by decide) (fun _ _ => rfl) (fun i => (by (repeat rw [st2_ne (by decide)]); exact hz _ i (by decide))) (fun _ _ h => by cases h) (by omega) (by omega) ?_
  refine x_putFR C hin 5 rfl (by omega) cf_M w_fl_M_19 d_M_init_37 rfl (fun _ => nfA) rfl rfl rfl rfl (by omega) (by omega) ?_
  refine x_aload_n C d_M_init_40 rfl rfl ?_
  refine x_sipush C d_M_init_41 (by decide) (by decide) ?_
  refine x_newa (len := 204) C (6) (6) (_) (by first | rfl | omega) (by first | rfl | omega) (Or.inl ⟨rfl, rfl⟩) w_ac_int d_M_init_44 (by first | rfl | exact lx_T (by omega) | exact lx_C (by omega) (by omega) (by omega) | exact lx_A (by omega) (by omega) (by omega)) rfl (by decide) (fun _ _ => rfl) (fun i => (by (repeat rw [st2_ne (by decide)]); exact hz _ i (by decide))) (fun _ _ h => by cases h) (by omega) (by omega) ?_
  refine x_putFR C hin 6 rfl (by omega) cf_M w_fl_M_22 d_M_init_46 rfl (fun _ => nfA) rfl rfl rfl rfl (by omega) (by omega) ?_
  refine x_aload_n C d_M_init_49 rfl rfl ?_
  refine x_sipush C d_M_init_50 (by decide) (by decide) ?_
  refine x_newa (len := 204) C (7) (7) (_) (by first | rfl | omega) (by first | rfl | omega) (Or.inl ⟨rfl, rfl⟩) w_ac_int d_M_init_53 (by first | rfl | exact lx_T (by omega) | exact lx_C (by omega) (by omega) (by omega) | exact lx_A (by omega) (by omega) (by omega)) rfl (by decide) (fun _ _ => rfl) (fun i => (by (repeat rw [st2_ne (by decide)]); exact hz _ i (by decide))) (fun _ _ h => by cases h) (by omega) (by omega) ?_
  refine x_putFR C hin 7 rfl (by omega) cf_M w_fl_M_25 d_M_init_55 rfl (fun _ => nfA) rfl rfl rfl rfl (by omega) (by omega) ?_
  refine x_aload_n C d_M_init_58 rfl rfl ?_
  refine x_sipush C d_M_init_59 (by decide) (by decide) ?_
  refine x_newa (len := 204) C (8) (8) (_) (by first | rfl | omega) (by first | rfl | omega) (Or.inl ⟨rfl, rfl⟩) w_ac_int d_M_init_62 (by first | rfl | exact lx_T (by omega) | exact lx_C (by omega) (by omega) (by omega) | exact lx_A (by omega) (by omega) (by omega)) rfl (by decide) (fun _ _ => rfl) (fun i => (by (repeat rw [st2_ne (by decide)]); exact hz _ i (by decide))) (fun _ _ h => by cases h) (by omega) (by omega) ?_
  refine x_putFR C hin 8 rfl (by omega) cf_M w_fl_M_28 d_M_init_64 rfl (fun _ => nfA) rfl rfl rfl rfl (by omega) (by omega) ?_
  refine x_aload_n C d_M_init_67 rfl rfl ?_
  refine x_sipush C d_M_init_68 (by decide) (by decide) ?_
  refine x_newa (len := 204) C (9) (9) (_) (by first | rfl | omega) (by first | rfl | omega) (Or.inl ⟨rfl, rfl⟩) w_ac_int d_M_init_71 (by first | rfl | exact lx_T (by omega) | exact lx_C (by omega) (by omega) (by omega) | exact lx_A (by omega) (by omega) (by omega)) rfl (by decide) (fun _ _ => rfl) (fun i => (by (repeat rw [st2_ne (by decide)]); exact hz _ i (by decide))) (fun _ _ h => by cases h) (by omega) (by omega) ?_
  refine x_putFR C hin 9 rfl (by omega) cf_M w_fl_M_31 d_M_init_73 rfl (fun _ => nfA) rfl rfl rfl rfl (by omega) (by omega) ?_
  refine x_aload_n C d_M_init_76 rfl rfl ?_
  refine x_sipush C d_M_init_77 (by decide) (by decide) ?_
  refine x_newa (len := 1224) C (10) (10) (_) (by first | rfl | omega) (by first | rfl | omega) (Or.inl ⟨rfl, rfl⟩) w_ac_int d_M_init_80 (by first | rfl | exact lx_T (by omega) | exact lx_C (by omega) (by omega) (by omega) | exact lx_A (by omega) (by omega) (by omega)) rfl (by decide) (fun _ _ => rfl) (fun i => (by (repeat rw [st2_ne (by decide)]); exact hz _ i (by decide))) (fun _ _ h => by cases h) (by omega) (by omega) ?_
  refine x_putFR C hin 10 rfl (by omega) cf_M w_fl_M_34 d_M_init_82 rfl (fun _ => nfA) rfl rfl rfl rfl (by omega) (by omega) ?_
  refine x_aload_n C d_M_init_85 rfl rfl ?_
  refine x_bipush C d_M_init_86 (by decide) (by decide) ?_
  refine x_newa (len := 24) C (11) (11) (_) (by first | rfl | omega) (by first | rfl | omega) (Or.inl ⟨rfl, rfl⟩) w_ac_int d_M_init_88 (by first | rfl | exact lx_T (by omega) | exact lx_C (by omega) (by omega) (by omega) | exact lx_A (by omega) (by omega) (by omega)) rfl (by decide) (fun _ _ => rfl) (fun i => (by (repeat rw [st2_ne (by decide)]); exact hz _ i (by decide))) (fun _ _ h => by cases h) (by omega) (by omega) ?_
  refine x_putFR C hin 11 rfl (by omega) cf_M w_fl_M_37 d_M_init_90 rfl (fun _ => nfA) rfl rfl rfl rfl (by omega) (by omega) ?_
  refine x_aload_n C d_M_init_93 rfl rfl ?_
  refine x_bipush C d_M_init_94 (by decide) (by decide) ?_
  refine x_newa (len := 24) C (12) (12) (_) (by first | rfl | omega) (by first | rfl | omega) (Or.inl ⟨rfl, rfl⟩) w_ac_int d_M_init_96 (by first | rfl | exact lx_T (by omega) | exact lx_C (by omega) (by omega) (by omega) | exact lx_A (by omega) (by omega) (by omega)) rfl (by decide) (fun _ _ => rfl) (fun i => (by (repeat rw [st2_ne (by decide)]); exact hz _ i (by decide))) (fun _ _ h => by cases h) (by omega) (by omega) ?_
  refine x_putFR C hin 12 rfl (by omega) cf_M w_fl_M_40 d_M_init_98 rfl (fun _ => nfA) rfl rfl rfl rfl (by omega) (by omega) ?_
  refine x_aload_n C d_M_init_101 rfl rfl ?_
  refine x_bipush C d_M_init_102 (by decide) (by decide) ?_
  refine x_newa (len := 6) C (13) (13) (_) (by first | rfl | omega) (by first | rfl | omega) (Or.inl ⟨rfl, rfl⟩) w_ac_int d_M_init_104 (by first | rfl | exact lx_T (by omega) | exact lx_C (by omega) (by omega) (by omega) | exact lx_A (by omega) (by omega) (by omega)) rfl (by decide) (fun _ _ => rfl) (fun i => (by (repeat rw [st2_ne (by decide)]); exact hz _ i (by decide))) (fun _ _ h => by cases h) (by omega) (by omega) ?_
  refine x_putFR C hin 13 rfl (by omega) cf_M w_fl_M_43 d_M_init_106 rfl (fun _ => nfA) rfl rfl rfl rfl (by omega) (by omega) ?_
  refine x_aload_n C d_M_init_109 rfl rfl ?_
  refine x_bipush C d_M_init_110 (by decide) (by decide) ?_
  refine x_newa (len := 24) C (14) (14) (_) (by first | rfl | omega) (by first | rfl | omega) (Or.inl ⟨rfl, rfl⟩) w_ac_int d_M_init_112 (by first | rfl | exact lx_T (by omega) | exact lx_C (by omega) (by omega) (by omega) | exact lx_A (by omega) (by omega) (by omega)) rfl (by decide) (fun _ _ => rfl) (fun i => (by (repeat rw [st2_ne (by decide)]); exact hz _ i (by decide))) (fun _ _ h => by cases h) (by omega) (by omega) ?_
  refine x_putFR C hin 14 rfl (by omega) cf_M w_fl_M_46 d_M_init_114 rfl (fun _ => nfA) rfl rfl rfl rfl (by omega) (by omega) ?_
  refine x_aload_n C d_M_init_117 rfl rfl ?_
  refine x_bipush C d_M_init_118 (by decide) (by decide) ?_
  refine x_newa (len := 24) C (15) (15) (_) (by first | rfl | omega) (by first | rfl | omega) (Or.inl ⟨rfl, rfl⟩) w_ac_int d_M_init_120 (by first | rfl | exact lx_T (by omega) | exact lx_C (by omega) (by omega) (by omega) | exact lx_A (by omega) (by omega) (by omega)) rfl (by decide) (fun _ _ => rfl) (fun i => (by (repeat rw [st2_ne (by decide)]); exact hz _ i (by decide))) (fun _ _ h => by cases h) (by omega) (by omega) ?_
  refine x_putFR C hin 15 rfl (by omega) cf_M w_fl_M_49 d_M_init_122 rfl (fun _ => nfA) rfl rfl rfl rfl (by omega) (by omega) ?_
  refine x_aload_n C d_M_init_125 rfl rfl ?_
  refine x_bipush C d_M_init_126 (by decide) (by decide) ?_
  refine x_newa (len := 6) C (16) (16) (_) (by first | rfl | omega) (by first | rfl | omega) (Or.inl ⟨rfl, rfl⟩) w_ac_int d_M_init_128 (by first | rfl | exact lx_T (by omega) | exact lx_C (by omega) (by omega) (by omega) | exact lx_A (by omega) (by omega) (by omega)) rfl (by decide) (fun _ _ => rfl) (fun i => (by (repeat rw [st2_ne (by decide)]); exact hz _ i (by decide))) (fun _ _ h => by cases h) (by omega) (by omega) ?_
  refine x_putFR C hin 16 rfl (by omega) cf_M w_fl_M_52 d_M_init_130 rfl (fun _ => nfA) rfl rfl rfl rfl (by omega) (by omega) ?_
  refine x_aload_n C d_M_init_133 rfl rfl ?_
  refine x_bipush C d_M_init_134 (by decide) (by decide) ?_
  refine x_newa (len := 6) C (17) (17) (_) (by first | rfl | omega) (by first | rfl | omega) (Or.inl ⟨rfl, rfl⟩) w_ac_int d_M_init_136 (by first | rfl | exact lx_T (by omega) | exact lx_C (by omega) (by omega) (by omega) | exact lx_A (by omega) (by omega) (by omega)) rfl (by decide) (fun _ _ => rfl) (fun i => (by (repeat rw [st2_ne (by decide)]); exact hz _ i (by decide))) (fun _ _ h => by cases h) (by omega) (by omega) ?_
  refine x_putFR C hin 17 rfl (by omega) cf_M w_fl_M_55 d_M_init_138 rfl (fun _ => nfA) rfl rfl rfl rfl (by omega) (by omega) ?_
  refine x_aload_n C d_M_init_141 rfl rfl ?_
  refine x_bipush C d_M_init_142 (by decide) (by decide) ?_
  refine x_newa (len := 6) C (18) (18) (_) (by first | rfl | omega) (by first | rfl | omega) (Or.inl ⟨rfl, rfl⟩) w_ac_int d_M_init_144 (by first | rfl | exact lx_T (by omega) | exact lx_C (by omega) (by omega) (by omega) | exact lx_A (by omega) (by omega) (by omega)) rfl (by decide) (fun _ _ => rfl) (fun i => (by (repeat rw [st2_ne (by decide)]); exact hz _ i (by decide))) (fun _ _ h => by cases h) (by omega) (by omega) ?_
  refine x_putFR C hin 18 rfl (by omega) cf_M w_fl_M_58 d_M_init_146 rfl (fun _ => nfA) rfl rfl rfl rfl (by omega) (by omega) ?_
  refine x_aload_n C d_M_init_149 rfl rfl ?_
  refine x_bipush C d_M_init_150 (by decide) (by decide) ?_
  refine x_newa (len := 61) C (19) (19) (_) (by first | rfl | omega) (by first | rfl | omega) (Or.inl ⟨rfl, rfl⟩) w_ac_int d_M_init_152 (by first | rfl | exact lx_T (by omega) | exact lx_C (by omega) (by omega) (by omega) | exact lx_A (by omega) (by omega) (by omega)) rfl (by decide) (fun _ _ => rfl) (fun i => (by (repeat rw [st2_ne (by decide)]); exact hz _ i (by decide))) (fun _ _ h => by cases h) (by omega) (by omega) ?_
  refine x_putFR C hin 23 rfl (by omega) cf_M w_fl_M_61 d_M_init_154 rfl (fun _ => nfA) rfl rfl rfl rfl (by omega) (by omega) ?_
  refine x_aload_n C d_M_init_157 rfl rfl ?_
  refine x_bipush C d_M_init_158 (by decide) (by decide) ?_
  refine x_newa (len := 61) C (20) (20) (_) (by first | rfl | omega) (by first | rfl | omega) (Or.inl ⟨rfl, rfl⟩) w_ac_int d_M_init_160 (by first | rfl | exact lx_T (by omega) | exact lx_C (by omega) (by omega) (by omega) | exact lx_A (by omega) (by omega) (by omega)) rfl (by decide) (fun _ _ => rfl) (fun i => (by (repeat rw [st2_ne (by decide)]); exact hz _ i (by decide))) (fun _ _ h => by cases h) (by omega) (by omega) ?_
  refine x_putFR C hin 24 rfl (by omega) cf_M w_fl_M_64 d_M_init_162 rfl (fun _ => nfA) rfl rfl rfl rfl (by omega) (by omega) ?_
  refine x_aload_n C d_M_init_165 rfl rfl ?_
  refine x_bipush C d_M_init_166 (by decide) (by decide) ?_
  refine x_newa (len := 61) C (21) (21) (_) (by first | rfl | omega) (by first | rfl | omega) (Or.inl ⟨rfl, rfl⟩) w_ac_int d_M_init_168 (by first | rfl | exact lx_T (by omega) | exact lx_C (by omega) (by omega) (by omega) | exact lx_A (by omega) (by omega) (by omega)) rfl (by decide) (fun _ _ => rfl) (fun i => (by (repeat rw [st2_ne (by decide)]); exact hz _ i (by decide))) (fun _ _ h => by cases h) (by omega) (by omega) ?_
  refine x_putFR C hin 25 rfl (by omega) cf_M w_fl_M_67 d_M_init_170 rfl (fun _ => nfA) rfl rfl rfl rfl (by omega) (by omega) ?_
  refine x_aload_n C d_M_init_173 rfl rfl ?_
  refine x_bipush C d_M_init_174 (by decide) (by decide) ?_
  refine x_newa (len := 61) C (22) (22) (_) (by first | rfl | omega) (by first | rfl | omega) (Or.inl ⟨rfl, rfl⟩) w_ac_int d_M_init_176 (by first | rfl | exact lx_T (by omega) | exact lx_C (by omega) (by omega) (by omega) | exact lx_A (by omega) (by omega) (by omega)) rfl (by decide) (fun _ _ => rfl) (fun i => (by (repeat rw [st2_ne (by decide)]); exact hz _ i (by decide))) (fun _ _ h => by cases h) (by omega) (by omega) ?_
  refine x_putFR C hin 26 rfl (by omega) cf_M w_fl_M_70 d_M_init_178 rfl (fun _ => nfA) rfl rfl rfl rfl (by omega) (by omega) ?_
  refine x_aload_n C d_M_init_181 rfl rfl ?_
  refine x_bipush C d_M_init_182 (by decide) (by decide) ?_
  refine x_newa (len := 61) C (23) (23) (_) (by first | rfl | omega) (by first | rfl | omega) (Or.inl ⟨rfl, rfl⟩) w_ac_int d_M_init_184 (by first | rfl | exact lx_T (by omega) | exact lx_C (by omega) (by omega) (by omega) | exact lx_A (by omega) (by omega) (by omega)) rfl (by decide) (fun _ _ => rfl) (fun i => (by (repeat rw [st2_ne (by decide)]); exact hz _ i (by decide))) (fun _ _ h => by cases h) (by omega) (by omega) ?_
  refine x_putFR C hin 27 rfl (by omega) cf_M w_fl_M_73 d_M_init_186 rfl (fun _ => nfA) rfl rfl rfl rfl (by omega) (by omega) ?_
  refine x_aload_n C d_M_init_189 rfl rfl ?_
  refine x_bipush C d_M_init_190 (by decide) (by decide) ?_
  refine x_newa (len := 61) C (24) (24) (_) (by first | rfl | omega) (by first | rfl | omega) (Or.inl ⟨rfl, rfl⟩) w_ac_int d_M_init_192 (by first | rfl | exact lx_T (by omega) | exact lx_C (by omega) (by omega) (by omega) | exact lx_A (by omega) (by omega) (by omega)) rfl (by decide) (fun _ _ => rfl) (fun i => (by (repeat rw [st2_ne (by decide)]); exact hz _ i (by decide))) (fun _ _ h => by cases h) (by omega) (by omega) ?_
  refine x_putFR C hin 28 rfl (by omega) cf_M w_fl_M_76 d_M_init_194 rfl (fun _ => nfA) rfl rfl rfl rfl (by omega) (by omega) ?_
  refine x_aload_n C d_M_init_197 rfl rfl ?_
  refine x_bipush C d_M_init_198 (by decide) (by decide) ?_
  refine x_newa (len := 61) C (25) (25) (_) (by first | rfl | omega) (by first | rfl | omega) (Or.inl ⟨rfl, rfl⟩) w_ac_int d_M_init_200 (by first | rfl | exact lx_T (by omega) | exact lx_C (by omega) (by omega) (by omega) | exact lx_A (by omega) (by omega) (by omega)) rfl (by decide) (fun _ _ => rfl) (fun i => (by (repeat rw [st2_ne (by decide)]); exact hz _ i (by decide))) (fun _ _ h => by cases h) (by omega) (by omega) ?_
  refine x_putFR C hin 29 rfl (by omega) cf_M w_fl_M_79 d_M_init_202 rfl (fun _ => nfA) rfl rfl rfl rfl (by omega) (by omega) ?_
  refine x_aload_n C d_M_init_205 rfl rfl ?_
  refine x_sipush C d_M_init_206 (by decide) (by decide) ?_
  refine x_newa (len := 6100) C (26) (26) (_) (by first | rfl | omega) (by first | rfl | omega) (Or.inr (Or.inl ⟨rfl, rfl⟩)) w_ac_byte d_M_init_209 (by first | rfl | exact lx_T (by omega) | exact lx_C (by omega) (by omega) (by omega) | exact lx_A (by omega) (by omega) (by omega)) rfl (by decide) (fun _ _ => rfl) (fun i => (by (repeat rw [st2_ne (by decide)]); exact hz _ i (by decide))) (fun _ _ h => by cases h) (by omega) (by omega) ?_
  refine x_putFR C hin 30 rfl (by omega) cf_M w_fl_M_82 d_M_init_211 rfl (fun _ => nfA) rfl rfl rfl rfl (by omega) (by omega) ?_
  refine x_aload_n C d_M_init_214 rfl rfl ?_
  refine x_bipush C d_M_init_215 (by decide) (by decide) ?_
  refine x_newa (len := 61) C (27) (27) (_) (by first | rfl | omega) (by first | rfl | omega) (Or.inr (Or.inr ⟨rfl, rfl⟩)) w_ac_boolean d_M_init_217 (by first | rfl | exact lx_T (by omega) | exact lx_C (by omega) (by omega) (by omega) | exact lx_A (by omega) (by omega) (by omega)) rfl (by decide) (fun _ _ => rfl) (fun i => (by (repeat rw [st2_ne (by decide)]); exact hz _ i (by decide))) (fun _ _ h => by cases h) (by omega) (by omega) ?_
  refine x_putFR C hin 31 rfl (by omega) cf_M w_fl_M_86 d_M_init_219 rfl (fun _ => nfA) rfl rfl rfl rfl (by omega) (by omega) ?_
  refine x_aload_n C d_M_init_222 rfl rfl ?_
  refine x_bipush C d_M_init_223 (by decide) (by decide) ?_
  refine x_newa (len := 6) C (28) (28) (_) (by first | rfl | omega) (by first | rfl | omega) (Or.inl ⟨rfl, rfl⟩) w_ac_int d_M_init_225 (by first | rfl | exact lx_T (by omega) | exact lx_C (by omega) (by omega) (by omega) | exact lx_A (by omega) (by omega) (by omega)) rfl (by decide) (fun _ _ => rfl) (fun i => (by (repeat rw [st2_ne (by decide)]); exact hz _ i (by decide))) (fun _ _ h => by cases h) (by omega) (by omega) ?_
  refine x_putFR C hin 36 rfl (by omega) cf_M w_fl_M_90 d_M_init_227 rfl (fun _ => nfA) rfl rfl rfl rfl (by omega) (by omega) ?_
  refine x_iconst C d_M_init_230 (by decide) ?_
  refine x_istore_n C d_M_init_231 rfl (by decide) ?_
  exact x_cast (L 24 0 rfl) rfl rfl rfl (i_ML_0 _).symm
def i_T (σ : Hp) (v t s : Int) : Hp := st2 (st2 (st2 (st2 σ v 0 t) v 1 s) v 2 1) v 3 (-1)
theorem c_XT_init {n : Nat} {σ : Hp} {v t s : Int} (hn : n ≤ 1000) (v0 : 86 ≤ v) (v1 : v ≤ (n : Int)) : Ok LyX TX y_XT_init b_XT_init 3 none 1 0 0 [.inr v, .inl t, .inl s] n σ (pV n (i_T σ v t s)) := by
  refine ok_mkI (by decide) (Nat.le_of_ble_eq_true rfl) rfl (fun K C hin rt ha hok hfx => ?_)
  show XW LyX TX K n σ 0 0 0 [some (.inr v), some (.inl t), some (.inl s)] []
  refine x_aload_n C d_XT_init_0 rfl rfl ?_
  refine x_objInit C w_ol_XT w_oiI w_oiC d_XT_init_1 (by omega) (by decide) (Nat.le_of_ble_eq_true rfl) ?_
  refine x_aload_n C d_XT_init_4 rfl rfl ?_
  refine x_iload_n C d_XT_init_5 rfl rfl ?_
  refine x_putFI C hin 0 rfl (by omega) cf_XT w_fl_XT_9 d_XT_init_6 rfl rfl rfl rfl (by first | rfl | exact tx_T (by omega) | exact tx_A (by omega) (by omega) (by omega) | exact tx_HR (by omega) (by omega) | exact tx_KR (by omega) (by omega) | exact tx_L (by omega) (by omega)) (by first | rfl | exact lx_T (by omega) | exact lx_C (by omega) (by omega) (by omega)) (by omega) (by omega) ?_
  refine x_aload_n C d_XT_init_9 rfl rfl ?_
  refine x_iload_n C d_XT_init_10 rfl rfl ?_
  refine x_putFI C hin 1 rfl (by omega) cf_XT w_fl_XT_15 d_XT_init_11 rfl rfl rfl rfl (by first | rfl | exact tx_T (by omega) | exact tx_A (by omega) (by omega) (by omega) | exact tx_HR (by omega) (by omega) | exact tx_KR (by omega) (by omega) | exact tx_L (by omega) (by omega)) (by first | rfl | exact lx_T (by omega) | exact lx_C (by omega) (by omega) (by omega)) (by omega) (by omega) ?_
  refine x_aload_n C d_XT_init_14 rfl rfl ?_
  refine x_iconst C d_XT_init_15 (by decide) ?_
  refine x_putI C 2 rfl cf_XT fl_XT_18 d_XT_init_16 rfl (Or.inl ⟨rfl, rfl⟩) rfl (by first | rfl | exact tx_T (by omega) | exact tx_A (by omega) (by omega) (by omega) | exact tx_HR (by omega) (by omega) | exact tx_KR (by omega) (by omega) | exact tx_L (by omega) (by omega)) (by first | rfl | exact lx_T (by omega) | exact lx_C (by omega) (by omega) (by omega)) (by omega) (by omega) ?_
  refine x_aload_n C d_XT_init_19 rfl rfl ?_
  refine x_iconst C d_XT_init_20 (by decide) ?_
  refine x_putI C 3 rfl cf_XT fl_XT_21 d_XT_init_21 rfl (Or.inl ⟨rfl, rfl⟩) rfl (by first | rfl | exact tx_T (by omega) | exact tx_A (by omega) (by omega) (by omega) | exact tx_HR (by omega) (by omega) | exact tx_KR (by omega) (by omega) | exact tx_L (by omega) (by omega)) (by first | rfl | exact lx_T (by omega) | exact lx_C (by omega) (by omega) (by omega)) (by omega) (by omega) ?_
  exact x_vret rt d_XT_init_24 (by omega) (by omega) ⟨rfl, rfl, rfl⟩
def zr (σ : Hp) (v : Int) : Hp := fun a b => if a = v then 0 else σ a b
theorem zr_ne {σ : Hp} {v a : Int} (h : a ≠ v) : zr σ v a = σ a := by
  funext b
  simp [zr, h]
theorem zr_eq {σ : Hp} {v i : Int} : zr σ v v i = 0 := by simp [zr]
def f_bg0 (σ : Hp) (v seat : Int) : Hp := st2 (i_T (zr (st2 σ 1 5 (σ 1 5 + 1)) v) v (σ 1 5 + 1) seat) 85 (σ 1 5 + 1) v
def f_bg (σ : Hp) (v seat : Int) : Hp := st2 (f_bg0 σ v seat) 77 seat v
def f_canB (σ : Hp) : Prop := ¬ σ 1 8 = 0 ∧ ¬ f_freeSeat σ = -1 ∧ σ 1 5 < 60
theorem f_freeSeat_b (σ : Hp) : f_freeSeat σ = -1 ∨ (0 ≤ f_freeSeat σ ∧ f_freeSeat σ < 4) := by
  have h := srch_spec (fun s => decide (σ 77 s = 0)) 4 0
  have e : srch (fun s => decide (σ 77 s = 0)) 0 4 = f_freeSeat σ := rfl
  rw [e] at h
  rcases h with ⟨a, -⟩ | ⟨a, b, -⟩
  · left; exact a
  · right; omega
theorem c_X_begin {n : Nat} {σ : Hp} (hF : xF n σ) (hS : f_canB σ → OxS (n + 1) (f_bg σ ((n : Int) + 1) (f_freeSeat σ))) : Ok LyX TX y_X_begin b_X_begin 2 (some .int) 7 1 9 [.inr 1] n σ (fun r n' σ' => (f_canB σ ∧ n' = n + 1 ∧ r = some (.inl (σ' 1 5)) ∧ f_settle (f_bg σ ((n : Int) + 1) (f_freeSeat σ)) = σ') ∨ (¬ f_canB σ ∧ n' = n ∧ r = some (.inl (-1)) ∧ σ = σ')) := by
  refine ok_mk (by decide) (Nat.le_of_ble_eq_true rfl) (fun K C rt ha hok hfx => ?_)
  show XW LyX TX K n σ 0 0 0 [some (.inr 1), none] []
  have hF0 := hF
  obtain ⟨f0, f1, f2, f3⟩ := hF0
  have hb := f_freeSeat_b σ
  have hz : ∀ i : Int, zr (st2 σ 1 5 (σ 1 5 + 1)) ((n : Int) + 1) 1 i = st2 σ 1 5 (σ 1 5 + 1) 1 i := fun i => by rw [zr_ne (by omega)]
  have ho : ∀ (a : Int) (s : Hp), a ≠ (n : Int) + 1 → i_T s ((n : Int) + 1) (σ 1 5 + 1) (f_freeSeat σ) a = s a := fun a s h => by
    unfold i_T
    rw [st2_ne h, st2_ne h, st2_ne h, st2_ne h]
  have h5 : st2 (i_T (zr (st2 σ 1 5 (σ 1 5 + 1)) ((n : Int) + 1)) ((n : Int) + 1) (σ 1 5 + 1) (f_freeSeat σ)) 85 (σ 1 5 + 1) ((n : Int) + 1) 1 5 = σ 1 5 + 1 := by
    rw [st2_ne (by decide), ho 1 _ (by omega), hz, st2_eq]
  have h85 : st2 (i_T (zr (st2 σ 1 5 (σ 1 5 + 1)) ((n : Int) + 1)) ((n : Int) + 1) (σ 1 5 + 1) (f_freeSeat σ)) 85 (σ 1 5 + 1) ((n : Int) + 1) 85 (σ 1 5 + 1) = (n : Int) + 1 := st2_eq
  have hs1 : st2 (i_T (zr (st2 σ 1 5 (σ 1 5 + 1)) ((n : Int) + 1)) ((n : Int) + 1) (σ 1 5 + 1) (f_freeSeat σ)) 85 (σ 1 5 + 1) ((n : Int) + 1) ((n : Int) + 1) 1 = f_freeSeat σ := by
    rw [st2_ne (by omega)]
    unfold i_T
    rw [st2_ii (by decide), st2_ii (by decide), st2_eq]
  have he : f_enter (st2 (i_T (zr (st2 σ 1 5 (σ 1 5 + 1)) ((n : Int) + 1)) ((n : Int) + 1) (σ 1 5 + 1) (f_freeSeat σ)) 85 (σ 1 5 + 1) ((n : Int) + 1)) ((n : Int) + 1) = f_bg σ ((n : Int) + 1) (f_freeSeat σ) := by
    unfold f_enter f_bg f_bg0
    rw [hs1]
  refine x_aload_n C d_X_begin_0 rfl rfl ?_
  refine x_getC C 2 76 cf_X fl_X_28 d_X_begin_1 rfl rfl rfl (by omega) (by omega) rfl ?_
  refine x_callV C cl_X_51 cb_XV_freeSeat cs_XV_freeSeat d_X_begin_4 (c_XV_freeSeat f0) rfl rfl rfl rfl (by first | rfl | exact lx_T (by omega) | exact lx_C (by omega) (by omega) (by omega)) (by omega) (by omega) (by decide) (by decide) (Nat.le_of_ble_eq_true rfl) (by omega) (by omega) ?_
  rintro _ _ _ ⟨rfl, hn4, hs4⟩ -
  skip
  have hn5 := hn4.symm
  subst hn5
  subst hs4
  refine x_istore_n C d_X_begin_7 rfl (by decide) ?_
  refine x_aload_n C d_X_begin_8 rfl rfl ?_
  refine x_getI C 8 cf_X fl_X_47 d_X_begin_9 rfl (by decide) rfl rfl (by omega) (by omega) (fun r9 => ?_)
  refine x_if_eq (tgt := 29) C d_X_begin_12 rfl (fun h12 => ?_) (fun h12 => ?_)
  · refine x_iconst C d_X_begin_29 (by decide) ?_
    exact x_iret rt d_X_begin_30 (by omega) (by omega) (by first | exact Or.inl ⟨hc, rfl, rfl, rfl⟩ | exact Or.inr ⟨fun h => by first | exact h.1 h12 | exact h.2.1 h17 | exact absurd h.2.2 (by omega), rfl, rfl, rfl⟩)
  · refine x_iload_n C d_X_begin_15 rfl rfl ?_
    refine x_iconst C d_X_begin_16 (by decide) ?_
    refine x_icmp_eq (tgt := 29) C d_X_begin_17 rfl (fun h17 => ?_) (fun h17 => ?_)
    · refine x_iconst C d_X_begin_29 (by decide) ?_
      exact x_iret rt d_X_begin_30 (by omega) (by omega) (by first | exact Or.inl ⟨hc, rfl, rfl, rfl⟩ | exact Or.inr ⟨fun h => by first | exact h.1 h12 | exact h.2.1 h17 | exact absurd h.2.2 (by omega), rfl, rfl, rfl⟩)
    · refine x_aload_n C d_X_begin_20 rfl rfl ?_
      refine x_getI C 5 cf_X fl_X_55 d_X_begin_21 rfl (by decide) rfl rfl (by omega) (by omega) (fun r21 => ?_)
      refine x_bipush C d_X_begin_24 (by decide) (by decide) ?_
      refine x_icmp_lt (tgt := 31) C d_X_begin_26 rfl (fun h26 => ?_) (fun h26 => ?_)
      · have hc : f_canB σ := ⟨h12, h17, h26⟩
        refine x_aload_n C d_X_begin_31 rfl rfl ?_
        refine x_dup C d_X_begin_32 ?_
        refine x_getI C 5 cf_X fl_X_55 d_X_begin_33 rfl (by decide) rfl rfl (by omega) (by omega) (fun r33 => ?_)
        refine x_iconst C d_X_begin_36 (by decide) ?_
        refine x_iadd C d_X_begin_37 ⟨by omega, by omega⟩ ?_
        refine x_putI C 5 rfl cf_X fl_X_55 d_X_begin_38 rfl (Or.inl ⟨rfl, rfl⟩) rfl rfl rfl (by omega) (by omega) ?_
        refine x_aload_n C d_X_begin_41 rfl rfl ?_
        refine x_getC C 4 85 cf_X fl_X_43 d_X_begin_42 rfl rfl rfl (by omega) (by omega) rfl ?_
        refine x_aload_n C d_X_begin_45 rfl rfl ?_
        refine x_getI C 5 cf_X fl_X_55 d_X_begin_46 rfl (by decide) rfl rfl (by omega) (by omega) (fun r46 => ?_)
        rw [st2_eq]
        refine x_new C (n + 1) ((n : Int) + 1) (zr (st2 σ 1 5 (σ 1 5 + 1)) ((n : Int) + 1)) (by first | rfl | omega) (by first | rfl | omega) cf_XT w_cl_X_41 w_in_XT w_ii_XT d_X_begin_49 (lx_T (by omega)) (by decide) (fun a h => zr_ne h) (fun i => zr_eq) (fun _ _ h => by rw [tx_T (by omega)] at h; cases h) (by omega) (by omega) ?_
        refine x_dup C d_X_begin_52 ?_
        refine x_aload_n C d_X_begin_53 rfl rfl ?_
        refine x_getI C 5 cf_X fl_X_55 d_X_begin_54 rfl (by decide) rfl rfl (by omega) (by omega) (fun r54 => ?_)
        rw [hz 5, st2_eq]
        refine x_iload_n C d_X_begin_57 rfl rfl ?_
        refine x_callI C cl_X_59 cb_XT_init cs_XT_init rfl d_X_begin_58 (c_XT_init (by omega) (by omega) (by omega)) rfl rfl (by omega) (by omega) (by decide) (by decide) (Nat.le_of_ble_eq_true rfl) (by omega) (by omega) ?_
        rintro _ _ _ ⟨rfl, rfl, rfl⟩ -
        refine x_aast C d_X_begin_61 (by omega) rfl (by decide) rfl (by omega) (by omega) (by omega) (by omega) (Or.inr ⟨by omega, by omega, Or.inl ⟨rfl, lx_T (by omega)⟩⟩) ?_
        refine x_aload_n C d_X_begin_62 rfl rfl ?_
        refine x_getC C 2 76 cf_X fl_X_28 d_X_begin_63 rfl rfl rfl (by omega) (by omega) rfl ?_
        refine x_aload_n C d_X_begin_66 rfl rfl ?_
        refine x_getC C 4 85 cf_X fl_X_43 d_X_begin_67 rfl rfl rfl (by omega) (by omega) rfl ?_
        refine x_aload_n C d_X_begin_70 rfl rfl ?_
        refine x_getI C 5 cf_X fl_X_55 d_X_begin_71 rfl (by decide) rfl rfl (by omega) (by omega) (fun r71 => ?_)
        rw [h5]
        refine x_aald C d_X_begin_74 (by first | rfl | exact lx_A (by omega) (by omega) (by omega) | exact lx_H (by omega) (by omega) | exact lx_K (by omega) (by omega)) (by decide) (by omega) (by omega) (by omega) (by omega) (fun r74 => ?_)
        rw [h85]
        refine x_callV C cl_X_62 cb_XV_enter cs_XV_enter d_X_begin_75 (c_XV_enter (by omega) (by omega) (by omega) (by omega) (by rw [hs1]; omega) (by rw [hs1]; omega)) rfl rfl rfl rfl (by first | rfl | exact lx_T (by omega) | exact lx_C (by omega) (by omega) (by omega)) (by omega) (by omega) (by decide) (by decide) (Nat.le_of_ble_eq_true rfl) (by omega) (by omega) ?_
        rintro _ _ _ ⟨rfl, rfl, rfl⟩ -
        skip
        rw [he]
        refine x_aload_n C d_X_begin_78 rfl rfl ?_
        refine x_callV C cl_X_66 cb_X_settle cs_X_settle d_X_begin_79 (hS hc) rfl rfl rfl rfl (by first | rfl | exact lx_T (by omega) | exact lx_C (by omega) (by omega) (by omega)) (by omega) (by omega) (by decide) (by decide) (Nat.le_of_ble_eq_true rfl) (by omega) (by omega) ?_
        rintro _ _ _ ⟨rfl, rfl, rfl⟩ -
        skip
        refine x_aload_n C d_X_begin_82 rfl rfl ?_
        refine x_getI C 5 cf_X fl_X_55 d_X_begin_83 rfl (by decide) rfl rfl (by omega) (by omega) (fun r83 => ?_)
        exact x_iret rt d_X_begin_86 (by omega) (by omega) (by first | exact Or.inl ⟨hc, rfl, rfl, rfl⟩ | exact Or.inr ⟨fun h => by first | exact h.1 h12 | exact h.2.1 h17 | exact absurd h.2.2 (by omega), rfl, rfl, rfl⟩)
      · refine x_iconst C d_X_begin_29 (by decide) ?_
        exact x_iret rt d_X_begin_30 (by omega) (by omega) (by first | exact Or.inl ⟨hc, rfl, rfl, rfl⟩ | exact Or.inr ⟨fun h => by first | exact h.1 h12 | exact h.2.1 h17 | exact absurd h.2.2 (by omega), rfl, rfl, rfl⟩)

