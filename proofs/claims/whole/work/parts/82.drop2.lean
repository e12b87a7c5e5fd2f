-- ===== what the contracts ask for, out of the relation; rolling back =====
theorem jx_B {e B : Int} {n : Nat} {χ τ : Hp} (h : JJ e B n χ τ) (hb : B < 2000000000) : xB χ ∧ mB τ := by
  obtain ⟨hL, ⟨h1, h2, h3, ⟨q1, q2, q3, q4, q5, q6⟩, s⟩, hT, b0, b1, b2, b3⟩ := h
  unfold xB mB
  omega
theorem jx_S {e : Int} {n : Nat} {χ τ : Hp} (h : RTx e n χ τ) : xS n χ := fun s s0 s1 => by
  have hn := h.1
  rcases h.2.2.2.2.2.1 s s0 s1 with ⟨a, -⟩ | ⟨t, t1, t2, t3, -⟩
  · exact Or.inl a
  · right; omega
theorem jx_T {e : Int} {n : Nat} {χ τ : Hp} (h : RTx e n χ τ) : xT n χ := fun v v0 v1 => by
  have hn := h.1
  obtain ⟨b1, b2, b3, b4, b5, b6, b7, -⟩ := h.2.1 (v - 85) (by omega) (by omega)
  rw [show 85 + (v - 85) = v by omega] at b2 b3 b7
  have hw := h.2.2.2.1 (v - 85) (by omega) (by omega)
  refine ⟨⟨by omega, by omega⟩, b3, ⟨by omega, by omega⟩⟩
theorem jx_F {e : Int} {n : Nat} {χ τ : Hp} (h : RTx e n χ τ) : xF n χ := by
  have hn := h.1
  refine ⟨by omega, by omega, by omega, fun t t1 t2 => (h.2.1 t t1 (by omega)).1⟩
theorem jm_L {e : Int} {n : Nat} {χ τ : Hp} (h : RTx e n χ τ) : mL τ := ⟨h.1.1, h.1.2.1, h.2.2.2.1⟩
theorem j_drop {B : Int} {n : Nat} {χ τ : Hp} (h : JJ 0 B n χ τ) {t : Int} (t1 : 1 ≤ t) (t2 : t ≤ τ 1 22) (hl : τ 19 t ≤ 3) : JJ 0 (B + 60) n (f_rollBack χ (85 + t)) (m_drop τ t) ∧ ∀ b : Int, b ≠ 0 → b ≠ 1 → b ≠ 19 → b ≠ 20 → b ≠ 21 → m_drop τ t 1 b = τ 1 b := by
  have hN := h.1.2.1.1
  have hc : cntU (m_good τ t) (τ 1 0).toNat ≤ ((60 : Nat) : Int) := by
    have h1 := cntU_imp (p := m_good τ t) (q := fun i => decide (τ 2 i = 1)) (τ 1 0).toNat (fun i i1 i2 hp => by
      have := (open_of h.1 i1 (by omega) hp).1
      simpa using this)
    have h2 : cK τ 1 (τ 1 0) ≤ 60 := h.1.2.2.2.2.2.2.2.2.2.2.1.2
    unfold cK at h2
    omega
  obtain ⟨r1, r2, r3⟩ := j_rb (τ 1 0).toNat 60 B χ τ h t1 t2 (by omega) (fun i i1 i2 => by omega) hc
  have hmu : ∀ (ρ : Hp), m_unlock (st2 ρ 19 t 5) t 100 1 = ρ 1 := fun ρ => by
    funext b
    simp only [m_unlock]
    rw [if_neg (by omega), st2_ne (by decide)]
  refine ⟨?_, fun b b0 b1 b2 b3 b4 => by unfold m_drop; rw [hmu, r3 b b0 b1 b2 b3 b4]⟩
  unfold f_rollBack m_drop
  rw [h.1.1]
  refine j_leave r1 t1 (by rw [r3 22 (by decide) (by decide) (by decide) (by decide) (by decide)]; exact t2) (by rw [r2 19 (by decide)]; exact hl) ⟨by decide, by decide⟩
theorem ok_D {B : Int} {n : Nat} {χ τ : Hp} (h : JJ 0 B n χ τ) (hb : B + 60 < 2000000000) {t : Int} (t1 : 1 ≤ t) (t2 : t ≤ τ 1 22) : OkD τ t := by
  have h60 := h.2.2.1.1.2.1
  refine c_M_drop (P := fun k τ' => ∃ χ', JJ 0 (B + k) n χ' τ') (by omega) (by omega) ⟨χ, JJ_up h (by omega)⟩ ?_ ?_
  · rintro k τ' hk ⟨χ', h'⟩ ho
    rcases m_open_spec τ' t h'.1.2.1.1 with ⟨a, -⟩ | ⟨a1, a2, a3, -⟩
    · omega
    · obtain ⟨g1, g2, -⟩ := open_of h'.1 a1 a2 a3
      exact ⟨_, JJ_up (j_takeBack h' a1 a2 g1 g2).1 (by omega)⟩
  · rintro k τ' hk ⟨χ', h'⟩
    refine ⟨(jx_B h' (by omega)).2, h'.1.2.1.1, by have := h'.1.2.1.2; omega, fun ho => ?_⟩
    have := (m_open_le τ' t h'.1.2.1.1).1
    exact (h'.1.2.2.1 _ this).2.1
theorem ok_XR {B : Int} {n : Nat} {χ τ : Hp} (h : JJ 0 B n χ τ) (hb : B + 200 < 2000000000) {t : Int} (t1 : 1 ≤ t) (t2 : t ≤ τ 1 22) : OxR n χ (85 + t) := by
  have hn := h.2.2.1.1
  have hN := h.1.2.1
  have e11 := h.1.1
  refine c_X_rollBack (by omega) (by omega) (by omega) (by omega) (by omega) (P := fun k χ' => (k : Int) ≤ τ 1 0 ∧ ∃ τ', JJ 0 (B + (τ 1 0 - k)) n χ' τ' ∧ (k : Int) ≤ τ' 1 0 ∧ t ≤ τ' 1 22) ⟨by omega, τ, JJ_up h (by omega), by omega, t2⟩ ?_ ?_ ?_ ?_
  · rintro k χ' ⟨hk, τ', h', hk', t2'⟩ ⟨c1, c2⟩
    have hL := h'.1.2.2.2.1 ((k : Int) + 1) (by omega) (by omega)
    simp only [f_isOpen, Bool.and_eq_true, decide_eq_true_eq] at c2
    refine ⟨by omega, _, JJ_up (j_takeBack h' (show 1 ≤ (k : Int) + 1 by omega) (by omega) (by rw [← hL.2.1]; exact c2.1.1) c2.1.2).1 (by omega), ?_, ?_⟩
    · rw [tb_0]; omega
    · rw [tbk_1 _ _ (by decide) (by decide) (by decide) (by decide) (by decide)]; exact t2'
  · rintro k χ' ⟨hk, τ', h', hk', t2'⟩ -
    exact ⟨by omega, τ', JJ_up h' (by omega), by omega, t2'⟩
  · rintro k χ' ⟨hk, τ', h', hk', t2'⟩
    have hb1 := h'.1.2.2.1 ((k : Int) + 1) (by omega)
    refine ⟨by omega, hb1.2.2.1, (jx_B h' (by omega)).1, by rw [h'.1.1]; exact h'.1.2.1.1, fun ⟨c1, c2⟩ => ?_⟩
    have hL := h'.1.2.2.2.1 ((k : Int) + 1) (by omega) (by omega)
    simp only [f_isOpen, Bool.and_eq_true, decide_eq_true_eq] at c2
    have := (j_takeBack h' (show 1 ≤ (k : Int) + 1 by omega) (by omega) (by rw [← hL.2.1]; exact c2.1.1) c2.1.2).2.1
    exact ⟨by rw [h'.1.1]; exact this, hb1.1⟩
  · rintro χ' ⟨hk, τ', h', hk', t2'⟩
    exact (h'.2.2.1.2.1 t t1 t2').2.2.1
