-- ===== the ring of those that wait =====
def rN (τ : Hp) (t : Int) : Nat → Int → Bool
  | 0, v => m_waitsFor τ t v
  | k + 1, v => rN τ t k v || anyU (fun u => rN τ t k u && m_waitsFor τ u v) 1 (τ 1 22).toNat
theorem rN_s {τ : Hp} {t : Int} (hb : 0 ≤ τ 1 22) {k : Nat} {v : Int} : rN τ t (k + 1) v = true ↔ rN τ t k v = true ∨ ∃ u : Int, 1 ≤ u ∧ u ≤ τ 1 22 ∧ rN τ t k u = true ∧ m_waitsFor τ u v = true := by
  rw [show rN τ t (k + 1) v = (rN τ t k v || anyU (fun u => rN τ t k u && m_waitsFor τ u v) 1 (τ 1 22).toNat) from rfl, Bool.or_eq_true, anyU_iff]
  constructor
  · rintro (a | ⟨u, u1, u2, u3⟩)
    · exact Or.inl a
    · rw [Bool.and_eq_true] at u3
      exact Or.inr ⟨u, u1, by omega, u3.1, u3.2⟩
  · rintro (a | ⟨u, u1, u2, u3, u4⟩)
    · exact Or.inl a
    · exact Or.inr ⟨u, u1, by omega, by rw [u3, u4]; rfl⟩
theorem rN_up {τ : Hp} {t : Int} (hb : 0 ≤ τ 1 22) {v : Int} : ∀ (d k : Nat), rN τ t k v = true → rN τ t (k + d) v = true
  | 0, _, h => h
  | d + 1, k, h => (rN_s hb).mpr (Or.inl (rN_up hb d k h))
theorem wf_ed (τ : Hp) (u v : Int) : m_waitsFor τ u v = true ↔ τ 19 u = 2 ∧ m_ed τ u v = true := by
  unfold m_waitsFor m_ed
  rw [Bool.and_eq_true, decide_eq_true_eq]
theorem rN_live {e : Int} {n : Nat} {χ τ : Hp} (h : RTx e n χ τ) {t : Int} (t1 : 1 ≤ t) (t2 : t ≤ τ 1 22) {v : Int} (v1 : 1 ≤ v) (v2 : v ≤ τ 1 22) : ∀ k : Nat, rN τ t k v = true → τ 19 v ≤ 3
  | 0, hr => by
    have := (wf_ed τ t v).mp hr
    rcases Int.lt_or_le 3 (τ 19 v) with z | z
    · rw [m_ed_dead h t1 t2 v1 v2 z] at this; exact absurd this.2 (by decide)
    · exact z
  | k + 1, hr => by
    rcases (rN_s h.1.1).mp hr with a | ⟨u, u1, u2, u3, u4⟩
    · exact rN_live h t1 t2 v1 v2 k a
    · have := (wf_ed τ u v).mp u4
      rcases Int.lt_or_le 3 (τ 19 v) with z | z
      · rw [m_ed_dead h u1 u2 v1 v2 z] at this; exact absurd this.2 (by decide)
      · exact z
theorem cntU_eq {p q : Int → Bool} : ∀ k : Nat, (∀ i, 1 ≤ i → i ≤ (k : Int) → p i = true → q i = true) → cntU q k ≤ cntU p k → ∀ i, 1 ≤ i → i ≤ (k : Int) → q i = true → p i = true
  | 0, _, _, i, i1, i2, _ => by omega
  | k + 1, h, hc, i, i1, i2, hq => by
    have h1 := cntU_imp k (fun i a b => h i a (by omega))
    have h2 := h ((k : Int) + 1) (by omega) (by omega)
    have e1 : cntU p (k + 1) = cntU p k + b2i (p ((k : Int) + 1)) := rfl
    have e2 : cntU q (k + 1) = cntU q k + b2i (q ((k : Int) + 1)) := rfl
    have c1 := b2i_b (p ((k : Int) + 1))
    have c2 := b2i_b (q ((k : Int) + 1))
    have c3 : b2i (p ((k : Int) + 1)) ≤ b2i (q ((k : Int) + 1)) := by
      cases hp : p ((k : Int) + 1) with
      | false => rw [show b2i false = 0 from rfl]; omega
      | true => rw [h2 hp]; exact Int.le_refl _
    by_cases hi : i = (k : Int) + 1
    · rw [hi] at hq ⊢
      cases hp : p ((k : Int) + 1) with
      | true => rfl
      | false =>
        rw [hp, show b2i false = 0 from rfl] at e1
        rw [hq, show b2i true = 1 from rfl] at e2
        omega
    · exact cntU_eq k (fun i a b => h i a (by omega)) (by omega) i i1 (by omega) hq
theorem rN_stab {τ : Hp} {t : Int} (hb : 0 ≤ τ 1 22) {k : Nat} (hs : ∀ v : Int, 1 ≤ v → v ≤ τ 1 22 → rN τ t (k + 1) v = true → rN τ t k v = true) : ∀ (d : Nat) (v : Int), 1 ≤ v → v ≤ τ 1 22 → rN τ t (k + d) v = true → rN τ t k v = true
  | 0, _, _, _, h => h
  | d + 1, v, v1, v2, h => by
    rcases (rN_s (k := k + d) hb).mp h with a | ⟨u, u1, u2, u3, u4⟩
    · exact rN_stab hb hs d v v1 v2 a
    · exact hs v v1 v2 ((rN_s hb).mpr (Or.inr ⟨u, u1, u2, rN_stab hb hs d u u1 u2 u3, u4⟩))
theorem rN_3 {e : Int} {n : Nat} {χ τ : Hp} (h : RTx e n χ τ) {t : Int} (t1 : 1 ≤ t) (t2 : t ≤ τ 1 22) {k : Nat} {v : Int} (v1 : 1 ≤ v) (v2 : v ≤ τ 1 22) (hr : rN τ t k v = true) : rN τ t 3 v = true := by
  have hb := h.1.1
  have hst : ∃ j : Nat, j ≤ 3 ∧ ∀ v : Int, 1 ≤ v → v ≤ τ 1 22 → rN τ t (j + 1) v = true → rN τ t j v = true := by
    have cmon : ∀ j : Nat, cntU (rN τ t j) (τ 1 22).toNat ≤ cntU (rN τ t (j + 1)) (τ 1 22).toNat := fun j => cntU_imp _ (fun i i1 i2 hp => (rN_s hb).mpr (Or.inl hp))
    have ceq : ∀ j : Nat, cntU (rN τ t (j + 1)) (τ 1 22).toNat ≤ cntU (rN τ t j) (τ 1 22).toNat → ∀ v : Int, 1 ≤ v → v ≤ τ 1 22 → rN τ t (j + 1) v = true → rN τ t j v = true := fun j hc v w1 w2 hv => cntU_eq _ (fun i i1 i2 hp => (rN_s hb).mpr (Or.inl hp)) hc v w1 (by omega) hv
    have c4 : cntU (rN τ t 4) (τ 1 22).toNat ≤ 4 := by
      have h1 := cntU_imp (p := rN τ t 4) (q := m_live τ) (τ 1 22).toNat (fun i i1 i2 hp => by
        have := rN_live h t1 t2 i1 (by omega) 4 hp
        have := (h.2.1 i i1 (by omega)).2.2.2.2.2.2.2.2.2.1
        simp only [m_live, Bool.and_eq_true, decide_eq_true_eq]
        omega)
      have h2 := r_live h
      have h3 := (cntU_le (fun s => decide (¬ χ 77 (s - 1) = 0)) 4).2
      unfold occ at h2
      omega
    have c0 := (cntU_le (rN τ t 0) (τ 1 22).toNat).1
    by_cases s0 : cntU (rN τ t 1) (τ 1 22).toNat ≤ cntU (rN τ t 0) (τ 1 22).toNat
    · exact ⟨0, by omega, ceq 0 s0⟩
    · by_cases s1 : cntU (rN τ t 2) (τ 1 22).toNat ≤ cntU (rN τ t 1) (τ 1 22).toNat
      · exact ⟨1, by omega, ceq 1 s1⟩
      · by_cases s2 : cntU (rN τ t 3) (τ 1 22).toNat ≤ cntU (rN τ t 2) (τ 1 22).toNat
        · exact ⟨2, by omega, ceq 2 s2⟩
        · by_cases s3 : cntU (rN τ t 4) (τ 1 22).toNat ≤ cntU (rN τ t 3) (τ 1 22).toNat
          · exact ⟨3, by omega, ceq 3 s3⟩
          · exfalso
            have z0 : cntU (rN τ t 0) (τ 1 22).toNat = 0 := by omega
            have hno : ∀ v : Int, 1 ≤ v → v ≤ τ 1 22 → rN τ t 0 v = true → False := fun v w1 w2 hv => by
              have := cntU_eq (p := fun _ => false) (q := rN τ t 0) (τ 1 22).toNat (fun i _ _ hp => by cases hp) (by
                have := (cntU_le (fun _ => false) (τ 1 22).toNat).1
                omega) v w1 (by omega) hv
              cases this
            have : cntU (rN τ t 1) (τ 1 22).toNat ≤ cntU (rN τ t 0) (τ 1 22).toNat := cntU_imp _ (fun i i1 i2 hp => by
              rcases (rN_s hb).mp hp with a | ⟨u, u1, u2, u3, u4⟩
              · exact a
              · exact (hno u u1 u2 u3).elim)
            omega
  obtain ⟨j, hj, hs⟩ := hst
  have h1 : rN τ t j v = true ∨ k ≤ j := by
    rcases Nat.le_total j k with z | z
    · left
      rw [show k = j + (k - j) by omega] at hr
      exact rN_stab hb hs _ v v1 v2 hr
    · exact Or.inr z
  rcases h1 with h1 | h1
  · have := rN_up hb (3 - j) j h1
    rw [show j + (3 - j) = 3 by omega] at this
    exact this
  · have := rN_up hb (3 - k) k hr
    rw [show k + (3 - k) = 3 by omega] at this
    exact this
-- the reference's marks
def rQ (τ : Hp) (t : Int) (ρ : Hp) : Prop := (∀ a : Int, a ≠ 27 → ρ a = τ a) ∧ ∀ v : Int, 1 ≤ v → v ≤ τ 1 22 → (ρ 27 v = 0 ∨ ρ 27 v = 1) ∧ (ρ 27 v = 1 → ∃ k, rN τ t k v = true)
theorem rQ_st {τ ρ : Hp} {t v x : Int} (h : rQ τ t ρ) (hx : x = 0 ∨ x = 1) (hs : x = 1 → ∃ k, rN τ t k v = true) : rQ τ t (st2 ρ 27 v x) := by
  refine ⟨fun a ha => by rw [st2_ne ha]; exact h.1 a ha, fun w w1 w2 => ?_⟩
  rw [st2_at]
  by_cases hw : w = v
  · rw [if_pos hw, hw]; exact ⟨hx, hs⟩
  · rw [if_neg hw]; exact h.2 w w1 w2
theorem r0_spec {τ : Hp} {t : Int} : ∀ (k : Nat) (u : Int) (ρ : Hp), (∀ a : Int, a ≠ 27 → ρ a = τ a) → (∀ a : Int, a ≠ 27 → m_r0 t k u ρ a = τ a) ∧ (∀ v : Int, u ≤ v → v < u + k → m_r0 t k u ρ 27 v = b2i (m_waitsFor τ t v)) ∧ ∀ v : Int, v < u → m_r0 t k u ρ 27 v = ρ 27 v
  | 0, u, ρ, h => ⟨h, fun v h1 h2 => by omega, fun _ _ => rfl⟩
  | k + 1, u, ρ, h => by
    have e := m_waitsFor_fr h t u
    obtain ⟨i1, i2, i3⟩ := r0_spec (τ := τ) (t := t) k (u + 1) (st2 ρ 27 u (b2i (m_waitsFor ρ t u))) (st2_fr h _ _)
    refine ⟨i1, fun v h1 h2 => ?_, fun v hv => ?_⟩
    · by_cases hv : v = u
      · subst hv
        show m_r0 t k (v + 1) _ 27 v = _
        rw [i3 v (by omega), st2_eq, e]
      · exact i2 v (by omega) (by omega)
    · show m_r0 t k (u + 1) _ 27 v = _
      rw [i3 v (by omega), st2_ii (by omega)]
theorem rv_spec {τ : Hp} {t u : Int} (hb : 0 ≤ τ 1 22) (u1 : 1 ≤ u) (u2 : u ≤ τ 1 22) : ∀ (k : Nat) (v : Int) (ρ : Hp), rQ τ t ρ → 1 ≤ v → v + k ≤ τ 1 22 + 1 → rQ τ t (m_rv u k v ρ) ∧ (∀ w : Int, 1 ≤ w → w ≤ τ 1 22 → ρ 27 w = 1 → m_rv u k v ρ 27 w = 1) ∧ (ρ 27 u = 1 → ∀ w : Int, v ≤ w → w < v + k → m_waitsFor τ u w = true → m_rv u k v ρ 27 w = 1)
  | 0, v, ρ, h, _, _ => ⟨h, fun _ _ _ z => z, fun _ w w1 w2 _ => by omega⟩
  | k + 1, v, ρ, h, v1, v2 => by
    rw [show m_rv u (k + 1) v ρ = if ρ 27 u = 0 then ρ else m_rv u k (v + 1) (st2 ρ 27 v (if ¬ ρ 27 v = 0 ∨ m_waitsFor ρ u v = true then 1 else 0)) from rfl]
    by_cases hz : ρ 27 u = 0
    · rw [if_pos hz]
      exact ⟨h, fun _ _ _ z => z, fun z => by omega⟩
    · rw [if_neg hz]
      have hu1 : ρ 27 u = 1 := (h.2 u u1 u2).1.resolve_left hz
      have e := m_waitsFor_fr h.1 u v
      obtain ⟨ku, hku⟩ := (h.2 u u1 u2).2 hu1
      have hv := h.2 v v1 (by omega)
      rw [e]
      have hq : rQ τ t (st2 ρ 27 v (if ¬ ρ 27 v = 0 ∨ m_waitsFor τ u v = true then 1 else 0)) := by
        refine rQ_st h ?_ ?_
        · split
          · exact Or.inr rfl
          · exact Or.inl rfl
        · intro z
          split at z
          · rename_i hc
            rcases hc with hc | hc
            · exact hv.2 (hv.1.resolve_left hc)
            · exact ⟨ku + 1, (rN_s hb).mpr (Or.inr ⟨u, u1, u2, hku, hc⟩)⟩
          · omega
      obtain ⟨i1, i2, i3⟩ := rv_spec hb u1 u2 k (v + 1) _ hq (by omega) (by omega)
      have hmono : ∀ w : Int, ρ 27 w = 1 → st2 ρ 27 v (if ¬ ρ 27 v = 0 ∨ m_waitsFor τ u v = true then 1 else 0) 27 w = 1 := fun w hw => by
        rw [st2_at]
        split
        · rename_i hwv
          rw [hwv] at hw
          rw [if_pos (Or.inl (by omega))]
        · exact hw
      refine ⟨i1, fun w w1 w2 hw => i2 w w1 w2 (hmono w hw), fun _ w w1 w2 hw => ?_⟩
      by_cases hwv : w = v
      · subst hwv
        refine i2 w v1 (by omega) ?_
        rw [st2_eq, if_pos (Or.inr hw)]
      · exact i3 (hmono u hu1) w (by omega) (by omega) hw
theorem ru_spec {τ : Hp} {t : Int} (hb : 0 ≤ τ 1 22) : ∀ (k : Nat) (u : Int) (ρ : Hp), rQ τ t ρ → 1 ≤ u → u + k ≤ τ 1 22 + 1 → rQ τ t (m_ru (τ 1 22).toNat k u ρ) ∧ (∀ w : Int, 1 ≤ w → w ≤ τ 1 22 → ρ 27 w = 1 → m_ru (τ 1 22).toNat k u ρ 27 w = 1) ∧ (∀ x w : Int, u ≤ x → x < u + k → 1 ≤ w → w ≤ τ 1 22 → ρ 27 x = 1 → m_waitsFor τ x w = true → m_ru (τ 1 22).toNat k u ρ 27 w = 1)
  | 0, u, ρ, h, _, _ => ⟨h, fun _ _ _ z => z, fun x w x1 x2 => by omega⟩
  | k + 1, u, ρ, h, u1, u2 => by
    rw [show m_ru (τ 1 22).toNat (k + 1) u ρ = m_ru (τ 1 22).toNat k (u + 1) (m_rv u (τ 1 22).toNat 1 ρ) from rfl]
    obtain ⟨j1, j2, j3⟩ := rv_spec hb u1 (by omega) (τ 1 22).toNat 1 ρ h (by omega) (by omega)
    obtain ⟨i1, i2, i3⟩ := ru_spec hb k (u + 1) _ j1 (by omega) (by omega)
    refine ⟨i1, fun w w1 w2 hw => i2 w w1 w2 (j2 w w1 w2 hw), fun x w x1 x2 w1 w2 hx hw => ?_⟩
    by_cases hxu : x = u
    · subst hxu
      exact i2 w w1 w2 (j3 hx w w1 (by omega) hw)
    · exact i3 x w (by omega) (by omega) w1 w2 (j2 x (by omega) (by omega) hx) hw
theorem rr_spec {τ : Hp} {t : Int} (hb : 0 ≤ τ 1 22) : ∀ (k j : Nat) (ρ : Hp), rQ τ t ρ → (∀ v : Int, 1 ≤ v → v ≤ τ 1 22 → rN τ t j v = true → ρ 27 v = 1) → rQ τ t (m_rr (τ 1 22).toNat k ρ) ∧ ∀ v : Int, 1 ≤ v → v ≤ τ 1 22 → rN τ t (j + k) v = true → m_rr (τ 1 22).toNat k ρ 27 v = 1
  | 0, j, ρ, h, hc => ⟨h, hc⟩
  | k + 1, j, ρ, h, hc => by
    rw [show m_rr (τ 1 22).toNat (k + 1) ρ = m_rr (τ 1 22).toNat k (m_ru (τ 1 22).toNat (τ 1 22).toNat 1 ρ) from rfl]
    obtain ⟨i1, i2, i3⟩ := ru_spec hb (τ 1 22).toNat 1 ρ h (by omega) (by omega)
    have := rr_spec hb k (j + 1) _ i1 (fun v v1 v2 hv => by
      rcases (rN_s hb).mp hv with a | ⟨u, u1, u2, u3, u4⟩
      · exact i2 v v1 v2 (hc v v1 v2 a)
      · exact i3 u v u1 (by omega) v1 v2 (hc u u1 u2 u3) u4)
    rw [show j + (k + 1) = j + 1 + k by omega]
    exact this
theorem r_ringM {e : Int} {n : Nat} {χ τ : Hp} (h : RTx e n χ τ) {t : Int} (t1 : 1 ≤ t) (t2 : t ≤ τ 1 22) : (∀ a : Int, a ≠ 27 → m_ring τ t a = τ a) ∧ (m_ring τ t 27 t = 0 ∨ m_ring τ t 27 t = 1) ∧ (m_ring τ t 27 t = 1 ↔ rN τ t 3 t = true) := by
  have hb := h.1.1
  obtain ⟨a1, a2, a3⟩ := r0_spec (τ := τ) (t := t) (τ 1 22).toNat 1 τ (fun _ _ => rfl)
  have hq : rQ τ t (m_r0 t (τ 1 22).toNat 1 τ) := ⟨a1, fun v v1 v2 => by
    rw [a2 v v1 (by omega)]
    refine ⟨b2i_b _, fun z => ⟨0, ?_⟩⟩
    show m_waitsFor τ t v = true
    cases hw : m_waitsFor τ t v with
    | true => rfl
    | false => rw [hw] at z; exact absurd z (by decide)⟩
  obtain ⟨r1, r2⟩ := rr_spec hb 4 0 _ hq (fun v v1 v2 hv => by
    rw [a2 v v1 (by omega)]
    have : m_waitsFor τ t v = true := hv
    rw [this]; rfl)
  have e0 : m_rr (τ 1 22).toNat 4 (m_r0 t (τ 1 22).toNat 1 τ) = m_ring τ t := rfl
  rw [e0] at r1 r2
  refine ⟨r1.1, (r1.2 t t1 t2).1, fun z => ?_, fun z => r2 t t1 t2 (rN_up hb 1 3 z)⟩
  obtain ⟨k, hk⟩ := (r1.2 t t1 t2).2 z
  exact rN_3 h t1 t2 t1 t2 hk
-- the class's bits
theorem f_stp_bt (χ : Hp) (m : Int) : ∀ (k : Nat) (w : Int), 0 ≤ w → (bt (f_stp χ m k) w = true ↔ ∃ s : Int, 0 ≤ s ∧ s < (k : Int) ∧ bt m s = true ∧ ¬ χ 77 s = 0 ∧ χ (χ 77 s) 2 = 2 ∧ bt (f_obs χ (χ 77 s) 4) w = true)
  | 0, w, h => by
    rw [show f_stp χ m 0 = 0 from rfl, bt_0]
    constructor
    · intro z; cases z
    · rintro ⟨s, s0, s1, -⟩; omega
  | k + 1, w, h => by
    have ih := f_stp_bt χ m k w h
    unfold f_stp
    by_cases hk : bsr m (k : Int) % 2 = 1 ∧ ¬ χ 77 (k : Int) = 0 ∧ χ (χ 77 (k : Int)) 2 = 2
    · rw [if_pos hk, bt_or, Bool.or_eq_true, ih]
      constructor
      · rintro (⟨s, s0, s1, s2⟩ | a)
        · exact ⟨s, s0, by omega, s2⟩
        · exact ⟨(k : Int), by omega, by omega, bt_iff.mp hk.1, hk.2.1, hk.2.2, a⟩
      · rintro ⟨s, s0, s1, s2, s3, s4, s5⟩
        by_cases es : s = (k : Int)
        · rw [es] at s5; exact Or.inr s5
        · exact Or.inl ⟨s, s0, by omega, s2, s3, s4, s5⟩
    · rw [if_neg hk, ih]
      constructor
      · rintro ⟨s, s0, s1, s2⟩; exact ⟨s, s0, by omega, s2⟩
      · rintro ⟨s, s0, s1, s2, s3, s4, s5⟩
        by_cases es : s = (k : Int)
        · rw [es] at s2 s3 s4; exact absurd ⟨bt_iff.mpr s2, s3, s4⟩ hk
        · exact ⟨s, s0, by omega, s2, s3, s4, s5⟩
def mskE (χ τ : Hp) (t : Int) (j : Nat) (m : Int) : Prop := ∀ s : Int, 0 ≤ s → s < 4 → (bt m s = true ↔ ∃ v : Int, 1 ≤ v ∧ v ≤ τ 1 22 ∧ χ 77 s = 85 + v ∧ rN τ t j v = true)
theorem ob_bt {e : Int} {n : Nat} {χ τ : Hp} (h : RTx e n χ τ) {t s : Int} (t1 : 1 ≤ t) (t2 : t ≤ τ 1 22) (hl : τ 19 t = 2) (s0 : 0 ≤ s) (s1 : s < 4) : bt (f_obs χ (85 + t) 4) s = true ↔ ∃ v : Int, 1 ≤ v ∧ v ≤ τ 1 22 ∧ χ 77 s = 85 + v ∧ m_waitsFor τ t v = true := by
  rw [f_obs_bt χ (85 + t) 4 s s0]
  rcases r_ob h t1 t2 (by omega) s0 s1 with ⟨z, z2⟩ | ⟨v, v1, v2, v3, v4, v5, v6⟩
  · rw [z2]
    constructor
    · rintro ⟨-, y⟩; cases y
    · rintro ⟨v, v1, v2, v3, -⟩; omega
  · rw [v6]
    constructor
    · rintro ⟨-, y⟩
      exact ⟨v, v1, v2, v3, (wf_ed τ t v).mpr ⟨hl, y⟩⟩
    · rintro ⟨u, u1, u2, u3, u4⟩
      have : u = v := by omega
      subst this
      exact ⟨s1, ((wf_ed τ t u).mp u4).2⟩
theorem msk_0 {e : Int} {n : Nat} {χ τ : Hp} (h : RTx e n χ τ) {t : Int} (t1 : 1 ≤ t) (t2 : t ≤ τ 1 22) (hl : τ 19 t = 2) : mskE χ τ t 0 (f_obs χ (85 + t) 4) := fun s s0 s1 => ob_bt h t1 t2 hl s0 s1
theorem msk_s {e : Int} {n : Nat} {χ τ : Hp} (h : RTx e n χ τ) {t : Int} (t1 : 1 ≤ t) (t2 : t ≤ τ 1 22) {j : Nat} {m : Int} (hm : mskE χ τ t j m) : mskE χ τ t (j + 1) (bor m (f_stp χ m 4)) := fun s s0 s1 => by
  rw [bt_or, Bool.or_eq_true, hm s s0 s1, f_stp_bt χ m 4 s s0]
  constructor
  · rintro (⟨v, v1, v2, v3, v4⟩ | ⟨w, w0, w1, w2, w3, w4, w5⟩)
    · exact ⟨v, v1, v2, v3, (rN_s h.1.1).mpr (Or.inl v4)⟩
    · obtain ⟨u, u1, u2, u3, u4⟩ := (hm w w0 (by omega)).mp w2
      have hu2 : τ 19 u = 2 := by rw [u3] at w4; rw [← (h.2.1 u u1 u2).2.2.2.1]; exact w4
      rw [u3] at w5
      obtain ⟨v, v1, v2, v3, v4⟩ := (ob_bt h u1 u2 hu2 s0 s1).mp w5
      exact ⟨v, v1, v2, v3, (rN_s h.1.1).mpr (Or.inr ⟨u, u1, u2, u4, v4⟩)⟩
  · rintro ⟨v, v1, v2, v3, v4⟩
    rcases (rN_s h.1.1).mp v4 with a | ⟨u, u1, u2, u3, u4⟩
    · exact Or.inl ⟨v, v1, v2, v3, a⟩
    · right
      have hul := rN_live h t1 t2 u1 u2 j u3
      have hu2 := ((wf_ed τ u v).mp u4).1
      obtain ⟨p1, p2, -⟩ := r_seat h u1 u2 hul
      refine ⟨χ (85 + u) 1, p2.1, p2.2, (hm _ p2.1 p2.2).mpr ⟨u, u1, u2, p1, u3⟩, by omega, ?_, ?_⟩
      · rw [p1, (h.2.1 u u1 u2).2.2.2.1]; exact hu2
      · rw [p1]; exact (ob_bt h u1 u2 hu2 s0 s1).mpr ⟨v, v1, v2, v3, u4⟩
theorem r_ringX {e : Int} {n : Nat} {χ τ : Hp} (h : RTx e n χ τ) {t : Int} (t1 : 1 ≤ t) (t2 : t ≤ τ 1 22) (hl : τ 19 t = 2) : f_wfi χ (85 + t) = true ↔ rN τ t 3 t = true := by
  have m3 := msk_s h t1 t2 (msk_s h t1 t2 (msk_s h t1 t2 (msk_0 h t1 t2 hl)))
  obtain ⟨p1, p2, -⟩ := r_seat h t1 t2 (by omega)
  unfold f_wfi
  rw [decide_eq_true_eq, bt_iff]
  show bt (bor (bor (bor (f_obs χ (85 + t) 4) (f_stp χ (f_obs χ (85 + t) 4) 4)) _) _) _ = true ↔ _
  rw [m3 _ p2.1 p2.2]
  constructor
  · rintro ⟨v, v1, v2, v3, v4⟩
    have : v = t := by omega
    subst this; exact v4
  · intro z
    exact ⟨t, t1, t2, p1, z⟩
