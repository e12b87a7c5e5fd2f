-- ===== the log: the four kinds of record =====
def m_rec1 (τ : Hp) (o x kb vb k v : Int) : Hp := st2 (st2 (st2 (st2 (m_put τ 1 o x) 5 (τ 1 0 + 1) kb) 6 (τ 1 0 + 1) vb) 7 (τ 1 0 + 1) k) 8 (τ 1 0 + 1) v
def m_rec2 (τ : Hp) (u : Int) : Hp := st2 (st2 (st2 (m_put τ 2 (τ 3 u) (τ 4 u)) 9 (τ 1 0 + 1) u) 7 (τ 1 0 + 1) (τ 5 u)) 8 (τ 1 0 + 1) (τ 6 u)
theorem m_put_c {τ : Hp} {k t x a : Int} (h1 : a ≠ 1) (h2 : a ≠ 2) (h3 : a ≠ 3) (h4 : a ≠ 4) : m_put τ k t x a = τ a := by
  funext b
  simp [m_put_eq, h1, h2, h3, h4]
theorem m_put_b {τ : Hp} {k t x b : Int} (h : b ≠ 0) : m_put τ k t x 1 b = τ 1 b := by
  simp [m_put_eq, h]
theorem m_rec1_c {τ : Hp} {o x kb vb k v a : Int} (h1 : a ≠ 1) (h : a < 2 ∨ 8 < a) : m_rec1 τ o x kb vb k v a = τ a := by
  unfold m_rec1
  rw [st2_ne (by omega), st2_ne (by omega), st2_ne (by omega), st2_ne (by omega), m_put_c h1 (by omega) (by omega) (by omega)]
theorem m_rec1_b {τ : Hp} {o x kb vb k v b : Int} (h : b ≠ 0) : m_rec1 τ o x kb vb k v 1 b = τ 1 b := by
  unfold m_rec1
  rw [st2_ne (by omega), st2_ne (by omega), st2_ne (by omega), st2_ne (by omega), m_put_b h]
theorem m_rec1_0 {τ : Hp} {o x kb vb k v : Int} : m_rec1 τ o x kb vb k v 1 0 = τ 1 0 + 1 := by
  unfold m_rec1
  rw [st2_ne (by omega), st2_ne (by omega), st2_ne (by omega), st2_ne (by omega), m_put_0]
theorem m_rec2_c {τ : Hp} {u a : Int} (h1 : a ≠ 1) (h : a < 2 ∨ 9 < a) : m_rec2 τ u a = τ a := by
  unfold m_rec2
  rw [st2_ne (by omega), st2_ne (by omega), st2_ne (by omega), m_put_c h1 (by omega) (by omega) (by omega)]
theorem m_rec2_b {τ : Hp} {u b : Int} (h : b ≠ 0) : m_rec2 τ u 1 b = τ 1 b := by
  unfold m_rec2
  rw [st2_ne (by omega), st2_ne (by omega), st2_ne (by omega), m_put_b h]
theorem m_rec2_0 {τ : Hp} {u : Int} : m_rec2 τ u 1 0 = τ 1 0 + 1 := by
  unfold m_rec2
  rw [st2_ne (by omega), st2_ne (by omega), st2_ne (by omega), m_put_0]
theorem f_append_c {χ : Hp} {k o a : Int} (h2 : a ≠ 2) (h3 : a ≠ 3) (h4 : a ≠ 4) (h10 : a ≠ 10) : f_append χ k o a = χ a := by
  funext b
  simp [f_append_eq, h2, h3, h4, h10]
theorem f_append_b {χ : Hp} {k o b : Int} (h : b ≠ 11) : f_append χ k o 2 b = χ 2 b := by
  simp [f_append_eq, h]
theorem f_addUpdate_c {χ : Hp} {o pl kb vb k v a : Int} (h : a < 2 ∨ 10 < a) : f_addUpdate χ o pl kb vb k v a = χ a := by
  simp only [f_addUpdate]
  rw [st2_ne (by omega), st2_ne (by omega), st2_ne (by omega), st2_ne (by omega), st2_ne (by omega), st2_ne (by omega), f_append_c (by omega) (by omega) (by omega) (by omega)]
theorem f_addUpdate_b {χ : Hp} {o pl kb vb k v b : Int} (h : b ≠ 11) (h13 : b ≠ 13) : f_addUpdate χ o pl kb vb k v 2 b = χ 2 b := by
  simp only [f_addUpdate]
  rw [st2_ii h13, st2_ne (by omega), st2_ne (by omega), st2_ne (by omega), st2_ne (by omega), st2_ne (by omega), f_append_b h]
theorem f_addClr_c {χ : Hp} {u a : Int} (h : a < 2 ∨ 10 < a) : f_addClr χ u a = χ a := by
  simp only [f_addClr]
  rw [st2_ne (by omega), st2_ne (by omega), st2_ne (by omega), st2_ne (by omega), st2_ne (by omega), f_append_c (by omega) (by omega) (by omega) (by omega)]
theorem f_addClr_b {χ : Hp} {u b : Int} (h : b ≠ 11) : f_addClr χ u 2 b = χ 2 b := by
  simp only [f_addClr]
  rw [st2_ne (by omega), st2_ne (by omega), st2_ne (by omega), st2_ne (by omega), st2_ne (by omega), f_append_b h]
theorem r_update {χ τ : Hp} (h : RLog χ τ) {o x kb vb k v : Int} (hN : τ 1 0 < 200) (hc : cK τ 1 (τ 1 0) < 60) (ho : 1 ≤ o ∧ o ≤ 60) (hx : 0 ≤ x ∧ x < 24) (hkb : -1 ≤ kb ∧ kb ≤ 99) (hk : -1 ≤ k ∧ k ≤ 99) : RLog (f_addUpdate χ o x kb vb k v) (m_rec1 τ o x kb vb k v) := by
  obtain ⟨e, hL⟩ := h
  refine ⟨?_, ?_⟩
  · rw [m_rec1_0, ← e]; simp [f_addUpdate, f_append_eq, st2]
  rw [m_rec1_0]
  refine r_append (k := 1) (o := o) (y := x) (u := 0) hL hN (by omega) (by omega) hx (fun i => ?_) (fun i => ?_) (fun i => ?_) (fun i => ?_) (fun i => ?_) (fun i hi => ?_) ?_ (fun _ => ?_) (fun _ => ?_) (fun i hi _ => ?_) (fun _ => ?_) (fun z => by omega) (fun _ => ?_) (fun z => by omega) ?_ (fun _ => hc) ?_ (fun z => by omega) (fun c c0 c1 _ => ?_) (fun z => by omega) (fun b _ => ?_) ?_
  · simp [f_addUpdate, f_append_eq, st2, e]
  · simp [f_addUpdate, f_append_eq, st2, e]
  · simp [m_rec1, m_put_eq, st2]
  · simp [m_rec1, m_put_eq, st2]
  · simp [m_rec1, m_put_eq, st2]
  · simp [f_addUpdate, f_append_eq, m_rec1, m_put_eq, st2, e, hi]
  · simp [f_addUpdate, f_append_eq, st2, e]; exact hx
  · simp [f_addUpdate, f_append_eq, m_rec1, m_put_eq, st2, e]; exact hk
  · simp [f_addUpdate, f_append_eq, m_rec1, m_put_eq, st2, e]; exact ⟨hkb, ho.1⟩
  · simp [f_addUpdate, f_append_eq, st2, e, hi]
  · simp [f_addUpdate, f_append_eq, st2, e]
  · funext b; simp [f_addUpdate, f_append_eq, st2]
  · simp [f_addUpdate, f_append_eq, st2]
  · simp [f_addUpdate, f_append_eq, st2]
  · rw [f_addUpdate_c (by omega), f_addUpdate_c (by omega)]; exact ⟨rfl, rfl⟩
  · rw [m_rec1_c (by decide) (by decide)]
  · rw [m_rec1_b (by decide)]
theorem r_clr {χ τ : Hp} (h : RLog χ τ) {u : Int} (hN : τ 1 0 < 200) (u1 : 1 ≤ u) (u2 : u ≤ τ 1 0) (hu : τ 2 u = 1) (hz : χ 10 u = 0) : RLog (f_addClr χ u) (m_rec2 τ u) := by
  obtain ⟨e, hL⟩ := h
  obtain ⟨b1, b2, b3, b4⟩ := hL.2.1 u (by omega)
  obtain ⟨k1, k2, k3, k4⟩ := hL.2.2.1 u u1 u2
  obtain ⟨p1, p2, p3, p4, p5⟩ := hL.2.2.2.1 u u1 u2 (by omega)
  obtain ⟨q1, q2, q3, q4⟩ := hL.2.2.2.2.1 u u1 u2 hu
  have hne : ¬ τ 1 0 + 1 = u := by omega
  have hne2 : ¬ u = τ 1 0 + 1 := by omega
  refine ⟨?_, ?_⟩
  · rw [m_rec2_0, ← e]; simp [f_addClr, f_append_eq, st2]
  rw [m_rec2_0]
  refine r_append (k := 2) (o := τ 3 u) (y := τ 4 u) (u := u) hL hN (by omega) b4 b2 (fun i => ?_) (fun i => ?_) (fun i => ?_) (fun i => ?_) (fun i => ?_) (fun i hi => ?_) ?_ (fun _ => ?_) (fun z => by omega) (fun i hi hi2 => ?_) (fun z => by omega) (fun _ => ?_) (fun _ => ?_) (fun z => by omega) ?_ (fun z => by omega) ?_ (fun z => by omega) (fun c c0 c1 _ => ?_) (fun z => by omega) (fun b _ => ?_) ?_
  · simp [f_addClr, f_append_eq, st2, e]
  · simp [f_addClr, f_append_eq, st2, e, k3]
  · simp [m_rec2, m_put_eq, st2]
  · simp [m_rec2, m_put_eq, st2]
  · simp [m_rec2, m_put_eq, st2]
  · simp [f_addClr, f_append_eq, m_rec2, m_put_eq, st2, e, hi]
  · simp [f_addClr, f_append_eq, st2, e]; exact b1
  · simp [f_addClr, f_append_eq, m_rec2, m_put_eq, st2, e, p1, q1, q2, hne2]; omega
  · have hi2 := hi2 rfl
    simp [f_addClr, f_append_eq, st2, e, hi, hi2]
  · simp [f_addClr, f_append_eq, m_rec2, m_put_eq, st2, e, hne, hz, hu]; omega
  · funext b; simp [f_addClr, f_append_eq, st2]
  · simp [f_addClr, f_append_eq, st2]
  · simp [f_addClr, f_append_eq, st2]
  · rw [f_addClr_c (by omega), f_addClr_c (by omega)]; exact ⟨rfl, rfl⟩
  · rw [m_rec2_c (by decide) (by decide)]
  · rw [m_rec2_b (by decide)]
theorem r_commit {χ τ : Hp} (h : RLog χ τ) {t : Int} (hN : τ 1 0 < 200) (t1 : 1 ≤ t) (t2 : t ≤ τ 1 22) (t3 : t ≤ 60) (hz : χ 11 t = 0) : RLog (f_addCommit χ t) (m_put τ 3 t 0) := by
  obtain ⟨e, hL⟩ := h
  have b1 := (hL.2.1 (τ 1 0 + 1) (by have := hL.1.1; omega)).1
  refine ⟨?_, ?_⟩
  · rw [m_put_0, ← e]; simp [f_addCommit, f_append_eq, st2]
  rw [m_put_0]
  refine r_append (k := 3) (o := t) (y := 0) (u := 0) hL hN (by omega) (by omega) (by omega) (fun i => ?_) (fun i => ?_) (fun i => ?_) (fun i => ?_) (fun i => ?_) (fun i hi => ?_) ?_ (fun z => by omega) (fun z => by omega) (fun i hi hi2 => ?_) (fun z => ?_) (fun z => by omega) (fun z => by omega) (fun _ => ⟨fun s => ?_, t1, t2, hz⟩) ?_ (fun z => by omega) ?_ (fun z => by omega) (fun c c0 c1 _ => ?_) (fun z => by omega) (fun b _ => ?_) ?_
  · simp [f_addCommit, f_append_eq, st2, e]
  · simp [f_addCommit, f_append_eq, st2, e]
  · simp [m_put_eq]
  · simp [m_put_eq]
  · simp [m_put_eq]
  · simp [f_addCommit, f_append_eq, m_put_eq, st2, e]
  · simp [f_addCommit, f_append_eq, st2, e]; exact b1
  · simp [f_addCommit, f_append_eq, st2, e, hi]
  · simp [f_addCommit, f_append_eq, st2, e]
  · simp [f_addCommit, f_append_eq, st2, e]
  · simp [f_addCommit, f_append_eq, st2]
  · simp [f_addCommit, f_append_eq, st2]
  · simp only [f_addCommit]
    rw [st2_ne (by omega), st2_ne (by omega), f_append_c (by omega) (by omega) (by omega) (by omega), f_append_c (by omega) (by omega) (by omega) (by omega)]; exact ⟨rfl, rfl⟩
  · rw [m_put_c (by decide) (by decide) (by decide) (by decide)]
  · rw [m_put_b (by decide)]
theorem r_ck {χ τ : Hp} (h : RLog χ τ) (hP : RPl χ τ) (hN : τ 1 0 < 200) (hc : cK τ 4 (τ 1 0) < 20) : RLog (f_addCk χ) (m_ck0 (m_put τ 4 0 0) 6) := by
  obtain ⟨e, hL⟩ := h
  have b1 := (hL.2.1 (τ 1 0 + 1) (by have := hL.1.1; omega)).1
  have k4 := hL.2.2.2.2.2.2.2.2.2.2.1.1
  have c0 := cK_le τ 4 hL.1.1
  generalize hcc : cK τ 4 (τ 1 0) = c at *
  have e0 : m_ck0 (m_put τ 4 0 0) 6 1 0 = τ 1 0 + 1 := by rw [m_ck0_fr _ _ (by decide), m_put_0]
  have hcl : f_addCk χ = st2 (st2 (cp6 (f_append χ 4 0) 38 (14 + c)) 12 c (τ 1 0 + 1)) 2 14 (c + 1) := by
    simp only [f_addCk]
    have f14 : f_append χ 4 0 2 14 = c := by rw [f_append_b (by decide), k4]
    have g14 : cp6 (f_append χ 4 0) 38 (14 + c) 2 14 = c := by
      simp only [cp6]; rw [if_neg (by omega)]; exact f14
    rw [f14, g14, st2_ne (by decide : (2 : Int) ≠ 12), g14, e]
  have m10 : ∀ b : Int, m_ck0 (m_put τ 4 0 0) 6 10 b = if 6 * (τ 1 0 + 1) ≤ b ∧ b < 6 * (τ 1 0 + 1) + 6 then (if 0 < τ 18 (b - 6 * (τ 1 0 + 1)) then τ 17 (b - 6 * (τ 1 0 + 1)) else 0) else τ 10 b := fun b => by
    simp only [m_ck0]
    rw [m_put_0, m_put_c (a := 18) (by decide) (by decide) (by decide) (by decide), m_put_c (a := 17) (by decide) (by decide) (by decide) (by decide), m_put_c (a := 10) (by decide) (by decide) (by decide) (by decide)]
    simp
  have mo : ∀ a : Int, a ≠ 10 → m_ck0 (m_put τ 4 0 0) 6 a = m_put τ 4 0 0 a := fun a ha => m_ck0_fr _ _ ha
  have xo : ∀ a : Int, a ≠ 2 → a ≠ 12 → a ≠ 14 + c → f_addCk χ a = f_append χ 4 0 a := fun a a1 a2 a3 => by
    rw [hcl, st2_ne a1, st2_ne a2]
    funext i
    simp only [cp6]
    rw [if_neg (fun z => a3 z.1)]
  have fo : ∀ a : Int, a ≠ 2 → a ≠ 12 → a ≠ 14 + c → a ≠ 3 → a ≠ 4 → a ≠ 10 → f_addCk χ a = χ a := fun a a1 a2 a3 a4 a5 a6 => by
    rw [xo a a1 a2 a3, f_append_c a1 a4 a5 a6]
  refine ⟨?_, ?_⟩
  · rw [e0, ← e, hcl, st2_ii (by decide), st2_ne (by decide)]
    simp only [cp6]
    rw [if_neg (by omega)]
    simp [f_append_eq]
  rw [e0]
  refine r_append (k := 4) (o := 0) (y := 0) (u := 0) hL hN (by omega) (by omega) (by omega) (fun i => ?_) (fun i => ?_) (fun i => ?_) (fun i => ?_) (fun i => ?_) (fun i hi => ?_) ?_ (fun z => by omega) (fun z => by omega) (fun i hi hi2 => ?_) (fun z => ?_) (fun z => by omega) (fun z => ?_) (fun z => by omega) ?_ (fun z => by omega) ?_ (fun _ => by rw [hcc]; exact hc) (fun q q0 q1 q2 => ?_) (fun _ => ?_) (fun b hb => ?_) ?_
  · rw [xo 3 (by decide) (by decide) (by omega)]; simp [f_append_eq, e]
  · rw [xo 4 (by decide) (by decide) (by omega)]; simp [f_append_eq, e]
  · rw [mo 2 (by decide)]; simp [m_put_eq]
  · rw [mo 3 (by decide)]; simp [m_put_eq]
  · rw [mo 4 (by decide)]; simp [m_put_eq]
  · rw [fo 5 (by decide) (by decide) (by omega) (by decide) (by decide) (by decide), fo 6 (by decide) (by decide) (by omega) (by decide) (by decide) (by decide), fo 7 (by decide) (by decide) (by omega) (by decide) (by decide) (by decide), fo 8 (by decide) (by decide) (by omega) (by decide) (by decide) (by decide), fo 9 (by decide) (by decide) (by omega) (by decide) (by decide) (by decide), mo 5 (by decide), mo 6 (by decide), mo 7 (by decide), mo 8 (by decide), mo 9 (by decide)]
    simp [m_put_eq]
  · rw [fo 5 (by decide) (by decide) (by omega) (by decide) (by decide) (by decide)]; exact b1
  · rw [xo 10 (by decide) (by decide) (by omega)]; simp [f_append_eq, e, hi]
  · rw [xo 10 (by decide) (by decide) (by omega)]; simp [f_append_eq, e]
  · rw [fo 11 (by decide) (by decide) (by omega) (by decide) (by decide) (by decide)]
  · rw [hcl, st2_ii (by decide), st2_ne (by decide)]
    simp only [cp6]
    rw [if_neg (by omega), f_append_b (by decide)]; simp
  · rw [hcl, st2_eq, k4]; simp
  · have q2 := q2 rfl
    rw [hcc] at q2
    rw [fo (14 + q) (by omega) (by omega) (by omega) (by omega) (by omega) (by omega), hcl, st2_ne (by decide), st2_ii q2]
    refine ⟨?_, rfl⟩
    simp only [cp6]
    rw [if_neg (by omega), f_append_c (by decide) (by decide) (by decide) (by decide)]
  · rw [hcc]
    refine ⟨?_, fun g g0 g1 => ?_⟩
    · rw [hcl, st2_ne (by decide), st2_eq]
    · rw [m10, if_pos (by omega), show 6 * (τ 1 0 + 1) + g - 6 * (τ 1 0 + 1) = g by omega, hcl, st2_ne (by omega), st2_ne (by omega)]
      simp only [cp6]
      rw [if_pos ⟨trivial, g0, g1⟩, f_append_c (by decide) (by decide) (by decide) (by decide)]
      obtain ⟨d, hio⟩ := hP.1 g g0 g1
      rw [d.1]
      rcases hio with hi | hi
      · rw [if_pos hi.2.1]; exact ⟨rfl, d.2.1⟩
      · rw [if_neg (by have := hi.2.1; omega), hi.2.2]; exact ⟨rfl, Int.le_refl 0⟩
  · rw [m10, if_neg (by omega)]
  · rw [mo 1 (by decide), m_put_b (by decide)]
