-- ===== asking, waiting =====
theorem JJ_hole {B t : Int} {n : Nat} {χ τ : Hp} (h : JJ 0 B n χ τ) : JJ t B n χ τ := by
  obtain ⟨hL, hP, ⟨a1, a2, a3⟩, hB⟩ := h
  refine ⟨hL, hP, ⟨a1, fun u u1 u2 => ?_, a3⟩, hB⟩
  obtain ⟨b1, b2, b3, b4, b5, b6⟩ := a2 u u1 u2
  exact ⟨b1, b2, b3, b4, fun _ => b5 (by omega), b6⟩
theorem JJ_out {B : Int} {n : Nat} {χ τ : Hp} (h : JJ 0 B n χ τ) {t : Int} (t1 : 1 ≤ t) (t2 : t ≤ τ 1 22) : χ (85 + t) 3 = τ 20 t := (h.2.2.1.2.1 t t1 t2).2.2.2.2.1 (by omega)
theorem j_27 {e B : Int} {n : Nat} {χ τ τ' : Hp} (h : JJ e B n χ τ) (hm : ∀ a : Int, a ≠ 27 → τ' a = τ a) : JJ e B n χ τ' := by
  obtain ⟨hL, hP, hT, hB⟩ := h
  have m1 := hm 1 (by decide)
  exact ⟨⟨by rw [m1]; exact hL.1, by rw [m1]; exact RLg_c hL.2 (fun _ _ _ => rfl) rfl rfl (fun a a1 a2 => hm a (by omega)) (by rw [m1])⟩, RPl_c hP (fun _ _ _ => rfl) rfl (fun a a1 a2 => hm a (by omega)) (by rw [m1]) (by rw [m1]; exact Int.le_refl _) (by rw [m1]) (by rw [m1]) (by rw [m1]; exact Int.le_refl _), RTx_c hT (fun _ _ => rfl) rfl rfl (fun a a1 a2 => hm a (by omega)) (by rw [m1]) (by rw [m1]) (by rw [m1]) (by rw [m1]; exact Int.le_refl _), by rw [m1]; exact hB⟩
/-- cells of one transaction, and of the class's object, change: log and pool stay -/
theorem j_tx {e e' B B' : Int} {n : Nat} {χ τ χ' τ' : Hp} (h : JJ e B n χ τ) (hT : RTx e' n χ' τ') (hx : ∀ a : Int, 2 ≤ a → a < 76 → χ' a = χ a) (hm : ∀ a : Int, 2 ≤ a → a ≤ 18 → τ' a = τ a) (h1 : ∀ b : Int, b ≠ 19 → b ≠ 32 → b ≠ 33 → τ' 1 b = τ 1 b) (h19 : τ 1 19 ≤ τ' 1 19) (hB : τ' 1 19 ≤ B') (hBB : B ≤ B') : JJ e' B' n χ' τ' := by
  obtain ⟨hL, hP, -, hb⟩ := h
  refine ⟨⟨?_, ?_⟩, ?_, hT, ?_⟩
  · rw [hx 2 (by decide) (by decide), h1 0 (by decide) (by decide) (by decide)]; exact hL.1
  · rw [h1 0 (by decide) (by decide) (by decide)]
    exact RLg_c hL.2 (fun a a1 a2 => hx a (by omega) (by omega)) (by rw [hx 2 (by decide) (by decide)]) (by rw [hx 2 (by decide) (by decide)]) (fun a a1 a2 => hm a (by omega) (by omega)) (h1 22 (by decide) (by decide) (by decide))
  · exact RPl_c hP (fun a a1 a2 => hx a (by omega) (by omega)) (by rw [hx 2 (by decide) (by decide)]) (fun a a1 a2 => hm a (by omega) (by omega)) (h1 1 (by decide) (by decide) (by decide)) h19 (h1 20 (by decide) (by decide) (by decide)) (h1 21 (by decide) (by decide) (by decide)) (by rw [h1 0 (by decide) (by decide) (by decide)]; exact Int.le_refl _)
  · rw [h1 20 (by decide) (by decide) (by decide), h1 21 (by decide) (by decide) (by decide)]; omega
theorem j_ask {B : Int} {n : Nat} {χ τ : Hp} (h : JJ 0 B n χ τ) {t key what v : Int} (t1 : 1 ≤ t) (t2 : t ≤ τ 1 22) (hl : τ 19 t = 1) (k0 : 0 ≤ key) (k1 : key ≤ 99) (hw : what = 1 ∨ what = 2) : JJ 0 (B + 1) n (f_ask1 χ (85 + t) key what v) (m_ask τ t key what v) ∧ (∀ a : Int, a ≠ 1 → a ≠ 22 → a ≠ 23 → a ≠ 24 → a ≠ 25 → m_ask τ t key what v a = τ a) ∧ (∀ b : Int, b ≠ 19 → m_ask τ t key what v 1 b = τ 1 b) ∧ 0 < m_ask τ t key what v 25 t ∧ m_ask τ t key what v 23 t = what := by
  have hT := h.2.2.1
  have hb := h.2.2.2
  obtain ⟨b1, b2, b3, b4, b5, b6, b7, b8, b9, b10, b11, b12, b13, b14⟩ := hT.2.1 t t1 t2
  obtain ⟨p1, p2, p3⟩ := r_seat hT t1 t2 (by omega)
  have xo : ∀ a : Int, a ≠ 1 → a ≠ 85 + t → f_ask1 χ (85 + t) key what v a = χ a := fun a h1 h2 => by
    unfold f_ask1 f_ask
    rw [st2_ne h2, st2_ne h2, st2_ne h2, st2_ne h2, st2_ne h1]
  have x1 : ∀ b : Int, f_ask1 χ (85 + t) key what v 1 b = if b = 6 then χ 1 6 + 1 else χ 1 b := fun b => by
    unfold f_ask1 f_ask
    rw [st2_ne (by omega), st2_ne (by omega), st2_ne (by omega), st2_ne (by omega), st2_at]
  have xt : ∀ b : Int, f_ask1 χ (85 + t) key what v (85 + t) b = if b = 8 then v else if b = 7 then what else if b = 6 then key else if b = 5 then χ 1 6 + 1 else χ (85 + t) b := fun b => by
    unfold f_ask1 f_ask
    rw [st2_at, st2_at, st2_at, st2_at, st2_eq, st2_ne (by omega)]
  have mo : ∀ a : Int, a ≠ 1 → a ≠ 22 → a ≠ 23 → a ≠ 24 → a ≠ 25 → m_ask τ t key what v a = τ a := fun a h1 h2 h3 h4 h5 => by
    simp only [m_ask]
    rw [st2_ne h5, st2_ne h4, st2_ne h3, st2_ne h2, st2_ne h1]
  have m1 : ∀ b : Int, m_ask τ t key what v 1 b = if b = 19 then τ 1 19 + 1 else τ 1 b := fun b => by
    simp only [m_ask]
    rw [st2_ne (by decide), st2_ne (by decide), st2_ne (by decide), st2_ne (by decide), st2_at]
  have m22 : ∀ u : Int, m_ask τ t key what v 22 u = if u = t then key else τ 22 u := fun u => by
    simp only [m_ask]
    rw [st2_ne (by decide), st2_ne (by decide), st2_ne (by decide), st2_at, st2_ne (by decide)]
  have m23 : ∀ u : Int, m_ask τ t key what v 23 u = if u = t then what else τ 23 u := fun u => by
    simp only [m_ask]
    rw [st2_ne (by decide), st2_ne (by decide), st2_at, st2_ne (by decide), st2_ne (by decide)]
  have m24 : ∀ u : Int, m_ask τ t key what v 24 u = if u = t then v else τ 24 u := fun u => by
    simp only [m_ask]
    rw [st2_ne (by decide), st2_at, st2_ne (by decide), st2_ne (by decide), st2_ne (by decide)]
  have m25 : ∀ u : Int, m_ask τ t key what v 25 u = if u = t then τ 1 19 + 1 else τ 25 u := fun u => by
    simp only [m_ask]
    rw [st2_at, st2_ne (by decide : (1 : Int) ≠ 24), st2_ne (by decide : (1 : Int) ≠ 23), st2_ne (by decide : (1 : Int) ≠ 22), st2_eq, st2_ne (by decide : (25 : Int) ≠ 24), st2_ne (by decide : (25 : Int) ≠ 23), st2_ne (by decide : (25 : Int) ≠ 22), st2_ne (by decide : (25 : Int) ≠ 1)]
  have m119 : m_ask τ t key what v 1 19 = τ 1 19 + 1 := by rw [m1, if_pos rfl]
  have m1o : ∀ b : Int, b ≠ 19 → m_ask τ t key what v 1 b = τ 1 b := fun b hb => by rw [m1, if_neg hb]
  have m25t : m_ask τ t key what v 25 t = τ 1 19 + 1 := by rw [m25, if_pos rfl]
  have m23t : m_ask τ t key what v 23 t = what := by rw [m23, if_pos rfl]
  have m22t : m_ask τ t key what v 22 t = key := by rw [m22, if_pos rfl]
  have m24t : m_ask τ t key what v 24 t = v := by rw [m24, if_pos rfl]
  have x16 : f_ask1 χ (85 + t) key what v 1 6 = χ 1 6 + 1 := by rw [x1, if_pos rfl]
  have x1o : ∀ b : Int, b ≠ 6 → f_ask1 χ (85 + t) key what v 1 b = χ 1 b := fun b hb => by rw [x1, if_neg hb]
  have x5 : f_ask1 χ (85 + t) key what v (85 + t) 5 = χ 1 6 + 1 := by rw [xt]; rfl
  have x6 : f_ask1 χ (85 + t) key what v (85 + t) 6 = key := by rw [xt]; rfl
  have x7 : f_ask1 χ (85 + t) key what v (85 + t) 7 = what := by rw [xt]; rfl
  have x8 : f_ask1 χ (85 + t) key what v (85 + t) 8 = v := by rw [xt]; rfl
  have xto : ∀ b : Int, b < 5 → f_ask1 χ (85 + t) key what v (85 + t) b = χ (85 + t) b := fun b hb => by rw [xt, if_neg (by omega), if_neg (by omega), if_neg (by omega), if_neg (by omega)]
  have hreq := hT.2.2.2.2.2.2.2.2.2.1
  refine ⟨?_, mo, m1o, by omega, m23t⟩
  refine j_tx h ?_ (fun a a1 a2 => xo a (by omega) (by omega)) (fun a a1 a2 => mo a (by omega) (by omega) (by omega) (by omega) (by omega)) (fun b b1 _ _ => m1o b b1) (by omega) (by omega) (by omega)
  refine r_tx (t := t) (s := χ (85 + t) 1) hT t1 t2 (by omega) rfl (fun u u1 u2 u3 => by omega) (fun a a1 a2 a3 => xo a (by omega) a2) (x1o 5 (by decide)) (by omega) (x1o 7 (by decide)) (x1o 8 (by decide)) (fun u _ => by rw [xo 11 (by decide) (by omega)]) (fun a u a1 a2 hu => ?_) (fun u k hu k0 k1 => by rw [mo 26 (by decide) (by decide) (by decide) (by decide) (by decide)]) (m1o 22 (by decide)) (m1o 32 (by decide)) (m1o 33 (by decide)) (by omega) (by omega) ?_ ?_ (xto 1 (by decide)) ?_ (Or.inr ⟨by omega, by omega, by omega, by omega⟩) (fun k k0 k1 => ?_) ?_
  · rcases (show a = 19 ∨ a = 20 ∨ a = 21 ∨ a = 22 ∨ a = 23 ∨ a = 24 ∨ a = 25 by omega) with rfl | rfl | rfl | rfl | rfl | rfl | rfl
    · rw [mo 19 (by decide) (by decide) (by decide) (by decide) (by decide)]
    · rw [mo 20 (by decide) (by decide) (by decide) (by decide) (by decide)]
    · rw [mo 21 (by decide) (by decide) (by decide) (by decide) (by decide)]
    · rw [m22, if_neg hu]
    · rw [m23, if_neg hu]
    · rw [m24, if_neg hu]
    · rw [m25, if_neg hu]
  · unfold txE
    rw [xo 85 (by decide) (by omega), xto 0 (by decide), xto 1 (by decide), xto 2 (by decide), xto 3 (by decide), xto 4 (by decide), x5, x6, x7, x8, m22t, m23t, m24t, m25t, mo 19 (by decide) (by decide) (by decide) (by decide) (by decide), mo 20 (by decide) (by decide) (by decide) (by decide) (by decide), mo 21 (by decide) (by decide) (by decide) (by decide) (by decide), m119, x16]
    exact ⟨b1, b2, b3, b4, b5, b6, rfl, rfl, rfl, b10, ⟨by omega, by omega⟩, ⟨by omega, by omega⟩, ⟨fun _ => by omega, fun _ => by omega⟩, fun z => by omega⟩
  · rw [mo 19 (by decide) (by decide) (by decide) (by decide) (by decide)]; omega
  · rw [m22t]; exact ⟨k0, k1⟩
  · rw [xo (79 + χ (85 + t) 1) (by omega) (by omega), mo 26 (by decide) (by decide) (by decide) (by decide) (by decide)]
    exact ⟨p3 k k0 k1, (hT.2.2.2.2.2.2.2.1 t k (by omega) (by have := hT.1.2.1; omega) k0 k1).1⟩
  · rw [mo 19 (by decide) (by decide) (by decide) (by decide) (by decide), xo 11 (by decide) (by omega)]
    exact hT.2.2.2.2.2.2.2.2.2.2 t t1 t2
/-- a new state of one transaction that stays on its seat; its outcome -/
theorem j_state {B : Int} {n : Nat} {χ τ : Hp} (h : JJ 0 B n χ τ) {t q : Int} (t1 : 1 ≤ t) (t2 : t ≤ τ 1 22) (hl : τ 19 t ≤ 3) (hq : 1 ≤ q ∧ q ≤ 3) (h2 : q = 2 → 0 < τ 25 t ∧ (τ 23 t = 1 ∨ τ 23 t = 2)) (hc : (q = 3 → ¬ χ 11 t = 0) ∧ (q ≤ 2 → χ 11 t = 0)) : JJ 0 B n (st2 χ (85 + t) 2 q) (st2 τ 19 t q) := by
  have hT := h.2.2.1
  obtain ⟨b1, b2, b3, b4, b5, b6, b7, b8, b9, b10, b11, b12, b13, b14⟩ := hT.2.1 t t1 t2
  obtain ⟨p1, p2, p3⟩ := r_seat hT t1 t2 hl
  have xo : ∀ a : Int, a ≠ 85 + t → st2 χ (85 + t) 2 q a = χ a := fun a h1 => st2_ne h1
  have xt : ∀ b : Int, b ≠ 2 → st2 χ (85 + t) 2 q (85 + t) b = χ (85 + t) b := fun b hb => st2_ii hb
  have mo : ∀ a : Int, a ≠ 19 → st2 τ 19 t q a = τ a := fun a h1 => st2_ne h1
  have m1 := mo 1 (by decide)
  have x1 := xo 1 (by omega)
  refine j_tx h ?_ (fun a a1 a2 => xo a (by omega)) (fun a a1 a2 => mo a (by omega)) (fun b _ _ _ => by rw [m1]) (by rw [m1]; exact Int.le_refl _) (by rw [m1]; exact h.2.2.2.2.1) (Int.le_refl _)
  refine r_tx (t := t) (s := χ (85 + t) 1) hT t1 t2 hl rfl (fun u u1 u2 u3 => by omega) (fun a a1 a2 a3 => xo a a2) (by rw [x1]) (by rw [x1]; exact Int.le_refl _) (by rw [x1]) (by rw [x1]) (fun u _ => by rw [xo 11 (by omega)]) (fun a u a1 a2 hu => ?_) (fun u k hu k0 k1 => by rw [mo 26 (by decide)]) (by rw [m1]) (by rw [m1]) (by rw [m1]) (by rw [m1]; exact Int.le_refl _) (by rw [x1, m1]; exact hT.2.2.2.2.2.2.2.2.2.1.2.2.2) ?_ (by rw [st2_eq]; omega) (xt 1 (by decide)) (by rw [mo 22 (by decide)]; exact hT.2.2.2.1 t (by omega) (by have := hT.1.2.1; omega)) (Or.inl ⟨xt 5 (by decide), by rw [mo 25 (by decide)]⟩) (fun k k0 k1 => ?_) ?_
  · by_cases ha : a = 19
    · subst ha; rw [st2_ii hu]
    · rw [mo a ha]
  · unfold txE
    rw [xo 85 (by omega), xt 0 (by decide), xt 1 (by decide), xt 3 (by decide), xt 4 (by decide), xt 5 (by decide), xt 6 (by decide), xt 7 (by decide), xt 8 (by decide), st2_eq, st2_eq, mo 20 (by decide), mo 21 (by decide), mo 22 (by decide), mo 23 (by decide), mo 24 (by decide), mo 25 (by decide), m1, x1]
    exact ⟨b1, b2, b3, rfl, b5, b6, b7, b8, b9, ⟨by omega, by omega⟩, b11, b12, b13, h2⟩
  · rw [xo (79 + χ (85 + t) 1) (by omega), mo 26 (by decide)]
    exact ⟨p3 k k0 k1, (hT.2.2.2.2.2.2.2.1 t k (by omega) (by have := hT.1.2.1; omega) k0 k1).1⟩
  · rw [st2_eq, xo 11 (by omega)]; exact hc
theorem j_out2 {B : Int} {n : Nat} {χ τ : Hp} (h : JJ 0 B n χ τ) {t v : Int} (t1 : 1 ≤ t) (t2 : t ≤ τ 1 22) : JJ 0 B n (st2 χ (85 + t) 3 v) (st2 τ 20 t v) :=
  j_out (j_out3 (JJ_hole (t := t) h)) t1 (by rw [st2_ne (by decide)]; exact t2) (Or.inr rfl) st2_eq
theorem j_wait {B : Int} {n : Nat} {χ τ : Hp} (h : JJ 0 B n χ τ) {t : Int} (t1 : 1 ≤ t) (t2 : t ≤ τ 1 22) (hl : τ 19 t = 1) (h2 : 0 < τ 25 t ∧ (τ 23 t = 1 ∨ τ 23 t = 2)) : JJ 0 B n (st2 (st2 χ (85 + t) 2 2) (85 + t) 3 1) (m_wait τ t) := by
  have hc := (h.2.2.1.2.2.2.2.2.2.2.2.2.2 t t1 t2).2 (by omega)
  exact j_out2 (j_state h t1 t2 (by omega) (by decide) (fun _ => h2) ⟨fun z => by omega, fun _ => hc⟩) t1 (by rw [st2_ne (by decide)]; exact t2)
