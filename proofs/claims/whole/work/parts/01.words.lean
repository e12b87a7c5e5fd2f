-- ===== the words: AW those that a contract may ask for, NW the links between nest mates =====
def isNst (w : Cond) : Bool := match w with
  | .fieldLinkNest .. => true
  | .methodLinkNest .. => true
  | _ => false
def AW : List Cond := lw_tbl.filter goodWord
def NW : List Cond := lw_tbl.filter isNst
theorem AW_ok : ∀ w ∈ AW, (w.onTables && w.keeps) = true ∨ ∃ ty, w = .arrayClass ty := fun w h => good_of_word (List.mem_filter.mp h).2
theorem NW_ok : ∀ w ∈ NW, isNst w = true := fun w h => (List.mem_filter.mp h).2
theorem aw_in {w : Cond} (h : w ∈ lw_tbl) (g : goodWord w = true) : w ∈ AW := List.mem_filter.mpr ⟨h, g⟩
theorem nw_in {w : Cond} (h : w ∈ lw_tbl) (g : isNst w = true) : w ∈ NW := List.mem_filter.mpr ⟨h, g⟩
theorem nst_on {w : Cond} (h : isNst w = true) : w.onTables = true := by cases w <;> first | rfl | (simp [isNst] at h)
theorem nw_mv {w : Cond} (h : isNst w = true) {s U : State} (hW : s.WarmedH U.vm) (hz : va_Nw w s) : va_Nw w U := by
  cases w <;> first | exact va_Nw.warmF hW hz | exact va_Nw.warmM hW hz | (simp [isNst] at h)
def AIs (U : State) : Prop := ∃ (comp c : ClassId) (k : Class), U.vm.findClass "[I" = some comp ∧ (U.vm.classes.findIdx? fun (x : Class) => match x.kind with | .array component _ => component == comp | _ => false) = some c ∧ U.vm.classes[c]? = some k ∧ k.kind = .array comp (.array .int) ∧ U.vm.findClass "[[I" = some c
theorem AIs_mv {u U : State} (hvm : u.vm.Alike U.vm) (h : AIs u) : AIs U := by
  obtain ⟨comp, c, k, h1, h2, h3, h4, h5⟩ := h
  obtain ⟨k', hk', he⟩ := hvm.2.2 _ _ h3
  refine ⟨comp, c, k', by rw [hvm.findClass]; exact h1, ?_, hk', by rw [he]; exact h4, by rw [hvm.findClass]; exact h5⟩
  have e1 := va_idx_bare U.vm comp
  have e2 := va_idx_bare u.vm comp
  first
    | rw [hvm.bare_eq] at e1; exact (e1.symm.trans e2).trans h2
    | rw [← hvm.bare_eq] at e1; exact (e1.symm.trans e2).trans h2
def AOs (U : State) : Prop := va_AO "LogStore$Transaction" U ∧ va_AO "LogStore$Contents" U ∧ AIs U
theorem AOs_mv {u U : State} (hvm : u.vm.Alike U.vm) (h : AOs u) : AOs U := ⟨h.1.moved hvm, h.2.1.moved hvm, AIs_mv hvm h.2.2⟩
