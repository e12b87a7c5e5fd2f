-- ===== the reference's cells =====
def LyMt : List LK := [.inl (7, k_M), .inr (0, 204), .inr (0, 204), .inr (0, 204), .inr (0, 204), .inr (0, 204), .inr (0, 204), .inr (0, 204), .inr (0, 204), .inr (0, 1224), .inr (0, 24), .inr (0, 24), .inr (0, 6), .inr (0, 24), .inr (0, 24), .inr (0, 6), .inr (0, 6), .inr (0, 6), .inr (0, 61), .inr (0, 61), .inr (0, 61), .inr (0, 61), .inr (0, 61), .inr (0, 61), .inr (0, 61), .inr (1, 6100), .inr (2, 61), .inr (0, 6)]
def LyM (v : Int) : LK := (LyMt[(v - 1).toNat]?).getD (.inr (0, 0))
def TM (v i : Int) : Option Int := if v = 1 then (if 2 ≤ i ∧ i ≤ 18 then some i else if 23 ≤ i ∧ i ≤ 31 then some (i - 4) else if i = 36 then some 28 else none) else none
def pI (n : Nat) (σ : Hp) (x : Int) : Option AV → Nat → Hp → Prop := fun r n' σ' => r = some (.inl x) ∧ n' = n ∧ σ = σ'
def pV (n : Nat) (σ : Hp) : Option AV → Nat → Hp → Prop := fun r n' σ' => r = none ∧ n' = n ∧ σ = σ'
section PX
variable {Ly : Int → LK} {T : Int → Int → Option Int} {K : XK} {cc : ByteArray} {mc ms : Nat} {Post : Option AV → Nat → Hp → Prop} {pc n : Nat} {σ : Hp} {bc bs : Nat} {lv : List (Option AV)} {r : Int}
theorem x_iret (rt : RetK Ly T K cc (some .int) mc ms Post) (hd : decode cc pc = .ok (.ireturn, 1)) (h1 : bc ≤ mc) (h2 : bs ≤ ms) (hp : Post (some (.inl r)) n σ) : XW Ly T K n σ bc bs pc lv [.inl r] := rt.1 pc n σ bc bs lv r (Or.inl rfl) hd h1 h2 hp
theorem x_zret (rt : RetK Ly T K cc (some .boolean) mc ms Post) (hd : decode cc pc = .ok (.ireturn, 1)) (h1 : bc ≤ mc) (h2 : bs ≤ ms) (r0 : 0 ≤ r ∧ r ≤ 1) (hp : Post (some (.inl r)) n σ) : XW Ly T K n σ bc bs pc lv [.inl r] := rt.1 pc n σ bc bs lv r (Or.inr ⟨rfl, r0.1, r0.2⟩) hd h1 h2 hp
theorem x_vret (rt : RetK Ly T K cc none mc ms Post) (hd : decode cc pc = .ok (.return_, 1)) (h1 : bc ≤ mc) (h2 : bs ≤ ms) (hp : Post none n σ) : XW Ly T K n σ bc bs pc lv [] := rt.2.1 pc n σ bc bs lv rfl hd h1 h2 hp
theorem x_aret {nm : String} (rt : RetK Ly T K cc (some (.object nm)) mc ms Post) (hd : decode cc pc = .ok (.areturn, 1)) (h1 : bc ≤ mc) (h2 : bs ≤ ms) (hp : Post (some (.inr r)) n σ) : XW Ly T K n σ bc bs pc lv [.inr r] := rt.2.2 pc n σ bc bs lv r nm rfl hd h1 h2 hp
theorem x_zc (h : XW Ly T K n σ bc bs pc lv [.inl r]) {r' : Int} (e : r' = r) : XW Ly T K n σ bc bs pc lv [.inl r'] := e ▸ h
end PX
