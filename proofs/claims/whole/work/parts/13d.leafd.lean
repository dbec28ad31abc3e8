/-! contracts of leaf methods, second row -/
section LeafD
def carS (kd be yr top : Int32) : Int32 := jmax 0 ((if kd = 2 then (if top = 0 then be / 2 else be) else be) - yr * wormK kd)
def marB (ca wb cb wa : Int32) : Bool := !(decide (ca < wb)) && !(decide (cb < wa))
def mkB (bad tok c x : Int32) : Bool := decide (bad = 0) && (decide (tok = 3) && decide (c = x))
def inR (x n : Int32) : Bool := !(decide (x < 0)) && decide (x < n)
def Wrm (A : Nat → Nat → Int32) : Prop := A 71 0 = 3 ∧ A 71 1 = 1 ∧ A 71 2 = 2 ∧ A 71 3 = 2
/-- how many bits -/
def pcn (k : Nat) : Nat := k % 2 + (k / 2 % 2 + (k / 4 % 2 + (k / 8 % 2 + (k / 16 % 2 + (k / 32 % 2 + (k / 64 % 2 + (k / 128 % 2 + (k / 256 % 2 + k / 512 % 2))))))))
variable {d : Nat} {F A : Nat → Nat → Int32} {J : Nat → Nat → Int64} {G : pG} {Q : pR → pM → Prop} {SL p q t : Nat} {x0 x1 x2 : Int32}
theorem c_82 (hG : Geo G SL p q) (ht : Tw t) (hb : inB x1 10 = true) (h : Q (.inl (some (.int (carS (A 13 x1.toNatClampNeg) (A 15 x1.toNatClampNeg) (F t 2) x2)))) (F, A, J, G)) : X (d + 1) 82 0 [.ref t, .int x1, .int x2, .null] [] (F, A, J, G) Q := by
  refine t_82_0 hG ht ⟨hb, fun e => ⟨fun f => ?_, fun f => ?_⟩, fun e => ?_⟩
  · simpa [carS, e, f] using h
  · simpa [carS, e, f] using h
  · simpa [carS, e] using h
theorem c_83 (hG : Geo G SL p q) (ht : Tw t) (hb : inB x1 10 = true) (h : Q (.inl (some (.int (lnS (A 13 x1.toNatClampNeg) (A (t + 4) x1.toNatClampNeg) (A (t + 3) x1.toNatClampNeg))))) (F, A, J, G)) : X (d + 1) 83 0 [.ref t, .int x1] [] (F, A, J, G) Q := t_83_0 hG ht ⟨hb, h⟩
theorem worm_of (hW : Wrm A) {k : Int32} (hk : inB k 4 = true) : A 71 k.toNatClampNeg = wormK k := by
  obtain ⟨j, hj, rfl, hc⟩ := inB_of hk
  rw [hc]
  obtain ⟨h0, h1, h2, h3⟩ := hW
  have : j = 0 ∨ j = 1 ∨ j = 2 ∨ j = 3 := by omega
  rcases this with rfl | rfl | rfl | rfl
  · rw [h0]; decide
  · rw [h1]; decide
  · rw [h2]; decide
  · rw [h3]; decide
theorem c_211 (hG : Geo G SL p q) (hb : inB x1 20 = true) (hk : inB (A 73 x1.toNatClampNeg) 4 = true) (hW : Wrm A) (h : Q (.inl (some (.int (carS (A 73 x1.toNatClampNeg) (A 75 x1.toNatClampNeg) (F 68 29) x2)))) (F, A, J, G)) : X (d + 1) 211 0 [.ref 68, .int x1, .int x2, .null] [] (F, A, J, G) Q := by
  have hw := worm_of hW hk
  refine t_211_0 hG ⟨hb, fun e => ⟨fun f => ⟨hk, ?_⟩, fun f => ⟨hk, ?_⟩⟩, fun e => ⟨hk, ?_⟩⟩
  · rw [hw, Int32.mul_comm]; simpa [carS, e, f] using h
  · rw [hw, Int32.mul_comm]; simpa [carS, e, f] using h
  · rw [hw, Int32.mul_comm]; simpa [carS, e] using h
end LeafD
