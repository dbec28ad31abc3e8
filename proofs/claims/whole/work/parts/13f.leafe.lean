section LeafE
variable {d : Nat} {F A : Nat → Nat → Int32} {J : Nat → Nat → Int64} {G : pG} {Q : pR → pM → Prop} {SL p q t : Nat} {x0 x1 x2 : Int32}
theorem c_96 (hG : Geo G SL p q) (ht : Tw t) (h1 : inB x1 10 = true) (h2 : inB x2 10 = true) (h : Q (.inl (some (.int (bI (marB (carS (A 13 x1.toNatClampNeg) (A 15 x1.toNatClampNeg) (F t 2) 0) (A 14 x2.toNatClampNeg) (carS (A 13 x2.toNatClampNeg) (A 15 x2.toNatClampNeg) (F t 2) 0) (A 14 x1.toNatClampNeg)))))) (F, A, J, G)) : X (d + 2) 96 0 [.ref t, .int x1, .int x2] [] (F, A, J, G) Q := by
  refine t_96_0 hG ht ⟨h1, h2, fun e => ?_, fun e => ⟨fun f => ?_, fun f => ?_⟩⟩
  · simpa [marB, bI, e] using h
  · simpa [marB, bI, e, f] using h
  · simpa [marB, bI, e, f] using h
theorem c_258 (hG : Geo G SL p q) (h1 : inB x1 10 = true) (h2 : inB x2 10 = true) (hk1 : inB (A 73 x1.toNatClampNeg) 4 = true) (hk2 : inB (A 73 x2.toNatClampNeg) 4 = true) (hW : Wrm A) (h : Q (.inl (some (.int (bI (marB (carS (A 73 x1.toNatClampNeg) (A 75 x1.toNatClampNeg) (F 68 29) 0) (A 74 x2.toNatClampNeg) (carS (A 73 x2.toNatClampNeg) (A 75 x2.toNatClampNeg) (F 68 29) 0) (A 74 x1.toNatClampNeg)))))) (F, A, J, G)) : X (d + 2) 258 0 [.ref 68, .int x1, .int x2] [] (F, A, J, G) Q := by
  refine t_258_0 hG ⟨inB_le h2 (by decide), inB_le h1 (by decide), hk1, hW, fun e => ?_, fun e => ⟨hk2, fun f => ?_, fun f => ?_⟩⟩
  · simpa [marB, bI, e] using h
  · simpa [marB, bI, e, f] using h
  · simpa [marB, bI, e, f] using h
theorem toI64_lt {x y : Int32} : x.toInt64 < y.toInt64 ↔ x < y := by
  rw [Int64.lt_iff_toInt_lt, Int32.lt_iff_toInt_lt, Int32.toInt_toInt64, Int32.toInt_toInt64]
theorem inL_R {x n : Int32} (hn : hB n = true) : inL x.toInt64 0 (n - 1).toInt64 = inR x n := by
  obtain ⟨j, hj, rfl, -⟩ := hB_of hn
  have h0 : (0 : Int64) = (0 : Int32).toInt64 := rfl
  unfold inL inR
  rw [h0]
  congr 1
  · exact congrArg (fun b => !b) (decide_eq_decide.mpr toI64_lt)
  · rw [show (!decide ((nI j - 1).toInt64 < x.toInt64)) = decide (¬ (nI j - 1).toInt64 < x.toInt64) from decide_not.symm]
    refine decide_eq_decide.mpr ?_
    rw [toI64_lt, Int32.lt_iff_toInt_lt, Int32.lt_iff_toInt_lt]
    have h1 : (nI j - 1).toInt = (j : Int) - 1 := by
      have : j = 0 ∨ j = 1 ∨ j = 2 ∨ j = 3 ∨ j = 4 ∨ j = 5 ∨ j = 6 ∨ j = 7 ∨ j = 8 ∨ j = 9 ∨ j = 10 := by omega
      rcases this with rfl | rfl | rfl | rfl | rfl | rfl | rfl | rfl | rfl | rfl | rfl <;> decide
    rw [h1, nI_toInt (by omega)]
    omega
theorem c_180 (hG : Geo G SL p q) (hn : hB (A 72 0) = true) (h : Q (.inl (some (.int (bI (inR x1 (A 72 0)))))) (F, A, J, G)) : X (d + 1) 180 0 [.ref 68, .int x1] [] (F, A, J, G) Q := by
  refine t_180_0 hG ?_
  rw [inL_R hn]
  exact h
theorem c_181 (hG : Geo G SL p q) (hn : hB (F 68 28) = true) (h : Q (.inl (some (.int (bI (inR x1 (F 68 28)))))) (F, A, J, G)) : X (d + 1) 181 0 [.ref 68, .int x1] [] (F, A, J, G) Q := by
  refine t_181_0 hG ?_
  rw [inL_R hn]
  exact h
theorem c_191 (hG : Geo G SL p q) (hb : F 68 20 = 0 → F 68 16 = 3 → inB (F 68 18) 600 = true) (h : Q (.inl (some (.int (bI (mkB (F 68 20) (F 68 16) (A 80 (F 68 18).toNatClampNeg) x1))))) (F, A, J, G)) : X d 191 0 [.ref 68, .int x1] [] (F, A, J, G) Q := by
  refine t_191_0 hG ⟨fun e => ⟨fun f => ⟨hb e f, fun g => ?_, fun g => ?_⟩, fun f => ?_⟩, fun e => ?_⟩
  · simpa [mkB, bI, e, f, g] using h
  · simpa [mkB, bI, e, f, g] using h
  · simpa [mkB, bI, e, f] using h
  · simpa [mkB, bI, e] using h
theorem c_214 (hG : Geo G SL p q) (hb : inB x1 10 = true) (hb2 : inB (A 81 x1.toNatClampNeg) 10 = true) (hk : inB (A 73 (A 81 x1.toNatClampNeg).toNatClampNeg) 4 = true) (hW : Wrm A) (h : Q (.inl (some (.int (carS (A 73 (A 81 x1.toNatClampNeg).toNatClampNeg) (A 75 (A 81 x1.toNatClampNeg).toNatClampNeg) (F 68 29) (bI (decide (x1 = F 68 28 - 1))))))) (F, A, J, G)) : X (d + 2) 214 0 [.ref 68, .int x1] [] (F, A, J, G) Q := by
  refine t_214_0 hG ⟨hb, fun e => ⟨inB_le hb2 (by decide), hk, hW, ?_⟩, fun e => ⟨inB_le hb2 (by decide), hk, hW, ?_⟩⟩
  · simpa [bI, e] using h
  · simpa [bI, e] using h
theorem bits_ok : ∀ k, k < 1024 → k ≠ 0 → (nI k &&& (nI k - 1)) = nI (k &&& (k - 1)) ∧ pcn k = pcn (k &&& (k - 1)) + 1 ∧ (k &&& (k - 1)) < k := by decide +kernel
theorem c_245 (hG : Geo G SL p q) (hb : inB x0 1024 = true) (hQ : Q (.inl (some (.int (nI (pcn x0.toNatClampNeg))))) (F, A, J, G)) : X d 245 0 [.int x0, .null, .null] [] (F, A, J, G) Q := by
  obtain ⟨k, hk, rfl, hc⟩ := inB_of hb
  rw [hc] at hQ
  refine t_245_0 hG ?_
  have loop : ∀ m v, v ≤ m → v < 1024 → ∀ acc, Q (.inl (some (.int (nI (acc + pcn v))))) (F, A, J, G) → X d 245 4 [.int (nI k), .int (nI acc), .int (nI v)] [] (F, A, J, G) Q := by
    intro m
    induction m with
    | zero =>
      intro v hv _ acc hQ
      have : v = 0 := by omega
      subst this
      exact t_245_4 hG ⟨fun _ => hQ, fun e => absurd rfl e⟩
    | succ m ih =>
      intro v hv hv2 acc hQ
      refine t_245_4 hG ⟨fun e => ?_, fun e => ?_⟩
      · have : v = 0 := (nI_eq (a := v) (b := 0) (by omega) (by decide)).mp e
        subst this
        exact hQ
      · have h0 : v ≠ 0 := fun q => by subst q; exact e rfl
        obtain ⟨h1, h2, h3⟩ := bits_ok v hv2 h0
        rw [h1, nI_1]
        refine ih _ (by omega) (by omega) _ ?_
        rw [h2] at hQ
        rw [show acc + 1 + pcn (v &&& (v - 1)) = acc + (pcn (v &&& (v - 1)) + 1) from by omega]
        exact hQ
  exact loop k k (Nat.le_refl _) hk 0 (by rw [Nat.zero_add]; exact hQ)
def bcE (x0 : Int32) : Int32 := ((((((((x0 - ((jushr x0 1) &&& 1431655765)) &&& 858993459) + ((jushr (x0 - ((jushr x0 1) &&& 1431655765)) 2) &&& 858993459)) + (jushr (((x0 - ((jushr x0 1) &&& 1431655765)) &&& 858993459) + ((jushr (x0 - ((jushr x0 1) &&& 1431655765)) 2) &&& 858993459)) 4)) &&& 252645135) + (jushr (((((x0 - ((jushr x0 1) &&& 1431655765)) &&& 858993459) + ((jushr (x0 - ((jushr x0 1) &&& 1431655765)) 2) &&& 858993459)) + (jushr (((x0 - ((jushr x0 1) &&& 1431655765)) &&& 858993459) + ((jushr (x0 - ((jushr x0 1) &&& 1431655765)) 2) &&& 858993459)) 4)) &&& 252645135) 8)) + (jushr ((((((x0 - ((jushr x0 1) &&& 1431655765)) &&& 858993459) + ((jushr (x0 - ((jushr x0 1) &&& 1431655765)) 2) &&& 858993459)) + (jushr (((x0 - ((jushr x0 1) &&& 1431655765)) &&& 858993459) + ((jushr (x0 - ((jushr x0 1) &&& 1431655765)) 2) &&& 858993459)) 4)) &&& 252645135) + (jushr (((((x0 - ((jushr x0 1) &&& 1431655765)) &&& 858993459) + ((jushr (x0 - ((jushr x0 1) &&& 1431655765)) 2) &&& 858993459)) + (jushr (((x0 - ((jushr x0 1) &&& 1431655765)) &&& 858993459) + ((jushr (x0 - ((jushr x0 1) &&& 1431655765)) 2) &&& 858993459)) 4)) &&& 252645135) 8)) 16)) &&& 63)
theorem bcE_ok : ∀ k, k < 1024 → bcE (nI k) = nI (pcn k) := by decide +kernel
theorem c_289 (hG : Geo G SL p q) (hb : inB x0 1024 = true) (hQ : Q (.inl (some (.int (nI (pcn x0.toNatClampNeg))))) (F, A, J, G)) : X d 289 0 [.int x0] [] (F, A, J, G) Q := by
  refine t_289_0 hG ?_
  show Q (.inl (some (.int (bcE x0)))) (F, A, J, G)
  obtain ⟨k, hk, rfl, hc⟩ := inB_of hb
  rw [hc] at hQ
  rw [bcE_ok k hk]
  exact hQ
/-- a tower becomes as another -/
def bF (F : Nat → Nat → Int32) (t s : Nat) : Nat → Nat → Int32 := wF (wF (wF F t 1 (F s 1)) t 2 (F s 2)) t 3 (F s 3)
def bA (A : Nat → Nat → Int32) (t s : Nat) : Nat → Nat → Int32 := cpR (cpR (cpR (cpR A (t + 1) (s + 1) 0 0 10) (t + 2) (s + 2) 0 0 10) (t + 3) (s + 3) 0 0 10) (t + 4) (s + 4) 0 0 10
theorem c_76_41_27 (hG : Geo G SL p q) (_ : Tw 41) (h : Q (.inl none) (bF F 41 27, bA A 41 27, J, G)) : X d 76 0 [.ref 41, .ref 27] [] (F, A, J, G) Q := t_76a_0 hG h
theorem c_76_27_41 (hG : Geo G SL p q) (_ : Tw 27) (h : Q (.inl none) (bF F 27 41, bA A 27 41, J, G)) : X d 76 0 [.ref 27, .ref 41] [] (F, A, J, G) Q := t_76b_0 hG h
theorem c_76_53_27 (hG : Geo G SL p q) (_ : Tw 53) (h : Q (.inl none) (bF F 53 27, bA A 53 27, J, G)) : X d 76 0 [.ref 53, .ref 27] [] (F, A, J, G) Q := t_76c_0 hG h
end LeafE
