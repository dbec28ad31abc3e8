/-! contracts of leaf methods, over the rows as they lie -/
section LeafC
def wormK (k : Int32) : Int32 := if k = 0 then 3 else if k = 1 then 1 else 2
def ltm (k : Int32) : Int32 := if k = 3 then 2 else 1
def limB (li x : Int32) : Bool := !(decide (li < jabs x))
def letB (c : Int32) : Bool := !(decide (c < 97)) && !(decide (122 < c))
def digB (c : Int32) : Bool := !(decide (c < 48)) && !(decide (57 < c))
def mrkB (c : Int32) : Bool := decide (c = 59) || (decide (c = 40) || (decide (c = 41) || (decide (c = 43) || (decide (c = 45) || (decide (c = 42) || (decide (c = 47) || (decide (c = 60) || decide (c = 61))))))))
def inL (v a b : Int64) : Bool := !(decide (v < a)) && !(decide (b < v))
def isO (s k : Int32) : Bool := decide (((s >>> (k &&& 31)) &&& 1) = 1)
def hB (x : Int32) : Bool := !(decide (x < 0)) && !(decide (10 < x))
def valO (F : Nat → Nat → Int32) (x : Int32) : Int32 := if x = -5 then F 18 6 else if x = -4 then F 18 5 else if x = -3 then F 18 4 else if x = -2 then F 18 3 else if x = -1 then F 18 2 else F 18 7
def opS (c a b : Int32) : Int32 := if c = -14 then (if a = 0 then 0 else if b = 0 then 0 else 1) else if c = -13 then (if a = b then 1 else 0) else if c = -12 then (if a < b then 1 else 0) else if c = -11 then (if b = 0 then 0 else a / b) else if c = -10 then a * b else if c = -9 then a - b else if c = -8 then a + b else (if a = 0 then (if b = 0 then 0 else 1) else 1)
def opR (c a b : Int32) : Int32 := if c = -26 then (if a = 0 then 0 else if b = 0 then 0 else 1) else if c = -25 then (if a = b then 1 else 0) else if c = -24 then (if a < b then 1 else 0) else if c = -23 then (if b = 0 then 0 else a / b) else if c = -22 then a * b else if c = -21 then a - b else if c = -20 then a + b else (if a = 0 then (if b = 0 then 0 else 1) else 1)
def btS (row : Nat → Int32) (sz x : Int32) : Int32 := if x < sz then row x.toNatClampNeg else -1
/-- the first place from j on (k are left) that holds t; -1 -/
def fstS (a : Nat → Int32) (t : Int32) : Nat → Nat → Int32
  | 0, _ => -1
  | k + 1, j => if a j = t then nI j else fstS a t k (j + 1)
def lvI (row : Nat → Int32) (h x : Int32) : Int32 := fstS row x h.toNatClampNeg 0
def orS (row : Nat → Int32) : Nat → Nat → Int32 → Int32
  | 0, _, acc => acc
  | k + 1, j, acc => orS row k (j + 1) (acc ||| (1 <<< (row j &&& 31)))
def bitsI (row : Nat → Int32) (h : Int32) : Int32 := orS row h.toNatClampNeg 0 0
variable {d : Nat} {F A : Nat → Nat → Int32} {J : Nat → Nat → Int64} {G : pG} {Q : pR → pM → Prop} {SL p q t : Nat} {x0 x1 x2 : Int32}
theorem inB_nI {j n : Nat} (h : j < n) (hn : n < 2 ^ 31) : inB (nI j) n = true := by
  have h2 := nI_clamp (n := j) (by omega)
  simp only [inB, Bool.and_eq_true, Bool.not_eq_true', decide_eq_false_iff_not, decide_eq_true_eq]
  exact ⟨nI_pos (by omega), by rw [h2]; exact h⟩
theorem inB_of {x : Int32} {n : Nat} (h : inB x n = true) : ∃ j, j < n ∧ x = nI j ∧ x.toNatClampNeg = j := by
  simp only [inB, Bool.and_eq_true, Bool.not_eq_true', decide_eq_false_iff_not, decide_eq_true_eq] at h
  obtain ⟨j, hj, rfl⟩ := nI_of h.1
  rw [nI_clamp hj] at h
  exact ⟨j, h.2, rfl, nI_clamp hj⟩
theorem inB_le {x : Int32} {m n : Nat} (h : inB x m = true) (hmn : m ≤ n) : inB x n = true := by
  simp only [inB, Bool.and_eq_true, Bool.not_eq_true', decide_eq_false_iff_not, decide_eq_true_eq] at h ⊢
  exact ⟨h.1, by omega⟩
theorem hB_nI {j : Nat} (h : j ≤ 10) : hB (nI j) = true := by
  simp only [hB, Bool.and_eq_true, Bool.not_eq_true', decide_eq_false_iff_not]
  exact ⟨nI_pos (by omega), fun q => absurd ((nI_ltI (a := 10) (b := j) (by decide) (by omega)).mp q) (by omega)⟩
theorem hB_of {x : Int32} (h : hB x = true) : ∃ j, j ≤ 10 ∧ x = nI j ∧ x.toNatClampNeg = j := by
  simp only [hB, Bool.and_eq_true, Bool.not_eq_true', decide_eq_false_iff_not] at h
  obtain ⟨j, hj, rfl⟩ := nI_of h.1
  exact ⟨j, Nat.not_lt.mp (fun q => h.2 ((nI_ltI (a := 10) (b := j) (by decide) hj).mpr q)), rfl, nI_clamp hj⟩
theorem c_101 (hG : Geo G SL p q) (hb : inB x1 10 = true) (h : Q (.inl (some (.int (wormK (A 13 x1.toNatClampNeg))))) (F, A, J, G)) : X d 101 0 [.ref 12, .int x1] [] (F, A, J, G) Q := by
  refine t_101_0 hG ⟨hb, fun e => ?_, fun e => ?_, fun e => ?_⟩
  · simpa [wormK, e] using h
  · simpa [wormK, e] using h
  · simpa [wormK, e.1, e.2] using h
theorem c_102 (hG : Geo G SL p q) (hb : inB x1 10 = true) (h : Q (.inl (some (.int (ltm (A 13 x1.toNatClampNeg))))) (F, A, J, G)) : X d 102 0 [.ref 12, .int x1] [] (F, A, J, G) Q := by
  refine t_102_0 hG ⟨hb, fun e => ?_, fun e => ?_⟩ <;> simpa [ltm, e] using h
theorem c_103 (hG : Geo G SL p q) (h : Q (.inl (some (.int (bI (limB (F 12 1) x1))))) (F, A, J, G)) : X d 103 0 [.ref 12, .int x1] [] (F, A, J, G) Q := by
  refine t_103_0 hG ⟨fun e => ?_, fun e => ?_⟩ <;> simpa [limB, bI, e] using h
theorem c_50 (hG : Geo G SL p q) (h : Q (.inl (some (.int (bI (letB x0))))) (F, A, J, G)) : X d 50 0 [.int x0] [] (F, A, J, G) Q := by
  refine t_50_0 hG ⟨fun e => ?_, fun e => ⟨fun f => ?_, fun f => ?_⟩⟩
  · simpa [letB, bI, e] using h
  · simpa [letB, bI, e, f] using h
  · simpa [letB, bI, e, f] using h
theorem c_51 (hG : Geo G SL p q) (h : Q (.inl (some (.int (bI (digB x0))))) (F, A, J, G)) : X d 51 0 [.int x0] [] (F, A, J, G) Q := by
  refine t_51_0 hG ⟨fun e => ?_, fun e => ⟨fun f => ?_, fun f => ?_⟩⟩
  · simpa [digB, bI, e] using h
  · simpa [digB, bI, e, f] using h
  · simpa [digB, bI, e, f] using h
theorem c_184 (hG : Geo G SL p q) (h : Q (.inl (some (.int (bI (letB x0))))) (F, A, J, G)) : X d 184 0 [.int x0] [] (F, A, J, G) Q := by
  refine t_184_0 hG ⟨fun e => ?_, fun e => ⟨fun f => ?_, fun f => ?_⟩⟩
  · simpa [letB, bI, e] using h
  · simpa [letB, bI, e, f] using h
  · simpa [letB, bI, e, f] using h
theorem c_185 (hG : Geo G SL p q) (h : Q (.inl (some (.int (bI (digB x0))))) (F, A, J, G)) : X d 185 0 [.int x0] [] (F, A, J, G) Q := by
  refine t_185_0 hG ⟨fun e => ?_, fun e => ⟨fun f => ?_, fun f => ?_⟩⟩
  · simpa [digB, bI, e] using h
  · simpa [digB, bI, e, f] using h
  · simpa [digB, bI, e, f] using h
theorem c_186 (hG : Geo G SL p q) (h : Q (.inl (some (.int (bI (mrkB x0))))) (F, A, J, G)) : X d 186 0 [.int x0] [] (F, A, J, G) Q := by
  refine t_186_0 hG ⟨fun e => ?_, fun e0 => ⟨fun e => ?_, fun e1 => ⟨fun e => ?_, fun e2 => ⟨fun e => ?_, fun e3 => ⟨fun e => ?_, fun e4 => ⟨fun e => ?_, fun e5 => ⟨fun e => ?_, fun e6 => ⟨fun e => ?_, fun e7 => ⟨fun e => ?_, fun e8 => ?_⟩⟩⟩⟩⟩⟩⟩⟩⟩
  all_goals first | (simpa [mrkB, bI, e] using h; done) | (simpa [mrkB, bI, e0, e1, e2, e3, e4, e5, e6, e7, e8] using h; done)
theorem c_178 {y0 y2 y4 : Int64} (hG : Geo G SL p q) (h : Q (.inl (some (.int (bI (inL y0 y2 y4))))) (F, A, J, G)) : X d 178 0 [.long y0, .null, .long y2, .null, .long y4, .null] [] (F, A, J, G) Q := by
  refine t_178_0 hG ⟨fun e => ?_, fun e => ⟨fun f => ?_, fun f => ?_⟩⟩
  · simpa [inL, bI, e] using h
  · simpa [inL, bI, e, f] using h
  · simpa [inL, bI, e, f] using h
theorem c_179 (hG : Geo G SL p q) (h : Q (.inl (some (.int (bI (isO x0 x1))))) (F, A, J, G)) : X d 179 0 [.int x0, .int x1] [] (F, A, J, G) Q := by
  refine t_179_0 hG ⟨fun e => ?_, fun e => ?_⟩ <;> simpa [isO, bI, e] using h
theorem c_183 (hG : Geo G SL p q) (hb : x1 < F 68 15 → inB x1 600 = true) (h : Q (.inl (some (.int (btS (A 80) (F 68 15) x1)))) (F, A, J, G)) : X d 183 0 [.ref 68, .int x1] [] (F, A, J, G) Q := by
  refine t_183_0 hG ⟨fun e => ⟨hb e, ?_⟩, fun e => ?_⟩ <;> simpa [btS, e] using h
theorem c_58 (hG : Geo G SL p q) (h : Q (.inl (some (.int (valO F x1)))) (F, A, J, G)) : X d 58 0 [.ref 18, .int x1] [] (F, A, J, G) Q := by
  refine t_58_0 hG ⟨fun e => ?_, fun e => ?_, fun e => ?_, fun e => ?_, fun e => ?_, fun e => ?_⟩
  · simpa [valO, e] using h
  · simpa [valO, e] using h
  · simpa [valO, e] using h
  · simpa [valO, e] using h
  · simpa [valO, e] using h
  · have h5 : ¬ x1 = -5 := fun q => by subst q; revert e; decide
    have h4 : ¬ x1 = -4 := fun q => by subst q; revert e; decide
    have h3 : ¬ x1 = -3 := fun q => by subst q; revert e; decide
    have h2 : ¬ x1 = -2 := fun q => by subst q; revert e; decide
    have h1 : ¬ x1 = -1 := fun q => by subst q; revert e; decide
    simpa [valO, h5, h4, h3, h2, h1] using h
theorem c_59 (hG : Geo G SL p q) (h : Q (.inl (some (.int (opS x0 x1 x2)))) (F, A, J, G)) : X d 59 0 [.int x0, .int x1, .int x2] [] (F, A, J, G) Q := by
  refine t_59_0 hG ⟨fun e => ⟨fun f => ?_, fun f => ⟨fun g => ?_, fun g => ?_⟩⟩, fun e => ⟨fun f => ?_, fun f => ?_⟩, fun e => ⟨fun f => ?_, fun f => ?_⟩, fun e => ⟨fun f => ?_, fun f => ?_⟩, fun e => ?_, fun e => ?_, fun e => ?_, fun e => ⟨fun f => ⟨fun g => ?_, fun g => ?_⟩, fun f => ?_⟩⟩
  · simpa [opS, e, f] using h
  · simpa [opS, e, f, g] using h
  · simpa [opS, e, f, g] using h
  · simpa [opS, e, f] using h
  · simpa [opS, e, f] using h
  · simpa [opS, e, f] using h
  · simpa [opS, e, f] using h
  · simpa [opS, e, f] using h
  · simpa [opS, e, f] using h
  · simpa [opS, e] using h
  · simpa [opS, e] using h
  · simpa [opS, e] using h
  all_goals
    have h1 : ¬ x0 = -14 := fun q => by subst q; revert e; decide
    have h2 : ¬ x0 = -13 := fun q => by subst q; revert e; decide
    have h3 : ¬ x0 = -12 := fun q => by subst q; revert e; decide
    have h4 : ¬ x0 = -11 := fun q => by subst q; revert e; decide
    have h5 : ¬ x0 = -10 := fun q => by subst q; revert e; decide
    have h6 : ¬ x0 = -9 := fun q => by subst q; revert e; decide
    have h7 : ¬ x0 = -8 := fun q => by subst q; revert e; decide
    first | (simpa [opS, h1, h2, h3, h4, h5, h6, h7, f, g] using h; done) | (simpa [opS, h1, h2, h3, h4, h5, h6, h7, f] using h; done)
theorem c_236 (hG : Geo G SL p q) (h : Q (.inl (some (.int (opR x0 x1 x2)))) (F, A, J, G)) : X d 236 0 [.int x0, .int x1, .int x2] [] (F, A, J, G) Q := by
  refine t_236_0 hG ⟨fun e => ⟨fun f => ?_, fun f => ⟨fun g => ?_, fun g => ?_⟩⟩, fun e => ⟨fun f => ?_, fun f => ?_⟩, fun e => ⟨fun f => ?_, fun f => ?_⟩, fun e => ⟨fun f => ?_, fun f => ?_⟩, fun e => ?_, fun e => ?_, fun e => ?_, fun e => ⟨fun f => ⟨fun g => ?_, fun g => ?_⟩, fun f => ?_⟩⟩
  · simpa [opR, e, f] using h
  · simpa [opR, e, f, g] using h
  · simpa [opR, e, f, g] using h
  · simpa [opR, e, f] using h
  · simpa [opR, e, f] using h
  · simpa [opR, e, f] using h
  · simpa [opR, e, f] using h
  · simpa [opR, e, f] using h
  · simpa [opR, e, f] using h
  · simpa [opR, e] using h
  · simpa [opR, e] using h
  · simpa [opR, e] using h
  all_goals
    have h1 : ¬ x0 = -26 := fun q => by subst q; revert e; decide
    have h2 : ¬ x0 = -25 := fun q => by subst q; revert e; decide
    have h3 : ¬ x0 = -24 := fun q => by subst q; revert e; decide
    have h4 : ¬ x0 = -23 := fun q => by subst q; revert e; decide
    have h5 : ¬ x0 = -22 := fun q => by subst q; revert e; decide
    have h6 : ¬ x0 = -21 := fun q => by subst q; revert e; decide
    have h7 : ¬ x0 = -20 := fun q => by subst q; revert e; decide
    first | (simpa [opR, h1, h2, h3, h4, h5, h6, h7, f, g] using h; done) | (simpa [opR, h1, h2, h3, h4, h5, h6, h7, f] using h; done)
theorem c_77 (hG : Geo G SL p q) (ht : Tw t) (hh : hB (F t 1) = true) (hQ : Q (.inl (some (.int (lvI (A (t + 1)) (F t 1) x1)))) (F, A, J, G)) : X d 77 0 [.ref t, .int x1, .null] [] (F, A, J, G) Q := by
  obtain ⟨h, h10, hF, hc⟩ := hB_of hh
  unfold lvI at hQ
  rw [hc] at hQ
  have loop : ∀ k j, h - j = k → j ≤ h → Q (.inl (some (.int (fstS (A (t + 1)) x1 k j)))) (F, A, J, G) → X d 77 2 [.ref t, .int x1, .int (nI j)] [] (F, A, J, G) Q := by
    intro k
    induction k with
    | zero =>
      intro j hk hj hQ
      refine t_77_2 hG ht ⟨fun e => ?_, fun _ => hQ⟩
      rw [hF, nI_ltI (by omega) (by omega)] at e
      omega
    | succ k ih =>
      intro j hk hj hQ
      refine t_77_2 hG ht ⟨fun _ => ⟨inB_nI (by omega) (by decide), fun e => ?_, fun e => ?_⟩, fun e => absurd (by rw [hF, nI_ltI (by omega) (by omega)]; omega) e⟩
      · rw [nI_clamp (by omega)] at e
        rw [fstS, if_pos e] at hQ
        exact hQ
      · rw [nI_clamp (by omega)] at e
        rw [fstS, if_neg e] at hQ
        rw [nI_1]
        exact ih (j + 1) (by omega) (by omega) hQ
  exact t_77_0 hG ht (loop h 0 (by omega) (by omega) hQ)
theorem c_209 (hG : Geo G SL p q) (hh : hB (F 68 28) = true) (hQ : Q (.inl (some (.int (lvI (A 81) (F 68 28) x1)))) (F, A, J, G)) : X d 209 0 [.ref 68, .int x1, .null] [] (F, A, J, G) Q := by
  obtain ⟨h, h10, hF, hc⟩ := hB_of hh
  unfold lvI at hQ
  rw [hc] at hQ
  have loop : ∀ k j, h - j = k → j ≤ h → Q (.inl (some (.int (fstS (A 81) x1 k j)))) (F, A, J, G) → X d 209 2 [.ref 68, .int x1, .int (nI j)] [] (F, A, J, G) Q := by
    intro k
    induction k with
    | zero =>
      intro j hk hj hQ
      refine t_209_2 hG ⟨fun e => ?_, fun _ => hQ⟩
      rw [hF, nI_ltI (by omega) (by omega)] at e
      omega
    | succ k ih =>
      intro j hk hj hQ
      refine t_209_2 hG ⟨fun _ => ⟨inB_nI (by omega) (by decide), fun e => ?_, fun e => ?_⟩, fun e => absurd (by rw [hF, nI_ltI (by omega) (by omega)]; omega) e⟩
      · rw [nI_clamp (by omega)] at e
        rw [fstS, if_pos e] at hQ
        exact hQ
      · rw [nI_clamp (by omega)] at e
        rw [fstS, if_neg e] at hQ
        rw [nI_1]
        exact ih (j + 1) (by omega) (by omega) hQ
  exact t_209_0 hG (loop h 0 (by omega) (by omega) hQ)
theorem c_78 (hG : Geo G SL p q) (ht : Tw t) (hh : hB (F t 1) = true) (hQ : Q (.inl (some (.int (bitsI (A (t + 1)) (F t 1))))) (F, A, J, G)) : X d 78 0 [.ref t, .null, .null] [] (F, A, J, G) Q := by
  obtain ⟨h, h10, hF, hc⟩ := hB_of hh
  unfold bitsI at hQ
  rw [hc] at hQ
  have loop : ∀ k j acc, h - j = k → j ≤ h → Q (.inl (some (.int (orS (A (t + 1)) k j acc)))) (F, A, J, G) → X d 78 4 [.ref t, .int acc, .int (nI j)] [] (F, A, J, G) Q := by
    intro k
    induction k with
    | zero =>
      intro j acc hk hj hQ
      refine t_78_4 hG ht ⟨fun e => ?_, fun _ => hQ⟩
      rw [hF, nI_ltI (by omega) (by omega)] at e
      omega
    | succ k ih =>
      intro j acc hk hj hQ
      refine t_78_4 hG ht ⟨fun _ => ⟨inB_nI (by omega) (by decide), ?_⟩, fun e => absurd (by rw [hF, nI_ltI (by omega) (by omega)]; omega) e⟩
      rw [nI_clamp (by omega), nI_1]
      exact ih (j + 1) _ (by omega) (by omega) hQ
  exact t_78_0 hG ht (loop h 0 0 (by omega) (by omega) hQ)
theorem c_221 (hG : Geo G SL p q) (hh : hB (F 68 28) = true) (hQ : Q (.inl (some (.int (bitsI (A 81) (F 68 28))))) (F, A, J, G)) : X d 221 0 [.ref 68, .null, .null] [] (F, A, J, G) Q := by
  obtain ⟨h, h10, hF, hc⟩ := hB_of hh
  unfold bitsI at hQ
  rw [hc] at hQ
  have loop : ∀ k j acc, h - j = k → j ≤ h → Q (.inl (some (.int (orS (A 81) k j acc)))) (F, A, J, G) → X d 221 4 [.ref 68, .int acc, .int (nI j)] [] (F, A, J, G) Q := by
    intro k
    induction k with
    | zero =>
      intro j acc hk hj hQ
      refine t_221_4 hG ⟨fun e => ?_, fun _ => hQ⟩
      rw [hF, nI_ltI (by omega) (by omega)] at e
      omega
    | succ k ih =>
      intro j acc hk hj hQ
      refine t_221_4 hG ⟨fun _ => ⟨inB_nI (by omega) (by decide), ?_⟩, fun e => absurd (by rw [hF, nI_ltI (by omega) (by omega)]; omega) e⟩
      rw [nI_clamp (by omega), nI_1]
      exact ih (j + 1) _ (by omega) (by omega) hQ
  exact t_221_0 hG (loop h 0 0 (by omega) (by omega) hQ)
def lnS (kd le we : Int32) : Int32 := ltm kd * (le + we)
theorem c_212 (hG : Geo G SL p q) (hb : inB x1 10 = true) (h : Q (.inl (some (.int (lnS (A 73 x1.toNatClampNeg) (A 84 x1.toNatClampNeg) (A 83 x1.toNatClampNeg))))) (F, A, J, G)) : X d 212 0 [.ref 68, .int x1] [] (F, A, J, G) Q := by
  refine t_212_0 hG ⟨inB_le hb (by decide), fun e => ⟨hb, ?_⟩, fun e => ⟨hb, ?_⟩⟩ <;> simpa [lnS, ltm, e] using h
end LeafC
