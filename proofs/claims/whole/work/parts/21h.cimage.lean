/-! the class keeps an image of all that changes, and takes it back -/
section ImageA
def CBs (w : Nat) (F A : Nat → Nat → Int32) (n k : Nat) (hs : Nat → Sn) (s : Nat) (sl : Nat → Nat) (st : Nat → Int) (u : Nat → Int32) : Prop := CHs (w + 1) F A n k hs ∧ CSt (w + 6) F A n (hs k) ∧ SnOk s sl st ∧ F w 2 = zI (s : Int) ∧ (∀ k, k < s → A (w + 3) k = zI (sl k : Int)) ∧ (∀ k, k < s → A (w + 4) k = zI (st k)) ∧ (∀ j, j < 3 → A (w + 5) j = u j)
variable {d : Nat} {F A F' A' : Nat → Nat → Int32} {J : Nat → Nat → Int64} {G : pG} {Q : pR → pM → Prop} {SL p q n k i j a b m s w w' : Nat} {hs : Nat → Sn} {sl : Nat → Nat} {st : Nat → Int} {u : Nat → Int32} {sp dp : Nat}
theorem cpR_row (h : i ≠ a) : cpR A a b sp dp m i = A i := by
  unfold cpR va_up
  rw [if_neg h]
theorem cpR_in (h : j < m) : cpR A a b 0 0 m a j = A b j := by
  unfold cpR va_up va_cpy
  rw [if_pos rfl, if_pos ⟨by omega, by omega⟩]
  congr 1
  omega
theorem CBs_mv (h10 : n ≤ 10) (e0 : F' (w' + 1) 0 = F (w + 1) 0) (e1 : F' w' 2 = F w 2) (e2 : F' (w' + 6) 1 = F (w + 6) 1) (e3 : F' (w' + 6) 2 = F (w + 6) 2) (e4 : F' (w' + 6) 3 = F (w + 6) 3) (g0 : ∀ c, c < 14 * k → A' (w' + 2) c = A (w + 2) c) (g1 : ∀ c, c < 8 → A' (w' + 3) c = A (w + 3) c) (g2 : ∀ c, c < 8 → A' (w' + 4) c = A (w + 4) c) (g3 : ∀ c, c < 3 → A' (w' + 5) c = A (w + 5) c) (g4 : ∀ c, c < 10 → A' (w' + 7) c = A (w + 7) c ∧ A' (w' + 8) c = A (w + 8) c ∧ A' (w' + 9) c = A (w + 9) c ∧ A' (w' + 10) c = A (w + 10) c) (hB : CBs w F A n k hs s sl st u) : CBs w' F' A' n k hs s sl st u := by
  obtain ⟨⟨h1, h2, h3, h4⟩, ⟨⟨hw, f1, f2, b0, b1, b2, b3⟩, f3⟩, s0, s1, s2, s3, s4⟩ := hB
  have hn := hw.1
  refine ⟨⟨h1, e0.trans h2, h3, fun j hj => ?_⟩, ⟨⟨hw, e2.trans f1, e3.trans f2, fun l hl => ?_, fun i hi => ?_, fun i hi => ?_, fun i hi => ?_⟩, e4.trans f3⟩, s0, e1.trans s1, fun c hc => ?_, fun c hc => ?_, fun c hc => ?_⟩
  · obtain ⟨r, r1, r2, r3⟩ := h4 j hj
    exact ⟨r, fun c hc => (g0 (14 * j + c) (by omega)).trans (r1 c hc), r2, r3⟩
  · exact (g4 l (by omega)).1.trans (b0 l hl)
  · exact (g4 i (by omega)).2.1.trans (b1 i hi)
  · exact (g4 i (by omega)).2.2.1.trans (b2 i hi)
  · exact (g4 i (by omega)).2.2.2.trans (b3 i hi)
  · exact (g1 c (by have := s0.1; omega)).trans (s2 c hc)
  · exact (g2 c (by have := s0.1; omega)).trans (s3 c hc)
  · exact (g3 c hc).trans (s4 c hc)
theorem kap14 (hk : k ≤ 40) (h2 : F w 0 = zI (k : Int)) : ¬ (F w 0 * 14) < 0 ∧ (F w 0 * 14).toNatClampNeg = 14 * k := by
  have e : F w 0 * 14 = zI ((14 * k : Nat) : Int) := by rw [h2, show (14 : Int32) = zI 14 from rfl, zI_mul, show (k : Int) * 14 = ((14 * k : Nat) : Int) by omega]
  rw [e, zI_clamp (by omega), zI_lt0 (by omega)]
  exact ⟨by omega, rfl⟩
/-- the image is kept -/
theorem c_62a (hG : Geo G SL p q) (h10 : n ≤ 10) (hB : CBs 21 F A n k hs s sl st u) (hQ : ∀ F' A', (∀ i, i ≠ 35 → i ≠ 36 → i ≠ 41 → F' i = F i) → (∀ i, (i < 37 ∨ 45 < i) → A' i = A i) → CBs 35 F' A' n k hs s sl st u → Q (.inl none) (F', A', J, G)) : X (d + 1) 62 0 [.ref 35, .ref 21] [] (F, A, J, G) Q := by
  obtain ⟨k1, k2⟩ := kap14 hB.1.1 hB.1.2.1
  have hk := hB.1.1
  have hBF : ∀ i, i ≠ 41 → bF F 41 27 i = F i := fun i hi => by unfold bF; rw [wF_row hi, wF_row hi, wF_row hi]
  have hBA : ∀ i, (i < 42 ∨ 45 < i) → bA A 41 27 i = A i := fun i hi => by
    unfold bA
    rw [cpR_row (by omega), cpR_row (by omega), cpR_row (by omega), cpR_row (by omega)]
  refine t_62a_0 hG ?_
  rw [show F (21 + 1) 0 = F 22 0 from rfl] at k1 k2
  rw [k2, kap0]
  refine ⟨⟨by decide, by decide, k1, by omega, by omega⟩, hQ _ _ (fun i i1 i2 i3 => ?_) (fun i hi => ?_) (CBs_mv (w := 21) h10 ?_ ?_ ?_ ?_ ?_ (fun c hc => ?_) (fun c hc => ?_) (fun c hc => ?_) (fun c hc => ?_) (fun c hc => ⟨?_, ?_, ?_, ?_⟩) hB)⟩
  · rw [wF_row i1, wF_row i1, wF_row i2, hBF i i3]
  · rw [cpR_row (by omega), cpR_row (by omega), cpR_row (by omega), cpR_row (by omega), hBA i (by omega)]
  · rw [wF_row (by decide), wF_row (by decide), wF_same]
  · rw [wF_cell (by decide), wF_same]
  · rw [wF_row (by decide), wF_row (by decide), wF_row (by decide)]
    unfold bF
    rw [wF_cell (by decide), wF_cell (by decide), wF_same]
  · rw [wF_row (by decide), wF_row (by decide), wF_row (by decide)]
    unfold bF
    rw [wF_cell (by decide), wF_same]
  · rw [wF_row (by decide), wF_row (by decide), wF_row (by decide)]
    unfold bF
    rw [wF_same]
  · rw [cpR_row (by decide), cpR_row (by decide), cpR_row (by decide), cpR_in hc, hBA 23 (by decide)]
  · rw [cpR_row (by decide), cpR_row (by decide), cpR_in hc, cpR_row (by decide), hBA 24 (by decide)]
  · rw [cpR_row (by decide), cpR_in hc, cpR_row (by decide), cpR_row (by decide), hBA 25 (by decide)]
  · rw [cpR_in hc, cpR_row (by decide), cpR_row (by decide), cpR_row (by decide), hBA 26 (by decide)]
  · rw [cpR_row (by decide), cpR_row (by decide), cpR_row (by decide), cpR_row (by decide)]
    unfold bA
    rw [cpR_row (by decide), cpR_row (by decide), cpR_row (by decide)]
    exact cpR_in hc
  · rw [cpR_row (by decide), cpR_row (by decide), cpR_row (by decide), cpR_row (by decide)]
    unfold bA
    rw [cpR_row (by decide), cpR_row (by decide)]
    exact (cpR_in hc).trans (by rw [cpR_row (by decide)])
  · rw [cpR_row (by decide), cpR_row (by decide), cpR_row (by decide), cpR_row (by decide)]
    unfold bA
    rw [cpR_row (by decide)]
    exact (cpR_in hc).trans (by rw [cpR_row (by decide), cpR_row (by decide)])
  · rw [cpR_row (by decide), cpR_row (by decide), cpR_row (by decide), cpR_row (by decide)]
    unfold bA
    exact (cpR_in hc).trans (by rw [cpR_row (by decide), cpR_row (by decide), cpR_row (by decide)])
/-- the image is taken back -/
theorem c_62b (hG : Geo G SL p q) (h10 : n ≤ 10) (hB : CBs 35 F A n k hs s sl st u) (hQ : ∀ F' A', (∀ i, i ≠ 21 → i ≠ 22 → i ≠ 27 → F' i = F i) → F' 21 6 = 1 → (∀ i, (i < 23 ∨ 31 < i) → A' i = A i) → CBs 21 F' A' n k hs s sl st u → Q (.inl none) (F', A', J, G)) : X (d + 1) 62 0 [.ref 21, .ref 35] [] (F, A, J, G) Q := by
  obtain ⟨k1, k2⟩ := kap14 hB.1.1 hB.1.2.1
  have hk := hB.1.1
  have hBF : ∀ i, i ≠ 27 → bF F 27 41 i = F i := fun i hi => by unfold bF; rw [wF_row hi, wF_row hi, wF_row hi]
  have hBA : ∀ i, (i < 28 ∨ 31 < i) → bA A 27 41 i = A i := fun i hi => by
    unfold bA
    rw [cpR_row (by omega), cpR_row (by omega), cpR_row (by omega), cpR_row (by omega)]
  refine t_62b_0 hG ?_
  rw [show F (35 + 1) 0 = F 36 0 from rfl] at k1 k2
  rw [k2, kap0]
  refine ⟨⟨by decide, by decide, k1, by omega, by omega⟩, hQ _ _ (fun i i1 i2 i3 => ?_) (wF_same _ _ _ _) (fun i hi => ?_) (CBs_mv (w := 35) h10 ?_ ?_ ?_ ?_ ?_ (fun c hc => ?_) (fun c hc => ?_) (fun c hc => ?_) (fun c hc => ?_) (fun c hc => ⟨?_, ?_, ?_, ?_⟩) hB)⟩
  · rw [wF_row i1, wF_row i1, wF_row i2, hBF i i3]
  · rw [cpR_row (by omega), cpR_row (by omega), cpR_row (by omega), cpR_row (by omega), hBA i (by omega)]
  · rw [wF_row (by decide), wF_row (by decide), wF_same]
  · rw [wF_cell (by decide), wF_same]
  · rw [wF_row (by decide), wF_row (by decide), wF_row (by decide)]
    unfold bF
    rw [wF_cell (by decide), wF_cell (by decide), wF_same]
  · rw [wF_row (by decide), wF_row (by decide), wF_row (by decide)]
    unfold bF
    rw [wF_cell (by decide), wF_same]
  · rw [wF_row (by decide), wF_row (by decide), wF_row (by decide)]
    unfold bF
    rw [wF_same]
  · rw [cpR_row (by decide), cpR_row (by decide), cpR_row (by decide), cpR_in hc, hBA 37 (by decide)]
  · rw [cpR_row (by decide), cpR_row (by decide), cpR_in hc, cpR_row (by decide), hBA 38 (by decide)]
  · rw [cpR_row (by decide), cpR_in hc, cpR_row (by decide), cpR_row (by decide), hBA 39 (by decide)]
  · rw [cpR_in hc, cpR_row (by decide), cpR_row (by decide), cpR_row (by decide), hBA 40 (by decide)]
  · rw [cpR_row (by decide), cpR_row (by decide), cpR_row (by decide), cpR_row (by decide)]
    unfold bA
    rw [cpR_row (by decide), cpR_row (by decide), cpR_row (by decide)]
    exact cpR_in hc
  · rw [cpR_row (by decide), cpR_row (by decide), cpR_row (by decide), cpR_row (by decide)]
    unfold bA
    rw [cpR_row (by decide), cpR_row (by decide)]
    exact (cpR_in hc).trans (by rw [cpR_row (by decide)])
  · rw [cpR_row (by decide), cpR_row (by decide), cpR_row (by decide), cpR_row (by decide)]
    unfold bA
    rw [cpR_row (by decide)]
    exact (cpR_in hc).trans (by rw [cpR_row (by decide), cpR_row (by decide)])
  · rw [cpR_row (by decide), cpR_row (by decide), cpR_row (by decide), cpR_row (by decide)]
    unfold bA
    exact (cpR_in hc).trans (by rw [cpR_row (by decide), cpR_row (by decide), cpR_row (by decide)])
end ImageA
