/-! the class's town -/
section TownD
variable {d : Nat} {F A F0 A0 F1 A1 F' A' : Nat → Nat → Int32} {J : Nat → Nat → Int64} {G : pG} {Q : pR → pM → Prop} {SL p q : Nat} {tp : Nat → Int32} {N s i j n m : Nat} {c : List Int} {t : TwnR} {e : Nat × Nat}
def CTE (F A F' A' : Nat → Nat → Int32) (e : Nat × Nat) : Prop := (∀ i, i ≠ 0 → i ≠ 2 → i ≠ 8 → i ≠ 11 → F' i = F i) ∧ (∀ j, j ≠ 1 → j ≠ 2 → F' 0 j = F 0 j) ∧ (F' 0 1 = 0 ∧ F' 0 2 = zI (e.2 : Int)) ∧ (∀ i, (i < 3 ∨ i = 8 ∨ 9 < i ∧ i < 26 ∨ 26 < i) → A' i = A i) ∧ (A' 26 0 = A 26 0 + 1 ∧ ∀ j, j ≠ 0 → A' 26 j = A 26 j)
def CTT (F A F' A' : Nat → Nat → Int32) (t : TwnR) : Prop := (∀ i, (i = 1 ∨ 2 < i ∧ i < 8 ∨ 8 < i ∧ i < 11 ∨ 12 < i ∧ i < 18 ∨ 18 < i ∧ i < 21 ∨ 22 < i ∧ i < 27 ∨ 27 < i) → F' i = F i) ∧ (∀ j, j ≠ 1 → j ≠ 2 → j ≠ 3 → F' 0 j = F 0 j) ∧ (F' 0 1 = 0 ∧ F' 0 2 = -1 ∧ F' 0 3 = 0) ∧ (F' 21 2 = 0 ∧ F' 21 6 = 1) ∧ (∀ i, (i < 3 ∨ i = 8 ∨ 9 < i ∧ i < 13 ∨ i = 18 ∨ 19 < i ∧ i < 28 ∨ 31 < i) → A' i = A i) ∧ CTn F' A' t.2.1 t.1 ∧ CRl F' A' (fun i => t.2.2.2.2.getD i 0) t.2.2.2.2.length ∧ CHs 22 F' A' t.1 0 (fun _ => begS t.1 (t.2.1 6)) ∧ CSt 27 F' A' t.1 (begS t.1 (t.2.1 6))
theorem c_127x (hG : Geo G SL p q) {x1 : Int32} (hx : x1 < 0 ∨ F 0 1 < x1) (hQ : Q (.inr 100) (F, A, J, gThr G)) : X (d + 6) 127 0 [.ref 0, .int x1, .null] [] (F, A, J, G) Q := by
  refine t_127n_0 hG ⟨fun _ => hQ, fun h => ⟨fun _ => hQ, fun h2 => ?_⟩⟩
  rcases hx with hx | hx
  · exact absurd hx h
  · exact absurd hx h2
theorem c_127 (hG : Geo G SL p q) (hd : 44 ≤ d + 2) (hT : CTp F A m tp) (hm : m ≤ 600) (hNm : N ≤ m) (hB : BtOk tp m) (h1 : ∀ t, txS tp N = .inr t → ∀ F' A', CTT F A F' A' t → Q (.inl (some (.int 0))) (F', A', J, G)) (h0 : ∀ e, txS tp N = .inl e → ∀ F' A', CTE F A F' A' e → Q (.inl (some (.int (zI (e.1 : Int))))) (F', A', J, G)) : X (d + 6) 127 0 [.ref 0, .int (zI (N : Int)), .null] [] (F, A, J, G) Q := by
  obtain ⟨f01, htp⟩ := hT
  refine t_127n_0 hG ?_
  rw [zI_lt0 (by omega), f01, zN_lt (by omega) (by omega)]
  refine ⟨fun h => by omega, fun _ => ⟨fun h => by omega, fun _ => ?_⟩⟩
  refine c_29 hG hd (by omega) (fun j hj => hB j (by omega)) (fun j hj => htp j (by omega)) (fun t ht s F2 A2 hL => k_127n_30 hG ⟨fun _ => ⟨fun _ => ?_, fun h => absurd rfl h⟩, fun h => absurd rfl h⟩) (fun e he F2 A2 hE => ?_)
  · obtain ⟨l1, hC, hTl, l20, l21, l22, l3, l9, l10⟩ := hL
    have ht10 := hTl.1.1
    have hcl := hC.2.1.2.2.2.2
    have hsN := hC.2.1.2.2.2.1
    have f81 : F2 8 1 = zI (t.2.2.2.2.length : Int) := hC.2.2.2.2.2.2.2.2.1
    have hcd := hC.2.2.2.2.2.2.2.2.2
    rw [f81, l20, l21, l22, zI_clamp (by omega), zI_lt0 (by omega)]
    refine ⟨⟨by decide, by decide, by omega, by show 0 + _ ≤ 600; omega, by show 0 + _ ≤ 600; omega⟩, ?_⟩
    refine c_61 (d := d + 4) hG ht10 (l0 := t.2.1 6) ?_ (fun i hi => ?_) hTl.2.1 (fun F3 A3 g1 g2 g3 g4 g5 g6 => k_127n_88 hG (h1 t ht _ _ ⟨fun i hi => ?_, fun j j1 j2 j3 => ?_, ⟨?_, ?_, wF_same _ _ _ _⟩, ⟨?_, ?_⟩, fun i hi => ?_, ⟨hTl.1, ?_, ?_, ?_, fun i hi => ?_, fun i hi => ?_, fun i hi => ?_, fun i hi => ?_⟩, ⟨by omega, hTl.2.2, ?_, fun i hi => ?_⟩, ?_, ?_⟩))
    · rw [wF_row (by decide), wF_cell (by decide), wF_cell (by decide), wF_same]
    · rw [cpR_row (by decide), cpR_row (by decide), cpR_in (by omega), cpR_row (by decide), cpR_row (by decide), cpR_row (by decide)]; exact (l3 i hi).2.2.2.1
    · rw [wF_row (by omega), g1 i (by omega) (by omega) (by omega), wF_row (by omega), wF_row (by omega), wF_row (by omega), wF_row (by omega), wF_row (by omega), wF_row (by omega), l1.1 i (by omega) (by omega) (by omega)]
    · rw [wF_cell j3, g1 0 (by decide) (by decide) (by decide), wF_row (by decide), wF_row (by decide), wF_row (by decide), wF_row (by decide), wF_cell j2, wF_cell j1, l1.1 0 (by decide) (by decide) (by decide)]
    · rw [wF_cell (by decide), g1 0 (by decide) (by decide) (by decide), wF_row (by decide), wF_row (by decide), wF_row (by decide), wF_row (by decide), wF_cell (by decide), wF_same]
    · rw [wF_cell (by decide), g1 0 (by decide) (by decide) (by decide), wF_row (by decide), wF_row (by decide), wF_row (by decide), wF_row (by decide), wF_same]
    · rw [wF_row (by decide)]; exact g2
    · rw [wF_row (by decide)]; exact g3
    · rw [g4 i (by omega), cpR_row (by omega), cpR_row (by omega), cpR_row (by omega), cpR_row (by omega), cpR_row (by omega), cpR_row (by omega), l1.2 i (by omega) (by omega) (by omega) (by omega) (by omega) (by omega)]
    · rw [wF_row (by decide), g1 12 (by decide) (by decide) (by decide), wF_row (by decide), wF_cell (by decide), wF_cell (by decide), wF_same]
    · rw [wF_row (by decide), g1 12 (by decide) (by decide) (by decide), wF_row (by decide), wF_cell (by decide), wF_same]
    · rw [wF_row (by decide), g1 12 (by decide) (by decide) (by decide), wF_row (by decide), wF_same]
    · rw [g4 13 (by decide), cpR_row (by decide), cpR_row (by decide), cpR_row (by decide), cpR_row (by decide), cpR_row (by decide), cpR_in (by omega)]; exact (l3 i hi).1
    · rw [g4 14 (by decide), cpR_row (by decide), cpR_row (by decide), cpR_row (by decide), cpR_row (by decide), cpR_in (by omega), cpR_row (by decide)]; exact (l3 i hi).2.1
    · rw [g4 15 (by decide), cpR_row (by decide), cpR_row (by decide), cpR_row (by decide), cpR_in (by omega), cpR_row (by decide), cpR_row (by decide)]; exact (l3 i hi).2.2.1
    · rw [g4 17 (by decide), cpR_row (by decide), cpR_in (by omega), cpR_row (by decide), cpR_row (by decide), cpR_row (by decide), cpR_row (by decide)]; exact (l3 i hi).2.2.2.2
    · rw [wF_row (by decide), g1 18 (by decide) (by decide) (by decide), wF_same]
    · rw [g4 19 (by decide), cpR_in hi, cpR_row (by decide), cpR_row (by decide), cpR_row (by decide), cpR_row (by decide), cpR_row (by decide)]; exact hcd i hi
    · obtain ⟨q1, q2, q3, q4⟩ := g5
      exact ⟨q1, by rw [wF_row (by decide)]; exact q2, q3, q4⟩
    · obtain ⟨⟨q1, q2, q3, q4, q5, q6, q7⟩, q8⟩ := g6
      exact ⟨⟨q1, by rw [wF_row (by decide)]; exact q2, by rw [wF_row (by decide)]; exact q3, q4, q5, q6, q7⟩, by rw [wF_row (by decide)]; exact q8⟩
  · obtain ⟨r1, ⟨b1, b2⟩, b3, f8, f0⟩ := hE
    have hne : ¬ zI (e.1 : Int) = 0 := by
      rw [show (0 : Int32) = zI ((0 : Nat) : Int) from rfl, zN_eq (by omega) (by omega)]; omega
    refine k_127n_30 hG ⟨fun h => absurd h hne, fun _ => ⟨fun h => absurd h hne, fun _ => ?_⟩⟩
    refine c_63 (j := 0) hG (by decide) (k_127n_67 hG (h0 e he _ _ ⟨fun i i0 i2 i8 i11 => ?_, fun j j1 j2 => ?_, ⟨?_, ?_⟩, fun i hi => ?_, ⟨?_, fun j hj => ?_⟩⟩))
    · rw [wF_row i0, wF_row i0]; exact r1.1 i i2 i8 i11
    · rw [wF_cell j2, wF_cell j1, r1.1 0 (by decide) (by decide) (by decide)]
    · rw [wF_cell (by decide), wF_same]
    · rw [wF_same]; exact f0
    · rw [wF_row (by omega)]; exact r1.2 i (by omega) (by omega) (by omega) (by omega) (by omega) (by omega)
    · rw [wF_same, r1.2 26 (by decide) (by decide) (by decide) (by decide) (by decide) (by decide)]
    · rw [wF_cell hj, r1.2 26 (by decide) (by decide) (by decide) (by decide) (by decide) (by decide)]
end TownD
