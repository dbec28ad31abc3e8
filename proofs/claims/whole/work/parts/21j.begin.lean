/-! the class begins anew -/
section BeginA
def begS (n : Nat) (l0 : Nat → Int) : Sn := mS n (fun j => j) (fun _ => 0) (fun _ => 0) l0 0 (-1)
variable {d : Nat} {F A F' A' : Nat → Nat → Int32} {J : Nat → Nat → Int64} {G : pG} {Q : pR → pM → Prop} {SL p q n i j : Nat} {l0 : Nat → Int} {hs : Nat → Sn}
theorem beg_ok (hl : ∀ i, i < n → -9 ≤ l0 i ∧ l0 i ≤ 9) : SOk n (begS n l0) := by
  have a0 : (0 : Int) ≤ 0 ∧ (0 : Int) ≤ 6000 := by decide
  have a1 : (-9 : Int) ≤ 0 ∧ (0 : Int) ≤ 9 := by decide
  have a2 : (0 : Int) ≤ 0 ∧ (0 : Int) ≤ 1200 := by decide
  have a3 : (0 : Int) ≤ 999 := by decide
  exact ⟨⟨Nat.le_refl n, fun l hl => hl, fun l l' _ _ he => he, fun i hi => ⟨a0, a1, hl i hi⟩, a2⟩, fun i hi => a3, a3⟩
theorem c_61 (hG : Geo G SL p q) (h10 : n ≤ 10) (f0 : F 12 0 = zI (n : Int)) (hl : ∀ i, i < n → A 16 i = zI (l0 i)) (hb : ∀ i, i < n → -9 ≤ l0 i ∧ l0 i ≤ 9) (hQ : ∀ F' A', (∀ i, i ≠ 21 → i ≠ 22 → i ≠ 27 → F' i = F i) → F' 21 2 = 0 → F' 21 6 = 1 → (∀ i, (i < 28 ∨ 31 < i) → A' i = A i) → CHs 22 F' A' n 0 (fun _ => begS n l0) → CSt 27 F' A' n (begS n l0) → Q (.inl none) (F', A', J, G)) : X (d + 1) 61 0 [.ref 21] [] (F, A, J, G) Q := by
  refine t_61_0 hG (t_75_0 hG ?_)
  rw [f0]
  refine up_ind (h := 10) (P := fun x => ∀ A1, (∀ i, (i < 28 ∨ 31 < i) → A1 i = A i) → (∀ c, c < x → A1 28 c = zI (c : Int) ∧ A1 29 c = 0 ∧ A1 30 c = 0 ∧ A1 31 c = A 16 c) → X d 75 23 [.ref 27, .int (zI (x : Int))] [] (wF (wF (wF F 27 1 (zI (n : Int))) 27 2 0) 27 3 (-1), A1, J, G) (KK (d + 1) 61 7 [.ref 21] [] Q)) ?_ ?_ A (fun _ _ => rfl) (fun c hc => by omega)
  · intro A1 g1 g2
    refine t_75_23 hG ⟨fun e => absurd e (by decide), fun _ => k_61_7 hG ?_⟩
    have hok := beg_ok hb
    refine hQ _ _ (fun i i1 i2 i3 => ?_) ?_ (wF_same _ _ _ _) g1 ⟨by decide, ?_, fun j _ => hok, fun j hj => absurd hj (by omega)⟩ (CSt_of hok (SEq.rf _) ?_ ?_ ?_ (fun l hl' => ?_) (fun i hi => ?_) (fun i hi => ?_) (fun i hi => ?_))
    · rw [wF_row i1, wF_row i1, wF_row i2, wF_row i3, wF_row i3, wF_row i3]
    · rw [wF_cell (by decide), wF_same]
    · rw [wF_row (by decide), wF_row (by decide), wF_same]; rfl
    · rw [wF_row (by decide), wF_row (by decide), wF_row (by decide), wF_cell (by decide), wF_cell (by decide), wF_same]; rfl
    · rw [wF_row (by decide), wF_row (by decide), wF_row (by decide), wF_cell (by decide), wF_same]; rfl
    · rw [wF_row (by decide), wF_row (by decide), wF_row (by decide), wF_same]; rfl
    · have : l < n := hl'
      exact (g2 l (by omega)).1
    · exact (g2 i (by omega)).2.1
    · exact (g2 i (by omega)).2.2.1
    · exact (g2 i (by omega)).2.2.2.trans (hl i hi)
  · intro x hx ih A1 g1 g2
    refine t_75_23 hG ⟨fun _ => ?_, fun e => ?_⟩
    · rw [zN_1, zI_clamp (by omega)]
      refine ⟨zN_in (by omega) (by decide), ih _ (fun i hi => ?_) (fun c hc => ?_)⟩
      · rw [wF_row (by omega), wF_row (by omega), wF_row (by omega), wF_row (by omega)]; exact g1 i hi
      · by_cases e : c = x
        · subst e
          refine ⟨?_, ?_, ?_, ?_⟩
          · rw [wF_row (by decide), wF_row (by decide), wF_row (by decide), wF_same]
          · rw [wF_row (by decide), wF_row (by decide), wF_same]
          · rw [wF_row (by decide), wF_same]
          · rw [wF_same, g1 16 (by decide)]
        · rw [wF_cell e, wF_cell e, wF_cell e, wF_cell e, wF_cell e, wF_cell e, wF_cell e, wF_cell e, wF_cell e, wF_cell e, wF_cell e, wF_cell e, wF_cell e, wF_cell e, wF_cell e, wF_cell e]
          exact g2 c (by omega)
    · rw [show (10 : Int32) = zI ((10 : Nat) : Int) from rfl, zN_lt (by omega) (by omega)] at e
      omega
end BeginA
