/-! what is seen is kept, and forgotten -/
section SightA
def upN (f : Nat → Nat) (i v : Nat) : Nat → Nat := fun j => if j = i then v else f j
def seeB (h s : Nat) (z1 z2 : Int) : Prop := (0 ≤ z1 ∧ z1 < h) ∧ s < 8 ∧ (-99 ≤ z2 ∧ z2 ≤ 99)
variable {d : Nat} {F A F' A' : Nat → Nat → Int32} {J : Nat → Nat → Int64} {G : pG} {Q : pR → pM → Prop} {SL p q n h i l s : Nat} {sl : Nat → Nat} {st : Nat → Int} {z z1 z2 : Int}
theorem sn_ok (hS : SnOk s sl st) (h8 : s < 8) (hl : l < 10) (hz : -99 ≤ z ∧ z ≤ 99) : SnOk (s + 1) (upN sl s l) (upZ st s z) := by
  refine ⟨by omega, fun k hk => ?_, fun k hk => ?_⟩
  · unfold upN
    split
    · exact hl
    · exact hS.2.1 k (by omega)
  · unfold upZ
    split
    · exact hz
    · exact hS.2.2 k (by omega)
theorem CSn_add (hS : CSn F A s sl st) (h8 : s < 8) (hl : l < 10) (hz : -99 ≤ z ∧ z ≤ 99) : CSn (wF F 21 2 (zI ((s + 1 : Nat) : Int))) (wF (wF A 24 s (zI (l : Int))) 25 s (zI z)) (s + 1) (upN sl s l) (upZ st s z) := by
  obtain ⟨s0, s1, s2, s3⟩ := hS
  refine ⟨sn_ok s0 h8 hl hz, wF_same _ _ _ _, fun k hk => ?_, fun k hk => ?_⟩
  · rw [wF_row (by decide), wF_at]
    unfold upN
    by_cases e : k = s
    · rw [if_pos ⟨rfl, e⟩, if_pos e]
    · rw [if_neg (fun q => e q.2), if_neg e]; exact s2 k (by omega)
  · rw [wF_at]
    unfold upZ
    by_cases e : k = s
    · rw [if_pos ⟨rfl, e⟩, if_pos e]
    · rw [if_neg (fun q => e q.2), if_neg e, wF_row (by decide)]; exact s3 k (by omega)
theorem MSn_add (hS : MSn F A s sl st) (h8 : s < 8) (hl : l < 10) (hz : -99 ≤ z ∧ z ≤ 99) : MSn (wF (wF F 68 3 0) 68 32 (zI ((s + 1 : Nat) : Int))) (wF (wF A 94 s (zI (l : Int))) 95 s (zI z)) (s + 1) (upN sl s l) (upZ st s z) := by
  obtain ⟨s0, s1, s2, s3⟩ := hS
  refine ⟨sn_ok s0 h8 hl hz, wF_same _ _ _ _, fun k hk => ?_, fun k hk => ?_⟩
  · rw [wF_row (by decide), wF_at]
    unfold upN
    by_cases e : k = s
    · rw [if_pos ⟨rfl, e⟩, if_pos e]
    · rw [if_neg (fun q => e q.2), if_neg e]; exact s2 k (by omega)
  · rw [wF_at]
    unfold upZ
    by_cases e : k = s
    · rw [if_pos ⟨rfl, e⟩, if_pos e]
    · rw [if_neg (fun q => e q.2), if_neg e, wF_row (by decide)]; exact s3 k (by omega)
theorem c_72 (hG : Geo G SL p q) (h10 : h ≤ 10) (f1 : F 27 1 = zI (h : Int)) (hS : CSn F A s sl st) (hz1 : -2147483648 ≤ z1 ∧ z1 < 2147483648) (hz2 : -2147483648 ≤ z2 ∧ z2 < 2147483648) (hR : ¬ seeB h s z1 z2 → Q (.inl (some (.int (-1)))) (F, wF A 26 2 (A 26 2 + 1), J, G)) (hQ : ∀ l : Nat, z1 = (l : Int) → seeB h s z1 z2 → Q (.inl (some (.int (zI ((s + 1 : Nat) : Int))))) (wF F 21 2 (zI ((s + 1 : Nat) : Int)), wF (wF A 24 s (zI (l : Int))) 25 s (zI z2), J, G)) : X (d + 1) 72 0 [.ref 21, .int (zI z1), .int (zI z2), .null] [] (F, A, J, G) Q := by
  have h8 := hS.1.1
  refine t_72_0 hG ?_
  rw [hS.2.1, f1, zI_lt0 hz1, show (8 : Int32) = zI ((8 : Nat) : Int) from rfl, zN_lt (by omega) (by omega), zI_lt hz1.1 hz1.2 (by omega) (by omega), show (-99 : Int32) = zI (-99) from rfl, show (99 : Int32) = zI 99 from rfl, zI_lt hz2.1 hz2.2 (by decide) (by decide), zI_lt (by decide) (by decide) hz2.1 hz2.2, zN_1, zI_clamp (n := s) (by omega)]
  refine ⟨fun e => ⟨fun _ => hR (fun q => by have := q.1; omega), fun _ => hR (fun q => by have := q.1; omega)⟩, fun e => ⟨fun e1 => ⟨fun e2 => ⟨fun e3 => hR (fun q => by have := q.2.2; omega), fun e3 => ⟨fun e4 => hR (fun q => by have := q.2.2; omega), fun e4 => ⟨zN_in (by omega) (by decide), ?_⟩⟩⟩, fun e2 => hR (fun q => e2 q.2.1)⟩, fun e1 => ⟨fun _ => hR (fun q => by have := q.1; omega), fun _ => hR (fun q => by have := q.1; omega)⟩⟩⟩
  obtain ⟨l, hl, el⟩ := zI_at (m := h) (z := z1) (by omega)
  have := hQ l el ⟨by omega, e2, by omega⟩
  rw [el]
  exact this
theorem x99m : (-99 : Int64) = (zI (-99)).toInt64 := by decide
theorem x99p : (99 : Int64) = (zI 99).toInt64 := by decide
theorem m_273 (hG : Geo G SL p q) (h10 : h ≤ 10) (f1 : F 68 28 = zI (h : Int)) (hS : MSn F A s sl st) (hz1 : -2147483648 ≤ z1 ∧ z1 < 2147483648) (hz2 : -2147483648 ≤ z2 ∧ z2 < 2147483648) (hR : ¬ seeB h s z1 z2 → Q (.inl (some (.int (-1)))) (wF F 68 3 0, wF A 79 2 (A 79 2 + 1), J, G)) (hQ : ∀ l : Nat, z1 = (l : Int) → seeB h s z1 z2 → Q (.inl (some (.int (zI ((s + 1 : Nat) : Int))))) (wF (wF F 68 3 0) 68 32 (zI ((s + 1 : Nat) : Int)), wF (wF A 94 s (zI (l : Int))) 95 s (zI z2), J, G)) : X (d + 2) 273 0 [.ref 68, .int (zI z1), .int (zI z2)] [] (F, A, J, G) Q := by
  have h8 := hS.1.1
  have f1' : wF F 68 3 0 68 28 = zI (h : Int) := by rw [wF_cell (by decide)]; exact f1
  refine t_273_0 hG ?_
  rw [hS.2.1, f1', hB_z h10, show (8 : Int32) = zI 8 from rfl, zI_eq (by omega) (by omega) (by omega) (by omega), zN_1, zI_clamp (n := s) (by omega)]
  refine ⟨fun e => hR (fun q => by have := q.2.1; omega), fun e => ⟨rfl, inR_in hz1 h10 (fun l hl el => inL_in (lo := -99) (hi := 99) x99m x99p hz2 (by decide) (by decide) (fun e2 => ⟨zN_in (by omega) (by decide), ?_⟩) (fun e2 => hR (fun q => e2 q.2.2))) (fun e1 => hR (fun q => e1 q.1))⟩⟩
  have := hQ l el ⟨by omega, by omega, e2⟩
  rw [el]
  exact this
theorem CSn_0 : CSn (wF F 21 2 0) A 0 sl st := ⟨⟨by decide, fun k hk => absurd hk (by omega), fun k hk => absurd hk (by omega)⟩, wF_same _ _ _ _, fun k hk => absurd hk (by omega), fun k hk => absurd hk (by omega)⟩
theorem MSn_0 : MSn (wF (wF F 68 3 0) 68 32 0) A 0 sl st := ⟨⟨by decide, fun k hk => absurd hk (by omega), fun k hk => absurd hk (by omega)⟩, wF_same _ _ _ _, fun k hk => absurd hk (by omega), fun k hk => absurd hk (by omega)⟩
end SightA
