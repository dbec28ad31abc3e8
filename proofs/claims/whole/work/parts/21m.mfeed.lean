/-! the reference is fed -/
section FeedB
def MTp (F A : Nat → Nat → Int32) (m : Nat) (tp : Nat → Int32) : Prop := F 68 13 = zI (m : Int) ∧ ∀ j, j < m → A 80 j = tp j
def shI (r : Nat) : Int32 := if r = 0 then 24 else if r = 1 then 16 else if r = 2 then 8 else 0
variable {d : Nat} {F A F' A' : Nat → Nat → Int32} {J : Nat → Nat → Int64} {G : pG} {Q : pR → pM → Prop} {SL p q m j : Nat} {tp : Nat → Int32} {x x1 x2 x3 x4 x5 : Int32}
theorem sh_q : ∀ q : Nat, q < 20 → (((24 : Int32) - ((8 : Int32) * (jrem (zI (q : Int)) 4))) &&& 31) = shI (q % 4) := by decide +kernel
theorem ap4_ne (h : j < m ∨ m + 4 ≤ j) : ap4 tp m x j = tp j := by
  unfold ap4
  rw [if_neg (by omega), if_neg (by omega), if_neg (by omega), if_neg (by omega)]
theorem ap4_v {r : Nat} (hr : r < 4) (hj : j = m + r) : ap4 tp m x j = (x >>> shI r) &&& 255 := by
  subst hj
  unfold ap4 shI
  by_cases e0 : r = 0
  · rw [if_pos (by omega), if_pos e0]
  · rw [if_neg (by omega), if_neg e0]
    by_cases e1 : r = 1
    · rw [if_pos (by omega), if_pos e1]
    · rw [if_neg (by omega), if_neg e1]
      by_cases e2 : r = 2
      · rw [if_pos (by omega), if_pos e2]
      · rw [if_neg (by omega), if_neg e2, if_pos (by omega)]
theorem m_182 (hG : Geo G SL p q) (hT : MTp F A m tp) (hm : m ≤ 600) (hR : 580 < m → Q (.inl (some (.int (-1)))) (wF F 68 3 0, A, J, G)) (hQ : m ≤ 580 → ∀ F' A', (∀ i, i ≠ 68 → F' i = F i) → (∀ c, c ≠ 3 → c ≠ 13 → F' 68 c = F 68 c) → F' 68 3 = 0 → (∀ i, i ≠ 80 → A' i = A i) → MTp F' A' (m + 20) (ap20 tp m x1 x2 x3 x4 x5) → Q (.inl (some (.int (zI ((m + 20 : Nat) : Int))))) (F', A', J, G)) : X d 182 0 [.ref 68, .int x1, .int x2, .int x3, .int x4, .int x5, .null, .null] [] (F, A, J, G) Q := by
  obtain ⟨f1, hb⟩ := hT
  refine t_182_0 hG ?_
  rw [f1, show (20 : Int32) = zI ((20 : Nat) : Int) from rfl, zN_add, show (600 : Int32) = zI ((600 : Nat) : Int) from rfl, zN_lt (by omega) (by omega)]
  refine ⟨fun e => hR (by omega), fun e => ?_⟩
  refine up_ind (h := 20) (P := fun q => ∀ F1 A1 v7, (∀ i, i ≠ 68 → F1 i = F i) → (∀ c, c ≠ 3 → c ≠ 13 → F1 68 c = F 68 c) → F1 68 3 = 0 → F1 68 13 = zI ((m + q : Nat) : Int) → (∀ i, i ≠ 80 → A1 i = A i) → (∀ j, j < m + q → A1 80 j = ap20 tp m x1 x2 x3 x4 x5 j) → X d 182 23 [.ref 68, .int x1, .int x2, .int x3, .int x4, .int x5, .int (zI (q : Int)), v7] [] (F1, A1, J, G) Q) ?_ ?_ (wF F 68 3 0) A .null (fun i hi => wF_row hi) (fun c c1 c2 => wF_cell c1 _) (wF_same _ _ _ _) (by rw [wF_cell (by decide)]; exact f1) (fun _ _ => rfl) (fun j hj => ?_)
  · intro F1 A1 v7 g1 g2 g3 g4 g5 g6
    refine t_182_23 hG ⟨fun e => absurd e (by decide), fun _ => ?_⟩
    have := hQ (by omega) F1 A1 g1 g2 g3 g5 ⟨g4, g6⟩
    rw [g4]
    exact this
  · intro q hq ih F1 A1 v7 g1 g2 g3 g4 g5 g6
    have key : ∀ (y : Int32) (v : Value), (y >>> shI (q % 4)) &&& 255 = ap20 tp m x1 x2 x3 x4 x5 (m + q) → inB (F1 68 13) 600 = true ∧ X d 182 23 [.ref 68, .int x1, .int x2, .int x3, .int x4, .int x5, .int (zI ((q + 1 : Nat) : Int)), v] [] (wF F1 68 13 (F1 68 13 + 1), wF A1 80 (F1 68 13).toNatClampNeg ((y >>> shI (q % 4)) &&& 255), J, G) Q := by
      intro y v hy
      rw [g4, zI_clamp (by omega), zN_1, hy]
      refine ⟨zN_in (by omega) (by decide), ih _ _ _ (fun i hi => ?_) (fun c c1 c2 => ?_) ?_ ?_ (fun i hi => ?_) (fun j hj => ?_)⟩
      · rw [wF_row hi]; exact g1 i hi
      · rw [wF_cell c2]; exact g2 c c1 c2
      · rw [wF_cell (by decide)]; exact g3
      · rw [wF_same]; rfl
      · rw [wF_row hi]; exact g5 i hi
      · rw [wF_at]
        by_cases e : j = m + q
        · rw [if_pos ⟨rfl, e⟩, e]
        · rw [if_neg (fun q => e q.2)]; exact g6 j (by omega)
    refine t_182_23 hG ?_
    rw [sh_q q hq, zN_1, show (20 : Int32) = zI ((20 : Nat) : Int) from rfl, show (4 : Int32) = zI ((4 : Nat) : Int) from rfl, show (8 : Int32) = zI ((8 : Nat) : Int) from rfl, show (12 : Int32) = zI ((12 : Nat) : Int) from rfl, show (16 : Int32) = zI ((16 : Nat) : Int) from rfl, zN_lt (by omega) (by omega), zN_lt (by omega) (by omega), zN_lt (by omega) (by omega), zN_lt (by omega) (by omega), zN_lt (by omega) (by omega)]
    unfold ap20 at key
    refine ⟨fun _ => ⟨fun e => key x1 _ ?_, fun e => ⟨fun e1 => key x2 _ ?_, fun e1 => ⟨fun e2 => key x3 _ ?_, fun e2 => ⟨fun e3 => key x4 _ ?_, fun e3 => key x5 _ ?_⟩⟩⟩⟩, fun e => absurd hq e⟩
    · rw [ap4_ne (by omega), ap4_ne (by omega), ap4_ne (by omega), ap4_ne (by omega), ap4_v (r := q % 4) (by omega) (by omega)]
    · rw [ap4_ne (by omega), ap4_ne (by omega), ap4_ne (by omega), ap4_v (r := q % 4) (by omega) (by omega)]
    · rw [ap4_ne (by omega), ap4_ne (by omega), ap4_v (r := q % 4) (by omega) (by omega)]
    · rw [ap4_ne (by omega), ap4_v (r := q % 4) (by omega) (by omega)]
    · rw [ap4_v (r := q % 4) (by omega) (by omega)]
  · unfold ap20
    rw [ap4_ne (by omega), ap4_ne (by omega), ap4_ne (by omega), ap4_ne (by omega), ap4_ne (by omega)]
    exact hb j (by omega)
end FeedB
