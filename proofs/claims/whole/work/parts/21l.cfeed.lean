/-! the class is fed -/
section FeedA
def CTp (F A : Nat → Nat → Int32) (m : Nat) (tp : Nat → Int32) : Prop := F 0 1 = zI (m : Int) ∧ ∀ j, j < m → A 1 j = sbI (tp j)
def ap4 (tp : Nat → Int32) (m : Nat) (x : Int32) : Nat → Int32 := fun j => if j = m then (x >>> 24) &&& 255 else if j = m + 1 then (x >>> 16) &&& 255 else if j = m + 2 then (x >>> 8) &&& 255 else if j = m + 3 then (x >>> 0) &&& 255 else tp j
variable {d : Nat} {F A F' A' : Nat → Nat → Int32} {J : Nat → Nat → Int64} {G : pG} {Q : pR → pM → Prop} {SL p q m : Nat} {tp : Nat → Int32} {x x1 x2 x3 x4 x5 : Int32}
theorem c_170 (hG : Geo G SL p q) (hT : CTp F A m tp) (hm : m + 4 ≤ 600) (hQ : ∀ F' A', (∀ i, i ≠ 0 → F' i = F i) → (∀ c, c ≠ 1 → F' 0 c = F 0 c) → (∀ i, i ≠ 1 → A' i = A i) → CTp F' A' (m + 4) (ap4 tp m x) → Q (.inl none) (F', A', J, G)) : X d 170 0 [.ref 0, .int x, .null] [] (F, A, J, G) Q := by
  obtain ⟨f1, hb⟩ := hT
  refine t_170_0 hG (t_170_3 hG ⟨fun e => absurd e (by decide), fun _ => ?_⟩)
  rw [f1, by_24, show (24 : Int32) + -8 = 16 from by decide, zN_1, zI_clamp (by omega)]
  refine ⟨zN_in (by omega) (by decide), t_170_3 hG ⟨fun e => absurd e (by decide), fun _ => ?_⟩⟩
  rw [wF_same, by_16, show (16 : Int32) + -8 = 8 from by decide, zN_1, zI_clamp (by omega)]
  refine ⟨zN_in (by omega) (by decide), t_170_3 hG ⟨fun e => absurd e (by decide), fun _ => ?_⟩⟩
  rw [wF_same, by_8, show (8 : Int32) + -8 = 0 from by decide, zN_1, zI_clamp (by omega)]
  refine ⟨zN_in (by omega) (by decide), t_170_3 hG ⟨fun e => absurd e (by decide), fun _ => ?_⟩⟩
  rw [wF_same, by_0, show (0 : Int32) + -8 = -8 from by decide, zN_1, zI_clamp (by omega)]
  refine ⟨zN_in (by omega) (by decide), t_170_3 hG ⟨fun _ => ?_, fun e => absurd (by decide) e⟩⟩
  refine hQ _ _ (fun i hi => ?_) (fun c hc => ?_) (fun i hi => ?_) ⟨?_, fun j hj => ?_⟩
  · rw [wF_row hi, wF_row hi, wF_row hi, wF_row hi]
  · rw [wF_cell hc, wF_cell hc, wF_cell hc, wF_cell hc]
  · rw [wF_row hi, wF_row hi, wF_row hi, wF_row hi]
  · rw [wF_same]
  · unfold ap4
    by_cases e0 : j = m
    · subst e0
      rw [if_pos rfl, wF_cell (by omega), wF_cell (by omega), wF_cell (by omega), wF_same]
    · rw [if_neg e0]
      by_cases e1 : j = m + 1
      · subst e1
        rw [if_pos rfl, wF_cell (by omega), wF_cell (by omega), wF_same]
      · rw [if_neg e1]
        by_cases e2 : j = m + 2
        · subst e2
          rw [if_pos rfl, wF_cell (by omega), wF_same]
        · rw [if_neg e2]
          by_cases e3 : j = m + 3
          · subst e3
            rw [if_pos rfl, wF_same]
          · rw [if_neg e3, wF_cell (by omega), wF_cell (by omega), wF_cell (by omega), wF_cell (by omega)]
            exact hb j (by omega)
def ap20 (tp : Nat → Int32) (m : Nat) (x1 x2 x3 x4 x5 : Int32) : Nat → Int32 := ap4 (ap4 (ap4 (ap4 (ap4 tp m x1) (m + 4) x2) (m + 4 + 4) x3) (m + 4 + 4 + 4) x4) (m + 4 + 4 + 4 + 4) x5
theorem c_126 (hG : Geo G SL p q) (hT : CTp F A m tp) (hm : m ≤ 600) (hR : 580 < m → Q (.inl (some (.int (-1)))) (F, A, J, G)) (hQ : m ≤ 580 → ∀ F' A', (∀ i, i ≠ 0 → F' i = F i) → (∀ c, c ≠ 1 → F' 0 c = F 0 c) → (∀ i, i ≠ 1 → A' i = A i) → CTp F' A' (m + 20) (ap20 tp m x1 x2 x3 x4 x5) → Q (.inl (some (.int (zI ((m + 20 : Nat) : Int))))) (F', A', J, G)) : X (d + 1) 126 0 [.ref 0, .int x1, .int x2, .int x3, .int x4, .int x5] [] (F, A, J, G) Q := by
  refine t_126n_0 hG ?_
  rw [hT.1, show (20 : Int32) = zI ((20 : Nat) : Int) from rfl, zN_add, show (600 : Int32) = zI ((600 : Nat) : Int) from rfl, zN_lt (by omega) (by omega)]
  refine ⟨fun e => hR (by omega), fun e => ?_⟩
  refine c_170 hG hT (by omega) (fun F1 A1 a1 a2 a3 a4 => k_126n_20 hG (c_170 hG a4 (by omega) (fun F2 A2 b1 b2 b3 b4 => k_126n_25 hG (c_170 hG b4 (by omega) (fun F3 A3 c1 c2 c3 c4 => k_126n_30 hG (c_170 hG c4 (by omega) (fun F4 A4 d1 d2 d3 d4 => k_126n_36 hG (c_170 hG d4 (by omega) (fun F5 A5 e1 e2 e3 e4 => k_126n_42 hG ?_)))))))))
  have := hQ (by omega) F5 A5 (fun i hi => by rw [e1 i hi, d1 i hi, c1 i hi, b1 i hi, a1 i hi]) (fun c hc => by rw [e2 c hc, d2 c hc, c2 c hc, b2 c hc, a2 c hc]) (fun i hi => by rw [e3 i hi, d3 i hi, c3 i hi, b3 i hi, a3 i hi]) e4
  rw [e4.1]
  exact this
end FeedA
