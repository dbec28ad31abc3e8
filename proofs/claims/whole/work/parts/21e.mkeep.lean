/-! the reference keeps an act, and undoes the last -/
section HistE
def MFr (F A F' A' : Nat → Nat → Int32) : Prop := (∀ i, i ≠ 68 → F' i = F i) ∧ (∀ c, c ≠ 3 → (c < 28 ∨ 31 < c) → F' 68 c = F 68 c) ∧ F' 68 3 = 0 ∧ (∀ i, (i < 81 ∨ 87 < i) → A' i = A i)
def MAct (F A F' A' : Nat → Nat → Int32) (n k : Nat) (hs : Nat → Sn) (s' : Sn) : Prop := MFr F A F' A' ∧ F' 68 31 = zI (kN k : Int) ∧ MHs (A' 85) n (kN k) (puH k hs s') ∧ MSt F' A' n s'
variable {d : Nat} {F A F' A' F'' A'' : Nat → Nat → Int32} {J : Nat → Nat → Int64} {G : pG} {Q : pR → pM → Prop} {SL p q t k n h i a b b' : Nat} {s s' u : Sn} {hs : Nat → Sn} {row row' : Nat → Int32} {x1 x2 x3 x4 : Int32} {z : Int}
theorem k85 (hG : Geo G SL p q) : gK G 85 = 20 := k_85 hG
theorem l85 (hG : Geo G SL p q) : gL G 85 = 1720 := l_85 hG
theorem MHr_pk (h10 : n ≤ 10) (hp : Pkd A' 85 b F A) (hS : MSt F A n s) : MHr (A' 85) b n s := by
  obtain ⟨⟨hw, f1, f2, b0, b1, b2, b3⟩, f3⟩ := hS
  have hn := hw.1
  obtain ⟨g1, g2, g3, g4⟩ := hp
  exact ⟨g1.trans f1, g2.trans f2, g3.trans f3, fun l hl => (g4 l (by omega)).1.trans (b0 l hl), fun i hi => ⟨(g4 i (by omega)).2.1.trans (b1 i hi), (g4 i (by omega)).2.2.1.trans (b2 i hi), (g4 i (by omega)).2.2.2.trans (b3 i hi)⟩⟩
theorem MHr_cong (h10 : n ≤ 10) (hh : sH s ≤ 10) (hc : ∀ c, c < 43 → row' (b' + c) = row (b + c)) (hm : MHr row b n s) : MHr row' b' n s := by
  obtain ⟨g1, g2, g3, g4, g5⟩ := hm
  refine ⟨(hc 0 (by omega)).trans g1, (hc 1 (by omega)).trans g2, (hc 2 (by omega)).trans g3, fun l hl => ?_, fun i hi => ⟨?_, ?_, ?_⟩⟩
  · have := hc (3 + l) (by omega)
    rw [← Nat.add_assoc, ← Nat.add_assoc] at this
    exact this.trans (g4 l hl)
  · have := hc (13 + i) (by omega)
    rw [← Nat.add_assoc, ← Nat.add_assoc] at this
    exact this.trans (g5 i hi).1
  · have := hc (23 + i) (by omega)
    rw [← Nat.add_assoc, ← Nat.add_assoc] at this
    exact this.trans (g5 i hi).2.1
  · have := hc (33 + i) (by omega)
    rw [← Nat.add_assoc, ← Nat.add_assoc] at this
    exact this.trans (g5 i hi).2.2
theorem puH_ok (hk : k ≤ 40) (h3 : ∀ j, j ≤ k → SOk n (hs j)) (hok : SOk n s') : ∀ j, j ≤ kN k → SOk n (puH k hs s' j) := fun j hj => by
  unfold puH
  by_cases e : k < 40
  · rw [if_pos e]
    split
    · exact h3 j (by omega)
    · exact hok
  · rw [if_neg e]
    split
    · exact h3 (j + 1) (by omega)
    · exact hok
theorem m_228 (hG : Geo G SL p q) (h10 : n ≤ 10) (f31 : F 68 31 = zI (k : Int)) (hH : MHs (A 85) n k hs) (hS : MSt F A n (hs k)) (hQ : ∀ F' A', (∀ i, i ≠ 68 → F' i = F i) → (∀ c, c ≠ 31 → F' 68 c = F 68 c) → F' 68 31 = zI (kN k : Int) → (∀ i, i ≠ 85 → A' i = A i) → (∀ s', SOk n s' → MHs (A' 85) n (kN k) (puH k hs s')) → Q (.inl none) (F', A', J, G)) : X (d + 1) 228 0 [.ref 68, .null] [] (F, A, J, G) Q := by
  obtain ⟨h1, h3, h4⟩ := hH
  have hb : ∀ j, j ≤ k → sH (hs j) ≤ 10 := fun j hj => Nat.le_trans (h3 j hj).1.1 h10
  refine t_228_0 hG ?_
  rw [f31, show (40 : Int32) = zI 40 from rfl, zI_eq (by omega) (by omega) (by omega) (by omega)]
  refine ⟨fun e => ?_, fun e => ?_⟩
  · have e40 : k = 40 := by omega
    subst e40
    refine up_indF (a := 43) (h := 1720) (P := fun x => ∀ A1, (∀ i, i ≠ 85 → A1 i = A i) → (∀ c, c + 43 < x → A1 85 c = A 85 (c + 43)) → (∀ c, x ≤ c → c < 1720 → A1 85 c = A 85 c) → X (d + 1) 228 12 [.ref 68, .int (zI (x : Int))] [] (F, A1, J, G) Q) (by decide) ?_ ?_ A (fun _ _ => rfl) (fun c hc => by omega) (fun _ _ _ => rfl)
    · intro A1 g1 g2 g3
      refine t_228_12 hG ⟨fun e => ?_, fun _ => ?_⟩
      · exact absurd e (by decide)
      · rw [f31, show (43 : Int32) * (zI ((40 : Nat) : Int) - 1) = zI ((1677 : Nat) : Int) from by decide]
        have hS1 : MSt (wF F 68 31 (zI ((40 : Nat) : Int) - 1)) A1 n (hs 40) := by
          unfold MSt MTw at hS ⊢
          rw [wF_cell (by decide), wF_cell (by decide), wF_cell (by decide), g1 81 (by decide), g1 82 (by decide), g1 83 (by decide), g1 84 (by decide)]
          exact hS
        refine m_207 hG (k85 hG) (l85 hG) (by decide) (b := 1677) (by decide) (by decide) (fun A2 p1 p2 p3 => k_228_67 hG (hQ _ _ (fun i hi => ?_) (fun c hc => ?_) ?_ (fun i hi => (p1 i hi).trans (g1 i hi)) (fun s' hok => ⟨by decide, puH_ok (by decide) h3 hok, fun j hj => ?_⟩)))
        · rw [wF_row hi, wF_row hi]
        · rw [wF_cell hc, wF_cell hc]
        · rw [wF_same, wF_same]; decide
        · have hj' : j < 40 := hj
          unfold puH
          rw [if_neg (by decide), if_pos hj']
          by_cases ej : j = 39
          · subst ej
            exact MHr_pk h10 p3 hS1
          · refine MHr_cong h10 (hb (j + 1) (by omega)) (fun c hc => ?_) (h4 (j + 1) (by omega))
            rw [p2 _ (by omega), g2 _ (by omega)]
            congr 1
            omega
    · intro x hx1 hx2 ih A1 g1 g2 g3
      refine t_228_12 hG ⟨fun _ => ?_, fun e => ?_⟩
      · rw [show (43 : Int32) = zI 43 from rfl, zI_sub, show (x : Int) - 43 = ((x - 43 : Nat) : Int) by omega, zN_1, zI_clamp (by omega), zI_clamp (by omega)]
        refine ⟨zN_in (by omega) (by decide), zN_in (by omega) (by decide), ih _ (fun i hi => ?_) (fun c hc => ?_) (fun c c1 c2 => ?_)⟩
        · rw [wF_row hi]; exact g1 i hi
        · rw [wF_at]
          by_cases e1 : c = x - 43
          · rw [if_pos ⟨rfl, e1⟩, g3 x (by omega) hx2, e1, show x - 43 + 43 = x by omega]
          · rw [if_neg (fun q => e1 q.2)]; exact g2 c (by omega)
        · rw [wF_cell (by omega)]; exact g3 c (by omega) c2
      · rw [show (1720 : Int32) = zI ((1720 : Nat) : Int) from rfl, zN_lt (by omega) (by omega)] at e
        omega
  · have e40 : k < 40 := by omega
    have ek : kN k = k + 1 := by unfold kN; rw [if_pos e40]
    rw [show (43 : Int32) = zI 43 from rfl, zI_mul, show (43 : Int) * (k : Int) = ((43 * k : Nat) : Int) by omega]
    refine m_207 hG (k85 hG) (l85 hG) (by decide) (b := 43 * k) (by omega) (by decide) (fun A2 p1 p2 p3 => k_228_67 hG (hQ _ _ (fun i hi => wF_row hi) (fun c hc => wF_cell hc _) ?_ p1 (fun s' hok => ⟨by omega, puH_ok h1 h3 hok, fun j hj => ?_⟩)))
    · rw [wF_same, f31, zN_1, ek]
    · unfold puH
      rw [if_pos e40, if_pos (by omega)]
      by_cases ej : j = k
      · subst ej
        exact MHr_pk h10 p3 hS
      · refine MHr_cong h10 (hb j (by omega)) (fun c hc => ?_) (h4 j (by omega))
        rw [p2 _ (by omega)]
theorem m_241 (hG : Geo G SL p q) (h10 : n ≤ 10) (f31 : F 68 31 = zI (k : Int)) (hH : MHs (A 85) n k hs) (hR : k = 0 → Q (.inl (some (.int (-1)))) (wF F 68 3 0, A, J, G)) (hQ : ∀ j, k = j + 1 → ∀ F' A', MFr F A F' A' → F' 68 31 = zI (j : Int) → A' 85 = A 85 → MSt F' A' n (hs j) → Q (.inl (some (.int (zI (j : Int))))) (F', A', J, G)) : X (d + 1) 241 0 [.ref 68] [] (F, A, J, G) Q := by
  obtain ⟨h1, h3, h4⟩ := hH
  refine t_241_0 hG ?_
  rw [f31, zI_eq0 (by omega)]
  refine ⟨fun e => hR (by omega), fun e => ?_⟩
  obtain ⟨j, rfl⟩ : ∃ j, k = j + 1 := ⟨k - 1, by omega⟩
  have hk := h3 j (by omega)
  have hn := hk.1.1
  obtain ⟨g1, g2, g3, g4, g5⟩ := h4 j (by omega)
  rw [zZ_s1, show ((j + 1 : Nat) : Int) - 1 = (j : Int) by omega, show (43 : Int32) = zI 43 from rfl, zI_mul, show (43 : Int) * (j : Int) = ((43 * j : Nat) : Int) by omega]
  refine m_208 hG (k85 hG) (l85 hG) (by decide) (b := 43 * j) (by omega) (by decide) (fun A2 p1 p2 => k_241_39 hG ?_)
  have e31 : UnF (wF (wF F 68 3 0) 68 31 (zI (j : Int))) A 85 (43 * j) 68 31 = zI (j : Int) := by
    unfold UnF
    rw [wF_cell (by decide), wF_cell (by decide), wF_cell (by decide), wF_same]
  rw [e31]
  refine hQ j rfl _ _ ⟨fun i hi => ?_, fun c c1 c2 => ?_, ?_, fun i hi => p1 i (by omega)⟩ e31 (p1 85 (by decide)) (MSt_of hk (SEq.rf _) ?_ ?_ ?_ (fun l hl => ?_) (fun i hi => ?_) (fun i hi => ?_) (fun i hi => ?_))
  · unfold UnF
    rw [wF_row hi, wF_row hi, wF_row hi, wF_row hi, wF_row hi]
  · unfold UnF
    rw [wF_cell (by omega), wF_cell (by omega), wF_cell (by omega), wF_cell (by omega), wF_cell c1]
  · unfold UnF
    rw [wF_cell (by decide), wF_cell (by decide), wF_cell (by decide), wF_cell (by decide), wF_same]
  · unfold UnF
    rw [wF_cell (by decide), wF_cell (by decide), wF_same]
    exact g1
  · unfold UnF
    rw [wF_cell (by decide), wF_same]
    exact g2
  · unfold UnF
    rw [wF_same]
    exact g3
  · rw [(p2 l (by omega)).1]; exact g4 l hl
  · rw [(p2 i (by omega)).2.1]; exact (g5 i hi).1
  · rw [(p2 i (by omega)).2.2.1]; exact (g5 i hi).2.1
  · rw [(p2 i (by omega)).2.2.2]; exact (g5 i hi).2.2
end HistE
