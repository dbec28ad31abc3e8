/-! town, on both sides -/
section TownB
variable {d : Nat} {F A F0 A0 F1 A1 F' A' : Nat → Nat → Int32} {J : Nat → Nat → Int64} {G : pG} {Q : pR → pM → Prop} {SL p q : Nat} {tp : Nat → Int32} {N s i j n m : Nat} {c : List Int} {t : TwnR} {e : Nat × Nat}
/-- the text's answer -/
def txS (tp : Nat → Int32) (N : Nat) : (Nat × Nat) ⊕ TwnR := twS tp N 600 (skS tp N 0) tw0
def MTE (F A F' A' : Nat → Nat → Int32) (e : Nat × Nat) : Prop := (∀ i, i ≠ 68 → F' i = F i) ∧ (∀ j, (j < 3 ∨ 3 < j ∧ j < 13 ∨ 22 < j) → F' 68 j = F 68 j) ∧ (F' 68 3 = 0 ∧ F' 68 13 = 0 ∧ F' 68 22 = zI (e.2 : Int)) ∧ (∀ i, (i < 72 ∨ 79 < i) → A' i = A i) ∧ (A' 79 0 = A 79 0 + 1 ∧ ∀ j, j ≠ 0 → A' 79 j = A 79 j) ∧ (∀ j, j < 4 → A' 72 j = A 72 j) ∧ (∀ i j, 73 ≤ i → i ≤ 77 → j < 10 → A' i j = A i j) ∧ (∀ j, j < 600 → A' 78 j = A 78 j)
def MTT (F A F' A' : Nat → Nat → Int32) (t : TwnR) : Prop := (∀ i, i ≠ 68 → F' i = F i) ∧ (∀ j, (j < 3 ∨ 3 < j ∧ j < 13 ∨ 22 < j ∧ j < 28 ∨ 32 < j ∧ j < 50 ∨ 50 < j) → F' 68 j = F 68 j) ∧ (F' 68 3 = 0 ∧ F' 68 13 = 0 ∧ F' 68 22 = -1) ∧ (F' 68 31 = 0 ∧ F' 68 32 = 0 ∧ F' 68 50 = 0) ∧ (∀ i, (i < 72 ∨ 84 < i ∨ i = 79 ∨ i = 80) → A' i = A i) ∧ MTn F' A' t.2.1 t.1 ∧ MRl F' A' (fun i => t.2.2.2.2.getD i 0) t.2.2.2.2.length ∧ MSt F' A' t.1 (begS t.1 (t.2.1 6))
theorem m_203x (hG : Geo G SL p q) {x1 : Int32} (hx : x1 < 0 ∨ F 68 13 < x1) (hQ : Q (.inl (some (.int 0))) (wF (wF F 68 3 0) 68 3 1, A, J, G)) : X (d + 5) 203 0 [.ref 68, .int x1, .null] [] (F, A, J, G) Q := by
  refine t_203_0 hG ⟨fun _ => hQ, fun h => ⟨fun _ => hQ, fun h2 => ?_⟩⟩
  rcases hx with hx | hx
  · exact absurd hx h
  · exact absurd hx h2
theorem m_203 (hG : Geo G SL p q) (hd : 44 ≤ d + 3) (hT : MTp F A m tp) (hm : m ≤ 600) (hNm : N ≤ m) (hB : BtOk tp m) (hW : Wrm A) (h1 : ∀ t, txS tp N = .inr t → ∀ F' A', MTT F A F' A' t → Q (.inl (some (.int 0))) (F', A', J, G)) (h0 : ∀ e, txS tp N = .inl e → ∀ F' A', MTE F A F' A' e → Q (.inl (some (.int (zI (e.1 : Int))))) (F', A', J, G)) : X (d + 5) 203 0 [.ref 68, .int (zI (N : Int)), .null] [] (F, A, J, G) Q := by
  obtain ⟨f13, htp⟩ := hT
  have hB' : BtOk tp N := fun j hj => hB j (by omega)
  unfold txS at h1 h0
  refine t_203_0 hG ?_
  rw [zI_lt0 (by omega), f13, zN_lt (by omega) (by omega)]
  refine ⟨fun h => by omega, fun _ => ⟨fun h => by omega, fun _ => ?_⟩⟩
  generalize hF2 : wF (wF (wF (wF (wF (wF F 68 3 0) 68 13 0) 68 15 (zI (N : Int))) 68 14 0) 68 20 0) 68 22 (-1) = F2
  have fr1 : ∀ i, i ≠ 68 → F2 i = F i := fun i hi => by rw [← hF2, wF_row hi, wF_row hi, wF_row hi, wF_row hi, wF_row hi, wF_row hi]
  have fr2 : ∀ j, (j < 3 ∨ 3 < j ∧ j < 13 ∨ 22 < j) → F2 68 j = F 68 j := fun j hj => by rw [← hF2, wF_cell (by omega), wF_cell (by omega), wF_cell (by omega), wF_cell (by omega), wF_cell (by omega), wF_cell (by omega)]
  have v3 : F2 68 3 = 0 := by rw [← hF2, wF_cell (by decide), wF_cell (by decide), wF_cell (by decide), wF_cell (by decide), wF_cell (by decide), wF_same]
  have v13 : F2 68 13 = 0 := by rw [← hF2, wF_cell (by decide), wF_cell (by decide), wF_cell (by decide), wF_cell (by decide), wF_same]
  have v15 : F2 68 15 = zI (N : Int) := by rw [← hF2, wF_cell (by decide), wF_cell (by decide), wF_cell (by decide), wF_same]
  have v14 : F2 68 14 = zI ((0 : Nat) : Int) := by rw [← hF2, wF_cell (by decide), wF_cell (by decide), wF_same]; rfl
  have v20 : F2 68 20 = 0 := by rw [← hF2, wF_cell (by decide), wF_same]
  have v22 : F2 68 22 = -1 := by rw [← hF2, wF_same]
  have ini : ∀ A1, (∀ i, i ≠ 72 → A1 i = A i) → (∀ j, j < 4 → A1 72 j = A 72 j) → A1 72 4 = 0 → A1 72 5 = 9 → A1 72 6 = 100 → A1 72 7 = 0 → ∀ x2, X (d + 4) 187 0 [.ref 68, .null] [] (F2, A1, J, G) (KK (d + 5) 203 94 [.ref 68, .int (zI (N : Int)), .int x2] [] Q) := by
    intro A1 g1 g2 g4 g5 g6 g7 x2
    have L : ∀ f F3 A3 s t, N ≤ s + f → ML F2 A1 tp N F3 A3 s t → (∀ t', twS tp N f s t = .inr t' → ∀ F' A', MTT F A F' A' t' → Q (.inl (some (.int 0))) (F', A', J, G)) → (∀ e, twS tp N f s t = .inl e → ∀ F' A', MTE F A F' A' e → Q (.inl (some (.int (zI (e.1 : Int))))) (F', A', J, G)) → X (d + 5) 203 96 [.ref 68, .int (zI (N : Int)), .int (dnT t)] [] (F3, A3, J, G) Q := by
      intro f
      have done : ∀ F3 A3 s t, ML F2 A1 tp N F3 A3 s t → kdS tp N s = 0 → (∀ F' A', MTT F A F' A' t → Q (.inl (some (.int 0))) (F', A', J, G)) → X (d + 5) 203 96 [.ref 68, .int (zI (N : Int)), .int (dnT t)] [] (F3, A3, J, G) Q := by
        intro F3 A3 s t hL hk hQ
        have f20 := hL.2.1.2.2.2.1
        obtain ⟨r1, r2, r3, r4, r5, r6⟩ := hL.1
        have hW3 : Wrm A3 := by unfold Wrm; rw [r3 71 (by decide), g1 71 (by decide)]; exact hW
        refine t_203_96 hG ?_
        rw [tk_0 hL.2.1]
        refine ⟨fun _ => ⟨fun _ => ⟨fun _ => m_205 (d := d + 3) hG hW3 hL (fun F4 A4 hO => k_203_153 hG (hQ F4 A4 ?_)), fun h => absurd f20 h⟩, fun h => absurd hk h⟩, fun h => absurd f20 h⟩
        obtain ⟨o1, o2, o3, o4, o5, o6, o7⟩ := hO
        refine ⟨fun i hi => ?_, fun j hj => ?_, ⟨?_, ?_, ?_⟩, o3, fun i hi => ?_, o5, o6, o7⟩
        · rw [o1 i hi, r1 i hi, fr1 i hi]
        · rw [o2 j (by omega) (by omega) (by omega) (by omega) (by omega) (by omega), r2 j (by omega) (by omega) (by omega) (by omega) (by omega) (by omega) (by omega), fr2 j (by omega)]
        · rw [o2 3 (by decide) (by decide) (by decide) (by decide) (by decide) (by decide), r2 3 (by decide) (by decide) (by decide) (by decide) (by decide) (by decide) (by decide), v3]
        · rw [o2 13 (by decide) (by decide) (by decide) (by decide) (by decide) (by decide), r2 13 (by decide) (by decide) (by decide) (by decide) (by decide) (by decide) (by decide), v13]
        · rw [o2 22 (by decide) (by decide) (by decide) (by decide) (by decide) (by decide), r2 22 (by decide) (by decide) (by decide) (by decide) (by decide) (by decide) (by decide), v22]
        · rw [o4 i hi, r3 i (by omega), g1 i (by omega)]
      induction f with
      | zero =>
        intro F3 A3 s t hf hL h1 h0
        exact done F3 A3 s t hL (by rw [kd_0]; omega) (h1 t rfl)
      | succ f ih =>
        intro F3 A3 s t hf hL h1 h0
        by_cases hk : kdS tp N s = 0
        · exact done F3 A3 s t hL hk (h1 t (by rw [twS, if_pos hk]))
        · have hs : s < N := by
            apply Nat.lt_of_not_le
            intro hn
            rw [← kd_0 (tp := tp)] at hn
            exact hk hn
          have f20 := hL.2.1.2.2.2.1
          rw [twS, if_neg hk] at h1 h0
          refine t_203_96 hG ?_
          rw [tk_0 hL.2.1]
          refine ⟨fun _ => ⟨fun h => absurd h hk, fun _ => m_202 (d := d) hG hd hL hs (fun v hv F4 A4 hL4 => k_203_115 hG ?_) (fun e he F4 A4 r hE => k_203_115 hG ?_)⟩, fun h => absurd f20 h⟩
          · rw [hv] at h1 h0
            have hgo : s < v.1 := by
              unfold liS at hv
              have hcl : ∀ s' t', clS tp N s' t' = .inr v → s' ≤ N → s' < v.1 := by
                intro s' t' hc hs'
                unfold clS at hc
                split at hc
                · rename_i hg
                  cases hc
                  exact nx_gt (sg_lt hg)
                · cases hc
              have hnx := nx_gt (tp := tp) hs
              have hnl := nx_le (tp := tp) (Nat.le_of_lt hs)
              split at hv
              · split at hv
                · cases hv
                · split at hv
                  · cases hv
                  · rename_i u hu
                    unfold tbS at hu
                    split at hu
                    · cases hu
                    · rename_i a ha
                      have ba := num_b ha hnl
                      split at hu
                      · cases hu
                      · rename_i b hb
                        have bb := num_b hb ba.2.2
                        split at hu
                        · cases hu
                        · rename_i l hl
                          have bl := num_b hl (by split; exact nx_le bb.2.2; exact bb.2.2)
                          have hbl : b.1 ≤ l.1 := by
                            have h9 := bl.2.1
                            split at h9
                            · rename_i hg
                              have := nx_gt (tp := tp) (sg_lt hg)
                              omega
                            · omega
                          split at hu
                          · cases hu
                          · rename_i h hh
                            have bh := num_b hh bl.2.2
                            cases hu
                            have := hcl _ _ hv bh.2.2
                            omega
              · split at hv
                · split at hv
                  · cases hv
                  · split at hv
                    · cases hv
                    · rename_i u hu
                      have bu := num_b hu hnl
                      have := hcl _ _ hv bu.2.2
                      omega
                · split at hv
                  · split at hv
                    · cases hv
                    · split at hv
                      · cases hv
                      · rename_i u hu
                        have bu := num_b hu hnl
                        have := hcl _ _ hv bu.2.2
                        omega
                  · split at hv
                    · split at hv
                      · cases hv
                      · split at hv
                        · cases hv
                        · rename_i u hu
                          have bu := ex_ok 6 _ _ _ _ hu hnl
                          have := hcl _ _ hv bu.2.1
                          omega
                    · cases hv
            exact ih F4 A4 v.1 v.2 (by omega) hL4 h1 h0
          · rw [he] at h0
            have hb := ME_b hE.2
            refine t_203_96 hG ⟨fun h => absurd h hb, fun _ => ⟨fun h => absurd h hb, fun _ => ?_⟩⟩
            obtain ⟨r1, r2, r3, r4, r5, r6⟩ := hE.1
            rw [hE.2.2.2.2.1]
            refine h0 e rfl _ _ ⟨fun i hi => ?_, fun j hj => ?_, ⟨?_, ?_, ?_⟩, fun i hi => ?_, ⟨?_, fun j hj => ?_⟩, fun j hj => ?_, fun i j i1 i2 hj => ?_, fun j hj => ?_⟩
            · rw [wF_row hi, r1 i hi, fr1 i hi]
            · rw [wF_cell (by omega), r2 j (by omega) (by omega) (by omega) (by omega) (by omega) (by omega) (by omega), fr2 j hj]
            · rw [wF_cell (by decide), r2 3 (by decide) (by decide) (by decide) (by decide) (by decide) (by decide) (by decide), v3]
            · rw [wF_cell (by decide), r2 13 (by decide) (by decide) (by decide) (by decide) (by decide) (by decide) (by decide), v13]
            · rw [wF_same]; exact hE.2.2.2.2.2
            · rw [wF_row (by omega), r3 i (by omega), g1 i (by omega)]
            · rw [wF_same, r3 79 (by decide), g1 79 (by decide)]
            · rw [wF_cell hj, r3 79 (by decide), g1 79 (by decide)]
            · rw [wF_row (by decide), r4 j hj, g2 j hj]
            · rw [wF_row (by omega), r5 i j i1 i2 hj, g1 i (by omega)]
            · rw [wF_row (by decide), r6 j hj, g1 78 (by decide)]
    refine m_187 (d := d + 3) hG (e := 0) (by omega) hB' (fun j hj => by rw [g1 80 (by decide)]; exact htp j (by omega)) (Nat.zero_le _) v15 v14 (fun F3 a1 a2 a18 a14 a19 a16 a17 => k_203_94 hG (L 600 F3 A1 _ tw0 (by omega) ⟨?_, ⟨RGr.rf _ _, ⟨by omega, hB', fun j hj => by rw [g1 80 (by decide)]; exact htp j (by omega), sc_le _ (Nat.zero_le _), Nat.zero_le _⟩, ?_, ?_, a18, a14, a19, a16, a17, ?_, fun i hi => absurd hi (Nat.not_lt_zero i)⟩, tw0_ok, ?_, ?_, ?_, fun i hi => absurd hi (Nat.not_lt_zero i)⟩ h1 h0))
    · exact ⟨a1, fun j j14 j16 j17 j18 j19 j20 j21 => a2 j j14 j16 j17 j18 j19, fun _ _ => rfl, fun _ _ => rfl, fun _ _ _ _ _ => rfl, fun _ _ => rfl⟩
    · rw [a2 15 (by decide) (by decide) (by decide) (by decide) (by decide)]; exact v15
    · rw [a2 20 (by decide) (by decide) (by decide) (by decide) (by decide)]; exact v20
    · rw [g7]; rfl
    · rw [g4]; rfl
    · rw [g5]; rfl
    · rw [g6]; rfl
  refine t_203_50 hG ⟨fun _ => ⟨fun h => absurd h (by decide), fun _ => ⟨fun h => absurd h (by decide), fun _ => ⟨by decide, ?_⟩⟩⟩, fun h => absurd (by decide) h⟩
  refine t_203_50 hG ⟨fun _ => ⟨fun _ => ⟨by decide, ?_⟩, fun h => absurd (by decide) h⟩, fun h => absurd (by decide) h⟩
  refine t_203_50 hG ⟨fun _ => ⟨fun h => absurd h (by decide), fun _ => ⟨fun _ => ⟨by decide, ?_⟩, fun h => absurd (by decide) h⟩⟩, fun h => absurd (by decide) h⟩
  refine t_203_50 hG ⟨fun _ => ⟨fun h => absurd h (by decide), fun _ => ⟨fun h => absurd h (by decide), fun _ => ⟨by decide, ?_⟩⟩⟩, fun h => absurd (by decide) h⟩
  refine t_203_50 hG ⟨fun h => absurd h (by decide), fun _ => ?_⟩
  refine ini _ (fun i hi => ?_) (fun j hj => ?_) ?_ ?_ ?_ ?_ _
  · rw [wF_row hi, wF_row hi, wF_row hi, wF_row hi]
  · have e4 : ((4 : Int32) + 0).toNatClampNeg = 4 := by decide
    have e5 : ((4 : Int32) + (0 + 1)).toNatClampNeg = 5 := by decide
    have e6 : ((4 : Int32) + (0 + 1 + 1)).toNatClampNeg = 6 := by decide
    have e7 : ((4 : Int32) + (0 + 1 + 1 + 1)).toNatClampNeg = 7 := by decide
    rw [wF_cell (by omega), wF_cell (by omega), wF_cell (by omega), wF_cell (by omega)]
  · rw [wF_cell (by decide), wF_cell (by decide), wF_cell (by decide)]; exact wF_same _ _ _ _
  · rw [wF_cell (by decide), wF_cell (by decide)]; exact wF_same _ _ _ _
  · rw [wF_cell (by decide)]; exact wF_same _ _ _ _
  · exact wF_same _ _ _ _
end TownB
