/-! the reference acts -/
section HistF
variable {d : Nat} {F A F' A' F'' A'' : Nat → Nat → Int32} {J : Nat → Nat → Int64} {G : pG} {Q : pR → pM → Prop} {SL p q t k n h i a b b' : Nat} {s s' u : Sn} {hs : Nat → Sn} {x1 x2 x3 x4 : Int32} {z z1 z2 : Int} {K : Nat → Nat → Int} {cd : Nat → Int} {cl : Nat} {fd : Int} {ord : Nat → Nat}
theorem MSt_3 {v : Int32} (hS : MSt F A n s) : MSt (wF F 68 3 v) A n s := by
  unfold MSt MTw at hS ⊢
  rw [wF_cell (by decide), wF_cell (by decide), wF_cell (by decide)]
  exact hS
theorem inR_in {z : Int} (hz : -2147483648 ≤ z ∧ z < 2147483648) (hn : n ≤ 10) {P1 P2 : Prop} (h1 : ∀ i : Nat, i < n → z = (i : Int) → P1) (h2 : ¬ (0 ≤ z ∧ z < n) → P2) : ((inR (zI z) (zI (n : Int)) = true → P1) ∧ (inR (zI z) (zI (n : Int)) = false → P2)) := by
  rw [inR_z hz hn]
  refine ⟨fun e => ?_, fun e => h2 (of_decide_eq_false e)⟩
  obtain ⟨i, hi, ei⟩ := zI_at (of_decide_eq_true e)
  exact h1 i hi ei
/-- what an act of the reference leaves as it was -/
theorem m_fr (q1 : ∀ i, i ≠ 68 → F' i = wF F 68 3 0 i) (q2 : ∀ c, c ≠ 31 → F' 68 c = wF F 68 3 0 68 c) (qA : ∀ i, (i < 81 ∨ 87 < i) → A' i = A i) : MFr F A F' A' := by
  refine ⟨fun i hi => ?_, fun c c1 c2 => ?_, ?_, qA⟩
  · rw [q1 i hi, wF_row hi]
  · rw [q2 c (by omega), wF_cell c1]
  · rw [q2 3 (by decide), wF_same]
theorem m_fr2 {c0 : Nat} {v : Int32} (hc0 : c0 = 28 ∨ c0 = 29 ∨ c0 = 30) (h : MFr F A F' A') : MFr F A (wF F' 68 c0 v) A' := by
  obtain ⟨g1, g2, g3, g4⟩ := h
  refine ⟨fun i hi => ?_, fun c c1 c2 => ?_, ?_, g4⟩
  · rw [wF_row hi, g1 i hi]
  · rw [wF_cell (by omega), g2 c c1 c2]
  · rw [wF_cell (by omega), g3]
theorem m_229 (hG : Geo G SL p q) (hT : MTn F A K n) (hz1 : -2147483648 ≤ z1 ∧ z1 < 2147483648) (hz : -2147483648 ≤ z ∧ z < 2147483648) (f31 : F 68 31 = zI (k : Int)) (hH : MHs (A 85) n k hs) (hS : MSt F A n (hs k)) (hb1 : ¬ (0 ≤ z1 ∧ z1 < n) → Q (.inl (some (.int 0))) (wF (wF F 68 3 0) 68 3 1, A, J, G)) (hR : ∀ i : Nat, i < n → z1 = (i : Int) → (lvZ (sO (hs k)) (sH (hs k)) (i : Int) ≠ -1 ∨ z < 0 ∨ sH (hs k) < z) → Q (.inl (some (.int (-1)))) (wF F 68 3 0, wF A 79 1 (A 79 1 + 1), J, G)) (hQ : ∀ i a : Nat, i < n → z1 = (i : Int) → z = (a : Int) → a ≤ sH (hs k) → lvZ (sO (hs k)) (sH (hs k)) (i : Int) = -1 → ∀ F' A', MAct F A F' A' n k hs (putS (hs k) i a) → Q (.inl (some (.int (zI ((sH (hs k) + 1 : Nat) : Int))))) (F', A', J, G)) : X (d + 2) 229 0 [.ref 68, .int (zI z1), .int (zI z), .null] [] (F, A, J, G) Q := by
  have h10 := hT.1.1
  have h3 := hH.2.1
  have hk := h3 k (Nat.le_refl _)
  obtain ⟨⟨hw, f1, f2, b0, b1, b2, b3⟩, f3⟩ := hS
  have hS : MSt F A n (hs k) := ⟨⟨hw, f1, f2, b0, b1, b2, b3⟩, f3⟩
  have hn := hw.1
  have f1' : wF F 68 3 0 68 28 = zI ((sH (hs k) : Nat) : Int) := by rw [wF_cell (by decide)]; exact f1
  refine t_229_0 hG ?_
  rw [hT.2.2.1, f1', f1, hB_z h10, hB_z (by omega)]
  refine ⟨rfl, inR_in hz1 h10 (fun i hi ei => ⟨rfl, ?_⟩) hb1⟩
  subst ei
  have lb := lvZ_b (ord := sO (hs k)) (h := sH (hs k)) (z := (i : Int))
  rw [lvi_z (by omega) h10 hS.1, zI_eqm (by omega), zI_lt0 hz, zI_lt (by omega) (by omega) hz.1 hz.2]
  refine ⟨fun e => ⟨fun e1 => hR i hi rfl (Or.inr (Or.inl e1)), fun e1 => ⟨fun e2 => hR i hi rfl (Or.inr (Or.inr e2)), fun e2 => ?_⟩⟩, fun e => hR i hi rfl (Or.inl e)⟩
  obtain ⟨a, ha, ea⟩ := zI_at (m := sH (hs k) + 1) (z := z) (by omega)
  subst ea
  have hlt : sH (hs k) < n := inj_lt hw.2.1 hw.2.2.1 hi (lv_not e)
  have hok : SOk n (putS (hs k) i a) := ⟨ins_ok (by omega) hi (by omega) (lv_not e) hw, hk.2.1, hk.2.2⟩
  have hQ1 := hQ i a hi rfl rfl (by omega) e
  refine m_228 hG h10 (by rw [wF_cell (by decide)]; exact f31) hH (MSt_3 hS) (fun F2 A2 q1 q2 q3 q4 q5 => k_229_50 hG ?_)
  have f28 : F2 68 28 = zI ((sH (hs k) : Nat) : Int) := by rw [q2 28 (by decide)]; exact f1'
  rw [f28]
  have hfr := m_fr (F := F) (A := A) (A' := A) q1 q2 (fun _ _ => rfl)
  have := dn_ind (h := sH (hs k) - a) (P := fun j => ∀ A1, (∀ i, i ≠ 81 → A1 i = A2 i) → (∀ l, l ≤ a + j → A1 81 l = A2 81 l) → (∀ l, a + j < l → l < sH (hs k) + 1 → A1 81 l = A2 81 (l - 1)) → X (d + 2) 229 55 [.ref 68, .int (zI (i : Int)), .int (zI (a : Int)), .int (zI ((a + j : Nat) : Int))] [] (F2, A1, J, G) Q) ?_ ?_ A2 (fun _ _ => rfl) (fun _ _ => rfl) (fun l h1 h2 => by omega)
  · rw [show a + (sH (hs k) - a) = sH (hs k) by omega] at this
    exact this
  · intro A1 g1 g2 g3
    refine t_229_55 hG ⟨fun e => ?_, fun _ => ?_⟩
    · rw [zN_lt (by omega) (by omega)] at e
      omega
    · rw [f28, zN_1, zI_clamp (by omega)]
      refine ⟨zN_in (by omega) (by decide), hQ1 _ _ ⟨?_, ?_, ?_, MSt_of hok (SEq.rf _) ?_ ?_ ?_ (fun l hl => ?_) (fun j hj => ?_) (fun j hj => ?_) (fun j hj => ?_)⟩⟩
      · refine m_fr2 (Or.inl rfl) ⟨hfr.1, hfr.2.1, hfr.2.2.1, fun i hi => ?_⟩
        rw [wF_row (by omega), g1 i (by omega), q4 i (by omega)]
      · rw [wF_cell (by decide)]; exact q3
      · rw [wF_row (by decide), g1 85 (by decide)]; exact q5 _ hok
      · rw [wF_same]; rfl
      · rw [wF_cell (by decide), q2 29 (by decide), wF_cell (by decide)]; exact f2
      · rw [wF_cell (by decide), q2 30 (by decide), wF_cell (by decide)]; exact f3
      · have hl' : l < sH (hs k) + 1 := hl
        show _ = zI ((insO (sO (hs k)) i a l : Nat) : Int)
        have e81 : A2 81 = A 81 := q4 81 (by decide)
        rw [wF_at]
        unfold insO
        by_cases e1 : l < a
        · rw [if_neg (fun q => by omega), if_pos e1, g2 l (by omega), e81]; exact b0 l (by omega)
        · rw [if_neg e1]
          by_cases e2 : l = a
          · rw [if_pos ⟨rfl, e2⟩, if_pos e2]
          · rw [if_neg (fun q => e2 q.2), if_neg e2, g3 l (by omega) hl', e81]; exact b0 (l - 1) (by omega)
      · rw [wF_row (by decide), g1 _ (by decide), q4 _ (by decide)]; exact b1 j hj
      · rw [wF_row (by decide), g1 _ (by decide), q4 _ (by decide)]; exact b2 j hj
      · rw [wF_row (by decide), g1 _ (by decide), q4 _ (by decide)]; exact b3 j hj
  · intro j hj ih A1 g1 g2 g3
    refine t_229_55 hG ⟨fun _ => ?_, fun e => ?_⟩
    · rw [zZ_s1, zZ_m1, show ((a + (j + 1) : Nat) : Int) - 1 = ((a + j : Nat) : Int) by omega, zI_clamp (by omega), zI_clamp (by omega)]
      refine ⟨zN_in (by omega) (by decide), zN_in (by omega) (by decide), ih _ (fun i hi => ?_) (fun l hl => ?_) (fun l h4 h5 => ?_)⟩
      · rw [wF_row hi]; exact g1 i hi
      · rw [wF_at, if_neg (fun q => by omega)]; exact g2 l (by omega)
      · rw [wF_at]
        by_cases e : l = a + (j + 1)
        · rw [if_pos ⟨rfl, e⟩, e, g2 _ (by omega), show a + (j + 1) - 1 = a + j by omega]
        · rw [if_neg (fun q => e q.2)]; exact g3 l (by omega) h5
    · rw [zN_lt (by omega) (by omega)] at e
      omega
theorem m_231 (hG : Geo G SL p q) (hT : MTn F A K n) (hz1 : -2147483648 ≤ z1 ∧ z1 < 2147483648) (f31 : F 68 31 = zI (k : Int)) (hH : MHs (A 85) n k hs) (hS : MSt F A n (hs k)) (hb1 : ¬ (0 ≤ z1 ∧ z1 < n) → Q (.inl (some (.int 0))) (wF (wF F 68 3 0) 68 3 1, A, J, G)) (hR : ∀ i : Nat, i < n → z1 = (i : Int) → lvZ (sO (hs k)) (sH (hs k)) (i : Int) = -1 → Q (.inl (some (.int (-1)))) (wF F 68 3 0, wF A 79 1 (A 79 1 + 1), J, G)) (hQ : ∀ i l : Nat, i < n → z1 = (i : Int) → lvZ (sO (hs k)) (sH (hs k)) (i : Int) = (l : Int) → ∀ F' A', MAct F A F' A' n k hs (takS (hs k) i l) → Q (.inl (some (.int (zI (l : Int))))) (F', A', J, G)) : X (d + 2) 231 0 [.ref 68, .int (zI z1), .null] [] (F, A, J, G) Q := by
  have h10 := hT.1.1
  have h3 := hH.2.1
  have hk := h3 k (Nat.le_refl _)
  obtain ⟨⟨hw, f1, f2, b0, b1, b2, b3⟩, f3⟩ := hS
  have hS : MSt F A n (hs k) := ⟨⟨hw, f1, f2, b0, b1, b2, b3⟩, f3⟩
  have hn := hw.1
  have f1' : wF F 68 3 0 68 28 = zI ((sH (hs k) : Nat) : Int) := by rw [wF_cell (by decide)]; exact f1
  refine t_231_0 hG ?_
  rw [hT.2.2.1, f1', hB_z h10, hB_z (by omega)]
  refine ⟨rfl, inR_in hz1 h10 (fun i hi ei => ⟨rfl, ?_⟩) hb1⟩
  subst ei
  have lb := lvZ_b (ord := sO (hs k)) (h := sH (hs k)) (z := (i : Int))
  rw [lvi_z (by omega) h10 hS.1, zI_eqm (by omega)]
  refine ⟨fun e => hR i hi rfl e, fun e => ?_⟩
  obtain ⟨l, hl0, el⟩ := zI_at (m := sH (hs k)) (z := lvZ (sO (hs k)) (sH (hs k)) (i : Int)) (by omega)
  obtain ⟨hl, hol⟩ := lvz_at' el
  have hQ1 := hQ i l hi rfl el
  rw [el]
  refine m_228 hG h10 (by rw [wF_cell (by decide)]; exact f31) hH (MSt_3 hS) (fun F2 A2 q1 q2 q3 q4 q5 => k_231_40 hG ?_)
  have hfr := m_fr (F := F) (A := A) (A' := A) q1 q2 (fun _ _ => rfl)
  have hW2 : MTw F2 A2 n (sH (hs k)) (sO (hs k)) (sM (hs k)) (sW (hs k)) (sL (hs k)) (sY (hs k)) := by
    have := (MSt_3 (v := 0) hS).1
    unfold MTw at this ⊢
    rw [q2 28 (by decide), q2 29 (by decide), q4 81 (by decide), q4 82 (by decide), q4 83 (by decide), q4 84 (by decide)]
    exact this
  refine m_230 hG h10 hW2 hl hol (fun A3 g1 g2 => k_231_45 hG ?_)
  have hok : SOk n (takS (hs k) i l) := by
    refine ⟨g2.1, fun j hj => ?_, hk.2.2⟩
    show upZ (sM (hs k)) i 0 j ≤ 999
    unfold upZ
    split
    · decide
    · exact hk.2.1 j hj
  refine hQ1 _ _ ⟨m_fr2 (Or.inl rfl) ⟨hfr.1, hfr.2.1, hfr.2.2.1, fun i hi => ?_⟩, ?_, ?_, g2, ?_⟩
  · rw [g1 i (by omega), q4 i (by omega)]
  · rw [wF_cell (by decide)]; exact q3
  · rw [g1 85 (by decide)]; exact q5 _ hok
  · rw [wF_cell (by decide), q2 30 (by decide), wF_cell (by decide)]; exact f3
theorem m_233 (hG : Geo G SL p q) (h10 : n ≤ 10) (hz1 : -2147483648 ≤ z1 ∧ z1 < 2147483648) (hz2 : -2147483648 ≤ z2 ∧ z2 < 2147483648) (f31 : F 68 31 = zI (k : Int)) (hH : MHs (A 85) n k hs) (hS : MSt F A n (hs k)) (hb1 : ¬ ((0 ≤ z1 ∧ z1 < sH (hs k)) ∧ (0 ≤ z2 ∧ z2 < sH (hs k))) → Q (.inl (some (.int 0))) (wF (wF F 68 3 0) 68 3 1, A, J, G)) (hR : (0 ≤ z1 ∧ z1 < sH (hs k)) → z1 = z2 → Q (.inl (some (.int 0))) (wF F 68 3 0, wF A 79 1 (A 79 1 + 1), J, G)) (hQ : ∀ a b : Nat, a < sH (hs k) → b < sH (hs k) → z1 = (a : Int) → z2 = (b : Int) → a ≠ b → ∀ F' A', MAct F A F' A' n k hs (chaS (hs k) a b) → Q (.inl (some (.int 1))) (F', A', J, G)) : X (d + 2) 233 0 [.ref 68, .int (zI z1), .int (zI z2)] [] (F, A, J, G) Q := by
  have h3 := hH.2.1
  have hk := h3 k (Nat.le_refl _)
  obtain ⟨⟨hw, f1, f2, b0, b1, b2, b3⟩, f3⟩ := hS
  have hS : MSt F A n (hs k) := ⟨⟨hw, f1, f2, b0, b1, b2, b3⟩, f3⟩
  have hn := hw.1
  have f1' : wF F 68 3 0 68 28 = zI ((sH (hs k) : Nat) : Int) := by rw [wF_cell (by decide)]; exact f1
  refine t_233_0 hG ?_
  rw [f1', hB_z (by omega)]
  refine ⟨rfl, inR_in hz1 (by omega) (fun a ha ea => inR_in hz2 (by omega) (fun b hb eb => ?_) (fun e => hb1 (fun q => e q.2))) (fun e => hb1 (fun q => e q.1))⟩
  rw [zI_eq hz1.1 hz1.2 hz2.1 hz2.2]
  refine ⟨fun e => hR (by omega) e, fun e => ?_⟩
  have hab : a ≠ b := by omega
  have hQ1 := hQ a b ha hb ea eb hab
  subst ea
  subst eb
  have hok : SOk n (chaS (hs k) a b) := ⟨swp_ok ha hb hw, hk.2.1, hk.2.2⟩
  refine m_228 hG h10 (by rw [wF_cell (by decide)]; exact f31) hH (MSt_3 hS) (fun F2 A2 q1 q2 q3 q4 q5 => k_233_48 hG ?_)
  rw [zI_clamp (by omega), zI_clamp (by omega)]
  refine ⟨zN_in (by omega) (by decide), zN_in (by omega) (by decide), hQ1 _ _ ⟨m_fr q1 q2 (fun i hi => ?_), q3, ?_, MSt_of hok (SEq.rf _) ?_ ?_ ?_ (fun l hl => ?_) (fun j hj => ?_) (fun j hj => ?_) (fun j hj => ?_)⟩⟩
  · rw [wF_row (by omega), wF_row (by omega), q4 i (by omega)]
  · rw [wF_row (by decide), wF_row (by decide)]; exact q5 _ hok
  · rw [q2 28 (by decide)]; exact f1'
  · rw [q2 29 (by decide), wF_cell (by decide)]; exact f2
  · rw [q2 30 (by decide), wF_cell (by decide)]; exact f3
  · have hl' : l < sH (hs k) := hl
    show _ = zI ((swpO (sO (hs k)) a b l : Nat) : Int)
    have e81 : A2 81 = A 81 := q4 81 (by decide)
    rw [wF_at, wF_at, e81]
    unfold swpO
    by_cases e1 : l = b
    · rw [if_pos ⟨rfl, e1⟩, if_pos e1]; exact b0 a ha
    · rw [if_neg (fun q => e1 q.2), if_neg e1]
      by_cases e2 : l = a
      · rw [if_pos ⟨rfl, e2⟩, if_pos e2]; exact b0 b hb
      · rw [if_neg (fun q => e2 q.2), if_neg e2]; exact b0 l hl'
  · rw [wF_row (by decide), wF_row (by decide), q4 _ (by decide)]; exact b1 j hj
  · rw [wF_row (by decide), wF_row (by decide), q4 _ (by decide)]; exact b2 j hj
  · rw [wF_row (by decide), wF_row (by decide), q4 _ (by decide)]; exact b3 j hj
theorem inL_in {lo hi : Int} {x y : Int64} (hx : x = (zI lo).toInt64) (hy : y = (zI hi).toInt64) (hz : -2147483648 ≤ z ∧ z < 2147483648) (ha : -2147483648 ≤ lo ∧ lo < 2147483648) (hb : -2147483648 ≤ hi ∧ hi < 2147483648) {P1 P2 : Prop} (h1 : (lo ≤ z ∧ z ≤ hi) → P1) (h2 : ¬ (lo ≤ z ∧ z ≤ hi) → P2) : ((inL (zI z).toInt64 x y = true → P1) ∧ (inL (zI z).toInt64 x y = false → P2)) := by
  rw [inL_z hx hy hz ha hb]
  exact ⟨fun e => h1 (of_decide_eq_true e), fun e => h2 (of_decide_eq_false e)⟩
theorem x9m : (-9 : Int64) = (zI (-9)).toInt64 := by decide
theorem x9p : (9 : Int64) = (zI 9).toInt64 := by decide
theorem m_234 (hG : Geo G SL p q) (hT : MTn F A K n) (hz1 : -2147483648 ≤ z1 ∧ z1 < 2147483648) (hz : -2147483648 ≤ z ∧ z < 2147483648) (f31 : F 68 31 = zI (k : Int)) (hH : MHs (A 85) n k hs) (hS : MSt F A n (hs k)) (hb1 : ¬ (0 ≤ z1 ∧ z1 < n) → Q (.inl (some (.int 0))) (wF (wF F 68 3 0) 68 3 1, A, J, G)) (hR : (0 ≤ z1 ∧ z1 < n) → ¬ (-9 ≤ z ∧ z ≤ 9) → Q (.inl (some (.int (-99)))) (wF F 68 3 0, wF A 79 1 (A 79 1 + 1), J, G)) (hQ : ∀ i : Nat, i < n → z1 = (i : Int) → (-9 ≤ z ∧ z ≤ 9) → ∀ F' A', MAct F A F' A' n k hs (wdgS (hs k) i z) → Q (.inl (some (.int (zI (sW (hs k) i))))) (F', A', J, G)) : X (d + 2) 234 0 [.ref 68, .int (zI z1), .int (zI z), .null] [] (F, A, J, G) Q := by
  have h10 := hT.1.1
  have h3 := hH.2.1
  have hk := h3 k (Nat.le_refl _)
  obtain ⟨⟨hw, f1, f2, b0, b1, b2, b3⟩, f3⟩ := hS
  have hS : MSt F A n (hs k) := ⟨⟨hw, f1, f2, b0, b1, b2, b3⟩, f3⟩
  refine t_234_0 hG ?_
  rw [hT.2.2.1, hB_z h10]
  refine ⟨rfl, inR_in hz1 h10 (fun i hi ei => inL_in (lo := -9) (hi := 9) x9m x9p hz (by decide) (by decide) (fun e => ?_) (fun e => hR (by omega) e)) hb1⟩
  have hQ1 := hQ i hi ei e
  subst ei
  have hok : SOk n (wdgS (hs k) i z) := wdg_ok hk e
  refine m_228 hG h10 (by rw [wF_cell (by decide)]; exact f31) hH (MSt_3 hS) (fun F2 A2 q1 q2 q3 q4 q5 => k_234_42 hG ?_)
  rw [zI_clamp (by omega), q4 83 (by decide), b2 i hi]
  refine ⟨zN_in (by omega) (by decide), hQ1 _ _ ⟨m_fr q1 q2 (fun i hi => ?_), q3, ?_, MSt_of hok (SEq.rf _) ?_ ?_ ?_ (fun l hl => ?_) (fun j hj => ?_) (fun j hj => ?_) (fun j hj => ?_)⟩⟩
  · rw [wF_row (by omega), q4 i (by omega)]
  · rw [wF_row (by decide)]; exact q5 _ hok
  · rw [q2 28 (by decide), wF_cell (by decide)]; exact f1
  · rw [q2 29 (by decide), wF_cell (by decide)]; exact f2
  · rw [q2 30 (by decide), wF_cell (by decide)]; exact f3
  · rw [wF_row (by decide), q4 _ (by decide)]; exact b0 l hl
  · rw [wF_row (by decide), q4 _ (by decide)]; exact b1 j hj
  · show _ = zI (upZ (sW (hs k)) i z j)
    rw [wF_at, q4 83 (by decide)]
    unfold upZ
    by_cases e1 : j = i
    · rw [if_pos ⟨rfl, e1⟩, if_pos e1]
    · rw [if_neg (fun q => e1 q.2), if_neg e1]; exact b2 j hj
  · rw [wF_row (by decide), q4 _ (by decide)]; exact b3 j hj
theorem m_235 (hG : Geo G SL p q) (hT : MTn F A K n) (hz1 : -2147483648 ≤ z1 ∧ z1 < 2147483648) (hz : -2147483648 ≤ z ∧ z < 2147483648) (f31 : F 68 31 = zI (k : Int)) (hH : MHs (A 85) n k hs) (hS : MSt F A n (hs k)) (hb1 : ¬ (0 ≤ z1 ∧ z1 < n) → Q (.inl (some (.int 0))) (wF (wF F 68 3 0) 68 3 1, A, J, G)) (hR : (0 ≤ z1 ∧ z1 < n) → ¬ (-9 ≤ z ∧ z ≤ 9) → Q (.inl (some (.int (-99)))) (wF F 68 3 0, wF A 79 1 (A 79 1 + 1), J, G)) (hQ : ∀ i : Nat, i < n → z1 = (i : Int) → (-9 ≤ z ∧ z ≤ 9) → ∀ F' A', MAct F A F' A' n k hs (sawS (hs k) i z) → Q (.inl (some (.int (zI (sL (hs k) i))))) (F', A', J, G)) : X (d + 2) 235 0 [.ref 68, .int (zI z1), .int (zI z), .null] [] (F, A, J, G) Q := by
  have h10 := hT.1.1
  have h3 := hH.2.1
  have hk := h3 k (Nat.le_refl _)
  obtain ⟨⟨hw, f1, f2, b0, b1, b2, b3⟩, f3⟩ := hS
  have hS : MSt F A n (hs k) := ⟨⟨hw, f1, f2, b0, b1, b2, b3⟩, f3⟩
  refine t_235_0 hG ?_
  rw [hT.2.2.1, hB_z h10]
  refine ⟨rfl, inR_in hz1 h10 (fun i hi ei => inL_in (lo := -9) (hi := 9) x9m x9p hz (by decide) (by decide) (fun e => ?_) (fun e => hR (by omega) e)) hb1⟩
  have hQ1 := hQ i hi ei e
  subst ei
  have hok : SOk n (sawS (hs k) i z) := saw_ok hk e
  refine m_228 hG h10 (by rw [wF_cell (by decide)]; exact f31) hH (MSt_3 hS) (fun F2 A2 q1 q2 q3 q4 q5 => k_235_42 hG ?_)
  rw [zI_clamp (by omega), q4 84 (by decide), b3 i hi]
  refine ⟨zN_in (by omega) (by decide), hQ1 _ _ ⟨m_fr q1 q2 (fun i hi => ?_), q3, ?_, MSt_of hok (SEq.rf _) ?_ ?_ ?_ (fun l hl => ?_) (fun j hj => ?_) (fun j hj => ?_) (fun j hj => ?_)⟩⟩
  · rw [wF_row (by omega), q4 i (by omega)]
  · rw [wF_row (by decide)]; exact q5 _ hok
  · rw [q2 28 (by decide), wF_cell (by decide)]; exact f1
  · rw [q2 29 (by decide), wF_cell (by decide)]; exact f2
  · rw [q2 30 (by decide), wF_cell (by decide)]; exact f3
  · rw [wF_row (by decide), q4 _ (by decide)]; exact b0 l hl
  · rw [wF_row (by decide), q4 _ (by decide)]; exact b1 j hj
  · rw [wF_row (by decide), q4 _ (by decide)]; exact b2 j hj
  · show _ = zI (upZ (sL (hs k)) i z j)
    rw [wF_at, q4 84 (by decide)]
    unfold upZ
    by_cases e1 : j = i
    · rw [if_pos ⟨rfl, e1⟩, if_pos e1]
    · rw [if_neg (fun q => e1 q.2), if_neg e1]; exact b3 j hj
theorem m_240 (hG : Geo G SL p q) (h10 : n ≤ 10) (hz : -2147483648 ≤ z ∧ z < 2147483648) (f31 : F 68 31 = zI (k : Int)) (hH : MHs (A 85) n k hs) (hS : MSt F A n (hs k)) (hR : ¬ (1 ≤ z ∧ z ≤ 30 ∧ sY (hs k) + z ≤ 999) → Q (.inl (some (.int (-1)))) (wF F 68 3 0, wF A 79 1 (A 79 1 + 1), J, G)) (hQ : (1 ≤ z ∧ z ≤ 30 ∧ sY (hs k) + z ≤ 999) → ∀ F' A', MAct F A F' A' n k hs (yrsS (hs k) z) → Q (.inl (some (.int (zI (sY (hs k) + z))))) (F', A', J, G)) : X (d + 2) 240 0 [.ref 68, .int (zI z)] [] (F, A, J, G) Q := by
  have h3 := hH.2.1
  have hk := h3 k (Nat.le_refl _)
  obtain ⟨⟨hw, f1, f2, b0, b1, b2, b3⟩, f3⟩ := hS
  have hS : MSt F A n (hs k) := ⟨⟨hw, f1, f2, b0, b1, b2, b3⟩, f3⟩
  have hy := hw.2.2.2.2
  refine t_240_0 hG (inL_in (lo := 1) (hi := 30) rfl rfl hz (by decide) (by decide) (fun e => ?_) (fun e => hR (by omega)))
  rw [f2, zI_add, show (999 : Int32) = zI 999 from rfl, zI_lt (by omega) (by omega) (by omega) (by omega)]
  refine ⟨fun e1 => hR (by omega), fun e1 => ?_⟩
  have hok : SOk n (yrsS (hs k) z) := yrs_ok hk (by omega) (by omega)
  refine m_228 hG h10 (by rw [wF_cell (by decide)]; exact f31) hH (MSt_3 hS) (fun F2 A2 q1 q2 q3 q4 q5 => k_240_39 hG ?_)
  rw [q2 29 (by decide), wF_cell (by decide), f2, zI_add]
  refine hQ (by omega) _ _ ⟨m_fr2 (Or.inr (Or.inl rfl)) (m_fr q1 q2 (fun i hi => q4 i (by omega))), ?_, q5 _ hok, MSt_of hok (SEq.rf _) ?_ ?_ ?_ (fun l hl => ?_) (fun j hj => ?_) (fun j hj => ?_) (fun j hj => ?_)⟩
  · rw [wF_cell (by decide)]; exact q3
  · rw [wF_cell (by decide), q2 28 (by decide), wF_cell (by decide)]; exact f1
  · rw [wF_same]; rfl
  · rw [wF_cell (by decide), q2 30 (by decide), wF_cell (by decide)]; exact f3
  · rw [q4 _ (by decide)]; exact b0 l hl
  · rw [q4 _ (by decide)]; exact b1 j hj
  · rw [q4 _ (by decide)]; exact b2 j hj
  · rw [q4 _ (by decide)]; exact b3 j hj
theorem m_239 (hG : Geo G SL p q) (hT : MTn F A K n) (hR : MRl F A cd cl) (f31 : F 68 31 = zI (k : Int)) (hH : MHs (A 85) n k hs) (hS : MSt F A n (hs k)) (hQ : ∀ F' A', MAct F A F' A' n k hs (supS (hs k) (svZ K cd cl (sH (hs k)) (sO (hs k)) (K 5 0) (sM (hs k)) (sH (hs k))) (lfZ K cd cl (sH (hs k)) (sO (hs k)) (K 5 0) (sH (hs k)))) → Q (.inl (some (.int (zI (lfZ K cd cl (sH (hs k)) (sO (hs k)) (K 5 0) (sH (hs k))))))) (F', A', J, G)) : X (d + 3) 239 0 [.ref 68] [] (F, A, J, G) Q := by
  have h10 := hT.1.1
  have hx := hT.1.2.2.2
  have h3 := hH.2.1
  have hk := h3 k (Nat.le_refl _)
  obtain ⟨⟨hw, f1, f2, b0, b1, b2, b3⟩, f3⟩ := hS
  have hS : MSt F A n (hs k) := ⟨⟨hw, f1, f2, b0, b1, b2, b3⟩, f3⟩
  refine t_239_0 hG (m_228 hG h10 (by rw [wF_cell (by decide)]; exact f31) hH (MSt_3 hS) (fun F2 A2 q1 q2 q3 q4 q5 => k_239_9 hG ?_))
  have hT2 : MTn F2 A2 K n := by
    unfold MTn Wrm at hT ⊢
    rw [q4 71 (by decide), q4 72 (by decide), q4 73 (by decide), q4 74 (by decide), q4 75 (by decide), q4 77 (by decide)]
    exact hT
  have hR2 : MRl F2 A2 cd cl := by
    unfold MRl at hR ⊢
    rw [q4 72 (by decide), q4 78 (by decide)]
    exact hR
  have hW2 : MTw F2 A2 n (sH (hs k)) (sO (hs k)) (sM (hs k)) (sW (hs k)) (sL (hs k)) (sY (hs k)) := by
    have := (MSt_3 (v := 0) hS).1
    unfold MTw at this ⊢
    rw [q2 28 (by decide), q2 29 (by decide), q4 81 (by decide), q4 82 (by decide), q4 83 (by decide), q4 84 (by decide)]
    exact this
  rw [hT2.2.2.2.2.1]
  refine m_238 hG hT2 hW2 hR2 hx (fun A3 g1 g2 => k_239_20 hG ?_)
  have hok : SOk n (supS (hs k) (svZ K cd cl (sH (hs k)) (sO (hs k)) (K 5 0) (sM (hs k)) (sH (hs k))) (lfZ K cd cl (sH (hs k)) (sO (hs k)) (K 5 0) (sH (hs k)))) := sup_ok hk (fun i hi => ⟨(sv_b (n := n) hx (fun i hi => (hw.2.2.2.1 i hi).1) _ i hi).1, sv_9 (n := n) hx hk.2.1 _ i hi⟩)
  have hfr := m_fr (F := F) (A := A) (A' := A) q1 q2 (fun _ _ => rfl)
  obtain ⟨w1, w2, w3, w4, w5, w6, w7⟩ := g2
  refine hQ _ _ ⟨m_fr2 (Or.inr (Or.inr rfl)) ⟨hfr.1, hfr.2.1, hfr.2.2.1, fun i hi => ?_⟩, ?_, ?_, MSt_of hok (SEq.rf _) ?_ ?_ ?_ w4 w5 w6 w7⟩
  · rw [g1 i (by omega) (by omega) (by omega), q4 i (by omega)]
  · rw [wF_cell (by decide)]; exact q3
  · rw [g1 85 (by decide) (by decide) (by decide)]; exact q5 _ hok
  · rw [wF_cell (by decide)]; exact w2
  · rw [wF_cell (by decide)]; exact w3
  · rw [wF_same]; rfl
end HistF
