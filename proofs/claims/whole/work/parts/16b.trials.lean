/-! the class: what would be, if -/
section CTrialB
def upZ (f : Nat → Int) (i : Nat) (v : Int) : Nat → Int := fun j => if j = i then v else f j
def witZ (K : Nat → Nat → Int) (h : Nat) (ord : Nat → Nat) (ml wd ln : Nat → Int) (yr : Int) (i : Nat) : Int := morZ K (h - 1) (remO ord (lvZ ord h (i : Int)).toNat) ml wd ln yr
def relZ (K : Nat → Nat → Int) (h : Nat) (ord : Nat → Nat) (ml wd ln : Nat → Int) (yr : Int) : Nat → Int × Int := amx (fun i => (bst ord h).testBit i) (witZ K h ord ml wd ln yr) (-1)
def whnZ (K : Nat → Nat → Int) (h : Nat) (ord : Nat → Nat) (ml wd ln : Nat → Int) (yr : Int) : Int := fsB (fun y => !stdB K h ord ml wd ln (yr + y)) 100 0
variable {d : Nat} {F A F' A' F'' A'' : Nat → Nat → Int32} {J : Nat → Nat → Int64} {G : pG} {Q : pR → pM → Prop} {SL p q t a b i : Nat} {K : Nat → Nat → Int} {n h : Nat} {ord : Nat → Nat} {ml wd ln : Nat → Int} {yr : Int}
theorem tw53 : Tw 53 := Or.inr (Or.inl rfl)
theorem tw27 : Tw 27 := Or.inl rfl
theorem stdB_iff : stdB K h ord ml wd ln yr = true ↔ brkZ K h ord ml wd ln yr = -1 := by unfold stdB; exact decide_eq_true_iff
theorem std_hld : brkZ K h ord ml wd ln yr = -1 ↔ ∀ l, l < h → hldZ K h ord ml wd ln yr l = true := by
  unfold brkZ
  rw [fsB_none]
  constructor
  · intro h1 l hl
    have := h1 l (by omega) (by omega)
    simpa using this
  · intro h1 l _ hl
    have := h1 l (by omega)
    simpa using this
theorem mor_ge0 (hb : brkZ K h ord ml wd ln yr = -1) : 0 ≤ morZ K h ord ml wd ln yr := by
  unfold morZ
  rw [if_pos hb]
  exact mnZ_ge _ _ _ _ _ (fun i h1 h2 => ((hld_iff i).mp (std_hld.mp hb i (by omega))).1) (by decide)
theorem mor_std : morZ K h ord ml wd ln yr = -1 ↔ ¬ brkZ K h ord ml wd ln yr = -1 := by
  constructor
  · intro h1 h2
    have := mor_ge0 h2
    omega
  · intro h1
    unfold morZ
    rw [if_neg h1]
theorem mor_ge (hb : True) : -1 ≤ morZ K h ord ml wd ln yr := by
  by_cases e : brkZ K h ord ml wd ln yr = -1
  · have := mor_ge0 e; omega
  · rw [mor_std.mpr e]; exact Int.le_refl _
theorem CTw_rem (hf : ∀ i, i ≠ t + 1 → A' i = A i) (hr : ∀ l, l < h - 1 → A' (t + 1) l = zI (remO ord a l : Int)) (ha : a < h) (hW : CTw t F A n h ord ml wd ln yr) : CTw t (wF F t 1 (zI ((h - 1 : Nat) : Int))) A' n (h - 1) (remO ord a) ml wd ln yr := by
  obtain ⟨hw, f1, f2, b0, b1, b2, b3⟩ := hW
  refine ⟨rem_ok ha hw, wF_same _ _ _ _, ?_, hr, ?_, ?_, ?_⟩
  · rw [wF_cell (by decide)]; exact f2
  · rw [hf _ (by omega)]; exact b1
  · rw [hf _ (by omega)]; exact b2
  · rw [hf _ (by omega)]; exact b3
theorem CTn_tw (ht : Tw t) (hF : ∀ i, i ≠ t → F' i = F i) (hA : ∀ i, (i < t ∨ t + 7 < i) → A' i = A i) (hT : CTn F A K n) : CTn F' A' K n := by
  unfold Tw at ht
  unfold CTn at hT ⊢
  rw [hF 12 (by omega), hA 13 (by omega), hA 14 (by omega), hA 15 (by omega), hA 17 (by omega)]
  exact hT
/-- where a table is -/
theorem lvz_at (hw : TwOk n h ord ml wd ln yr) (hi : (bst ord h).testBit i = true) : ∃ l, l < h ∧ ord l = i ∧ lvZ ord h (i : Int) = (l : Int) := by
  obtain ⟨l, hl, he⟩ := (bst_bit ord i h).mp hi
  refine ⟨l, hl, he, ?_⟩
  unfold lvZ
  refine (fsB_some h 0 l).mpr ⟨by omega, by omega, decide_eq_true (by omega), fun j _ hj => decide_eq_false ?_⟩
  intro hq
  have := hw.2.2.1 j l (by omega) hl (by omega)
  omega
theorem c_105 (hG : Geo G SL p q) (hT : CTn F A K n) (hW : CTw 27 F A n h ord ml wd ln yr) (hi : (bst ord h).testBit i = true) (hin : i < n) (hQ : ∀ F' A', CScr F A F' A' → Q (.inl (some (.int (zI (witZ K h ord ml wd ln yr i))))) (F', A', J, G)) : X (d + 5) 105 0 [.ref 49, .int (zI (i : Int))] [] (F, A, J, G) Q := by
  have h10' := hT.1.1
  have h10 : h ≤ 10 := Nat.le_trans hW.1.1 hT.1.1
  obtain ⟨l, hl, he, hlv⟩ := lvz_at hW.1 hi
  refine t_105_0 hG ?_
  rw [hW.2.1, lv_z (by omega) (by omega) h10 hW.2.2.2.1 (fun l hl => by have := hW.1.2.1 l hl; omega), hlv]
  refine ⟨hB_z h10, ?_⟩
  have hT1 := CTn_scr (bec_scr (F := F) (A := A)) hT
  have hW1 := bec_tw h10' hW
  refine c_80 hG tw53 h10 hW1.2.1 hW1.2.2.2.1 hl (fun A1 hf hr => k_105_26 hG ?_)
  have hW2 := CTw_rem hf hr hl hW1
  have hT2 : CTn (wF (bF F 53 27) 53 1 (zI ((h - 1 : Nat) : Int))) A1 K n := CTn_tw tw53 (fun i hi => wF_row hi) (fun i hi => hf i (by omega)) hT1
  have hs2 : CScr F A (wF (bF F 53 27) 53 1 (zI ((h - 1 : Nat) : Int))) A1 := bec_scr.tr ⟨fun i _ h2 => wF_row (by omega), by rw [wF_row (by decide)], fun i _ _ h3 => hf i (by omega)⟩
  refine c_89 hG tw53 hT2 hW2 (fun A2 hf2 hg2 => k_105_33 hG ?_)
  have := hQ _ _ (hs2.tr (FrT_scr53 hf2))
  unfold witZ at this
  rw [hlv, Int.toNat_natCast] at this
  exact this
theorem c_106 (hG : Geo G SL p q) (hT : CTn F A K n) (hW : CTw 27 F A n h ord ml wd ln yr) (hQ : ∀ F' A', CScr F A F' A' → Q (.inl (some (.int (zI (relZ K h ord ml wd ln yr n).1)))) (F', A', J, G)) : X (d + 6) 106 0 [.ref 49, .null, .null, .null, .null] [] (F, A, J, G) Q := by
  have h10' := hT.1.1
  have h10 : h ≤ 10 := Nat.le_trans hW.1.1 hT.1.1
  refine t_106_0 hG ?_
  refine up_ind (h := n) (P := fun j => ∀ F1 A1 v, CScr F A F1 A1 → X (d + 6) 106 6 [.ref 49, .int (zI (relZ K h ord ml wd ln yr j).1), .int (zI (relZ K h ord ml wd ln yr j).2), .int (zI (j : Int)), v] [] (F1, A1, J, G) Q) ?_ ?_ F A .null CScr.rfl
  · intro F1 A1 v hs
    have hT1 := CTn_scr hs hT
    refine t_106_6 hG ⟨fun e => ?_, fun _ => hQ F1 A1 hs⟩
    rw [hT1.2.1, zN_lt (by omega) (by omega)] at e
    omega
  · intro j hj ih F1 A1 v hs
    have hT1 := CTn_scr hs hT
    have hW1 := CTw_scr hs hW
    have hlb := lvZ_b (ord := ord) (h := h) (z := (j : Int))
    have hln := lvZ_none (ord := ord) (h := h) (i := j)
    have hwb : ∀ i, i < j → (bst ord h).testBit i = true → witZ K h ord ml wd ln yr i ≤ 9999 := fun i hi hb => by
      obtain ⟨l, hl, he, hlv⟩ := lvz_at hW.1 hb
      unfold witZ
      rw [hlv, Int.toNat_natCast]
      exact (mor_b hT.1 (rem_ok hl hW.1)).2
    have hb : -1 ≤ (relZ K h ord ml wd ln yr j).2 ∧ (relZ K h ord ml wd ln yr j).2 ≤ 9999 := amx_b2 (by decide) j hwb
    have ih' := fun F1 A1 v hs => ih F1 A1 v hs
    simp only [relZ, amx] at ih'
    refine t_106_6 hG ⟨fun _ => ?_, fun e => ?_⟩
    · rw [hW1.2.1, lv_z (by omega) (by omega) h10 hW1.2.2.2.1 (fun l hl => by have := hW.1.2.1 l hl; omega), zm1, zI_eq (by omega) (by omega) (by omega) (by omega), zI_lt (by omega) (by omega) (by omega) (by omega), hln, zN_1]
      refine ⟨hB_z h10, fun e => ⟨fun e' => by omega, fun _ => ?_⟩, fun e => ?_⟩
      · have := ih' F1 A1 (.int (zI (-1))) hs
        rw [if_neg (fun q => by rw [e] at q; exact absurd q.1 (by decide))] at this
        exact this
      · have e1 : (bst ord h).testBit j = true := by simpa using e
        refine c_105 hG hT1 hW1 e1 hj (fun F2 A2 hs2 => k_106_38 hG ?_)
        obtain ⟨l, hl, he, hlv⟩ := lvz_at hW.1 e1
        have hwj : -70000 ≤ witZ K h ord ml wd ln yr j ∧ witZ K h ord ml wd ln yr j ≤ 9999 := by
          unfold witZ
          rw [hlv, Int.toNat_natCast]
          exact mor_b hT.1 (rem_ok hl hW.1)
        rw [zI_lt (by omega) (by omega) (by omega) (by omega), zN_1]
        refine ⟨fun e' => ?_, fun e' => ?_⟩
        · have := ih' F2 A2 (.int (zI (witZ K h ord ml wd ln yr j))) (hs.tr hs2)
          rw [if_pos ⟨e1, e'⟩] at this
          exact this
        · have := ih' F2 A2 (.int (zI (witZ K h ord ml wd ln yr j))) (hs.tr hs2)
          rw [if_neg (fun q => e' q.2)] at this
          exact this
    · rw [hT1.2.1, zN_lt (by omega) (by omega)] at e
      omega
theorem upZ_ok {v : Int} (hv : 0 ≤ v ∧ v ≤ 6000) (hw : TwOk n h ord ml wd ln yr) : TwOk n h ord (upZ ml i v) wd ln yr := by
  obtain ⟨h1, h2, h3, h4, h5⟩ := hw
  refine ⟨h1, h2, h3, fun j hj => ⟨?_, (h4 j hj).2⟩, h5⟩
  unfold upZ
  split
  · exact hv
  · exact (h4 j hj).1
/-- a meal of the tower at t is otherwise -/
theorem CTw_meal {v : Int} (hv : 0 ≤ v ∧ v ≤ 6000) (hW : CTw t F A n h ord ml wd ln yr) : CTw t F (wF A (t + 2) i (zI v)) n h ord (upZ ml i v) wd ln yr := by
  obtain ⟨hw, f1, f2, b0, b1, b2, b3⟩ := hW
  refine ⟨upZ_ok hv hw, f1, f2, ?_, fun j hj => ?_, ?_, ?_⟩
  · rw [wF_row (by omega)]; exact b0
  · rw [wF_at]
    unfold upZ
    by_cases e : j = i
    · rw [if_pos ⟨rfl, e⟩, if_pos e]
    · rw [if_neg (fun q => e q.2), if_neg e]; exact b1 j hj
  · rw [wF_row (by omega)]; exact b2
  · rw [wF_row (by omega)]; exact b3
theorem CTw_wdg {v : Int} (hv : -9 ≤ v ∧ v ≤ 9) (hW : CTw t F A n h ord ml wd ln yr) : CTw t F (wF A (t + 3) i (zI v)) n h ord ml (upZ wd i v) ln yr := by
  obtain ⟨hw, f1, f2, b0, b1, b2, b3⟩ := hW
  refine ⟨⟨hw.1, hw.2.1, hw.2.2.1, fun j hj => ⟨(hw.2.2.2.1 j hj).1, ?_, (hw.2.2.2.1 j hj).2.2⟩, hw.2.2.2.2⟩, f1, f2, ?_, ?_, fun j hj => ?_, ?_⟩
  · unfold upZ; split
    · exact hv
    · exact (hw.2.2.2.1 j hj).2.1
  · rw [wF_row (by omega)]; exact b0
  · rw [wF_row (by omega)]; exact b1
  · rw [wF_at]
    unfold upZ
    by_cases e : j = i
    · rw [if_pos ⟨rfl, e⟩, if_pos e]
    · rw [if_neg (fun q => e q.2), if_neg e]; exact b2 j hj
  · rw [wF_row (by omega)]; exact b3
theorem CTw_lean {v : Int} (hv : -9 ≤ v ∧ v ≤ 9) (hW : CTw t F A n h ord ml wd ln yr) : CTw t F (wF A (t + 4) i (zI v)) n h ord ml wd (upZ ln i v) yr := by
  obtain ⟨hw, f1, f2, b0, b1, b2, b3⟩ := hW
  refine ⟨⟨hw.1, hw.2.1, hw.2.2.1, fun j hj => ⟨(hw.2.2.2.1 j hj).1, (hw.2.2.2.1 j hj).2.1, ?_⟩, hw.2.2.2.2⟩, f1, f2, ?_, ?_, ?_, fun j hj => ?_⟩
  · unfold upZ; split
    · exact hv
    · exact (hw.2.2.2.1 j hj).2.2
  · rw [wF_row (by omega)]; exact b0
  · rw [wF_row (by omega)]; exact b1
  · rw [wF_row (by omega)]; exact b2
  · rw [wF_at]
    unfold upZ
    by_cases e : j = i
    · rw [if_pos ⟨rfl, e⟩, if_pos e]
    · rw [if_neg (fun q => e q.2), if_neg e]; exact b3 j hj
theorem CTw_yr {v : Int} (hv : 0 ≤ v ∧ v ≤ 1200) (hW : CTw t F A n h ord ml wd ln yr) : CTw t (wF F t 2 (zI v)) A n h ord ml wd ln v := by
  obtain ⟨hw, f1, f2, b0, b1, b2, b3⟩ := hW
  refine ⟨⟨hw.1, hw.2.1, hw.2.2.1, hw.2.2.2.1, hv⟩, ?_, wF_same _ _ _ _, b0, b1, b2, b3⟩
  rw [wF_cell (by decide)]; exact f1
theorem c_110 {m : Int} (hG : Geo G SL p q) (hT : CTn F A K n) (hW : CTw 27 F A n h ord ml wd ln yr) (hi : i < n) (hm : 0 ≤ m ∧ m ≤ 99) (hml : ml i ≤ 999) (hQ : ∀ F' A', CScr F A F' A' → Q (.inl (some (.int (zI (brkZ K h ord (upZ ml i (ml i + m)) wd ln yr))))) (F', A', J, G)) : X (d + 4) 110 0 [.ref 49, .int (zI (i : Int)), .int (zI m)] [] (F, A, J, G) Q := by
  have h10' := hT.1.1
  have h10 : h ≤ 10 := Nat.le_trans hW.1.1 hT.1.1
  have hT1 := CTn_scr (bec_scr (F := F) (A := A)) hT
  have hW1 := bec_tw h10' hW
  have hb1 := hW1.2.2.2.2.1 i hi
  have hm0 := (hW.1.2.2.2.1 i hi).1
  have hb1' : bA A 53 27 55 i = zI (ml i) := hb1
  refine t_110_0 hG ⟨zN_in (by omega) (by decide), ?_⟩
  rw [zI_clamp (by omega), hb1', zI_add]
  have hW2 := CTw_meal (i := i) (v := ml i + m) (by omega) hW1
  have hT2 : CTn (bF F 53 27) (wF (bA A 53 27) 55 i (zI (ml i + m))) K n := CTn_tw tw53 (fun i hi => rfl) (fun i hi => wF_row (by omega)) hT1
  have hs2 : CScr F A (bF F 53 27) (wF (bA A 53 27) 55 i (zI (ml i + m))) := bec_scr.tr ⟨fun i _ h2 => rfl, rfl, fun i _ _ h3 => wF_row (by omega)⟩
  exact c_87 hG tw53 hT2 hW2 (fun A2 hf2 hg2 => k_110_31 hG (hQ _ _ (hs2.tr (FrT_scr53 hf2))))
theorem c_111 {m : Int} (hG : Geo G SL p q) (hT : CTn F A K n) (hW : CTw 27 F A n h ord ml wd ln yr) (hm : 0 ≤ m ∧ m ≤ 99) (hyr : yr ≤ 999) (hQ : ∀ F' A', CScr F A F' A' → Q (.inl (some (.int (zI (brkZ K h ord ml wd ln (yr + m)))))) (F', A', J, G)) : X (d + 4) 111 0 [.ref 49, .int (zI m)] [] (F, A, J, G) Q := by
  have h10' := hT.1.1
  have h10 : h ≤ 10 := Nat.le_trans hW.1.1 hT.1.1
  have hT1 := CTn_scr (bec_scr (F := F) (A := A)) hT
  have hW1 := bec_tw h10' hW
  have hy0 := hW.1.2.2.2.2
  refine t_111_0 hG ?_
  rw [hW1.2.2.1, zI_add]
  have hW2 := CTw_yr (v := yr + m) (by omega) hW1
  have hT2 : CTn (wF (bF F 53 27) 53 2 (zI (yr + m))) (bA A 53 27) K n := CTn_tw tw53 (fun i hi => wF_row hi) (fun i hi => rfl) hT1
  have hs2 : CScr F A (wF (bF F 53 27) 53 2 (zI (yr + m))) (bA A 53 27) := bec_scr.tr ⟨fun i _ h2 => wF_row (by omega), by rw [wF_row (by decide)], fun i _ _ h3 => rfl⟩
  exact c_87 hG tw53 hT2 hW2 (fun A2 hf2 hg2 => k_111_31 hG (hQ _ _ (hs2.tr (FrT_scr53 hf2))))
theorem c_112 (hG : Geo G SL p q) (hT : CTn F A K n) (hW : CTw 27 F A n h ord ml wd ln yr) (hyr : yr ≤ 999) (hQ : ∀ F' A', CScr F A F' A' → Q (.inl (some (.int (zI (whnZ K h ord ml wd ln yr))))) (F', A', J, G)) : X (d + 5) 112 0 [.ref 49, .null] [] (F, A, J, G) Q := by
  have h10 : h ≤ 10 := Nat.le_trans hW.1.1 hT.1.1
  refine t_112_0 hG ?_
  refine fs_ind (p := fun y => !stdB K h ord ml wd ln (yr + y)) (h := 100) (P := fun r => ∀ F' A', CScr F A F' A' → Q (.inl (some (.int (zI r)))) (F', A', J, G)) (R := fun j => ∀ F1 A1, CScr F A F1 A1 → X (d + 5) 112 2 [.ref 49, .int (zI (j : Int))] [] (F1, A1, J, G) Q) hQ (fun hq => ?_) (fun j hj hp hr => ?_) F A CScr.rfl
  · intro F1 A1 hs
    refine t_112_2 hG ⟨fun _ => hq F1 A1 hs, fun e => ?_⟩
    exact absurd (show (99 : Int32) < zI ((100 : Nat) : Int) by decide) e
  · intro F1 A1 hs
    have hT1 := CTn_scr hs hT
    have hW1 := CTw_scr hs hW
    refine t_112_2 hG ⟨fun e => ?_, fun _ => ?_⟩
    · rw [show (99 : Int32) = zI 99 from rfl, zI_lt (by omega) (by omega) (by omega) (by omega)] at e
      omega
    · refine c_111 hG hT1 hW1 (by omega) hyr (fun F2 A2 hs2 => k_112_13 hG ?_)
      have hb := brk_b (K := K) (h := h) (ord := ord) (ml := ml) (wd := wd) (ln := ln) (yr := yr + j)
      rw [zm1, zI_eq (by omega) (by omega) (by omega) (by omega), zN_1]
      refine ⟨fun e => hr ?_ F2 A2 (hs.tr hs2), fun e => hp ?_ F2 A2 (hs.tr hs2)⟩
      · unfold stdB; rw [decide_eq_true e]; rfl
      · unfold stdB; rw [decide_eq_false e]; rfl
end CTrialB
