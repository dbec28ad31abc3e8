/-! a game -/
section GameZ
variable {d : Nat} {F A F' A' F'' A'' : Nat → Nat → Int32} {J : Nat → Nat → Int64} {G : pG} {Q : pR → pM → Prop} {SL p q t a na b i l : Nat} {K : Nat → Nat → Int} {n h : Nat} {ord ord' : Nat → Nat} {ml wd ln ml' wd' ln' : Nat → Int} {yr z y : Int} {ea : Nat → Int} {lo hi o : Nat}
def eaZ (K : Nat → Nat → Int) (h : Nat) (ord : Nat → Nat) (ml wd ln : Nat → Int) (yr : Int) (lo : Nat) : Int := morZ K h ord (upZ ml (ord 0) (ml (ord 0) + lo)) wd ln yr
def gnZ (ea : Nat → Int) (e lo hi : Nat) : Int := if (hi : Int) ≤ ea lo then (e : Int) else (e : Int) - 20
def rsP (ea : Nat → Int) (lo hi o : Nat) : Bool := decide (gnZ ea lo lo hi < gnZ ea o o hi ∨ gnZ ea hi lo hi < gnZ ea o lo o)
def rsB (ea : Nat → Int) (lo hi : Nat) : Bool := decide (fsB (rsP ea lo hi) 10 0 = -1)
def gmZ (ea : Nat → Int) : Nat → Int × Int
  | 0 => (0, -1)
  | c + 1 => if rsB ea (c / 10) (c % 10) = true then ((gmZ ea c).1 + 1, if (gmZ ea c).2 = -1 then (c : Int) else (gmZ ea c).2) else gmZ ea c
theorem gmZ_b (ea : Nat → Int) : ∀ c, 0 ≤ (gmZ ea c).1 ∧ (gmZ ea c).1 ≤ c ∧ -1 ≤ (gmZ ea c).2 ∧ (gmZ ea c).2 < c ∧ ((gmZ ea c).1 = 0 ↔ (gmZ ea c).2 = -1)
  | 0 => by simp [gmZ]
  | c + 1 => by
    have h1 := gmZ_b ea c
    rw [gmZ]
    split
    · dsimp only
      split <;> omega
    · omega
theorem gn_b (he : o < 10) : -20 ≤ gnZ ea o lo hi ∧ gnZ ea o lo hi ≤ 9 := by unfold gnZ; split <;> omega
theorem c_119 (hG : Geo G SL p q) (hT : CTn F A K n) (hW : CTw 27 F A n h ord ml wd ln yr) (hml : ∀ i, i < n → ml i ≤ 999) (h0 : 0 < h) (hQ : ∀ F' A', CScr F A F' A' → (∀ i, i ≠ 53 → F' i = F i) → (∀ j, j < 10 → A' 52 j = zI (eaZ K h ord ml wd ln yr j)) → Q (.inl none) (F', A', J, G)) : X (d + 5) 119 0 [.ref 49, .null, .null] [] (F, A, J, G) Q := by
  have h10' := hT.1.1
  have h10 : h ≤ 10 := Nat.le_trans hW.1.1 hT.1.1
  have ho0 := hW.1.2.1 0 h0
  have hm0 := (hW.1.2.2.2.1 _ ho0).1
  have hm9 := hml _ ho0
  refine t_119_0 hG ?_
  rw [hW.2.2.2.1 0 h0]
  refine up_ind (h := 10) (P := fun j => ∀ A1 u, CScr F A (bF F 53 27) A1 → CTw 53 (bF F 53 27) A1 n h ord (upZ ml (ord 0) u) wd ln yr → (∀ k, k < j → A1 52 k = zI (eaZ K h ord ml wd ln yr k)) → X (d + 5) 119 23 [.ref 49, .int (zI (ord 0 : Int)), .int (zI (j : Int))] [] (bF F 53 27, A1, J, G) Q) ?_ ?_ _ (ml (ord 0)) bec_scr (by rw [upZ_id]; exact bec_tw h10' hW) (fun k hk => absurd hk (Nat.not_lt_zero k))
  · intro A1 u hs hW1 hr
    refine t_119_23 hG ⟨fun _ => hQ _ _ hs (fun i hi => ?_) hr, fun e => ?_⟩
    · funext k; rw [bF_at, if_neg (by omega)]
    · exact absurd (show (9 : Int32) < zI ((10 : Nat) : Int) by decide) e
  · intro j hj ih A1 u hs hW1 hr
    have hW27 := CTw_scr hs hW
    refine t_119_23 hG ⟨fun e => ?_, fun _ => ?_⟩
    · rw [show (9 : Int32) = zI 9 from rfl, zI_lt (by omega) (by omega) (by omega) (by omega)] at e
      omega
    · have hb1 : A1 29 (ord 0) = zI (ml (ord 0)) := hW27.2.2.2.2.1 _ ho0
      rw [zI_clamp (by omega), hb1, zI_add]
      refine ⟨zN_in (by omega) (by decide), ?_⟩
      have hW2 := CTw_meal (i := ord 0) (v := ml (ord 0) + j) (by omega) hW1
      rw [upZ_up] at hW2
      have hs2 : CScr F A (bF F 53 27) (wF A1 55 (ord 0) (zI (ml (ord 0) + j))) := hs.tr ⟨fun i _ _ => rfl, rfl, fun i _ _ h3 => wF_row (by omega)⟩
      refine c_89 hG tw53 (CTn_scr hs2 hT) hW2 (fun A2 hf2 hg2 => k_119_61 hG ?_)
      rw [zI_clamp (by omega), zN_1]
      refine ⟨zN_in (by omega) (by decide), ih _ (ml (ord 0) + j) ?_ ?_ (fun k hk => ?_)⟩
      · exact (hs2.tr (FrT_scr53 hf2)).tr ⟨fun i _ _ => rfl, rfl, fun i _ _ h3 => wF_row (by omega)⟩
      · obtain ⟨hw, f1, f2, b0, b1, b2, b3⟩ := CTw_frT hf2 hW2
        exact ⟨hw, f1, f2, by rw [wF_row (by decide)]; exact b0, by rw [wF_row (by decide)]; exact b1, by rw [wF_row (by decide)]; exact b2, by rw [wF_row (by decide)]; exact b3⟩
      · rw [wF_at]
        by_cases e : k = j
        · rw [if_pos ⟨rfl, e⟩, e]; rfl
        · rw [if_neg (fun q => e q.2), hf2 52 (by omega), wF_row (by decide)]; exact hr k (by omega)
theorem c_120 (hG : Geo G SL p q) (hr : ∀ j, j < 10 → A 52 j = zI (ea j)) (hb : ∀ j, j < 10 → -70000 ≤ ea j ∧ ea j ≤ 9999) (hlo : lo < 10) (hhi : hi < 10) (hQ : Q (.inl (some (.int (bI (rsB ea lo hi))))) (F, A, J, G)) : X (d + 1) 120 0 [.ref 49, .int (zI (lo : Int)), .int (zI (hi : Int)), .null, .null, .null] [] (F, A, J, G) Q := by
  have hbl := hb lo hlo
  have g1 := gn_b (ea := ea) (lo := lo) (hi := hi) hlo
  have g2 := gn_b (ea := ea) (lo := lo) (hi := hi) hhi
  have z20 : (20 : Int32) = zI 20 := rfl
  have hloop : X (d + 1) 120 20 [.ref 49, .int (zI (lo : Int)), .int (zI (hi : Int)), .int (zI (gnZ ea lo lo hi)), .int (zI (gnZ ea hi lo hi)), .int 0] [] (F, A, J, G) Q := by
    unfold rsB at hQ
    refine fs_ind (p := rsP ea lo hi) (h := 10) (P := fun r => Q (.inl (some (.int (bI (decide (r = -1)))))) (F, A, J, G)) (R := fun j => X (d + 1) 120 20 [.ref 49, .int (zI (lo : Int)), .int (zI (hi : Int)), .int (zI (gnZ ea lo lo hi)), .int (zI (gnZ ea hi lo hi)), .int (zI (j : Int))] [] (F, A, J, G) Q) hQ (fun hq => ?_) (fun j hj hp hn => ?_)
    · refine t_120_20 hG ⟨fun _ => hq, fun e => ?_⟩
      exact absurd (show (9 : Int32) < zI ((10 : Nat) : Int) by decide) e
    · have hbj := hb j hj
      have hp' : rsP ea lo hi j = true → Q (.inl (some (.int 0))) (F, A, J, G) := fun e => by
        have := hp e
        rw [decide_eq_false (by omega)] at this
        exact this
      refine t_120_20 hG ⟨fun e => ?_, fun _ => ?_⟩
      · rw [show (9 : Int32) = zI 9 from rfl, zI_lt (by omega) (by omega) (by omega) (by omega)] at e
        omega
      · rw [zI_clamp (n := j) (by omega), zI_clamp (n := lo) (by omega), hr j hj, hr lo hlo, z20, zI_sub, zN_1, zI_lt (a := ea j) (by omega) (by omega) (by omega) (by omega), zI_lt (a := ea lo) (by omega) (by omega) (by omega) (by omega), zI_lt (a := gnZ ea lo lo hi) (b := (j : Int) - 20) (by omega) (by omega) (by omega) (by omega), zI_lt (a := gnZ ea lo lo hi) (b := (j : Int)) (by omega) (by omega) (by omega) (by omega), zI_lt (a := gnZ ea hi lo hi) (b := (j : Int) - 20) (by omega) (by omega) (by omega) (by omega), zI_lt (a := gnZ ea hi lo hi) (b := (j : Int)) (by omega) (by omega) (by omega) (by omega)]
        have gj1 : gnZ ea j j hi = if (hi : Int) ≤ ea j then (j : Int) else (j : Int) - 20 := rfl
        have gj2 : gnZ ea j lo j = if (j : Int) ≤ ea lo then (j : Int) else (j : Int) - 20 := rfl
        have hyes : (gnZ ea lo lo hi < gnZ ea j j hi ∨ gnZ ea hi lo hi < gnZ ea j lo j) → Q (.inl (some (.int 0))) (F, A, J, G) := fun e => hp' (decide_eq_true e)
        have hno : ¬ (gnZ ea lo lo hi < gnZ ea j j hi ∨ gnZ ea hi lo hi < gnZ ea j lo j) → X (d + 1) 120 20 [.ref 49, .int (zI (lo : Int)), .int (zI (hi : Int)), .int (zI (gnZ ea lo lo hi)), .int (zI (gnZ ea hi lo hi)), .int (zI ((j + 1 : Nat) : Int))] [] (F, A, J, G) Q := fun e => hn (decide_eq_false e)
        refine ⟨zN_in (by omega) (by decide), fun e1 => ?_, fun e1 => ?_⟩
        · rw [if_neg (by omega)] at gj1
          refine ⟨fun e => hyes (by omega), fun e => ⟨zN_in (by omega) (by decide), fun e2 => ?_, fun e2 => ?_⟩⟩
          · rw [if_neg (by omega)] at gj2
            exact ⟨fun e3 => hyes (by omega), fun e3 => hno (by omega)⟩
          · rw [if_pos (by omega)] at gj2
            exact ⟨fun e3 => hyes (by omega), fun e3 => hno (by omega)⟩
        · rw [if_pos (by omega)] at gj1
          refine ⟨fun e => hyes (by omega), fun e => ⟨zN_in (by omega) (by decide), fun e2 => ?_, fun e2 => ?_⟩⟩
          · rw [if_neg (by omega)] at gj2
            exact ⟨fun e3 => hyes (by omega), fun e3 => hno (by omega)⟩
          · rw [if_pos (by omega)] at gj2
            exact ⟨fun e3 => hyes (by omega), fun e3 => hno (by omega)⟩
  refine t_120_0 hG ?_
  have gl1 : gnZ ea lo lo hi = if (hi : Int) ≤ ea lo then (lo : Int) else (lo : Int) - 20 := rfl
  have gl2 : gnZ ea hi lo hi = if (hi : Int) ≤ ea lo then (hi : Int) else (hi : Int) - 20 := rfl
  rw [zI_clamp (n := lo) (by omega), hr lo hlo, z20, zI_sub, zI_sub, zI_lt (a := ea lo) (by omega) (by omega) (by omega) (by omega)]
  refine ⟨zN_in (by omega) (by decide), fun e1 => ⟨fun e2 => ?_, fun e2 => absurd e1 e2⟩, fun e1 => ⟨fun e2 => absurd e2 e1, fun e2 => ?_⟩⟩
  · rw [gl1, gl2, if_neg (by omega), if_neg (by omega)] at hloop; exact hloop
  · rw [gl1, gl2, if_pos (by omega), if_pos (by omega)] at hloop; exact hloop
theorem ea_b (hK : TnOk K n) (hw : TwOk n h ord ml wd ln yr) (hml : ∀ i, i < n → ml i ≤ 999) (h0 : 0 < h) {j : Nat} (hj : j < 10) : -70000 ≤ eaZ K h ord ml wd ln yr j ∧ eaZ K h ord ml wd ln yr j ≤ 9999 := by
  have ho0 := hw.2.1 0 h0
  have hm0 := (hw.2.2.2.1 _ ho0).1
  have hm9 := hml _ ho0
  exact mor_b hK (upZ_ok (by omega) hw)
theorem c_118 (hG : Geo G SL p q) (hT : CTn F A K n) (hW : CTw 27 F A n h ord ml wd ln yr) (hml : ∀ i, i < n → ml i ≤ 999) (hQ : ∀ F' A', CScr F A F' A' → F' 49 3 = zI (if h < 2 then 0 else (gmZ (eaZ K h ord ml wd ln yr) 100).1) → F' 49 4 = zI (if h < 2 then -1 else (gmZ (eaZ K h ord ml wd ln yr) 100).2) → Q (.inl none) (F', A', J, G)) : X (d + 6) 118 0 [.ref 49, .null, .null] [] (F, A, J, G) Q := by
  have h10' := hT.1.1
  have h10 : h ≤ 10 := Nat.le_trans hW.1.1 hT.1.1
  have hs0 : CScr F A (wF (wF F 49 3 0) 49 4 (-1)) A := ⟨fun i _ h1 => by rw [wF_row (by omega), wF_row (by omega)], by rw [wF_row (by decide), wF_row (by decide)], fun _ _ _ _ => rfl⟩
  refine t_118_0 hG ?_
  rw [hW.2.1, show (2 : Int32) = zI ((2 : Nat) : Int) from rfl, zN_lt (by omega) (by omega)]
  refine ⟨fun e => ?_, fun e => ?_⟩
  · refine hQ _ _ hs0 ?_ ?_
    · rw [if_pos e, wF_cell (by decide), wF_same]; rfl
    · rw [if_pos e, wF_same]; rfl
  · refine c_119 hG (CTn_scr hs0 hT) (CTw_scr hs0 hW) hml (by omega) (fun F1 A1 hs1 hF1 hr => k_118_26 hG ?_)
    have hb := fun j (hj : j < 10) => ea_b (K := K) (wd := wd) (ln := ln) (yr := yr) hT.1 hW.1 hml (show 0 < h by omega) hj
    have hs1' := hs0.tr hs1
    have f3 : F1 49 3 = zI (gmZ (eaZ K h ord ml wd ln yr) 0).1 := by rw [hF1 49 (by decide), wF_cell (by decide), wF_same]; rfl
    have f4 : F1 49 4 = zI (gmZ (eaZ K h ord ml wd ln yr) 0).2 := by rw [hF1 49 (by decide), wF_same]; rfl
    refine up_ind (h := 10) (P := fun a => ∀ F1 v, CScr F A F1 A1 → F1 49 3 = zI (gmZ (eaZ K h ord ml wd ln yr) (10 * a)).1 → F1 49 4 = zI (gmZ (eaZ K h ord ml wd ln yr) (10 * a)).2 → X (d + 6) 118 28 [.ref 49, .int (zI (a : Int)), v] [] (F1, A1, J, G) Q) ?_ ?_ F1 .null hs1' f3 f4
    · intro F1 v hs f3 f4
      refine t_118_28 hG ⟨fun _ => hQ F1 A1 hs (by rw [if_neg e]; exact f3) (by rw [if_neg e]; exact f4), fun e => ?_⟩
      exact absurd (show (9 : Int32) < zI ((10 : Nat) : Int) by decide) e
    · intro a ha ih F1 v hs f3 f4
      refine t_118_28 hG ⟨fun e => ?_, fun _ => ?_⟩
      · rw [show (9 : Int32) = zI 9 from rfl, zI_lt (by omega) (by omega) (by omega) (by omega)] at e
        omega
      · refine up_ind (h := 10) (P := fun b => ∀ F1, CScr F A F1 A1 → F1 49 3 = zI (gmZ (eaZ K h ord ml wd ln yr) (10 * a + b)).1 → F1 49 4 = zI (gmZ (eaZ K h ord ml wd ln yr) (10 * a + b)).2 → X (d + 6) 118 36 [.ref 49, .int (zI (a : Int)), .int (zI (b : Int))] [] (F1, A1, J, G) Q) ?_ ?_ F1 hs f3 f4
        · intro F1 hs f3 f4
          refine t_118_36 hG ⟨fun _ => ?_, fun e => ?_⟩
          · rw [zN_1]; exact ih F1 _ hs f3 f4
          · exact absurd (show (9 : Int32) < zI ((10 : Nat) : Int) by decide) e
        · intro b hbb ih2 F1 hs f3 f4
          refine t_118_36 hG ⟨fun e => ?_, fun _ => ?_⟩
          · rw [show (9 : Int32) = zI 9 from rfl, zI_lt (by omega) (by omega) (by omega) (by omega)] at e
            omega
          · have gb := gmZ_b (eaZ K h ord ml wd ln yr) (10 * a + b)
            refine c_120 hG hr hb ha hbb (k_118_48 hG ?_)
            have hi := ih2
            rw [show 10 * a + (b + 1) = (10 * a + b) + 1 by omega, gmZ, (sw_div hbb).1, (sw_div hbb).2] at hi
            rw [zN_1, f3, f4, zZ_1, z0, zI_eq (by omega) (by omega) (by omega) (by omega), show (10 : Int32) = zI 10 from rfl, zI_mul, zI_add, show (10 : Int) * (a : Int) + (b : Int) = ((10 * a + b : Nat) : Int) by omega]
            refine ⟨fun e => ?_, fun e => ⟨fun e2 => ?_, fun e2 => ?_⟩⟩
            · have hf : rsB (eaZ K h ord ml wd ln yr) a b = false := by
                cases hb : rsB (eaZ K h ord ml wd ln yr) a b
                · rfl
                · rw [hb] at e; exact absurd e (by decide)
              rw [hf, if_neg (by decide)] at hi
              exact hi F1 hs f3 f4
            · have hf : rsB (eaZ K h ord ml wd ln yr) a b = true := by
                cases hb : rsB (eaZ K h ord ml wd ln yr) a b
                · rw [hb] at e; exact absurd rfl e
                · rfl
              rw [hf, if_pos rfl, if_pos (gb.2.2.2.2.mp e2)] at hi
              refine hi _ (hs.tr ⟨fun i _ h1 => by rw [wF_row (by omega), wF_row (by omega)], by rw [wF_row (by decide), wF_row (by decide)], fun _ _ _ _ => rfl⟩) ?_ ?_
              · rw [wF_same]
              · rw [wF_cell (by decide), wF_same]
            · have hf : rsB (eaZ K h ord ml wd ln yr) a b = true := by
                cases hb : rsB (eaZ K h ord ml wd ln yr) a b
                · rw [hb] at e; exact absurd rfl e
                · rfl
              rw [hf, if_pos rfl, if_neg (fun q => e2 (gb.2.2.2.2.mpr q))] at hi
              refine hi _ (hs.tr ⟨fun i _ h1 => by rw [wF_row (by omega), wF_row (by omega)], by rw [wF_row (by decide), wF_row (by decide)], fun _ _ _ _ => rfl⟩) ?_ ?_
              · rw [wF_same]
              · rw [wF_cell (by decide), wF_same]
/-- more on the top one is felt by all -/
theorem load_top (hw : TwOk n h ord ml wd ln yr) {v : Int} (hl : l < h) : loadZ K h ord (upZ ml (ord (h - 1)) (ml (ord (h - 1)) + v)) l = loadZ K h ord ml l + v := by
  unfold loadZ
  by_cases e : l = h - 1
  · subst e
    rw [upZ_same, show h - (h - 1 + 1) = 0 by omega, sm, sm]
    omega
  · have h1 : ord l ≠ ord (h - 1) := fun q => e (hw.2.2.1 l (h - 1) hl (by omega) q)
    rw [upZ_ne _ _ h1, show h - (l + 1) = (h - 1 - (l + 1)) + 1 by omega, sm_last, sm_last, show l + 1 + (h - 1 - (l + 1)) = h - 1 by omega, upZ_same, sm_congr (g := fun k => K 1 (ord k) + ml (ord k)) _ _ (fun k h2 h3 => by
      have : ord k ≠ ord (h - 1) := fun q => by have := hw.2.2.1 k (h - 1) (by omega) (by omega) q; omega
      rw [upZ_ne _ _ this])]
    omega
theorem mn_iff (f : Nat → Int) (v : Int) : ∀ k j acc, (v ≤ mnZ f k j acc ↔ v ≤ acc ∧ ∀ i, j ≤ i → i < j + k → v ≤ f i)
  | 0, j, acc => by
    rw [mnZ]
    exact ⟨fun q => ⟨q, fun i h1 h2 => by omega⟩, fun q => q.1⟩
  | k + 1, j, acc => by
    rw [mnZ, mn_iff f v k (j + 1)]
    constructor
    · rintro ⟨h1, h2⟩
      refine ⟨by omega, fun i h3 h4 => ?_⟩
      by_cases e : i = j
      · subst e; omega
      · exact h2 i (by omega) (by omega)
    · rintro ⟨h1, h2⟩
      have := h2 j (by omega) (by omega)
      exact ⟨by omega, fun i h3 h4 => h2 i (by omega) (by omega)⟩
theorem top_iff (hw : TwOk n h ord ml wd ln yr) {v : Int} (hv : 0 ≤ v ∧ v ≤ 9) : stdB K h ord (upZ ml (ord (h - 1)) (ml (ord (h - 1)) + v)) wd ln yr = decide (v ≤ morZ K h ord ml wd ln yr) := by
  unfold stdB
  refine decide_eq_decide.mpr ?_
  rw [std_hld]
  constructor
  · intro h1
    have h2 : brkZ K h ord ml wd ln yr = -1 := by
      rw [std_hld]
      intro l hl
      have := (hld_iff l).mp (h1 l hl)
      rw [hld_iff]
      unfold slkZ at this ⊢
      rw [load_top hw hl] at this
      exact ⟨by omega, this.2⟩
    unfold morZ
    rw [if_pos h2, mn_iff]
    refine ⟨by omega, fun l _ hl => ?_⟩
    have := (hld_iff l).mp (h1 l (by omega))
    unfold slkZ at this ⊢
    rw [load_top hw (by omega)] at this
    omega
  · intro h1 l hl
    have h2 : brkZ K h ord ml wd ln yr = -1 := by
      by_cases e : brkZ K h ord ml wd ln yr = -1
      · exact e
      · rw [mor_std.mpr e] at h1; omega
    unfold morZ at h1
    rw [if_pos h2, mn_iff] at h1
    have h3 := (hld_iff l).mp (std_hld.mp h2 l hl)
    have h4 := h1.2 l (by omega) (by omega)
    rw [hld_iff]
    unfold slkZ at h3 h4 ⊢
    rw [load_top hw hl]
    exact ⟨by omega, h3.2⟩
theorem m_280 (hG : Geo G SL p q) (hT : MTn F A K n) (hW : MTw F A n h ord ml wd ln yr) (hml : ∀ i, i < n → ml i ≤ 999) (h2 : 2 ≤ h) (ho : o < 10) (hlo : lo < 10) (hhi : hi < 10) (hQ : Q (.inl (some (.int (zI (gnZ (eaZ K h ord ml wd ln yr) o lo hi))))) (F, A, J, G)) : X (d + 6) 280 0 [.ref 68, .int (zI (o : Int)), .int (zI (lo : Int)), .int (zI (hi : Int)), .null, .null, .null] [] (F, A, J, G) Q := by
  have h10' := hT.1.1
  have h10 : h ≤ 10 := Nat.le_trans hW.1.1 hT.1.1
  have ho0 := hW.1.2.1 0 (by omega)
  have hoh := hW.1.2.1 (h - 1) (by omega)
  have hne : ord (h - 1) ≠ ord 0 := fun q => by have := hW.1.2.2.1 (h - 1) 0 (by omega) (by omega) q; omega
  have m0 := (hW.1.2.2.2.1 _ ho0).1
  have m9 := hml _ ho0
  have n0 := (hW.1.2.2.2.1 _ hoh).1
  have n9 := hml _ hoh
  refine t_280_0 hG ?_
  rw [hW.2.1, zZ_s1, show (h : Int) - 1 = ((h - 1 : Nat) : Int) by omega, zI_clamp (n := h - 1) (by omega), hW.2.2.2.1 0 (by omega), hW.2.2.2.1 (h - 1) (by omega), zI_clamp (n := ord 0) (by omega), zI_clamp (n := ord (h - 1)) (by omega), wF_cell hne, hW.2.2.2.2.1 _ ho0, hW.2.2.2.2.1 _ hoh, zI_add, zI_add]
  refine ⟨zN_in (by omega) (by decide), zN_in (by omega) (by decide), zN_in (by omega) (by decide), ?_⟩
  have hW1 := MTw_meal (i := ord 0) (v := ml (ord 0) + lo) (by omega) hW
  have hW2 := MTw_meal (i := ord (h - 1)) (v := ml (ord (h - 1)) + hi) (by omega) hW1
  have hT2 : MTn F (wF (wF A 82 (ord 0) (zI (ml (ord 0) + lo))) 82 (ord (h - 1)) (zI (ml (ord (h - 1)) + hi))) K n := MTn_A (fun i hi => by rw [wF_row (by omega), wF_row (by omega)]) hT
  refine m_218 hG hT2 hW2 (k_280_47 hG ?_)
  have hst : stdB K h ord (upZ (upZ ml (ord 0) (ml (ord 0) + lo)) (ord (h - 1)) (ml (ord (h - 1)) + hi)) wd ln yr = decide ((hi : Int) ≤ eaZ K h ord ml wd ln yr lo) := by
    have := top_iff (K := K) (v := (hi : Int)) (upZ_ok (i := ord 0) (v := ml (ord 0) + lo) (by omega) hW.1) (by omega)
    rw [upZ_ne _ _ hne] at this
    exact this
  have hA : wF (wF (wF (wF A 82 (ord 0) (zI (ml (ord 0) + lo))) 82 (ord (h - 1)) (zI (ml (ord (h - 1)) + hi))) 82 (ord 0) (zI (ml (ord 0)))) 82 (ord (h - 1)) (zI (ml (ord (h - 1)))) = A := by
    rw [wF_comm (k := ord (h - 1)) (k' := ord 0) (by omega), wF_wF, wF_wF, wF_id (A := A) (hW.2.2.2.2.1 _ ho0), wF_id (hW.2.2.2.2.1 _ hoh)]
  rw [zI_clamp (n := ord 0) (by omega), zI_clamp (n := ord (h - 1)) (by omega), wF_cell (fun q => hne q.symm) 82, wF_same, zI_sub, show ml (ord 0) + (lo : Int) - lo = ml (ord 0) by omega, wF_cell hne 82, wF_same, zI_sub, show ml (ord (h - 1)) + (hi : Int) - hi = ml (ord (h - 1)) by omega, hA, show (20 : Int32) = zI 20 from rfl, zI_sub, hst]
  unfold gnZ at hQ
  refine ⟨zN_in (by omega) (by decide), zN_in (by omega) (by decide), fun e => ?_, fun e => ?_⟩
  · by_cases hc : (hi : Int) ≤ eaZ K h ord ml wd ln yr lo
    · rw [decide_eq_true hc] at e; exact absurd e (by decide)
    · rw [if_neg hc] at hQ; exact hQ
  · by_cases hc : (hi : Int) ≤ eaZ K h ord ml wd ln yr lo
    · rw [if_pos hc] at hQ; exact hQ
    · rw [decide_eq_false hc] at e; exact absurd rfl e
theorem m_281 (hG : Geo G SL p q) (hT : MTn F A K n) (hW : MTw F A n h ord ml wd ln yr) (hml : ∀ i, i < n → ml i ≤ 999) (h2 : 2 ≤ h) (hlo : lo < 10) (hhi : hi < 10) (hQ : Q (.inl (some (.int (bI (rsB (eaZ K h ord ml wd ln yr) lo hi))))) (F, A, J, G)) : X (d + 7) 281 0 [.ref 68, .int (zI (lo : Int)), .int (zI (hi : Int)), .null] [] (F, A, J, G) Q := by
  refine t_281_0 hG ?_
  unfold rsB at hQ
  have g1 := gn_b (ea := eaZ K h ord ml wd ln yr) (lo := lo) (hi := hi) hlo
  have g2 := gn_b (ea := eaZ K h ord ml wd ln yr) (lo := lo) (hi := hi) hhi
  refine fs_ind (p := rsP (eaZ K h ord ml wd ln yr) lo hi) (h := 10) (P := fun r => Q (.inl (some (.int (bI (decide (r = -1)))))) (F, A, J, G)) (R := fun j => X (d + 7) 281 2 [.ref 68, .int (zI (lo : Int)), .int (zI (hi : Int)), .int (zI (j : Int))] [] (F, A, J, G) Q) hQ (fun hq => ?_) (fun j hj hp hn => ?_)
  · refine t_281_2 hG ⟨fun e => ?_, fun _ => hq⟩
    exact absurd e (by decide)
  · have g3 := gn_b (ea := eaZ K h ord ml wd ln yr) (lo := j) (hi := hi) hj
    have g4 := gn_b (ea := eaZ K h ord ml wd ln yr) (lo := lo) (hi := j) hj
    have hp' : rsP (eaZ K h ord ml wd ln yr) lo hi j = true → Q (.inl (some (.int 0))) (F, A, J, G) := fun e => by
      have := hp e
      rw [decide_eq_false (by omega)] at this
      exact this
    refine t_281_2 hG ⟨fun _ => ?_, fun e => ?_⟩
    · refine m_280 hG hT hW hml h2 hj hj hhi (k_281_15 hG (m_280 hG hT hW hml h2 hlo hlo hhi (k_281_22 hG ?_)))
      rw [zI_lt (by omega) (by omega) (by omega) (by omega)]
      refine ⟨fun e => hp' (decide_eq_true (Or.inl e)), fun e => m_280 hG hT hW hml h2 hj hlo hj (k_281_32 hG (m_280 hG hT hW hml h2 hhi hlo hhi (k_281_39 hG ?_)))⟩
      rw [zI_lt (by omega) (by omega) (by omega) (by omega), zN_1]
      refine ⟨fun e2 => hp' (decide_eq_true (Or.inr e2)), fun e2 => hn (decide_eq_false (fun q => q.elim e e2))⟩
    · rw [show (10 : Int32) = zI ((10 : Nat) : Int) from rfl, zN_lt (by omega) (by omega)] at e
      omega
theorem zI_lt0 {a : Int} (h : -2147483648 ≤ a ∧ a < 2147483648) : (zI a < 0) = (a < 0) := by rw [z0, zI_lt h.1 h.2 (by decide) (by decide)]
theorem zI_1lt {a : Int} (h : -2147483648 ≤ a ∧ a < 2147483648) : (1 < zI a) = (1 < a) := by rw [z1, zI_lt (by decide) (by decide) h.1 h.2]
theorem zI_eq0 {a : Int} (h : -2147483648 ≤ a ∧ a < 2147483648) : (zI a = 0) = (a = 0) := by rw [z0, zI_eq h.1 h.2 (by decide) (by decide)]
theorem zI_eq1 {a : Int} (h : -2147483648 ≤ a ∧ a < 2147483648) : (zI a = 1) = (a = 1) := by rw [z1, zI_eq h.1 h.2 (by decide) (by decide)]
theorem zI_eqm {a : Int} (h : -2147483648 ≤ a ∧ a < 2147483648) : (zI a = -1) = (a = -1) := by rw [zm1, zI_eq h.1 h.2 (by decide) (by decide)]
theorem dv10 : ∀ c : Nat, c < 100 → (zI (c : Int) / 10 = zI ((c / 10 : Nat) : Int)) ∧ jrem (zI (c : Int)) 10 = zI ((c % 10 : Nat) : Int) := by decide +kernel
theorem m_282 (hG : Geo G SL p q) (hT : MTn F A K n) (hW : MTw F A n h ord ml wd ln yr) (hml : ∀ i, i < n → ml i ≤ 999) (hz : -2147483648 ≤ z ∧ z < 2147483648) (hb1 : ¬ (z = 0 ∨ z = 1) → ∀ r, Q (.inl (some (.int r))) (wF F 68 3 1, A, J, G))
    (hok : (z = 0 ∨ z = 1) → Q (.inl (some (.int (zI (if z = 0 then (if h < 2 then 0 else (gmZ (eaZ K h ord ml wd ln yr) 100).1) else (if h < 2 then -1 else (gmZ (eaZ K h ord ml wd ln yr) 100).2)))))) (wF F 68 3 0, A, J, G)) : X (d + 8) 282 0 [.ref 68, .int (zI z), .null, .null, .null] [] (F, A, J, G) Q := by
  have h10' := hT.1.1
  have h10 : h ≤ 10 := Nat.le_trans hW.1.1 hT.1.1
  have hW0 : MTw (wF F 68 3 0) A n h ord ml wd ln yr := by rw [MTw_code]; exact hW
  have hT0 : MTn (wF F 68 3 0) A K n := hT
  refine t_282_0 hG ?_
  rw [zI_lt0 hz, zI_1lt hz, wF_wF]
  refine ⟨fun e => hb1 (by omega) _, fun e => ⟨fun e2 => hb1 (by omega) _, fun e2 => ?_⟩⟩
  have hz01 : z = 0 ∨ z = 1 := by omega
  have hq := hok hz01
  have f1 := hW0.2.1
  have hret : ∀ v w : Int, (zI z = 0 → (if z = 0 then v else w) = v) ∧ (¬ zI z = 0 → (if z = 0 then v else w) = w) := fun v w => by
    rw [z0, zI_eq (by omega) (by omega) (by omega) (by omega)]
    exact ⟨fun e => if_pos e, fun e => if_neg e⟩
  by_cases hh : h < 2
  · rw [if_pos hh, if_pos hh] at hq
    refine t_282_27 hG ⟨fun _ => ⟨fun e => ?_, fun _ => ⟨fun e => ?_, fun e => ?_⟩⟩, fun e => absurd (by decide) e⟩
    · rw [f1, show (1 : Int32) = zI ((1 : Nat) : Int) from rfl, zN_lt (by omega) (by omega)] at e
      omega
    · rw [(hret _ _).1 e] at hq; exact hq
    · rw [(hret _ _).2 e] at hq; exact hq
  · rw [if_neg hh, if_neg hh] at hq
    refine up_ind (h := 100) (P := fun c => X (d + 8) 282 27 [.ref 68, .int (zI z), .int (zI (gmZ (eaZ K h ord ml wd ln yr) c).1), .int (zI (gmZ (eaZ K h ord ml wd ln yr) c).2), .int (zI (c : Int))] [] (wF F 68 3 0, A, J, G) Q) ?_ ?_
    · refine t_282_27 hG ⟨fun e => absurd e (by decide), fun _ => ⟨fun e => ?_, fun e => ?_⟩⟩
      · rw [(hret _ _).1 e] at hq; exact hq
      · rw [(hret _ _).2 e] at hq; exact hq
    · intro c hc ih
      have gb := gmZ_b (eaZ K h ord ml wd ln yr) c
      have hd := dv10 c hc
      rw [gmZ] at ih
      refine t_282_27 hG ⟨fun _ => ⟨fun _ => ?_, fun e => ?_⟩, fun e => ?_⟩
      · rw [hd.1, hd.2]
        refine m_281 hG hT0 hW0 hml (by omega) (by omega) (by omega) (k_282_56 hG ?_)
        rw [zN_1, zm1, zI_eq (by omega) (by omega) (by omega) (by omega), zZ_1]
        refine ⟨fun e => ?_, fun e => ?_⟩
        · have hf : rsB (eaZ K h ord ml wd ln yr) (c / 10) (c % 10) = false := by
            cases hb : rsB (eaZ K h ord ml wd ln yr) (c / 10) (c % 10)
            · rfl
            · rw [hb] at e; exact absurd e (by decide)
          rw [hf, if_neg (by decide)] at ih
          exact ih
        · have hf : rsB (eaZ K h ord ml wd ln yr) (c / 10) (c % 10) = true := by
            cases hb : rsB (eaZ K h ord ml wd ln yr) (c / 10) (c % 10)
            · rw [hb] at e; exact absurd rfl e
            · rfl
          rw [hf, if_pos rfl] at ih
          refine ⟨fun e2 => ?_, fun e2 => ?_⟩
          · rw [if_pos e2] at ih; exact ih
          · rw [if_neg e2] at ih; exact ih
      · rw [f1, show (1 : Int32) = zI ((1 : Nat) : Int) from rfl, zN_lt (by omega) (by omega)] at e
        omega
      · rw [show (100 : Int32) = zI ((100 : Nat) : Int) from rfl, zN_lt (by omega) (by omega)] at e
        omega
end GameZ
