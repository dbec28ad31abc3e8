section MYearsZ
variable {d : Nat} {F A F' A' F'' A'' : Nat → Nat → Int32} {J : Nat → Nat → Int64} {G : pG} {Q : pR → pM → Prop} {SL p q t a na b i l f : Nat} {K : Nat → Nat → Int} {n h : Nat} {ord ord' : Nat → Nat} {ml wd ln ml' wd' ln' : Nat → Int} {yr z y v τ x fd : Int} {s : Int32}
theorem m_284 (hG : Geo G SL p q) (hT : MTn F A K n) (hW : MTw F A n h ord ml wd ln yr) (hs : F 68 49 = s) (hml : ∀ i, i < n → ml i ≤ 5000) (hyr : yr ≤ 1100) (hQ : ∀ F' A', (∀ i, i ≠ 68 → F' i = F i) → (∀ k, k ≠ 29 → k ≠ 49 → F' 68 k = F 68 k) → F' 68 49 = (dcZ K n h ord (s, ml, ln)).1 → (∀ i, (i < 81 ∨ 84 < i) → A' i = A i) → MTw F' A' n h ord (dcZ K n h ord (s, ml, ln)).2.1 wd (dcZ K n h ord (s, ml, ln)).2.2 (yr + 1) → Q (.inl none) (F', A', J, G)) : X (d + 1) 284 0 [.ref 68, .null, .null] [] (F, A, J, G) Q := by
  have h10' := hT.1.1
  have hh := hW.1.1
  have hy := hW.1.2.2.2.2
  have hW1 := MTw_yr (v := yr + 1) (by omega) hW
  refine t_284_0 hG ?_
  rw [hT.2.2.1, hW.2.2.1, zZ_1, zI_eq0 (by omega)]
  unfold dcZ at hQ
  refine ⟨fun e => ?_, fun e => ?_⟩
  · rw [if_pos (show n = 0 by omega)] at hQ
    exact hQ _ _ (fun i hi => wF_row hi) (fun k h1 h2 => wF_cell h1 _) (by rw [wF_cell (by decide)]; exact hs) (fun _ _ => rfl) hW1
  · have hn0 : ¬ n = 0 := by omega
    rw [if_neg hn0] at hQ
    have hs1 : wF F 68 29 (zI (yr + 1)) 68 49 = s := by rw [wF_cell (by decide)]; exact hs
    refine m_283 hG (by omega) h10' (k_284_30 hG (m_283 (m := 5) hG (by decide) (by decide) (k_284_36 hG ?_)))
    rw [wF_same, hs1, wF_wF]
    have htt : drN (sdZ s) % n < n := Nat.mod_lt _ (by omega)
    have hw5 : drN (sdZ (sdZ s)) % 5 < 5 := Nat.mod_lt _ (by decide)
    dsimp only at hQ
    generalize drN (sdZ s) % n = tt at hQ htt
    generalize drN (sdZ (sdZ s)) % 5 = w5 at hQ hw5
    have hW2 : MTw (wF (wF F 68 29 (zI (yr + 1))) 68 49 (sdZ (sdZ s))) A n h ord ml wd ln (yr + 1) := MTw_fr (by rw [wF_cell (by decide)]) (by rw [wF_cell (by decide)]) (fun _ _ _ => rfl) hW1
    have g1 : ∀ i, i ≠ 68 → wF (wF F 68 29 (zI (yr + 1))) 68 49 (sdZ (sdZ s)) i = F i := fun i h1 => by rw [wF_row h1, wF_row h1]
    have g2 : ∀ k, k ≠ 29 → k ≠ 49 → wF (wF F 68 29 (zI (yr + 1))) 68 49 (sdZ (sdZ s)) 68 k = F 68 k := fun k h1 h2 => by rw [wF_cell h2, wF_cell h1]
    have g3 : wF (wF F 68 29 (zI (yr + 1))) 68 49 (sdZ (sdZ s)) 68 49 = sdZ (sdZ s) := wF_same _ _ _ _
    generalize wF (wF F 68 29 (zI (yr + 1))) 68 49 (sdZ (sdZ s)) = F2 at hW2 g1 g2 g3
    have hlt := (hW.1.2.2.2.1 _ htt).2.2
    have hmt := (hW.1.2.2.2.1 _ htt).1
    have hm5 := hml _ htt
    have hk3 := (hT.1.2.1 _ htt).2.2.2
    have hlb := lvZ_b (ord := ord) (h := h) (z := (tt : Int))
    have hln := lvZ_none (ord := ord) (h := h) (i := tt)
    rw [zI_clamp (n := tt) (by omega), hW2.2.2.2.2.2.2 _ htt, hW2.2.2.2.2.1 _ htt, hT.2.2.2.2.2.2.2.2 _ htt, zZ_1, zZ_s1, zI_add, hW2.2.1, lvi_z (by omega) h10' hW2, zI_eqm (by omega), hln, show (2 : Int32) = zI 2 from rfl, zI_eq0 (by omega), zI_eq1 (by omega), zI_eq (by omega) (by omega) (by omega) (by omega), show (9 : Int32) = zI 9 from rfl, show (-zI 9) = zI (-9) from rfl, zI_jmin (by omega) (by omega) (by omega) (by omega), zI_jmax (a := -9) (b := ln tt - 1) (by omega) (by omega) (by omega) (by omega)]
    refine ⟨fun e1 => ⟨zN_in (by omega) (by decide), fun e2 => by omega, fun e2 => ⟨fun e3 => by omega, fun e3 => ?_⟩⟩, fun e1 => ⟨fun e2 => ⟨zN_in (by omega) (by decide), fun e3 => by omega, fun e3 => ?_⟩, fun e2 => ⟨fun e3 => ⟨hB_z (by omega), fun e4 => ?_, fun e4 => ⟨zN_in (by omega) (by decide), zN_in (by omega) (by decide), ?_⟩⟩, fun e3 => ?_⟩⟩⟩
    · rw [if_pos (by omega)] at hQ
      exact hQ _ _ g1 g2 g3 (fun i hi => wF_row (by omega)) (MTw_lean (by omega) hW2)
    · rw [if_neg (by omega), if_pos (by omega)] at hQ
      exact hQ _ _ g1 g2 g3 (fun i hi => wF_row (by omega)) (MTw_lean (by omega) hW2)
    · rw [if_neg (by omega), if_neg (by omega), if_neg (fun q => by rw [e4] at q; exact absurd q.2 (by decide))] at hQ
      exact hQ _ _ g1 g2 g3 (fun _ _ => rfl) hW2
    · rw [if_neg (by omega), if_neg (by omega), if_pos ⟨by omega, by simpa using e4⟩] at hQ
      exact hQ _ _ g1 g2 g3 (fun i hi => wF_row (by omega)) (MTw_meal (by omega) hW2)
    · rw [if_neg (by omega), if_neg (by omega), if_neg (fun q => by omega)] at hQ
      exact hQ _ _ g1 g2 g3 (fun _ _ => rfl) hW2
theorem m_285 (hG : Geo G SL p q) (hT : MTn F A K n) (hW : MTw F A n h ord ml wd ln yr) (hml : ∀ i, i < n → ml i ≤ 999) (hyr : yr ≤ 999) (hy : -2147483648 ≤ y ∧ y < 2147483648) (hz : -2147483648 ≤ z ∧ z < 2147483648)
    (hb1 : ¬ (0 ≤ z ∧ z ≤ 2) → ∀ r, Q (.inl (some (.int r))) (wF F 68 3 1, A, J, G)) (hb2 : (0 ≤ z ∧ z ≤ 2) → ¬ (0 ≤ y ∧ y ≤ 40) → ∀ r, Q (.inl (some (.int r))) (wF F 68 3 2, A, J, G))
    (hok : ∀ m : Nat, y = m → m ≤ 40 → (0 ≤ z ∧ z ≤ 2) → ∀ F' A', MScr F A F' A' → F' 68 3 = 0 → Q (.inl (some (.int (zI (if z = 0 then (dsZ K n h ord ml wd ln yr s m).1 else if z = 1 then (dsZ K n h ord ml wd ln yr s m).2 else if h = 0 then 0 else loadZ K h ord (dyZ K n h ord ml ln s m).2.1 0))))) (F', A', J, G)) : X (d + 6) 285 0 [.ref 68, .int s, .int (zI y), .int (zI z), .null, .null, .null] [] (F, A, J, G) Q := by
  have h10' := hT.1.1
  have h10 : h ≤ 10 := Nat.le_trans hW.1.1 hT.1.1
  have hy0 := hW.1.2.2.2.2
  have hW0 : MTw (wF F 68 3 0) A n h ord ml wd ln yr := by rw [MTw_code]; exact hW
  refine t_285_0 hG ?_
  rw [inL_z (x := 0) (y := 2) (a := 0) (b := 2) rfl rfl hz (by decide) (by decide), inL_z (x := 0) (y := 40) (a := 0) (b := 40) rfl rfl hy (by decide) (by decide), wF_wF, wF_wF]
  simp only [decide_eq_true_eq, decide_eq_false_iff_not]
  refine ⟨fun e1 => ⟨fun e2 => ?_, fun e2 => hb2 e1 e2 _⟩, fun e1 => hb1 e1 _⟩
  obtain ⟨m, rfl⟩ : ∃ m : Nat, y = m := ⟨y.toNat, by omega⟩
  have hm : m ≤ 40 := by omega
  have hok' := hok m rfl hm e1
  refine m_207 hG (k88 hG) (l88 hG) (by decide) (b := 0) (by decide) (by decide) (fun A1 h1 h1' hp => k_285_50 hG ?_)
  have hk := IK_pack h1 hp
  have hW1 := MTw_scr h10' hk.1 hW0
  have hW1' : MTw (wF (wF F 68 3 0) 68 49 s) A1 n h ord ml wd ln yr := MTw_fr (by rw [wF_cell (by decide)]) (by rw [wF_cell (by decide)]) (fun _ _ _ => rfl) hW1
  -- the end
  have hend : ∀ F2 A2, (∀ i, i ≠ 68 → F2 i = wF F 68 3 0 i) → (∀ k, (k = 3 ∨ k = 13 ∨ k = 22 ∨ k = 31 ∨ k = 32 ∨ (50 ≤ k ∧ k ≤ 52)) → F2 68 k = wF F 68 3 0 68 k) → (∀ i, (i < 81 ∨ 84 < i) → A2 i = A1 i) → X (d + 5) 208 0 [.ref 68, .ref 88, .int 0, .null] [] (F2, A2, J, G) (KK (d + 6) 285 137 [.ref 68, .int s, .int (zI (m : Int)), .int (zI z), .int (zI (dsZ K n h ord ml wd ln yr s m).1), .int (zI (dsZ K n h ord ml wd ln yr s m).2), .int (zI (if h = 0 then 0 else loadZ K h ord (dyZ K n h ord ml ln s m).2.1 0))] [] Q) := by
    intro F2 A2 hF hF2 hA2
    refine m_208 hG (k88 hG) (l88 hG) (by decide) (b := 0) (by decide) (by decide) (fun A3 h3 h4 => k_285_137 hG ?_)
    have hk3 := IK_un hk (A2 := A2) (F2 := F2) hA2 hF hF2 h3 h4
    have hq := hok' _ _ ((MScr_code 0).tr hk3.1) (by rw [hk3.2.2, wF_same])
    rw [zI_eq0 hz, zI_eq1 hz]
    refine ⟨fun e3 => ?_, fun e3 => ⟨fun e4 => ?_, fun e4 => ?_⟩⟩
    · rw [if_pos e3] at hq; exact hq
    · rw [if_neg e3, if_pos e4] at hq; exact hq
    · rw [if_neg e3, if_neg e4] at hq; exact hq
  refine up_ind (h := m) (P := fun k => ∀ F2 A2, (∀ i, i ≠ 68 → F2 i = wF F 68 3 0 i) → (∀ k, (k = 3 ∨ k = 13 ∨ k = 22 ∨ k = 31 ∨ k = 32 ∨ (50 ≤ k ∧ k ≤ 52)) → F2 68 k = wF F 68 3 0 68 k) → (∀ i, (i < 81 ∨ 84 < i) → A2 i = A1 i) → MTw F2 A2 n h ord (dyZ K n h ord ml ln s k).2.1 wd (dyZ K n h ord ml ln s k).2.2 (yr + k) → F2 68 49 = (dyZ K n h ord ml ln s k).1 → X (d + 6) 285 64 [.ref 68, .int s, .int (zI (m : Int)), .int (zI z), .int (zI (dsZ K n h ord ml wd ln yr s k).1), .int (zI (dsZ K n h ord ml wd ln yr s k).2), .int (zI (k : Int))] [] (F2, A2, J, G) Q) ?_ ?_ _ A1 (fun i hi => wF_row hi) (fun k hk => wF_cell (by omega) _) (fun _ _ => rfl) (by rw [show yr + ((0 : Nat) : Int) = yr by omega]; exact hW1') (wF_same _ _ _ _)
  · intro F2 A2 hF hF2 hA2 hW2 h49
    have hT2 : MTn F2 A2 K n := MTn_A (fun i hi => by rw [hA2 i (by omega)]; exact h1 i (by omega)) hT
    refine t_285_64 hG ⟨fun e => ?_, fun _ => ?_⟩
    · rw [zN_lt (by omega) (by omega)] at e
      omega
    · have he := hend F2 A2 hF hF2 hA2
      rw [hW2.2.1, zI_eq0 (by omega)]
      refine ⟨fun e => ?_, fun e => ?_⟩
      · rw [if_pos (by omega)] at he; exact he
      · rw [if_neg (by omega)] at he
        exact m_213 (l := 0) hG hT2 hW2 (by omega) (k_285_126 hG he)
  · intro k hk' ih F2 A2 hF hF2 hA2 hW2 h49
    have hT2 : MTn F2 A2 K n := MTn_A (fun i hi => by rw [hA2 i (by omega)]; exact h1 i (by omega)) hT
    have hb := ds_b (K := K) (n := n) (h := h) (ord := ord) (ml := ml) (wd := wd) (ln := ln) (yr := yr) (s := s) k
    have hd := dy_ok (s := s) hT.1 hW.1 hml hyr k (by omega)
    refine t_285_64 hG ⟨fun _ => m_284 hG hT2 hW2 h49 (fun i hi => by have := hd.2 i hi; omega) (by omega) (fun F3 A3 e3 e4 e5 e6 hW3 => k_285_74 hG ?_), fun e => ?_⟩
    · have hT3 : MTn F3 A3 K n := MTn_A (fun i hi => by rw [e6 i (by omega), hA2 i (by omega)]; exact h1 i (by omega)) hT
      have hW3' : MTw F3 A3 n h ord (dyZ K n h ord ml ln s (k + 1)).2.1 wd (dyZ K n h ord ml ln s (k + 1)).2.2 (yr + ((k + 1 : Nat) : Int)) := by
        rw [show yr + ((k + 1 : Nat) : Int) = yr + k + 1 by omega]
        exact hW3
      refine m_218 hG hT3 hW3' (k_285_78 hG ?_)
      have hi := ih F3 A3 (fun i hi => by rw [e3 i hi]; exact hF i hi) (fun k hk => by rw [e4 k (by omega) (by omega)]; exact hF2 k hk) (fun i hi => by rw [e6 i hi]; exact hA2 i hi) hW3' e5
      rw [dsZ] at hi
      rw [zN_1, zZ_1, zI_eqm (by omega)]
      refine ⟨fun e => ?_, fun e => ?_⟩
      · have hf : stdB K h ord (dyZ K n h ord ml ln s (k + 1)).2.1 wd (dyZ K n h ord ml ln s (k + 1)).2.2 (yr + ((k + 1 : Nat) : Int)) = false := by
          cases hb : stdB K h ord (dyZ K n h ord ml ln s (k + 1)).2.1 wd (dyZ K n h ord ml ln s (k + 1)).2.2 (yr + ((k + 1 : Nat) : Int))
          · rfl
          · rw [hb] at e; exact absurd e (by decide)
        rw [hf, if_neg (by decide)] at hi
        refine ⟨fun e2' => ?_, fun e2' => ?_⟩
        · rw [if_pos e2'] at hi; exact hi
        · rw [if_neg e2'] at hi; exact hi
      · have hf : stdB K h ord (dyZ K n h ord ml ln s (k + 1)).2.1 wd (dyZ K n h ord ml ln s (k + 1)).2.2 (yr + ((k + 1 : Nat) : Int)) = true := by
          cases hb : stdB K h ord (dyZ K n h ord ml ln s (k + 1)).2.1 wd (dyZ K n h ord ml ln s (k + 1)).2.2 (yr + ((k + 1 : Nat) : Int))
          · rw [hb] at e; exact absurd rfl e
          · rfl
        rw [hf, if_pos rfl] at hi
        exact hi
    · rw [zN_lt (by omega) (by omega)] at e
      omega
end MYearsZ
