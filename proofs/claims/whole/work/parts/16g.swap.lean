/-! a swap -/
section SwapZ
variable {d : Nat} {F A F' A' F'' A'' : Nat → Nat → Int32} {J : Nat → Nat → Int64} {G : pG} {Q : pR → pM → Prop} {SL p q t a na b i l : Nat} {K : Nat → Nat → Int} {n h : Nat} {ord ord' : Nat → Nat} {ml wd ln ml' wd' ln' : Nat → Int} {yr z y : Int}
theorem amx_skip {p : Nat → Bool} {f : Nat → Int} {m0 : Int} {j : Nat} : ∀ k, (∀ i, j ≤ i → i < j + k → p i = false) → amx p f m0 (j + k) = amx p f m0 j
  | 0, _ => rfl
  | k + 1, h => by
    rw [show j + (k + 1) = (j + k) + 1 by omega, amx, h (j + k) (by omega) (by omega), if_neg (fun q => absurd q.1 (by decide)), amx_skip k (fun i h1 h2 => h i h1 (by omega))]
def swP (h : Nat) (e : Nat) : Bool := decide (e / 10 < e % 10 ∧ e % 10 < h)
def swF (K : Nat → Nat → Int) (h : Nat) (ord : Nat → Nat) (ml wd ln : Nat → Int) (yr : Int) (e : Nat) : Int := morZ K h (swpO ord (e / 10) (e % 10)) ml wd ln yr
def swM (K : Nat → Nat → Int) (h : Nat) (ord : Nat → Nat) (ml wd ln : Nat → Int) (yr : Int) : Nat → Int × Int := amx (swP h) (swF K h ord ml wd ln yr) (morZ K h ord ml wd ln yr)
theorem sw_div (hb : b < 10) : (10 * a + b) / 10 = a ∧ (10 * a + b) % 10 = b := by omega
theorem swM_in (ha : a < h) (h10 : h ≤ 10) : swM K h ord ml wd ln yr (10 * a + (a + 1)) = swM K h ord ml wd ln yr (10 * a) := by
  unfold swM
  refine amx_skip _ (fun i h1 h2 => ?_)
  unfold swP
  exact decide_eq_false (by omega)
theorem swM_out (ha : a < h) (h10 : h ≤ 10) : swM K h ord ml wd ln yr (10 * (a + 1)) = swM K h ord ml wd ln yr (10 * a + h) := by
  unfold swM
  rw [show 10 * (a + 1) = 10 * a + h + (10 - h) by omega]
  refine amx_skip _ (fun i h1 h2 => ?_)
  unfold swP
  exact decide_eq_false (by omega)
theorem swM_step (hab : a < b) (hb : b < h) (h10 : h ≤ 10) : swM K h ord ml wd ln yr (10 * a + (b + 1)) = if (swM K h ord ml wd ln yr (10 * a + b)).2 < morZ K h (swpO ord a b) ml wd ln yr then (((10 * a + b : Nat) : Int), morZ K h (swpO ord a b) ml wd ln yr) else swM K h ord ml wd ln yr (10 * a + b) := by
  have e1 : swP h (10 * a + b) = true := by unfold swP; exact decide_eq_true (by omega)
  have e2 : swF K h ord ml wd ln yr (10 * a + b) = morZ K h (swpO ord a b) ml wd ln yr := by unfold swF; rw [(sw_div (by omega)).1, (sw_div (by omega)).2]
  rw [show 10 * a + (b + 1) = (10 * a + b) + 1 by omega]
  show amx _ _ _ (10 * a + b + 1) = _
  rw [amx, e1, e2]
  simp only [true_and]
  rfl
theorem swM_b (hK : TnOk K n) (hw : TwOk n h ord ml wd ln yr) {e : Nat} (he : e ≤ 10 * h) : (-1 ≤ (swM K h ord ml wd ln yr e).1 ∧ (swM K h ord ml wd ln yr e).1 < 100) ∧ -70000 ≤ (swM K h ord ml wd ln yr e).2 ∧ (swM K h ord ml wd ln yr e).2 ≤ 9999 := by
  have h10 : h ≤ 10 := Nat.le_trans hw.1 hK.1
  have h1 := amx_b1 (swP h) (swF K h ord ml wd ln yr) (morZ K h ord ml wd ln yr) e
  have h2 := amx_b2 (p := swP h) (f := swF K h ord ml wd ln yr) (m0 := morZ K h ord ml wd ln yr) (b := 9999) (mor_b hK hw).2 e (fun i hi hp => by
    unfold swP at hp
    rw [decide_eq_true_eq] at hp
    unfold swF
    exact (mor_b hK (swp_ok (by omega) (by omega) hw)).2)
  have h3 := mor_b hK hw
  unfold swM
  omega
theorem swpO_swp (hab : a ≠ b) : swpO (swpO ord a b) a b = ord := by
  funext j
  unfold swpO
  by_cases e1 : j = b
  · rw [if_pos e1, if_neg hab, if_pos rfl, e1]
  · by_cases e2 : j = a
    · rw [if_neg e1, if_pos e2, if_pos rfl, e2]
    · rw [if_neg e1, if_neg e2, if_neg e1, if_neg e2]
theorem CTw_swp (ha : a < h) (hb : b < h) (hW : CTw t F A n h ord ml wd ln yr) : CTw t F (wF (wF A (t + 1) a (A (t + 1) b)) (t + 1) b (A (t + 1) a)) n h (swpO ord a b) ml wd ln yr := by
  obtain ⟨hw, f1, f2, b0, b1, b2, b3⟩ := hW
  refine ⟨swp_ok ha hb hw, f1, f2, fun l hl => ?_, ?_, ?_, ?_⟩
  · rw [wF_at, wF_at]
    unfold swpO
    by_cases e1 : l = b
    · rw [if_pos ⟨rfl, e1⟩, if_pos e1]; exact b0 a ha
    · by_cases e2 : l = a
      · rw [if_neg (fun q => e1 q.2), if_pos ⟨rfl, e2⟩, if_neg e1, if_pos e2]; exact b0 b hb
      · rw [if_neg (fun q => e1 q.2), if_neg (fun q => e2 q.2), if_neg e1, if_neg e2]; exact b0 l hl
  · rw [wF_row (by omega), wF_row (by omega)]; exact b1
  · rw [wF_row (by omega), wF_row (by omega)]; exact b2
  · rw [wF_row (by omega), wF_row (by omega)]; exact b3
theorem MTw_swp (ha : a < h) (hb : b < h) (hW : MTw F A n h ord ml wd ln yr) : MTw F (wF (wF A 81 a (A 81 b)) 81 b (A 81 a)) n h (swpO ord a b) ml wd ln yr := by
  obtain ⟨hw, f1, f2, b0, b1, b2, b3⟩ := hW
  refine ⟨swp_ok ha hb hw, f1, f2, fun l hl => ?_, ?_, ?_, ?_⟩
  · rw [wF_at, wF_at]
    unfold swpO
    by_cases e1 : l = b
    · rw [if_pos ⟨rfl, e1⟩, if_pos e1]; exact b0 a ha
    · by_cases e2 : l = a
      · rw [if_neg (fun q => e1 q.2), if_pos ⟨rfl, e2⟩, if_neg e1, if_pos e2]; exact b0 b hb
      · rw [if_neg (fun q => e1 q.2), if_neg (fun q => e2 q.2), if_neg e1, if_neg e2]; exact b0 l hl
  · rw [wF_row (by decide), wF_row (by decide)]; exact b1
  · rw [wF_row (by decide), wF_row (by decide)]; exact b2
  · rw [wF_row (by decide), wF_row (by decide)]; exact b3
theorem CTw_frT (hf : FrT t A A') (hW : CTw t F A n h ord ml wd ln yr) : CTw t F A' n h ord ml wd ln yr := by
  obtain ⟨hw, f1, f2, b0, b1, b2, b3⟩ := hW
  exact ⟨hw, f1, f2, by rw [hf _ (by omega)]; exact b0, by rw [hf _ (by omega)]; exact b1, by rw [hf _ (by omega)]; exact b2, by rw [hf _ (by omega)]; exact b3⟩
theorem c_109 (hG : Geo G SL p q) (hT : CTn F A K n) (hW : CTw 27 F A n h ord ml wd ln yr) (hQ : ∀ F' A', CScr F A F' A' → Q (.inl (some (.int (zI (swM K h ord ml wd ln yr (10 * h)).1)))) (F', A', J, G)) : X (d + 5) 109 0 [.ref 49, .null, .null, .null, .null, .null] [] (F, A, J, G) Q := by
  have h10' := hT.1.1
  have h10 : h ≤ 10 := Nat.le_trans hW.1.1 hT.1.1
  refine t_109_0 hG (c_89 hG tw27 hT hW (fun A0 hf0 hg0 => k_109_9 hG ?_))
  have hs0 : CScr F A F A0 := FrT_scr27 hf0
  have hs1 := hs0.tr (bec_scr (F := F) (A := A0))
  have hW1 := bec_tw h10' (CTw_scr hs0 hW)
  refine up_ind (h := h) (P := fun a => ∀ F1 A1 v4 v5, CScr F A F1 A1 → CTw 53 F1 A1 n h ord ml wd ln yr → X (d + 5) 109 23 [.ref 49, .int (zI (swM K h ord ml wd ln yr (10 * a)).1), .int (zI (swM K h ord ml wd ln yr (10 * a)).2), .int (zI (a : Int)), v4, v5] [] (F1, A1, J, G) Q) ?_ ?_ _ _ _ _ hs1 hW1
  · intro F1 A1 v4 v5 hs hW53
    have hW27 := CTw_scr hs hW
    refine t_109_23 hG ⟨fun e => ?_, fun _ => hQ F1 A1 hs⟩
    rw [hW27.2.1, zN_lt (by omega) (by omega)] at e
    omega
  · intro a ha ih F1 A1 v4 v5 hs hW53
    have hW27 := CTw_scr hs hW
    refine t_109_23 hG ⟨fun _ => ?_, fun e => ?_⟩
    · rw [← swM_in ha h10, zN_1]
      refine up_indF (a := a + 1) (h := h) (P := fun b => ∀ A1 v5, CScr F A F1 A1 → CTw 53 F1 A1 n h ord ml wd ln yr → X (d + 5) 109 39 [.ref 49, .int (zI (swM K h ord ml wd ln yr (10 * a + b)).1), .int (zI (swM K h ord ml wd ln yr (10 * a + b)).2), .int (zI (a : Int)), .int (zI (b : Int)), v5] [] (F1, A1, J, G) Q) (by omega) ?_ ?_ A1 v5 hs hW53
      · intro A1 v5 hs hW53
        have hW27 := CTw_scr hs hW
        refine t_109_39 hG ⟨fun e => ?_, fun _ => ?_⟩
        · rw [hW27.2.1, zN_lt (by omega) (by omega)] at e
          omega
        · rw [zN_1, ← swM_out ha h10]
          exact ih F1 A1 _ _ hs hW53
      · intro b hab hb ih2 A1 v5 hs hW53
        have hW27 := CTw_scr hs hW
        refine t_109_39 hG ⟨fun _ => ?_, fun e => ?_⟩
        · rw [zI_clamp (n := a) (by omega), zI_clamp (n := b) (by omega)]
          refine ⟨zN_in (by omega) (by decide), zN_in (by omega) (by decide), ?_⟩
          have hW2 := CTw_swp (t := 53) ha hb hW53
          have hs2 : CScr F A F1 (wF (wF A1 54 a (A1 54 b)) 54 b (A1 54 a)) := hs.tr ⟨fun i _ _ => rfl, rfl, fun i _ _ h3 => by rw [wF_row (by omega), wF_row (by omega)]⟩
          refine c_89 hG tw53 (CTn_scr hs2 hT) hW2 (fun A2 hf2 hg2 => k_109_68 hG ?_)
          have hW3 := CTw_swp (t := 53) ha hb (CTw_frT hf2 hW2)
          rw [swpO_swp (by omega)] at hW3
          have hs3 : CScr F A F1 (wF (wF A2 54 a (A2 54 b)) 54 b (A2 54 a)) := (hs2.tr (FrT_scr53 hf2)).tr ⟨fun i _ _ => rfl, rfl, fun i _ _ h3 => by rw [wF_row (by omega), wF_row (by omega)]⟩
          have hbd := swM_b hT.1 hW.1 (e := 10 * a + b) (by omega)
          have hmb := mor_b hT.1 (swp_ok ha hb hW.1)
          have hi := fun v5 => ih2 _ v5 hs3 hW3
          rw [swM_step (by omega) hb h10] at hi
          rw [zI_clamp (n := a) (by omega), zI_clamp (n := b) (by omega), zI_lt (by omega) (by omega) (by omega) (by omega), zN_1, show (10 : Int32) = zI 10 from rfl, zI_mul, zI_add, show (10 : Int) * (a : Int) + (b : Int) = ((10 * a + b : Nat) : Int) by omega]
          refine ⟨zN_in (by omega) (by decide), zN_in (by omega) (by decide), fun e => ?_, fun e => ?_⟩
          · rw [if_pos e] at hi; exact hi _
          · rw [if_neg e] at hi; exact hi _
        · rw [hW27.2.1, zN_lt (by omega) (by omega)] at e
          omega
    · rw [hW27.2.1, zN_lt (by omega) (by omega)] at e
      omega
theorem m_270 (hG : Geo G SL p q) (hT : MTn F A K n) (hW : MTw F A n h ord ml wd ln yr) (hQ : ∀ A', MScr F A (wF F 68 3 0) A' → Q (.inl (some (.int (zI (swM K h ord ml wd ln yr (10 * h)).1)))) (wF F 68 3 0, A', J, G)) : X (d + 7) 270 0 [.ref 68, .null, .null, .null, .null, .null] [] (F, A, J, G) Q := by
  have h10' := hT.1.1
  have h10 : h ≤ 10 := Nat.le_trans hW.1.1 hT.1.1
  have hW0 : MTw (wF F 68 3 0) A n h ord ml wd ln yr := by rw [MTw_code]; exact hW
  have hT0 : MTn (wF F 68 3 0) A K n := hT
  refine t_270_0 hG (m_219 hG hT0 hW0 (k_270_9 hG ?_))
  refine up_ind (h := h) (P := fun a => ∀ v4 v5, X (d + 7) 270 14 [.ref 68, .int (zI (swM K h ord ml wd ln yr (10 * a)).2), .int (zI (swM K h ord ml wd ln yr (10 * a)).1), .int (zI (a : Int)), v4, v5] [] (wF F 68 3 0, A, J, G) Q) ?_ ?_ _ _
  · intro v4 v5
    refine t_270_14 hG ⟨fun e => ?_, fun _ => hQ A (MScr_code 0)⟩
    rw [hW0.2.1, zN_lt (by omega) (by omega)] at e
    omega
  · intro a ha ih v4 v5
    refine t_270_14 hG ⟨fun _ => ?_, fun e => ?_⟩
    · rw [← swM_in ha h10, zN_1]
      refine up_indF (a := a + 1) (h := h) (P := fun b => ∀ v5, X (d + 7) 270 27 [.ref 68, .int (zI (swM K h ord ml wd ln yr (10 * a + b)).2), .int (zI (swM K h ord ml wd ln yr (10 * a + b)).1), .int (zI (a : Int)), .int (zI (b : Int)), v5] [] (wF F 68 3 0, A, J, G) Q) (by omega) ?_ ?_ v5
      · intro v5
        refine t_270_27 hG ⟨fun e => ?_, fun _ => ?_⟩
        · rw [hW0.2.1, zN_lt (by omega) (by omega)] at e
          omega
        · rw [zN_1, ← swM_out ha h10]
          exact ih _ _
      · intro b hab hb ih2 v5
        refine t_270_27 hG ⟨fun _ => ?_, fun e => ?_⟩
        · rw [zI_clamp (n := a) (by omega), zI_clamp (n := b) (by omega)]
          refine ⟨zN_in (by omega) (by decide), zN_in (by omega) (by decide), ?_⟩
          have hW2 := MTw_swp ha hb hW0
          have hT2 : MTn (wF F 68 3 0) (wF (wF A 81 a (A 81 b)) 81 b (A 81 a)) K n := MTn_A (fun i hi => by rw [wF_row (by omega), wF_row (by omega)]) hT
          refine m_219 hG hT2 hW2 (k_270_47 hG ?_)
          have hbd := swM_b hT.1 hW.1 (e := 10 * a + b) (by omega)
          have hmb := mor_b hT.1 (swp_ok ha hb hW.1)
          have hi := fun v5 => ih2 v5
          rw [swM_step (by omega) hb h10] at hi
          have hA : wF (wF (wF (wF A 81 a (A 81 b)) 81 b (A 81 a)) 81 a (wF (wF A 81 a (A 81 b)) 81 b (A 81 a) 81 b)) 81 b (wF (wF A 81 a (A 81 b)) 81 b (A 81 a) 81 a) = A := by
            rw [wF_same, wF_cell (by omega : a ≠ b), wF_same, wF_comm (by omega), wF_wF, wF_comm (by omega), wF_wF, wF_comm (by omega)]
            rw [wF_id (o := 81) (k := a) (v := A 81 a), wF_id rfl]
            rw [wF_cell (by omega : a ≠ b)]
          rw [zI_clamp (n := a) (by omega), zI_clamp (n := b) (by omega), hA, zI_lt (by omega) (by omega) (by omega) (by omega), zN_1, show (10 : Int32) = zI 10 from rfl, zI_mul, zI_add, show (10 : Int) * (a : Int) + (b : Int) = ((10 * a + b : Nat) : Int) by omega]
          refine ⟨zN_in (by omega) (by decide), zN_in (by omega) (by decide), fun e => ?_, fun e => ?_⟩
          · rw [if_pos e] at hi; exact hi _
          · rw [if_neg e] at hi; exact hi _
        · rw [hW0.2.1, zN_lt (by omega) (by omega)] at e
          omega
    · rw [hW0.2.1, zN_lt (by omega) (by omega)] at e
      omega
end SwapZ
