/-! the reference's reader: tokens -/
section ReadM
variable {d : Nat} {F A F0 A0 F' A' : Nat → Nat → Int32} {J : Nat → Nat → Int64} {G : pG} {Q : pR → pM → Prop} {SL p q : Nat} {tp : Nat → Int32} {N s i j e w : Nat} {c : List Int}
def tkM (k : Nat) : Nat := if k = 1 then 4 else k - 1
theorem bt_in (hj : j < N) (hN : N ≤ 600) (hA : ∀ j, j < N → A 80 j = tp j) : btS (A 80) (zI (N : Int)) (zI (j : Int)) = tp j := by
  unfold btS
  rw [if_pos (by rw [zN_lt (by omega) (by omega)]; exact hj), zI_clamp (by omega)]
  exact hA j hj
theorem bt_out (hj : N ≤ j) (hj2 : j ≤ 600) : btS (A 80) (zI (N : Int)) (zI (j : Int)) = -1 := by
  unfold btS
  rw [if_neg (by rw [zN_lt (by omega) (by omega)]; omega)]
theorem bt_nn (hB : BtOk tp N) (hj : j < N) : ¬ tp j = -1 := by
  obtain ⟨b, hb, e⟩ := hB j hj
  rw [e, show (-1 : Int32) = zI (-1) from rfl, zI_eq (by omega) (by omega) (by omega) (by omega)]
  omega
/-- the next token -/
theorem m_187 (hG : Geo G SL p q) (hN : N ≤ 600) (hB : BtOk tp N) (hA : ∀ j, j < N → A 80 j = tp j) (he : e ≤ N) (f15 : F 68 15 = zI (N : Int)) (f14 : F 68 14 = zI (e : Int)) (hQ : ∀ F', (∀ i, i ≠ 68 → F' i = F i) → (∀ j, j ≠ 14 → j ≠ 16 → j ≠ 17 → j ≠ 18 → j ≠ 19 → F' 68 j = F 68 j) → F' 68 18 = zI (skS tp N e : Int) → F' 68 14 = zI (enS tp N (skS tp N e) : Int) → F' 68 19 = zI (enS tp N (skS tp N e) : Int) → F' 68 16 = zI (tkM (kdS tp N (skS tp N e)) : Int) → (kdS tp N (skS tp N e) = 3 → enS tp N (skS tp N e) - skS tp N e ≤ 4 → F' 68 17 = zI (nvS tp N (skS tp N e))) → Q (.inl none) (F', A, J, G)) : X (d + 1) 187 0 [.ref 68, .null] [] (F, A, J, G) Q := by
  have hsN : skS tp N e ≤ N := sc_le _ he
  generalize hs : skS tp N e = s at *
  have fr : ∀ F1 : Nat → Nat → Int32, (∀ j, j ≠ 14 → j ≠ 16 → j ≠ 17 → j ≠ 18 → j ≠ 19 → F1 68 j = F 68 j) → F1 68 15 = zI (N : Int) := fun F1 g2 => by
    rw [g2 15 (by decide) (by decide) (by decide) (by decide) (by decide)]; exact f15
  have L76 : ∀ k j F1 x, N - j = k → j ≤ N → scS (leP tp) N j = enS tp N s → kdS tp N s = 2 → (∀ i, i ≠ 68 → F1 i = F i) → (∀ j, j ≠ 14 → j ≠ 16 → j ≠ 17 → j ≠ 18 → j ≠ 19 → F1 68 j = F 68 j) → F1 68 18 = zI (s : Int) → F1 68 14 = zI (j : Int) → X (d + 1) 187 76 [.ref 68, .int x] [] (F1, A, J, G) Q := by
    intro k
    induction k with
    | zero =>
      intro j F1 x hk hj hsc hkd g1 g2 g5 g6
      have hje : enS tp N s = j := by rw [← hsc, sc_f (Or.inr (by omega))]
      refine t_187_76 hG ?_
      rw [g6, fr F1 g2, zN_lt (by omega) (by omega), bt_out (by omega) (by omega)]
      refine ⟨fun h => by omega, fun h => absurd h (by decide), fun _ => hQ _ (fun i hi => ?_) (fun c c4 c6 c7 c8 c9 => ?_) ?_ ?_ ?_ ?_ (fun h => by omega)⟩
      · rw [wF_row hi, wF_row hi]; exact g1 i hi
      · rw [wF_cell c9, wF_cell c6]; exact g2 c c4 c6 c7 c8 c9
      · rw [wF_cell (by decide), wF_cell (by decide)]; exact g5
      · rw [wF_cell (by decide), wF_cell (by decide), g6, hje]
      · rw [wF_same, hje]
      · rw [wF_cell (by decide), wF_same, hkd]; rfl
    | succ k ih =>
      intro j F1 x hk hj hsc hkd g1 g2 g5 g6
      have hjN : j < N := by omega
      refine t_187_76 hG ?_
      rw [g6, fr F1 g2, zN_lt (by omega) (by omega), bt_in hjN hN hA, zN_1]
      refine ⟨fun _ => zN_in (by omega) (by decide), fun hl => ?_, fun hl => ?_⟩
      · refine ih (j + 1) _ _ (by omega) (by omega) (by rw [← hsc, sc_t (p := leP tp) hl hjN]) hkd (fun i hi => ?_) (fun c c4 c6 c7 c8 c9 => ?_) ?_ (wF_same _ _ _ _)
        · rw [wF_row hi]; exact g1 i hi
        · rw [wF_cell c4]; exact g2 c c4 c6 c7 c8 c9
        · rw [wF_cell (by decide)]; exact g5
      · have hje : enS tp N s = j := by rw [← hsc, sc_f (Or.inl hl)]
        refine hQ _ (fun i hi => ?_) (fun c c4 c6 c7 c8 c9 => ?_) ?_ ?_ ?_ ?_ (fun h => by omega)
        · rw [wF_row hi, wF_row hi]; exact g1 i hi
        · rw [wF_cell c9, wF_cell c6]; exact g2 c c4 c6 c7 c8 c9
        · rw [wF_cell (by decide), wF_cell (by decide)]; exact g5
        · rw [wF_cell (by decide), wF_cell (by decide), g6, hje]
        · rw [wF_same, hje]
        · rw [wF_cell (by decide), wF_same, hkd]; rfl
  have L123 : ∀ k j F1 x, N - j = k → j ≤ N → s ≤ j → j ≤ enS tp N s → scS (dgP tp) N j = enS tp N s → kdS tp N s = 3 → (∀ i, i ≠ 68 → F1 i = F i) → (∀ j, j ≠ 14 → j ≠ 16 → j ≠ 17 → j ≠ 18 → j ≠ 19 → F1 68 j = F 68 j) → F1 68 18 = zI (s : Int) → F1 68 14 = zI (j : Int) → (j - s ≤ 4 → F1 68 17 = zI (nvF tp s (j - s))) → X (d + 1) 187 123 [.ref 68, .int x] [] (F1, A, J, G) Q := by
    intro k
    induction k with
    | zero =>
      intro j F1 x hk hj hsj hjen hsc hkd g1 g2 g5 g6 g7
      have hje : enS tp N s = j := by rw [← hsc, sc_f (Or.inr (by omega))]
      refine t_187_123 hG ?_
      rw [g6, fr F1 g2, zN_lt (by omega) (by omega), bt_out (by omega) (by omega)]
      refine ⟨fun h => by omega, fun h => absurd h (by decide), fun _ => hQ _ (fun i hi => ?_) (fun c c4 c6 c7 c8 c9 => ?_) ?_ ?_ ?_ ?_ (fun _ h => ?_)⟩
      · rw [wF_row hi, wF_row hi]; exact g1 i hi
      · rw [wF_cell c9, wF_cell c6]; exact g2 c c4 c6 c7 c8 c9
      · rw [wF_cell (by decide), wF_cell (by decide)]; exact g5
      · rw [wF_cell (by decide), wF_cell (by decide), g6, hje]
      · rw [wF_same, hje]
      · rw [wF_cell (by decide), wF_same, hkd]; rfl
      · rw [wF_cell (by decide), wF_cell (by decide), nvS, hje]; exact g7 (by omega)
    | succ k ih =>
      intro j F1 x hk hj hsj hjen hsc hkd g1 g2 g5 g6 g7
      have hjN : j < N := by omega
      refine t_187_123 hG ?_
      rw [g6, fr F1 g2, zN_lt (by omega) (by omega), bt_in hjN hN hA, zN_1]
      refine ⟨fun _ => zN_in (by omega) (by decide), fun hl => ?_, fun hl => ?_⟩
      · have hsc' : scS (dgP tp) N (j + 1) = enS tp N s := by rw [← hsc, sc_t (p := dgP tp) hl hjN]
        have hge := sc_ge (dgP tp) N (j + 1)
        refine ih (j + 1) _ _ (by omega) (by omega) (by omega) (by omega) hsc' hkd (fun i hi => ?_) (fun c c4 c6 c7 c8 c9 => ?_) ?_ (wF_same _ _ _ _) (fun h4 => ?_)
        · rw [wF_row hi, wF_row hi]; exact g1 i hi
        · rw [wF_cell c4, wF_cell c7]; exact g2 c c4 c6 c7 c8 c9
        · rw [wF_cell (by decide), wF_cell (by decide)]; exact g5
        · rw [wF_cell (by decide), wF_same, g7 (by omega), show j + 1 - s = (j - s) + 1 by omega, nvF, show s + (j - s) = j by omega]
          have hb2 := nv_b (tp := tp) (s := s) (k := j - s) (fun y a b => nv_dig hkd y a (by omega))
          have hd := dig_b hl
          obtain ⟨b, hb, eb⟩ := hB j hjN
          rw [eb, zI_toInt (by omega) (by omega)] at hd
          rw [eb, zI_toInt (by omega) (by omega), show (10 : Int32) = zI 10 from rfl, show (48 : Int32) = zI 48 from rfl, zI_mul, zI_add, zI_sub, show (100000 : Int32) = zI 100000 from rfl]
          have h999 : 0 ≤ nvF tp s (j - s) ∧ nvF tp s (j - s) ≤ 999 := by
            have : j - s = 0 ∨ j - s = 1 ∨ j - s = 2 ∨ j - s = 3 := by omega
            rcases this with e | e | e | e <;> rw [e] at hb2 ⊢ <;> omega
          rw [zI_jmin (by omega) (by omega) (by omega) (by omega)]
          congr 1; omega
      · have hje : enS tp N s = j := by rw [← hsc, sc_f (Or.inl hl)]
        refine hQ _ (fun i hi => ?_) (fun c c4 c6 c7 c8 c9 => ?_) ?_ ?_ ?_ ?_ (fun _ h => ?_)
        · rw [wF_row hi, wF_row hi]; exact g1 i hi
        · rw [wF_cell c9, wF_cell c6]; exact g2 c c4 c6 c7 c8 c9
        · rw [wF_cell (by decide), wF_cell (by decide)]; exact g5
        · rw [wF_cell (by decide), wF_cell (by decide), g6, hje]
        · rw [wF_same, hje]
        · rw [wF_cell (by decide), wF_same, hkd]; rfl
        · rw [wF_cell (by decide), wF_cell (by decide), nvS, hje]; exact g7 (by omega)
  have L0 : ∀ k j F1, N - j = k → j ≤ N → skS tp N j = s → (∀ i, i ≠ 68 → F1 i = F i) → (∀ j, j ≠ 14 → j ≠ 16 → j ≠ 17 → j ≠ 18 → j ≠ 19 → F1 68 j = F 68 j) → F1 68 14 = zI (j : Int) → X (d + 1) 187 0 [.ref 68, .null] [] (F1, A, J, G) Q := by
    intro k
    induction k with
    | zero =>
      intro j F1 hk hj hsc g1 g2 g6
      have hjs : j = s := by rw [← hsc]; exact (sc_f (Or.inr (by omega))).symm
      have hNs : N ≤ s := by omega
      subst hjs
      refine t_187_0 hG ?_
      rw [wF_cell (by decide), g6, fr F1 g2, zN_lt (by omega) (by omega), bt_out (by omega) (by omega)]
      refine ⟨fun h => by omega, fun h => absurd h (by decide), fun _ => ⟨fun h => absurd h (by decide), fun _ => ⟨fun h => by omega, fun _ => hQ _ (fun i hi => ?_) (fun c c4 c6 c7 c8 c9 => ?_) ?_ ?_ ?_ ?_ (fun h => ?_), fun h => absurd rfl h⟩⟩⟩
      · rw [wF_row hi, wF_row hi, wF_row hi]; exact g1 i hi
      · rw [wF_cell c9, wF_cell c6, wF_cell c8]; exact g2 c c4 c6 c7 c8 c9
      · rw [wF_cell (by decide), wF_cell (by decide), wF_same]
      · rw [wF_cell (by decide), wF_cell (by decide), wF_cell (by decide), g6, enS, if_pos hNs]
      · rw [wF_same, enS, if_pos hNs]
      · rw [wF_cell (by decide), wF_same, kdS, if_pos hNs]; rfl
      · rw [kdS, if_pos hNs] at h; omega
    | succ k ih =>
      intro j F1 hk hj hsc g1 g2 g6
      have hjN : j < N := by omega
      have step : blP tp j = true → X (d + 1) 187 0 [.ref 68, .null] [] (wF F1 68 14 (zI ((j + 1 : Nat) : Int)), A, J, G) Q := by
        intro hb
        refine ih (j + 1) _ (by omega) (by omega) (by rw [← hsc]; exact (sc_t hb hjN).symm) (fun i hi => ?_) (fun c c4 c6 c7 c8 c9 => ?_) (wF_same _ _ _ _)
        · rw [wF_row hi]; exact g1 i hi
        · rw [wF_cell c4]; exact g2 c c4 c6 c7 c8 c9
      refine t_187_0 hG ?_
      rw [wF_cell (by decide), g6, fr F1 g2, zN_lt (by omega) (by omega), bt_in hjN hN hA, zN_1]
      refine ⟨fun _ => zN_in (by omega) (by decide), fun h32 => step ?_, fun h32 => ⟨fun h10 => step ?_, fun h10 => ⟨fun _ => zN_in (by omega) (by decide), fun h => absurd h (bt_nn hB hjN), fun _ => ?_⟩⟩⟩
      · unfold blP; rw [decide_eq_true h32]; rfl
      · unfold blP; rw [decide_eq_true h10, Bool.or_true]
      · have hbl : blP tp j = false := by unfold blP; rw [decide_eq_false h32, decide_eq_false h10]; rfl
        have hjs : j = s := by rw [← hsc]; exact (sc_f (Or.inl hbl)).symm
        subst hjs
        refine ⟨fun hl => ?_, fun hl => ⟨fun hd => ?_, fun hd => ⟨fun hm => ?_, fun hm => ?_⟩⟩⟩
        · refine L76 _ j _ _ rfl hj (by rw [enS, if_neg (by omega), if_pos hl]) (by rw [kdS, if_neg (by omega), if_pos hl]) (fun i hi => ?_) (fun c c4 c6 c7 c8 c9 => ?_) (wF_same _ _ _ _) ?_
          · rw [wF_row hi]; exact g1 i hi
          · rw [wF_cell c8]; exact g2 c c4 c6 c7 c8 c9
          · rw [wF_cell (by decide)]; exact g6
        · have hkd : kdS tp N j = 3 := by rw [kdS, if_neg (by omega), if_neg (by rw [hl]; decide), if_pos hd]
          refine L123 _ j _ _ rfl hj (Nat.le_refl _) (Nat.le_of_lt (en_gt hjN)) (by rw [enS, if_neg (by omega), if_neg (by rw [hl]; decide), if_pos hd]) hkd (fun i hi => ?_) (fun c c4 c6 c7 c8 c9 => ?_) ?_ ?_ (fun _ => ?_)
          · rw [wF_row hi, wF_row hi]; exact g1 i hi
          · rw [wF_cell c7, wF_cell c8]; exact g2 c c4 c6 c7 c8 c9
          · rw [wF_cell (by decide), wF_same]
          · rw [wF_cell (by decide), wF_cell (by decide)]; exact g6
          · rw [wF_same, Nat.sub_self]; rfl
        · have hk1 : kdS tp N j = 4 := by rw [kdS, if_neg (by omega), if_neg (by rw [hl]; decide), if_neg (by rw [hd]; decide), if_pos hm]
          have hen : enS tp N j = j + 1 := by rw [enS, if_neg (by omega), if_neg (by rw [hl]; decide), if_neg (by rw [hd]; decide)]
          refine hQ _ (fun i hi => ?_) (fun c c4 c6 c7 c8 c9 => ?_) ?_ ?_ ?_ ?_ (fun h => by omega)
          · rw [wF_row hi, wF_row hi, wF_row hi, wF_row hi]; exact g1 i hi
          · rw [wF_cell c9, wF_cell c6, wF_cell c4, wF_cell c8]; exact g2 c c4 c6 c7 c8 c9
          · rw [wF_cell (by decide), wF_cell (by decide), wF_cell (by decide), wF_same]
          · rw [wF_cell (by decide), wF_cell (by decide), wF_same, hen]
          · rw [wF_same, hen]
          · rw [wF_cell (by decide), wF_same, hk1]; rfl
        · have hk1 : kdS tp N j = 1 := by rw [kdS, if_neg (by omega), if_neg (by rw [hl]; decide), if_neg (by rw [hd]; decide), if_neg (by rw [hm]; decide)]
          have hen : enS tp N j = j + 1 := by rw [enS, if_neg (by omega), if_neg (by rw [hl]; decide), if_neg (by rw [hd]; decide)]
          refine hQ _ (fun i hi => ?_) (fun c c4 c6 c7 c8 c9 => ?_) ?_ ?_ ?_ ?_ (fun h => by omega)
          · rw [wF_row hi, wF_row hi, wF_row hi, wF_row hi]; exact g1 i hi
          · rw [wF_cell c9, wF_cell c6, wF_cell c4, wF_cell c8]; exact g2 c c4 c6 c7 c8 c9
          · rw [wF_cell (by decide), wF_cell (by decide), wF_cell (by decide), wF_same]
          · rw [wF_cell (by decide), wF_cell (by decide), wF_same, hen]
          · rw [wF_same, hen]
          · rw [wF_cell (by decide), wF_same, hk1]; rfl
  exact L0 _ e F rfl he hs (fun _ _ => rfl) (fun _ _ _ _ _ _ => rfl) f14
/-- what else is kept -/
def RGr (F0 A0 F A : Nat → Nat → Int32) : Prop := (∀ i, i ≠ 68 → F i = F0 i) ∧ (∀ j, j ≠ 14 → j ≠ 16 → j ≠ 17 → j ≠ 18 → j ≠ 19 → j ≠ 20 → j ≠ 21 → F 68 j = F0 68 j) ∧ (∀ i, i ≠ 72 → i ≠ 78 → A i = A0 i) ∧ (∀ j, j ≠ 7 → A 72 j = A0 72 j) ∧ (∀ j, j < 600 → A 78 j = A0 78 j)
def MR (F0 A0 : Nat → Nat → Int32) (tp : Nat → Int32) (N : Nat) (F A : Nat → Nat → Int32) (s : Nat) (c : List Int) : Prop := RGr F0 A0 F A ∧ (N ≤ 600 ∧ BtOk tp N ∧ (∀ j, j < N → A 80 j = tp j) ∧ s ≤ N ∧ c.length ≤ s) ∧ F 68 15 = zI (N : Int) ∧ F 68 20 = 0 ∧ F 68 18 = zI (s : Int) ∧ F 68 14 = zI (enS tp N s : Int) ∧ F 68 19 = zI (enS tp N s : Int) ∧ F 68 16 = zI (tkM (kdS tp N s) : Int) ∧ (kdS tp N s = 3 → enS tp N s - s ≤ 4 → F 68 17 = zI (nvS tp N s)) ∧ A 72 7 = zI (c.length : Int) ∧ ∀ i, i < c.length → A 78 (600 + i) = zI (mdl (c.getD i 0))
def ME (F0 A0 F A : Nat → Nat → Int32) (e : Nat × Nat) : Prop := RGr F0 A0 F A ∧ (1 ≤ e.1 ∧ e.1 ≤ 4) ∧ e.2 ≤ 600 ∧ F 68 20 = zI (e.1 : Int) ∧ F 68 21 = zI (e.2 : Int)
theorem ME_b {e : Nat × Nat} (h : ME F0 A0 F A e) : ¬ F 68 20 = 0 := by
  rw [h.2.2.2.1, show (0 : Int32) = zI ((0 : Nat) : Int) from rfl, zN_eq (by have := h.2.1; omega) (by decide)]
  have := h.2.1; omega
theorem MR_e (hC : MR F0 A0 tp N F A s c) {k : Nat} {x : Int32} (hx : x = zI (k : Int)) (h1 : 1 ≤ k) (h4 : k ≤ 4) : ME F0 A0 (wF (wF F 68 20 x) 68 21 (F 68 18)) A (k, s) := by
  obtain ⟨⟨r1, r2, r3⟩, ⟨n6, hB, hA, hs, hc⟩, f15, f20, f18, f14, f19, f16, f17, a7, hcd⟩ := hC
  refine ⟨⟨fun i i8 => ?_, fun j j14 j16 j17 j18 j19 j20 j21 => ?_, r3⟩, ⟨h1, h4⟩, by dsimp only; omega, ?_, ?_⟩
  · rw [wF_row i8, wF_row i8]; exact r1 i i8
  · rw [wF_cell j21, wF_cell j20]; exact r2 j j14 j16 j17 j18 j19 j20 j21
  · rw [wF_cell (by decide), wF_same, hx]
  · rw [wF_same, f18]
theorem MR_n (hG : Geo G SL p q) (hC : MR F0 A0 tp N F A s c) (hQ : ∀ F', MR F0 A0 tp N F' A (nxS tp N s) c → Q (.inl none) (F', A, J, G)) : X (d + 1) 187 0 [.ref 68, .null] [] (F, A, J, G) Q := by
  obtain ⟨⟨r1, r2, r3⟩, ⟨n6, hB, hA, hs, hc⟩, f15, f20, f18, f14, f19, f16, f17, a7, hcd⟩ := hC
  refine m_187 hG n6 hB hA (en_le hs) f15 f14 (fun F' g1 g2 g18 g14 g19 g16 g17 => hQ F' ⟨⟨fun i i8 => ?_, fun j j14 j16 j17 j18 j19 j20 j21 => ?_, r3⟩, ⟨n6, hB, hA, nx_le hs, ?_⟩, ?_, ?_, g18, g14, g19, g16, g17, a7, hcd⟩)
  · rw [g1 i i8]; exact r1 i i8
  · rw [g2 j j14 j16 j17 j18 j19]; exact r2 j j14 j16 j17 j18 j19 j20 j21
  · by_cases h : s < N
    · have := nx_gt (tp := tp) h; omega
    · have h1 : enS tp N s = s := by rw [enS, if_pos (by omega)]
      have h2 : nxS tp N s = s := by rw [nxS, h1]; exact sc_f (Or.inr (by omega))
      omega
  · rw [g2 15 (by decide) (by decide) (by decide) (by decide) (by decide)]; exact f15
  · rw [g2 20 (by decide) (by decide) (by decide) (by decide) (by decide)]; exact f20
/-- a cell is laid -/
theorem MR_a (hC : MR F0 A0 tp N F A s c) {x : Int32} {z : Int} (hx : x = zI (mdl z)) (hl : c.length < s) : MR F0 A0 tp N F (wF (wF A 78 ((600 : Int32) + (A 72 7)).toNatClampNeg x) 72 7 ((A 72 7) + 1)) s (c ++ [z]) := by
  obtain ⟨⟨r1, r2, r3, r4, r5⟩, ⟨n6, hB, hA, hs, hc⟩, f15, f20, f18, f14, f19, f16, f17, a7, hcd⟩ := hC
  rw [a7, zN_1, show (600 : Int32) = zI ((600 : Nat) : Int) from rfl, zN_add, zI_clamp (by omega)]
  refine ⟨⟨r1, r2, fun i i72 i78 => ?_, fun j j7 => ?_, fun j j6 => ?_⟩, ⟨n6, hB, fun j hj => ?_, hs, ?_⟩, f15, f20, f18, f14, f19, f16, f17, ?_, fun i hi => ?_⟩
  · rw [wF_row i72, wF_row i78]; exact r3 i i72 i78
  · rw [wF_cell j7, wF_row (by decide)]; exact r4 j j7
  · rw [wF_row (by decide), wF_cell (by omega)]; exact r5 j j6
  · rw [wF_row (by decide), wF_row (by decide)]; exact hA j hj
  · simp only [List.length_append, List.length_cons, List.length_nil]; omega
  · rw [wF_same]; simp only [List.length_append, List.length_cons, List.length_nil]
  · rw [wF_row (by decide), wF_at]
    simp only [List.length_append, List.length_cons, List.length_nil] at hi
    by_cases e : i = c.length
    · rw [if_pos ⟨rfl, by omega⟩, e, hx]; simp
    · rw [if_neg (fun h => e (by omega)), hcd i (by omega)]
      simp only [List.getD_eq_getElem?_getD]
      rw [List.getElem?_append_left (by omega)]
theorem lay_if {P P' : Prop} (hC : MR F0 A0 tp N F A s c) (hl : c.length < s) (h : P) : ((F 68 20) = 0 → inB ((600 : Int32) + (A 72 7)) 1200 = true ∧ P) ∧ (¬ (F 68 20) = 0 → P') := by
  obtain ⟨_, ⟨n6, hB, hA, hs, hc⟩, f15, f20, f18, f14, f19, f16, f17, a7, hcd⟩ := hC
  refine ⟨fun _ => ⟨?_, h⟩, fun h => absurd f20 h⟩
  rw [a7, show (600 : Int32) = zI ((600 : Nat) : Int) from rfl, zN_add]
  exact zN_in (by omega) (by decide)
theorem lay_bad {P P' : Prop} {e : Nat × Nat} (hE : ME F0 A0 F A e) (h : P') : ((F 68 20) = 0 → inB ((600 : Int32) + (A 72 7)) 1200 = true ∧ P) ∧ (¬ (F 68 20) = 0 → P') := ⟨fun h => absurd h (ME_b hE), fun _ => h⟩
end ReadM
