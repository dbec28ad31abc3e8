/-! feed, town, see, forget, image, restore -/
section OpsB
variable {D D' c c' SL p q p' q' : Nat} {xs : Nat → Int32} {F A F1 A1 F2 A2 : Nat → Nat → Int32} {J J2 : Nat → Nat → Int64} {G G' : pG} {K : Nat → Nat → Int} {n : Nat} {cd : Nat → Int} {cl m : Nat} {tp : Nat → Int32} {fp : Int32} {im : Bool} {B B' : BsT} {z : Int} {k' j : Nat} {hs' : Nat → Sn} {s' : Sn}
theorem and255 (y : Int32) : ∃ b : Nat, b < 256 ∧ y &&& 255 = zI (b : Int) := by
  obtain ⟨z, hz1, hz2, rfl⟩ := zI_of y
  obtain ⟨a, ha⟩ : ∃ a : Nat, zI z = zI (a : Int) := by
    by_cases h0 : 0 ≤ z
    · exact ⟨z.toNat, by congr 1; omega⟩
    · exact ⟨(z + 4294967296).toNat, by rw [show (((z + 4294967296).toNat : Nat) : Int) = z + 4294967296 by omega, zI_wrap (z + 4294967296)]; congr 1; omega⟩
  refine ⟨a &&& 255, ?_, ?_⟩
  · have := Nat.and_two_pow_sub_one_eq_mod a 8
    rw [show 2 ^ 8 - 1 = 255 from rfl] at this
    rw [this]
    exact Nat.mod_lt _ (by decide)
  · rw [ha, show (255 : Int32) = zI ((255 : Nat) : Int) from rfl, zN_and]
theorem bt_ap4 {x : Int32} (h : BtOk tp m) : BtOk (ap4 tp m x) (m + 4) := by
  intro j hj
  unfold ap4
  split
  · exact and255 _
  · split
    · exact and255 _
    · split
      · exact and255 _
      · split
        · exact and255 _
        · exact h j (by omega)
theorem bt_ap20 {x1 x2 x3 x4 x5 : Int32} (h : BtOk tp m) : BtOk (ap20 tp m x1 x2 x3 x4 x5) (m + 20) := bt_ap4 (bt_ap4 (bt_ap4 (bt_ap4 (bt_ap4 h))))
/-- the class's own fields alone have changed -/
theorem CI_own {m' : Nat} {tp' : Nat → Int32} (hF : ∀ i, i < 68 → i ≠ 0 → F1 i = F i) (h02 : F1 0 2 = F 0 2) (h03 : F1 0 3 = F 0 3) (hA : ∀ i, i < 68 → i ≠ 1 → A1 i = A i) (hT : CTp F1 A1 m' tp') (hI : CI c F A K n cd cl m tp fp im B B') : CI (c + 1) F1 A1 K n cd cl m' tp' fp im B B' := by
  obtain ⟨a1, a2, a3, a4, ⟨τ, a5, a5'⟩, a6, a7, a8, a9, a10⟩ := hI
  refine ⟨?_, ?_, hT, ?_, ⟨τ, ?_, by omega⟩, ?_, ?_, ?_, ?_, fun h => ?_⟩
  · unfold CTn
    rw [hF 12 (by decide) (by decide), hA 13 (by decide) (by decide), hA 14 (by decide) (by decide), hA 15 (by decide) (by decide), hA 17 (by decide) (by decide)]; exact a1
  · unfold CRl
    rw [hF 18 (by decide) (by decide), hA 19 (by decide) (by decide)]; exact a2
  · exact CB_cg (fun i hi => hF i (by omega) (by omega)) (fun i i1 i2 => hA i (by omega) (by omega)) a4
  · unfold CTu
    rw [hF 66 (by decide) (by decide), hA 67 (by decide) (by decide)]; exact a5
  · unfold CMs
    rw [hF 21 (by decide) (by decide), hF 61 (by decide) (by decide), hA 62 (by decide) (by decide)]; exact a6
  · rw [hA 63 (by decide) (by decide), hA 64 (by decide) (by decide)]; exact a7
  · rw [h02]; exact a8
  · rw [h03]; exact a9
  · exact CB_cg (fun i hi => hF i (by omega) (by omega)) (fun i i1 i2 => hA i (by omega) (by omega)) (a10 h)
theorem MI_own {m' : Nat} {tp' : Nat → Int32} (h68 : ∀ k, (k = 22 ∨ (28 ≤ k ∧ k ≤ 32) ∨ (50 ≤ k ∧ k ≤ 52)) → F1 68 k = F 68 k) (hA : ∀ i, 68 ≤ i → i < 104 → i ≠ 80 → A1 i = A i) (hT : MTp F1 A1 m' tp') (hI : MI F A K n cd cl m tp fp im B B') : MI F1 A1 K n cd cl m' tp' fp im B B' := by
  obtain ⟨a1, a2, a3, ⟨b1, b2, b3, b4, b5⟩, a5, a6, a7⟩ := hI
  have g : ∀ i, 68 ≤ i → i < 104 → i ≠ 80 → A1 i = A i := hA
  refine ⟨?_, ?_, hT, ⟨?_, ?_, ⟨MTw_cg a1.1.1 (h68 28 (by decide)) (h68 29 (by decide)) (fun i h1 h2 j _ => by rw [g i (by omega) (by omega) (by omega)]) b3.1, ?_⟩, ?_, ?_⟩, ?_, ?_, fun h => ?_⟩
  · unfold MTn Wrm
    rw [g 71 (by decide) (by decide) (by decide), g 72 (by decide) (by decide) (by decide), g 73 (by decide) (by decide) (by decide), g 74 (by decide) (by decide) (by decide), g 75 (by decide) (by decide) (by decide), g 77 (by decide) (by decide) (by decide)]; exact a1
  · exact MRl_fr (g 72 (by decide) (by decide) (by decide)) (g 78 (by decide) (by decide) (by decide)) a2
  · rw [h68 31 (by decide)]; exact b1
  · rw [g 85 (by decide) (by decide) (by decide)]; exact b2
  · rw [h68 30 (by decide)]; exact b3.2
  · exact MSn_fr (h68 32 (by decide)) (g 94 (by decide) (by decide) (by decide)) (g 95 (by decide) (by decide) (by decide)) b4
  · rw [g 79 (by decide) (by decide) (by decide)]; exact b5
  · rw [h68 22 (by decide)]; exact a5
  · rw [h68 50 (by decide)]; exact a6
  · have hj := a7 h
    unfold MJ MIm at hj ⊢
    rw [h68 51 (by decide), h68 52 (by decide), g 99 (by decide) (by decide) (by decide), g 100 (by decide) (by decide) (by decide), g 101 (by decide) (by decide) (by decide), g 102 (by decide) (by decide) (by decide), g 103 (by decide) (by decide) (by decide)]; exact hj
theorem o_0 {x1 x2 x3 x4 x5 : Int32} (hE : EN c SL xs F A G K n cd cl m tp fp im B B' p q) (hD : 60 ≤ D) : X D 126 0 [.ref 0, .int x1, .int x2, .int x3, .int x4, .int x5] [] (F, A, J, G) (P0 c SL xs D' 182 [.ref 68, .int x1, .int x2, .int x3, .int x4, .int x5, .null, .null]) := by
  obtain ⟨D, rfl⟩ : ∃ e, D = e + 1 := ⟨D - 1, by omega⟩
  have hE' := hE
  obtain ⟨h1, h2, h3, h4, h5, h6, h7⟩ := hE
  refine c_126 h1 h2.2.2.1 h4.1 (fun hr => ⟨_, rfl, ⟨p, q, h1⟩, m_182 h1 h3.2.2.1 h4.1 (fun _ => ⟨rfl, EN_q0 hE' CScr.rfl (MScr_code 0)⟩) (fun h => absurd hr (by omega))⟩) (fun hr F1 A1 g1 g2 g3 g4 => ⟨_, rfl, ⟨p, q, h1⟩, ?_⟩)
  have hM := MI_lo (g1 68 (by decide)) (fun i hi _ => g3 i (by omega)) h3
  refine m_182 h1 hM.2.2.1 h4.1 (fun h => absurd hr (by omega)) (fun _ F2 A2 f1 f2 f3 f4 f5 => ⟨rfl, EN_rs ⟨h1, CI_hi (Nat.le_refl _) (fun i hi => f1 i (by omega)) (fun i hi => f4 i (by omega)) (CI_own (fun i _ hi => g1 i hi) (g2 2 (by decide)) (g2 3 (by decide)) (fun i _ hi => g3 i hi) g4 h2), MI_own (fun k hk => f2 k (by omega) (by omega)) (fun i _ _ hi => f4 i hi) f5 hM, ⟨by omega, bt_ap20 h4.2⟩, ?_, by omega, by omega⟩⟩)
  rw [f4 2000 (by decide), g3 2000 (by decide)]; exact h5
theorem o_36 {x y : Int32} (hE : EN c SL xs F A G K n cd cl m tp fp im B B' p q) (hD : 60 ≤ D) (hD' : 60 ≤ D') : X D 162 0 [.ref 0, .int x, .int y] [] (F, A, J, G) (P0 c SL xs D' 273 [.ref 68, .int x, .int y]) := by
  obtain ⟨D, rfl⟩ : ∃ e, D = e + 2 := ⟨D - 2, by omega⟩
  obtain ⟨D', rfl⟩ : ∃ e, D' = e + 2 := ⟨D' - 2, by omega⟩
  have hE' := hE
  obtain ⟨h1, h2, h3, h4, h5, h6, h7⟩ := hE
  have hW := CI_w h2
  have hh : sH (cuS B) ≤ 10 := Nat.le_trans hW.1.1 h2.1.1.1
  obtain ⟨z, hz1, hz2, rfl⟩ := zI_of x
  obtain ⟨u, hu1, hu2, rfl⟩ := zI_of y
  refine t_162n_0 h1 (c_72 h1 hh hW.2.1 (CI_sn h2) ⟨hz1, hz2⟩ ⟨hu1, hu2⟩ (fun hr => k_162n_9 h1 ⟨_, rfl, ⟨p, q, h1⟩, ?_⟩) (fun l hl hr => k_162n_9 h1 ⟨_, rfl, ⟨p, q, h1⟩, ?_⟩))
  · have hM := MI_cr (j := 2) h3
    exact m_273 h1 hh (MI_w hM).2.1 (MI_sn hM) ⟨hz1, hz2⟩ ⟨hu1, hu2⟩ (fun _ => ⟨rfl, RS_rf (by decide) hE'⟩) (fun l hl h => absurd h hr)
  · have hM : MI (wF F 21 2 (zI ((B.2.2.1 + 1 : Nat) : Int))) (wF (wF A 24 B.2.2.1 (zI (l : Int))) 25 B.2.2.1 (zI u)) K n cd cl m tp fp im B B' := MI_lo (wF_row (by decide)) (fun i hi _ => by rw [wF_row (by omega), wF_row (by omega)]) h3
    refine m_273 h1 hh (MI_w hM).2.1 (MI_sn hM) ⟨hz1, hz2⟩ ⟨hu1, hu2⟩ (fun h => absurd hr h) (fun l2 hl2 _ => ?_)
    have h9 : l2 = l := by omega
    subst h9
    have hl10 : l2 < 10 := by have := hr.1; omega
    have hS := CSn_add (CI_sn h2) hr.2.1 hl10 hr.2.2
    have hS2 := MSn_add (MI_sn hM) hr.2.1 hl10 hr.2.2
    refine ⟨rfl, EN_rs (B := (B.1, B.2.1, B.2.2.1 + 1, upN B.2.2.2.1 B.2.2.1 l2, upZ B.2.2.2.2.1 B.2.2.1 u, B.2.2.2.2.2)) (B' := B') ⟨h1, CI_hi (c := c + 1) (Nat.le_refl _) (fun i hi => by rw [wF_row (by omega), wF_row (by omega)]) (fun i hi => by rw [wF_row (by omega), wF_row (by omega)]) (?_ : CI (c + 1) (wF F 21 2 (zI ((B.2.2.1 + 1 : Nat) : Int))) (wF (wF A 24 B.2.2.1 (zI (l2 : Int))) 25 B.2.2.1 (zI u)) K n cd cl m tp fp im _ B'), ?_, h4, ?_, by omega, by omega⟩⟩
    · obtain ⟨a1, a2, a3, ⟨b1, b2, b3, b4, b5, b6, b7⟩, ⟨τ, a5, a5'⟩, a6, a7, a8, a9, a10⟩ := h2
      have gF : ∀ i, i ≠ 21 → wF F 21 2 (zI ((B.2.2.1 + 1 : Nat) : Int)) i = F i := fun i hi => wF_row hi
      have gA : ∀ i, i ≠ 24 → i ≠ 25 → wF (wF A 24 B.2.2.1 (zI (l2 : Int))) 25 B.2.2.1 (zI u) i = A i := fun i i1 i2 => by rw [wF_row i2, wF_row i1]
      refine ⟨?_, ?_, ?_, ⟨?_, ?_, hS.1, hS.2.1, hS.2.2.1, hS.2.2.2, ?_⟩, ⟨τ, ?_, by omega⟩, ?_, ?_, ?_, ?_, fun h => ?_⟩
      · unfold CTn
        rw [gF 12 (by decide), gA 13 (by decide) (by decide), gA 14 (by decide) (by decide), gA 15 (by decide) (by decide), gA 17 (by decide) (by decide)]; exact a1
      · unfold CRl
        rw [gF 18 (by decide), gA 19 (by decide) (by decide)]; exact a2
      · unfold CTp
        rw [gF 0 (by decide), gA 1 (by decide) (by decide)]; exact a3
      · exact CHs_cg (by rw [gF 22 (by decide)]) (gA 23 (by decide) (by decide)) b1
      · exact CSt_cg (gF 27 (by decide)) (gA 28 (by decide) (by decide)) (gA 29 (by decide) (by decide)) (gA 30 (by decide) (by decide)) (gA 31 (by decide) (by decide)) b2
      · rw [gA 26 (by decide) (by decide)]; exact b7
      · unfold CTu
        rw [gF 66 (by decide), gA 67 (by decide) (by decide)]; exact a5
      · unfold CMs
        rw [wF_cell (by decide), gF 61 (by decide), gA 62 (by decide) (by decide)]; exact a6
      · rw [gA 63 (by decide) (by decide), gA 64 (by decide) (by decide)]; exact a7
      · rw [gF 0 (by decide)]; exact a8
      · rw [gF 0 (by decide)]; exact a9
      · exact CB_cg (fun i hi => gF i (by omega)) (fun i i1 i2 => gA i (by omega) (by omega)) (a10 h)
    · obtain ⟨a1, a2, a3, ⟨b1, b2, b3, b4, b5⟩, a5, a6, a7⟩ := hM
      generalize (wF F 21 2 (zI ((B.2.2.1 + 1 : Nat) : Int))) = F3 at *
      generalize (wF (wF A 24 B.2.2.1 (zI (l2 : Int))) 25 B.2.2.1 (zI u)) = A3 at *
      have gF : ∀ k, k ≠ 3 → k ≠ 32 → wF (wF F3 68 3 0) 68 32 (zI ((B.2.2.1 + 1 : Nat) : Int)) 68 k = F3 68 k := fun k k1 k2 => by rw [wF_cell k2, wF_cell k1]
      have gA : ∀ i, i ≠ 94 → i ≠ 95 → wF (wF A3 94 B.2.2.1 (zI (l2 : Int))) 95 B.2.2.1 (zI u) i = A3 i := fun i i1 i2 => by rw [wF_row i2, wF_row i1]
      refine ⟨?_, MRl_fr (gA 72 (by decide) (by decide)) (gA 78 (by decide) (by decide)) a2, ?_, ⟨?_, ?_, ⟨MTw_cg a1.1.1 (gF 28 (by decide) (by decide)) (gF 29 (by decide) (by decide)) (fun i h1 h2 j _ => by rw [gA i (by omega) (by omega)]) b3.1, ?_⟩, hS2, ?_⟩, ?_, ?_, fun h => ?_⟩
      · unfold MTn Wrm
        rw [gA 71 (by decide) (by decide), gA 72 (by decide) (by decide), gA 73 (by decide) (by decide), gA 74 (by decide) (by decide), gA 75 (by decide) (by decide), gA 77 (by decide) (by decide)]; exact a1
      · unfold MTp
        rw [gF 13 (by decide) (by decide), gA 80 (by decide) (by decide)]; exact a3
      · rw [gF 31 (by decide) (by decide)]; exact b1
      · rw [gA 85 (by decide) (by decide)]; exact b2
      · rw [gF 30 (by decide) (by decide)]; exact b3.2
      · rw [gA 79 (by decide) (by decide)]; exact b5
      · rw [gF 22 (by decide) (by decide)]; exact a5
      · rw [gF 50 (by decide) (by decide)]; exact a6
      · have hj := a7 h
        unfold MJ MIm at hj ⊢
        rw [gF 51 (by decide) (by decide), gF 52 (by decide) (by decide), gA 99 (by decide) (by decide), gA 100 (by decide) (by decide), gA 101 (by decide) (by decide), gA 102 (by decide) (by decide), gA 103 (by decide) (by decide)]; exact hj
    · rw [wF_row (by decide), wF_row (by decide), wF_row (by decide), wF_row (by decide)]; exact h5
theorem o_39 (hE : EN c SL xs F A G K n cd cl m tp fp im B B' p q) : X D 165 0 [.ref 0] [] (F, A, J, G) (PV c SL xs D' 279 [.ref 68]) := by
  obtain ⟨h1, h2, h3, h4, h5, h6, h7⟩ := hE
  refine t_165n_0 h1 ⟨rfl, ⟨p, q, h1⟩, t_279_0 h1 ⟨rfl, EN_rs (K := K) (n := n) (cd := cd) (cl := cl) (fp := fp) (im := im) (B := (B.1, B.2.1, 0, B.2.2.2)) (B' := B') ⟨h1, CI_hi (c := c + 1) (F := wF F 21 2 0) (Nat.le_refl _) (fun i hi => by rw [wF_row (by omega), wF_row (by omega)]) (fun _ _ => rfl) ?_, ?_, h4, h5, by omega, by omega⟩⟩⟩
  · obtain ⟨a1, a2, a3, ⟨b1, b2, b3, b4, b5, b6, b7⟩, ⟨τ, a5, a5'⟩, a6, a7, a8, a9, a10⟩ := h2
    have gF : ∀ i, i ≠ 21 → wF F 21 2 0 i = F i := fun i hi => wF_row hi
    refine ⟨?_, ?_, ?_, ⟨?_, ?_, ⟨Nat.zero_le _, fun k hk => absurd hk (Nat.not_lt_zero k), fun k hk => absurd hk (Nat.not_lt_zero k)⟩, wF_same _ _ _ _, fun k hk => absurd hk (Nat.not_lt_zero k), fun k hk => absurd hk (Nat.not_lt_zero k), b7⟩, ⟨τ, ?_, by omega⟩, ?_, a7, ?_, ?_, fun h => ?_⟩
    · unfold CTn
      rw [gF 12 (by decide)]; exact a1
    · unfold CRl
      rw [gF 18 (by decide)]; exact a2
    · unfold CTp
      rw [gF 0 (by decide)]; exact a3
    · exact CHs_cg (by rw [gF 22 (by decide)]) rfl b1
    · exact CSt_cg (gF 27 (by decide)) rfl rfl rfl rfl b2
    · unfold CTu
      rw [gF 66 (by decide)]; exact a5
    · unfold CMs
      rw [wF_cell (by decide), gF 61 (by decide)]; exact a6
    · rw [gF 0 (by decide)]; exact a8
    · rw [gF 0 (by decide)]; exact a9
    · exact CB_cg (fun i hi => gF i (by omega)) (fun _ _ _ => rfl) (a10 h)
  · have hM : MI (wF F 21 2 0) A K n cd cl m tp fp im B B' := MI_lo (wF_row (by decide)) (fun _ _ _ => rfl) h3
    obtain ⟨a1, a2, a3, ⟨b1, b2, b3, b4, b5⟩, a5, a6, a7⟩ := hM
    have gF : ∀ k, k ≠ 3 → k ≠ 32 → wF (wF (wF F 21 2 0) 68 3 0) 68 32 0 68 k = wF F 21 2 0 68 k := fun k k1 k2 => by rw [wF_cell k2, wF_cell k1]
    refine ⟨a1, a2, ?_, ⟨?_, b2, ⟨MTw_cg a1.1.1 (gF 28 (by decide) (by decide)) (gF 29 (by decide) (by decide)) (fun _ _ _ _ _ => rfl) b3.1, ?_⟩, MSn_0, b5⟩, ?_, ?_, fun h => ?_⟩
    · unfold MTp
      rw [gF 13 (by decide) (by decide)]; exact a3
    · rw [gF 31 (by decide) (by decide)]; exact b1
    · rw [gF 30 (by decide) (by decide)]; exact b3.2
    · rw [gF 22 (by decide) (by decide)]; exact a5
    · rw [gF 50 (by decide) (by decide)]; exact a6
    · have hj := a7 h
      unfold MJ MIm at hj ⊢
      rw [gF 51 (by decide) (by decide), gF 52 (by decide) (by decide)]; exact hj
theorem o_42 (hE : EN c SL xs F A G K n cd cl m tp fp im B B' p q) (hD : 60 ≤ D) (hD' : 60 ≤ D') : X D 168 0 [.ref 0] [] (F, A, J, G) (PV c SL xs D' 287 [.ref 68]) := by
  obtain ⟨D, rfl⟩ : ∃ e, D = e + 2 := ⟨D - 2, by omega⟩
  obtain ⟨D', rfl⟩ : ∃ e, D' = e + 1 := ⟨D' - 1, by omega⟩
  obtain ⟨h1, h2, h3, h4, h5, h6, h7⟩ := hE
  have h10 := h2.1.1.1
  refine t_168n_0 h1 (c_62a h1 h10 h2.2.2.2.1 (fun F1 A1 f1 f2 f3 => k_168n_11 h1 ⟨rfl, ⟨p, q, h1⟩, ?_⟩))
  have hM : MI (wF F1 0 3 1) A1 K n cd cl m tp fp im B B' := MI_lo (by rw [wF_row (by decide), f1 68 (by decide) (by decide) (by decide)]) (fun i hi _ => f2 i (by omega)) h3
  refine m_287 h1 h10 hM.2.2.2.1 (fun F2 A2 g1 g2 g3 g50 g4 g5 => ⟨rfl, EN_rs (K := K) (n := n) (cd := cd) (cl := cl) (fp := fp) (B := B) (B' := B) (im := true) ⟨h1, CI_hi (c := c + 1) (Nat.le_refl _) (fun i hi => g1 i (by omega)) (fun i hi => g4 i (by omega)) ?_, ?_, h4, ?_, by omega, by omega⟩⟩)
  · obtain ⟨a1, a2, a3, a4, ⟨τ, a5, a5'⟩, a6, a7, a8, a9, a10⟩ := h2
    have gF : ∀ i, i ≠ 0 → i ≠ 35 → i ≠ 36 → i ≠ 41 → wF F1 0 3 1 i = F i := fun i i0 i1 i2 i3 => by rw [wF_row i0, f1 i i1 i2 i3]
    have gA : ∀ i, i < 37 ∨ 45 < i → A1 i = A i := f2
    have g00 : ∀ k, k ≠ 3 → wF F1 0 3 1 0 k = F 0 k := fun k hk => by rw [wF_cell hk, f1 0 (by decide) (by decide) (by decide)]
    refine ⟨?_, ?_, ?_, ?_, ⟨τ, ?_, by omega⟩, ?_, ?_, ?_, wF_same _ _ _ _, fun _ => ?_⟩
    · unfold CTn
      rw [gF 12 (by decide) (by decide) (by decide) (by decide), gA 13 (by decide), gA 14 (by decide), gA 15 (by decide), gA 17 (by decide)]; exact a1
    · unfold CRl
      rw [gF 18 (by decide) (by decide) (by decide) (by decide), gA 19 (by decide)]; exact a2
    · unfold CTp
      rw [g00 1 (by decide), gA 1 (by decide)]; exact a3
    · exact CB_cg (fun i hi => gF i (by omega) (by omega) (by omega) (by omega)) (fun i i1 i2 => gA i (by omega)) a4
    · unfold CTu
      rw [gF 66 (by decide) (by decide) (by decide) (by decide), gA 67 (by decide)]; exact a5
    · unfold CMs
      rw [gF 21 (by decide) (by decide) (by decide) (by decide), gF 61 (by decide) (by decide) (by decide) (by decide), gA 62 (by decide)]; exact a6
    · rw [gA 63 (by decide), gA 64 (by decide)]; exact a7
    · rw [g00 2 (by decide)]; exact a8
    · exact CB_cg (F := F1) (A := A1) (fun i hi => wF_row (by omega)) (fun _ _ _ => rfl) f3
  · obtain ⟨a1, a2, a3, ⟨b1, b2, b3, b4, b5⟩, a5, a6, a7⟩ := hM
    have gF : ∀ k, k ≠ 3 → (k < 50 ∨ 52 < k) → F2 68 k = wF F1 0 3 1 68 k := g2
    have gA : ∀ i, i < 99 ∨ 103 < i → A2 i = A1 i := g4
    refine ⟨?_, MRl_fr (gA 72 (by decide)) (gA 78 (by decide)) a2, ?_, ⟨?_, ?_, ⟨MTw_cg a1.1.1 (gF 28 (by decide) (by decide)) (gF 29 (by decide) (by decide)) (fun i h1 h2 j _ => by rw [gA i (by omega)]) b3.1, ?_⟩, MSn_fr (gF 32 (by decide) (by decide)) (gA 94 (by decide)) (gA 95 (by decide)) b4, ?_⟩, ?_, g50, fun _ => g5⟩
    · unfold MTn Wrm
      rw [gA 71 (by decide), gA 72 (by decide), gA 73 (by decide), gA 74 (by decide), gA 75 (by decide), gA 77 (by decide)]; exact a1
    · unfold MTp
      rw [gF 13 (by decide) (by decide), gA 80 (by decide)]; exact a3
    · rw [gF 31 (by decide) (by decide)]; exact b1
    · rw [gA 85 (by decide)]; exact b2
    · rw [gF 30 (by decide) (by decide)]; exact b3.2
    · rw [gA 79 (by decide)]; exact b5
    · rw [gF 22 (by decide) (by decide)]; exact a5
  · rw [g4 2000 (by decide), f2 2000 (by decide)]; exact h5
theorem o_43 (hE : EN c SL xs F A G K n cd cl m tp fp im B B' p q) (hD : 60 ≤ D) (hD' : 60 ≤ D') : X D 169 0 [.ref 0] [] (F, A, J, G) (P0 c SL xs D' 288 [.ref 68]) := by
  obtain ⟨D, rfl⟩ : ∃ e, D = e + 2 := ⟨D - 2, by omega⟩
  obtain ⟨D', rfl⟩ : ∃ e, D' = e + 1 := ⟨D' - 1, by omega⟩
  have hE' := hE
  obtain ⟨h1, h2, h3, h4, h5, h6, h7⟩ := hE
  have h10 := h2.1.1.1
  have c3 := h2.2.2.2.2.2.2.2.2.1
  have m50 := h3.2.2.2.2.2.1
  refine t_169n_0 h1 ?_
  rw [c3]
  cases im with
  | false => exact ⟨fun _ => ⟨_, rfl, ⟨p, q, h1⟩, m_288z h1 m50 ⟨rfl, EN_q0 hE' CScr.rfl (MScr_code 0)⟩⟩, fun h => absurd rfl h⟩
  | true =>
    refine ⟨fun h => absurd h (by decide), fun _ => c_62b h1 h10 (h2.2.2.2.2.2.2.2.2.2 rfl) (fun F1 A1 f1 f216 f2 f3 => k_169n_20 h1 ⟨_, rfl, ⟨p, q, h1⟩, ?_⟩)⟩
    have hM : MI F1 A1 K n cd cl m tp fp true B B' := MI_lo (f1 68 (by decide) (by decide) (by decide)) (fun i hi _ => f2 i (by omega)) h3
    refine m_288 h1 h10 hM.2.2.2.2.2.1 (hM.2.2.2.2.2.2 rfl) (fun F2 A2 g1 g2 g3 g4 g5 => ⟨rfl, EN_rs (K := K) (n := n) (cd := cd) (cl := cl) (fp := fp) (B := B') (B' := B') (im := true) ⟨h1, CI_hi (c := c + 1) (Nat.le_refl _) (fun i hi => g1 i (by omega)) (fun i hi => g4 i (by omega) (by omega) (by omega) (by omega)) ?_, ?_, h4, ?_, by omega, by omega⟩⟩)
    · obtain ⟨a1, a2, a3, a4, ⟨τ, a5, a5'⟩, a6, a7, a8, a9, a10⟩ := h2
      have gF : ∀ i, i ≠ 21 → i ≠ 22 → i ≠ 27 → F1 i = F i := f1
      have gA : ∀ i, i < 23 ∨ 31 < i → A1 i = A i := f2
      refine ⟨?_, ?_, ?_, f3, ⟨τ, ?_, by omega⟩, fun h => ?_, ?_, ?_, ?_, fun h => ?_⟩
      · unfold CTn
        rw [gF 12 (by decide) (by decide) (by decide), gA 13 (by decide), gA 14 (by decide), gA 15 (by decide), gA 17 (by decide)]; exact a1
      · unfold CRl
        rw [gF 18 (by decide) (by decide) (by decide), gA 19 (by decide)]; exact a2
      · unfold CTp
        rw [gF 0 (by decide) (by decide) (by decide), gA 1 (by decide)]; exact a3
      · unfold CTu
        rw [gF 66 (by decide) (by decide) (by decide), gA 67 (by decide)]; exact a5
      · rw [f216] at h; exact absurd h (by decide)
      · rw [gA 63 (by decide), gA 64 (by decide)]; exact a7
      · rw [gF 0 (by decide) (by decide) (by decide)]; exact a8
      · rw [gF 0 (by decide) (by decide) (by decide)]; exact a9
      · exact CB_cg (fun i hi => gF i (by omega) (by omega) (by omega)) (fun i i1 i2 => gA i (by omega)) (a10 h)
    · obtain ⟨a1, a2, a3, _, a5, a6, a7⟩ := hM
      have gA : ∀ i, 68 ≤ i → i < 104 → i ≠ 79 → (i < 81 ∨ 85 < i) → i ≠ 94 → i ≠ 95 → A2 i = A1 i := fun i _ _ x1 x2 x3 x4 => g4 i x1 x2 x3 x4
      refine ⟨?_, MRl_fr (gA 72 (by decide) (by decide) (by decide) (by decide) (by decide) (by decide)) (gA 78 (by decide) (by decide) (by decide) (by decide) (by decide) (by decide)) a2, ?_, g5, ?_, ?_, fun h => ?_⟩
      · unfold MTn Wrm
        rw [gA 71 (by decide) (by decide) (by decide) (by decide) (by decide) (by decide), gA 72 (by decide) (by decide) (by decide) (by decide) (by decide) (by decide), gA 73 (by decide) (by decide) (by decide) (by decide) (by decide) (by decide), gA 74 (by decide) (by decide) (by decide) (by decide) (by decide) (by decide), gA 75 (by decide) (by decide) (by decide) (by decide) (by decide) (by decide), gA 77 (by decide) (by decide) (by decide) (by decide) (by decide) (by decide)]; exact a1
      · unfold MTp
        rw [g2 13 (by decide) (by decide), gA 80 (by decide) (by decide) (by decide) (by decide) (by decide) (by decide)]; exact a3
      · rw [g2 22 (by decide) (by decide)]; exact a5
      · rw [g2 50 (by decide) (by decide)]; exact a6
      · have hj := a7 h
        unfold MJ MIm at hj ⊢
        rw [g2 51 (by decide) (by decide), g2 52 (by decide) (by decide), gA 99 (by decide) (by decide) (by decide) (by decide) (by decide) (by decide), gA 100 (by decide) (by decide) (by decide) (by decide) (by decide) (by decide), gA 101 (by decide) (by decide) (by decide) (by decide) (by decide) (by decide), gA 102 (by decide) (by decide) (by decide) (by decide) (by decide) (by decide), gA 103 (by decide) (by decide) (by decide) (by decide) (by decide) (by decide)]; exact hj
    · rw [g4 2000 (by decide) (by decide) (by decide) (by decide), f2 2000 (by decide)]; exact h5
theorem o_1 {x : Int32} (hE : EN c SL xs F A G K n cd cl m tp fp im B B' p q) (hD : 60 ≤ D) (hD' : 60 ≤ D') : X D 127 0 [.ref 0, .int x, .null] [] (F, A, J, G) (PE 100 0 c SL xs D' 203 [.ref 68, .int x, .null]) := by
  obtain ⟨D, rfl⟩ : ∃ e, D = e + 6 := ⟨D - 6, by omega⟩
  obtain ⟨D', rfl⟩ : ∃ e, D' = e + 5 := ⟨D' - 5, by omega⟩
  have hE' := hE
  obtain ⟨h1, h2, h3, h4, h5, h6, h7⟩ := hE
  have h600 := h4.1
  obtain ⟨z, hz1, hz2, rfl⟩ := zI_of x
  by_cases hb : z < 0 ∨ (m : Int) < z
  · refine c_127x h1 ?_ (PE_1 h1 (fun J1 => m_203x (Geo_thr h1) ?_ (Po_mk cod1 trivial rfl (EN_qt hE' CScr.rfl (MScr_code2 0 1)))))
    · rw [h2.2.2.1.1, zI_lt0 ⟨hz1, hz2⟩, zI_lt (by omega) (by omega) hz1 hz2]; exact hb
    · rw [h3.2.2.1.1, zI_lt0 ⟨hz1, hz2⟩, zI_lt (by omega) (by omega) hz1 hz2]; exact hb
  · obtain ⟨N, rfl⟩ : ∃ i : Nat, z = i := ⟨z.toNat, by omega⟩
    refine c_127 h1 (by omega) h2.2.2.1 h600 (show N ≤ m by omega) h4.2 (fun t ht F1 A1 hT => ?_) (fun e he F1 A1 hT => ?_)
    · obtain ⟨f1, f2, ⟨f3, f4, f5⟩, ⟨f6, f7⟩, f8, f9, f10, f11, f12⟩ := hT
      have hM : MI F1 A1 K n cd cl m tp fp im B B' := MI_lo (f1 68 (by omega)) (fun i hi _ => f8 i (by omega)) h3
      refine PE_0 h1 (fun J1 => m_203 h1 (by omega) hM.2.2.1 h600 (show N ≤ m by omega) h4.2 hM.1.2.1 (fun t2 ht2 F2 A2 hT2 => ?_) (fun e he => by rw [ht] at he; cases he))
      rw [ht] at ht2
      cases ht2
      obtain ⟨g1, g2, ⟨g3, g4, g5⟩, ⟨g6, g7, g8⟩, g9, g10, g11, g12⟩ := hT2
      obtain ⟨a1, a2, a3, ⟨b1, b2, b3, b4, b5, b6, b7⟩, ⟨τ, a5, a5'⟩, a6, a7, a8, a9, a10⟩ := h2
      have hsok : SnOk 0 B.2.2.2.1 B.2.2.2.2.1 := ⟨by decide, fun k hk => absurd hk (Nat.not_lt_zero k), fun k hk => absurd hk (Nat.not_lt_zero k)⟩
      refine Po_mk g3 rfl rfl (EN_rs (K := t.2.1) (n := t.1) (cd := fun i => t.2.2.2.2.getD i 0) (cl := t.2.2.2.2.length) (m := 0) (tp := tp) (fp := -1) (im := false) (B := (0, fun _ => begS t.1 (t.2.1 6), 0, B.2.2.2.1, B.2.2.2.2.1, B.2.2.2.2.2)) (B' := B) ⟨h1, CI_hi (c := c + 1) (Nat.le_refl _) (fun i hi => g1 i (by omega)) (fun i hi => g9 i (by omega)) ?_, ?_, ⟨by decide, fun j hj => absurd hj (Nat.not_lt_zero j)⟩, ?_, by omega, by omega⟩)
      · refine ⟨f9, f10, ⟨f3, fun j hj => absurd hj (Nat.not_lt_zero j)⟩, ⟨f11, f12, hsok, f6, fun k hk => absurd hk (Nat.not_lt_zero k), fun k hk => absurd hk (Nat.not_lt_zero k), ?_⟩, ⟨τ, ?_, by omega⟩, fun h => ?_, ?_, f4, f5, fun h => by cases h⟩
        · rw [f8 26 (by omega)]; exact b7
        · unfold CTu
          rw [f1 66 (by omega), f8 67 (by omega)]; exact a5
        · rw [f7] at h; exact absurd h (by decide)
        · rw [f8 63 (by omega), f8 64 (by omega)]; exact a7
      · have hok := f11.2.2.1 0 (Nat.le_refl _)
        refine ⟨g10, g11, ⟨g4, fun j hj => absurd hj (Nat.not_lt_zero j)⟩, ⟨g6, ⟨Nat.zero_le _, fun j _ => hok, fun j hj => absurd hj (Nat.not_lt_zero j)⟩, g12, ⟨hsok, g7, fun k hk => absurd hk (Nat.not_lt_zero k), fun k hk => absurd hk (Nat.not_lt_zero k)⟩, ?_⟩, g5, g8, fun h => by cases h⟩
        rw [g9 79 (by omega)]; exact hM.2.2.2.1.2.2.2.2
      · rw [g9 2000 (by omega), f8 2000 (by omega)]; exact h5
    · obtain ⟨f1, f2, ⟨f3, f4⟩, f5, f6, f7⟩ := hT
      have hM : MI F1 A1 K n cd cl m tp fp im B B' := MI_lo (f1 68 (by decide) (by decide) (by decide) (by decide)) (fun i hi _ => f5 i (by omega)) h3
      refine PE_0 h1 (fun J1 => m_203 h1 (by omega) hM.2.2.1 h600 (show N ≤ m by omega) h4.2 hM.1.2.1 (fun t ht => by rw [he] at ht; cases ht) (fun e2 he2 F2 A2 hT2 => ?_))
      rw [he] at he2
      cases he2
      obtain ⟨g1, g2, ⟨g3, g4, g5⟩, g6, ⟨g7, g8⟩, g9, g10, g11⟩ := hT2
      refine Po_mk g3 rfl rfl (EN_rs (K := K) (n := n) (cd := cd) (cl := cl) (m := 0) (tp := tp) (fp := zI (e.2 : Int)) (im := im) (B := rfB B 0) (B' := B') ⟨h1, CI_hi (c := c + 1) (Nat.le_refl _) (fun i hi => g1 i (by omega)) (fun i hi => g6 i (by omega)) ?_, ?_, ⟨by decide, fun j hj => absurd hj (Nat.not_lt_zero j)⟩, ?_, by omega, by omega⟩)
      · obtain ⟨a1, a2, a3, ⟨b1, b2, b3, b4, b5, b6, b7⟩, ⟨τ, a5, a5'⟩, a6, a7, a8, a9, a10⟩ := h2
        have gF : ∀ i, i ≠ 0 → i ≠ 2 → i ≠ 8 → i ≠ 11 → F1 i = F i := f1
        have gA : ∀ i, (i < 3 ∨ i = 8 ∨ 9 < i ∧ i < 26 ∨ 26 < i) → A1 i = A i := f5
        refine ⟨?_, ?_, ⟨f3, fun j hj => absurd hj (Nat.not_lt_zero j)⟩, ⟨?_, ?_, b3, ?_, ?_, ?_, fun i hi => ?_⟩, ⟨τ, ?_, by omega⟩, ?_, ?_, f4, ?_, fun h => ?_⟩
        · unfold CTn
          rw [gF 12 (by decide) (by decide) (by decide) (by decide), gA 13 (by omega), gA 14 (by omega), gA 15 (by omega), gA 17 (by omega)]; exact a1
        · unfold CRl
          rw [gF 18 (by decide) (by decide) (by decide) (by decide), gA 19 (by omega)]; exact a2
        · exact CHs_cg (by rw [gF 22 (by decide) (by decide) (by decide) (by decide)]) (gA 23 (by omega)) b1
        · exact CSt_cg (gF 27 (by decide) (by decide) (by decide) (by decide)) (gA 28 (by omega)) (gA 29 (by omega)) (gA 30 (by omega)) (gA 31 (by omega)) b2
        · rw [gF 21 (by decide) (by decide) (by decide) (by decide)]; exact b4
        · rw [gA 24 (by omega)]; exact b5
        · rw [gA 25 (by omega)]; exact b6
        · show A1 26 i = upU B.2.2.2.2.2 0 i
          unfold upU
          by_cases e0 : i = 0
          · rw [if_pos e0, e0, f6, b7 0 (by decide)]
          · rw [if_neg e0, f7 i e0]; exact b7 i hi
        · unfold CTu
          rw [gF 66 (by decide) (by decide) (by decide) (by decide), gA 67 (by omega)]; exact a5
        · unfold CMs
          rw [gF 21 (by decide) (by decide) (by decide) (by decide), gF 61 (by decide) (by decide) (by decide) (by decide), gA 62 (by omega)]; exact a6
        · rw [gA 63 (by omega), gA 64 (by omega)]; exact a7
        · rw [f2 3 (by decide) (by decide)]; exact a9
        · exact CB_cg (fun i hi => gF i (by omega) (by omega) (by omega) (by omega)) (fun i i1 i2 => gA i (by omega)) (a10 h)
      · obtain ⟨a1, a2, a3, ⟨b1, b2, b3, b4, b5⟩, a5, a6, a7⟩ := hM
        have gA : ∀ i, (i < 72 ∨ 79 < i) → A2 i = A1 i := g6
        have t10 := a1.1.1
        refine ⟨⟨a1.1, ?_, ?_, ?_, ?_, fun i hi => ?_, fun i hi => ?_, fun i hi => ?_, fun i hi => ?_⟩, ⟨a2.1, a2.2.1, ?_, fun i hi => ?_⟩, ⟨g4, fun j hj => absurd hj (Nat.not_lt_zero j)⟩, ⟨?_, ?_, ⟨MTw_cg t10 (g2 28 (by omega)) (g2 29 (by omega)) (fun i h1 h2 j _ => by rw [gA i (by omega)]) b3.1, ?_⟩, MSn_fr (g2 32 (by omega)) (gA 94 (by omega)) (gA 95 (by omega)) b4, fun i hi => ?_⟩, g5, ?_, fun h => ?_⟩
        · unfold Wrm
          rw [gA 71 (by omega)]; exact a1.2.1
        · rw [g9 0 (by decide)]; exact a1.2.2.1
        · rw [g9 1 (by decide)]; exact a1.2.2.2.1
        · rw [g9 2 (by decide)]; exact a1.2.2.2.2.1
        · rw [g10 73 i (by decide) (by decide) (by omega)]; exact a1.2.2.2.2.2.1 i hi
        · rw [g10 74 i (by decide) (by decide) (by omega)]; exact a1.2.2.2.2.2.2.1 i hi
        · rw [g10 75 i (by decide) (by decide) (by omega)]; exact a1.2.2.2.2.2.2.2.1 i hi
        · rw [g10 77 i (by decide) (by decide) (by omega)]; exact a1.2.2.2.2.2.2.2.2 i hi
        · rw [g9 3 (by decide)]; exact a2.2.2.1
        · rw [g11 i (by have := a2.1; omega)]; exact a2.2.2.2 i hi
        · rw [g2 31 (by omega)]; exact b1
        · rw [gA 85 (by omega)]; exact b2
        · rw [g2 30 (by omega)]; exact b3.2
        · show A2 79 i = upU B.2.2.2.2.2 0 i
          unfold upU
          by_cases e0 : i = 0
          · rw [if_pos e0, e0, g7, b5 0 (by decide)]
          · rw [if_neg e0, g8 i e0]; exact b5 i hi
        · rw [g2 50 (by omega)]; exact a6
        · have hj := a7 h
          unfold MJ MIm at hj ⊢
          rw [g2 51 (by omega), g2 52 (by omega), gA 99 (by omega), gA 100 (by omega), gA 101 (by omega), gA 102 (by omega), gA 103 (by omega)]; exact hj
      · rw [g6 2000 (by omega), f5 2000 (by omega)]; exact h5
end OpsB
