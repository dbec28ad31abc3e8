/-! acts: both answers, what holds behind them -/
section OpsA
variable {D D' c c' SL p q p' q' : Nat} {xs : Nat → Int32} {F A F1 A1 F2 A2 : Nat → Nat → Int32} {J J2 : Nat → Nat → Int64} {G G' : pG} {K : Nat → Nat → Int} {n : Nat} {cd : Nat → Int} {cl m : Nat} {tp : Nat → Int32} {fp : Int32} {im : Bool} {B B' : BsT} {z : Int} {k' j : Nat} {hs' : Nat → Sn} {s' : Sn}
theorem CI_fr (hf : CFr F A F1 A1) (hH : CHs 22 F1 A1 n k' hs') (hS : CSt 27 F1 A1 n (hs' k')) (hI : CI c F A K n cd cl m tp fp im B B') : CI (c + 1) F1 A1 K n cd cl m tp fp im (k', hs', B.2.2) B' := by
  obtain ⟨f1, f2, f3, f4, f5⟩ := hf
  obtain ⟨a1, a2, a3, ⟨b1, b2, b3, b4, b5⟩, ⟨τ, a5, a5'⟩, a6, a7, a8, a9, a10⟩ := hI
  have g : ∀ i, i ≠ 18 → i ≠ 21 → i ≠ 22 → i ≠ 27 → F1 i = F i := f1
  refine ⟨?_, ?_, ?_, ⟨hH, hS, b3, ?_, ?_⟩, ⟨τ, ?_, by omega⟩, fun h => ?_, ?_, ?_, ?_, fun h => ?_⟩
  · unfold CTn
    rw [g 12 (by decide) (by decide) (by decide) (by decide), f5 13 (by decide) (by decide) (by decide), f5 14 (by decide) (by decide) (by decide), f5 15 (by decide) (by decide) (by decide), f5 17 (by decide) (by decide) (by decide)]; exact a1
  · unfold CRl
    rw [f2, f5 19 (by decide) (by decide) (by decide)]; exact a2
  · unfold CTp
    rw [g 0 (by decide) (by decide) (by decide) (by decide), f5 1 (by decide) (by decide) (by decide)]; exact a3
  · rw [f3 2 (by decide)]; exact b4
  · rw [f5 24 (by decide) (by decide) (by decide), f5 25 (by decide) (by decide) (by decide), f5 26 (by decide) (by decide) (by decide)]; exact b5
  · unfold CTu
    rw [g 66 (by decide) (by decide) (by decide) (by decide), f5 67 (by decide) (by decide) (by decide)]; exact a5
  · rw [f4] at h; exact absurd h (by decide)
  · rw [f5 63 (by decide) (by decide) (by decide), f5 64 (by decide) (by decide) (by decide)]; exact a7
  · rw [g 0 (by decide) (by decide) (by decide) (by decide)]; exact a8
  · rw [g 0 (by decide) (by decide) (by decide) (by decide)]; exact a9
  · exact CB_cg (fun i hi => g i (by omega) (by omega) (by omega) (by omega)) (fun i i1 i2 => f5 i (by omega) (by omega) (by omega)) (a10 h)
theorem MI_fr (hf : MFr F A F1 A1) (f31 : F1 68 31 = zI (k' : Int)) (hH : MHs (A1 85) n k' hs') (hS : MSt F1 A1 n (hs' k')) (hI : MI F A K n cd cl m tp fp im B B') : MI F1 A1 K n cd cl m tp fp im (k', hs', B.2.2) B' := by
  obtain ⟨f1, f2, f3, f4⟩ := hf
  obtain ⟨a1, a2, a3, ⟨b1, b2, b3, b4, b5⟩, a5, a6, a7⟩ := hI
  have g : ∀ i, 68 ≤ i → i < 81 → A1 i = A i := fun i h1 h2 => f4 i (by omega)
  refine ⟨?_, ?_, ?_, ⟨f31, hH, hS, ?_, ?_⟩, ?_, ?_, fun h => ?_⟩
  · unfold MTn Wrm
    rw [g 71 (by decide) (by decide), g 72 (by decide) (by decide), g 73 (by decide) (by decide), g 74 (by decide) (by decide), g 75 (by decide) (by decide), g 77 (by decide) (by decide)]; exact a1
  · exact MRl_fr (g 72 (by decide) (by decide)) (g 78 (by decide) (by decide)) a2
  · unfold MTp
    rw [f2 13 (by decide) (by decide), g 80 (by decide) (by decide)]; exact a3
  · exact MSn_fr (f2 32 (by decide) (by decide)) (f4 94 (by decide)) (f4 95 (by decide)) b4
  · rw [g 79 (by decide) (by decide)]; exact b5
  · rw [f2 22 (by decide) (by decide)]; exact a5
  · rw [f2 50 (by decide) (by decide)]; exact a6
  · have hj := a7 h
    unfold MJ MIm at hj ⊢
    rw [f2 51 (by decide) (by decide), f2 52 (by decide) (by decide), f4 99 (by decide), f4 100 (by decide), f4 101 (by decide), f4 102 (by decide), f4 103 (by decide)]; exact hj
theorem MI_cf (hf : CFr F A F1 A1) (hI : MI F A K n cd cl m tp fp im B B') : MI F1 A1 K n cd cl m tp fp im B B' := MI_lo (hf.1 68 (by decide) (by decide) (by decide) (by decide)) (fun i h _ => hf.2.2.2.2 i (by omega) (by omega) (by omega)) hI
theorem RS_act (hE : EN c SL xs F A G K n cd cl m tp fp im B B' p q) (hc : CAct F A F1 A1 n B.1 B.2.1 s') (hm : MAct F1 A1 F2 A2 n B.1 B.2.1 s') : RS (c + 1) SL xs (F2, A2, J2, G) := by
  obtain ⟨h1, h2, h3, h4, h5, h6, h7⟩ := hE
  obtain ⟨c1, c2, c3⟩ := hc
  obtain ⟨m1, m2, m3, m4⟩ := hm
  have hC := CI_fr c1 c2 (by rw [puH_top]; exact c3) h2
  have hM := MI_fr m1 m2 m3 (by rw [puH_top]; exact m4) (MI_cf c1 h3)
  refine EN_rs ⟨h1, CI_hi (Nat.le_refl _) (fun i hi => m1.1 i (by omega)) (fun i hi => m1.2.2.2 i (by omega)) hC, hM, h4, ?_, by omega, by omega⟩
  rw [m1.2.2.2 2000 (by decide), c1.2.2.2.2 2000 (by decide) (by decide) (by decide)]; exact h5
def upU (u : Nat → Int32) (j : Nat) : Nat → Int32 := fun i => if i = j then u j + 1 else u i
def rfB (B : BsT) (j : Nat) : BsT := (B.1, B.2.1, B.2.2.1, B.2.2.2.1, B.2.2.2.2.1, upU B.2.2.2.2.2 j)
theorem CI_rf (hj : j < 3) (hI : CI c F A K n cd cl m tp fp im B B') : CI (c + 1) F (wF A 26 j (A 26 j + 1)) K n cd cl m tp fp im (rfB B j) B' := by
  obtain ⟨a1, a2, a3, ⟨b1, b2, b3, b4, b5, b6, b7⟩, ⟨τ, a5, a5'⟩, a6, a7, a8, a9, a10⟩ := hI
  have g : ∀ i, i ≠ 26 → wF A 26 j (A 26 j + 1) i = A i := fun i hi => wF_row hi
  refine ⟨?_, ?_, ?_, ⟨?_, ?_, b3, b4, ?_, ?_, fun i hi => ?_⟩, ⟨τ, ?_, by omega⟩, ?_, ?_, a8, a9, fun h => ?_⟩
  · unfold CTn
    rw [g 13 (by decide), g 14 (by decide), g 15 (by decide), g 17 (by decide)]; exact a1
  · unfold CRl
    rw [g 19 (by decide)]; exact a2
  · unfold CTp
    rw [g 1 (by decide)]; exact a3
  · exact CHs_cg rfl (g 23 (by decide)) b1
  · exact CSt_cg rfl (g 28 (by decide)) (g 29 (by decide)) (g 30 (by decide)) (g 31 (by decide)) b2
  · rw [g 24 (by decide)]; exact b5
  · rw [g 25 (by decide)]; exact b6
  · show wF A 26 j (A 26 j + 1) 26 i = upU B.2.2.2.2.2 j i
    unfold upU
    rw [wF_at]
    by_cases e : i = j
    · rw [if_pos ⟨rfl, e⟩, if_pos e, b7 j hj]
    · rw [if_neg (fun h => e h.2), if_neg e]; exact b7 i hi
  · unfold CTu
    rw [g 67 (by decide)]; exact a5
  · unfold CMs
    rw [g 62 (by decide)]; exact a6
  · rw [g 63 (by decide), g 64 (by decide)]; exact a7
  · exact CB_cg (fun i _ => rfl) (fun i i1 i2 => g i (by omega)) (a10 h)
theorem MI_rf (hj : j < 3) (hI : MI F A K n cd cl m tp fp im B B') : MI (wF F 68 3 0) (wF A 79 j (A 79 j + 1)) K n cd cl m tp fp im (rfB B j) B' := by
  have hI := MI_ms (MScr_code 0) hI
  obtain ⟨a1, a2, a3, ⟨b1, b2, b3, b4, b5⟩, a5, a6, a7⟩ := hI
  have g : ∀ i, i ≠ 79 → wF A 79 j (A 79 j + 1) i = A i := fun i hi => wF_row hi
  refine ⟨?_, MRl_fr (g 72 (by decide)) (g 78 (by decide)) a2, ?_, ⟨b1, ?_, ⟨MTw_cg a1.1.1 rfl rfl (fun i h1 h2 j _ => by rw [g i (by omega)]) b3.1, b3.2⟩, MSn_fr rfl (g 94 (by decide)) (g 95 (by decide)) b4, fun i hi => ?_⟩, a5, a6, fun h => ?_⟩
  · unfold MTn Wrm
    rw [g 71 (by decide), g 72 (by decide), g 73 (by decide), g 74 (by decide), g 75 (by decide), g 77 (by decide)]; exact a1
  · unfold MTp
    rw [g 80 (by decide)]; exact a3
  · rw [g 85 (by decide)]; exact b2
  · show wF A 79 j (A 79 j + 1) 79 i = upU B.2.2.2.2.2 j i
    unfold upU
    rw [wF_at]
    by_cases e : i = j
    · rw [if_pos ⟨rfl, e⟩, if_pos e, b5 j hj]
    · rw [if_neg (fun h => e h.2), if_neg e]; exact b5 i hi
  · have hj := a7 h
    unfold MJ MIm at hj ⊢
    rw [g 99 (by decide), g 100 (by decide), g 101 (by decide), g 102 (by decide), g 103 (by decide)]; exact hj
theorem MI_cr (hI : MI F A K n cd cl m tp fp im B B') : MI F (wF A 26 j (A 26 j + 1)) K n cd cl m tp fp im B B' := MI_lo rfl (fun i h _ => wF_row (by omega)) hI
theorem RS_rf (hj : j < 3) (hE : EN c SL xs F A G K n cd cl m tp fp im B B' p q) : RS (c + 1) SL xs (wF F 68 3 0, wF (wF A 26 j (A 26 j + 1)) 79 j (wF A 26 j (A 26 j + 1) 79 j + 1), J2, G) := by
  obtain ⟨h1, h2, h3, h4, h5, h6, h7⟩ := hE
  refine EN_rs ⟨h1, CI_hi (Nat.le_refl _) (fun i hi => wF_row (by omega)) (fun i hi => wF_row (by omega)) (CI_rf hj h2), MI_rf hj (MI_cr h3), h4, ?_, by omega, by omega⟩
  rw [wF_row (by decide), wF_row (by decide)]; exact h5
theorem o_7 {x y : Int32} (hE : EN c SL xs F A G K n cd cl m tp fp im B B' p q) (hD : 60 ≤ D) (hD' : 60 ≤ D') : X D 133 0 [.ref 0, .int x, .int y] [] (F, A, J, G) (PE 101 0 c SL xs D' 229 [.ref 68, .int x, .int y, .null]) := by
  obtain ⟨D, rfl⟩ : ∃ e, D = e + 3 := ⟨D - 3, by omega⟩
  obtain ⟨D', rfl⟩ : ∃ e, D' = e + 2 := ⟨D' - 2, by omega⟩
  have hE' := hE
  obtain ⟨h1, h2, h3, h4, h5, h6, h7⟩ := hE
  have h10 := h2.1.1.1
  obtain ⟨z, hz1, hz2, rfl⟩ := zI_of x
  obtain ⟨u, hu1, hu2, rfl⟩ := zI_of y
  have bad : ¬ (0 ≤ z ∧ z < n) → PE 101 0 c SL xs (D' + 2) 229 [.ref 68, .int (zI z), .int (zI u), .null] (.inr 101) (F, A, J, gThr G) := fun hb => PE_1 h1 (fun J1 => m_229 (Geo_thr h1) h3.1 ⟨hz1, hz2⟩ ⟨hu1, hu2⟩ h3.2.2.2.1.1 h3.2.2.2.1.2.1 h3.2.2.2.1.2.2.1 (fun _ => Po_mk cod1 trivial rfl (EN_qt hE' CScr.rfl (MScr_code2 0 1))) (fun i hi he => absurd (show 0 ≤ z ∧ z < n by omega) hb) (fun i a hi he => absurd (show 0 ≤ z ∧ z < n by omega) hb))
  refine t_133n_0 h1 ?_
  rw [h2.1.2.1, zI_lt0 ⟨hz1, hz2⟩, zI_lt hz1 hz2 (by omega) (by omega)]
  refine ⟨fun e => bad (by omega), fun e => ⟨fun e2 => ?_, fun e2 => bad (by omega)⟩⟩
  obtain ⟨i, rfl⟩ : ∃ i : Nat, z = i := ⟨z.toNat, by omega⟩
  have hi : i < n := by omega
  refine c_64 h1 h10 hi ⟨hu1, hu2⟩ h2.2.2.2.1.1 h2.2.2.2.1.2.1 (fun hr => k_133n_14 h1 ?_) (fun a ha hal hlv F1 A1 hc => k_133n_14 h1 ?_)
  · have hM := MI_cr (j := 1) h3
    refine PE_0 h1 (fun J1 => m_229 h1 hM.1 ⟨hz1, hz2⟩ ⟨hu1, hu2⟩ hM.2.2.2.1.1 hM.2.2.2.1.2.1 hM.2.2.2.1.2.2.1 (fun hb => absurd (show 0 ≤ (i : Int) ∧ (i : Int) < n by omega) hb) (fun _ _ _ _ => Po_mk cod0 rfl rfl (RS_rf (by decide) hE')) (fun i2 a hi2 he ha hal hlv => ?_))
    have : i2 = i := by omega
    subst this
    exact absurd hr (by omega)
  · have hM := MI_cf hc.1 h3
    refine PE_0 h1 (fun J1 => m_229 h1 hM.1 ⟨hz1, hz2⟩ ⟨hu1, hu2⟩ hM.2.2.2.1.1 hM.2.2.2.1.2.1 hM.2.2.2.1.2.2.1 (fun hb => absurd (show 0 ≤ (i : Int) ∧ (i : Int) < n by omega) hb) (fun i2 hi2 he hr => ?_) (fun i2 a2 hi2 he ha2 _ _ F2 A2 hm => ?_))
    · have : i2 = i := by omega
      subst this
      exact absurd hr (by omega)
    · have h9 : i2 = i := by omega
      have h8 : a2 = a := by omega
      subst h9; subst h8
      exact Po_mk hm.1.2.2.1 rfl rfl (RS_act hE' hc hm)
theorem o_8 {x : Int32} (hE : EN c SL xs F A G K n cd cl m tp fp im B B' p q) (hD : 60 ≤ D) (hD' : 60 ≤ D') : X D 134 0 [.ref 0, .int x] [] (F, A, J, G) (PE 101 0 c SL xs D' 231 [.ref 68, .int x, .null]) := by
  obtain ⟨D, rfl⟩ : ∃ e, D = e + 3 := ⟨D - 3, by omega⟩
  obtain ⟨D', rfl⟩ : ∃ e, D' = e + 2 := ⟨D' - 2, by omega⟩
  have hE' := hE
  obtain ⟨h1, h2, h3, h4, h5, h6, h7⟩ := hE
  have h10 := h2.1.1.1
  obtain ⟨z, hz1, hz2, rfl⟩ := zI_of x
  have bad : ¬ (0 ≤ z ∧ z < n) → PE 101 0 c SL xs (D' + 2) 231 [.ref 68, .int (zI z), .null] (.inr 101) (F, A, J, gThr G) := fun hb => PE_1 h1 (fun J1 => m_231 (Geo_thr h1) h3.1 ⟨hz1, hz2⟩ h3.2.2.2.1.1 h3.2.2.2.1.2.1 h3.2.2.2.1.2.2.1 (fun _ => Po_mk cod1 trivial rfl (EN_qt hE' CScr.rfl (MScr_code2 0 1))) (fun i hi he => absurd (show 0 ≤ z ∧ z < n by omega) hb) (fun i a hi he => absurd (show 0 ≤ z ∧ z < n by omega) hb))
  refine t_134n_0 h1 ?_
  rw [h2.1.2.1, zI_lt0 ⟨hz1, hz2⟩, zI_lt hz1 hz2 (by omega) (by omega)]
  refine ⟨fun e => bad (by omega), fun e => ⟨fun e2 => ?_, fun e2 => bad (by omega)⟩⟩
  obtain ⟨i, rfl⟩ : ∃ i : Nat, z = i := ⟨z.toNat, by omega⟩
  have hi : i < n := by omega
  refine c_65 h1 h10 hi h2.2.2.2.1.1 h2.2.2.2.1.2.1 (fun hr => k_134n_13 h1 ?_) (fun l hl F1 A1 hc => k_134n_13 h1 ?_)
  · have hM := MI_cr (j := 1) h3
    refine PE_0 h1 (fun J1 => m_231 h1 hM.1 ⟨hz1, hz2⟩ hM.2.2.2.1.1 hM.2.2.2.1.2.1 hM.2.2.2.1.2.2.1 (fun hb => absurd (show 0 ≤ (i : Int) ∧ (i : Int) < n by omega) hb) (fun _ _ _ _ => Po_mk cod0 rfl rfl (RS_rf (by decide) hE')) (fun i2 l2 hi2 he hl2 => ?_))
    have : i2 = i := by omega
    subst this
    exact absurd hr (by omega)
  · have hM := MI_cf hc.1 h3
    refine PE_0 h1 (fun J1 => m_231 h1 hM.1 ⟨hz1, hz2⟩ hM.2.2.2.1.1 hM.2.2.2.1.2.1 hM.2.2.2.1.2.2.1 (fun hb => absurd (show 0 ≤ (i : Int) ∧ (i : Int) < n by omega) hb) (fun i2 hi2 he hr => ?_) (fun i2 l2 hi2 he hl2 F2 A2 hm => ?_))
    · have : i2 = i := by omega
      subst this
      exact absurd hr (by omega)
    · have h9 : i2 = i := by omega
      subst h9
      have h8 : l2 = l := by omega
      subst h8
      exact Po_mk hm.1.2.2.1 rfl rfl (RS_act hE' hc hm)
theorem o_9 {x y : Int32} (hE : EN c SL xs F A G K n cd cl m tp fp im B B' p q) (hD : 60 ≤ D) (hD' : 60 ≤ D') : X D 135 0 [.ref 0, .int x, .int y] [] (F, A, J, G) (PE 101 0 c SL xs D' 233 [.ref 68, .int x, .int y]) := by
  obtain ⟨D, rfl⟩ : ∃ e, D = e + 3 := ⟨D - 3, by omega⟩
  obtain ⟨D', rfl⟩ : ∃ e, D' = e + 2 := ⟨D' - 2, by omega⟩
  have hE' := hE
  obtain ⟨h1, h2, h3, h4, h5, h6, h7⟩ := hE
  have h10 := h2.1.1.1
  have hW := CI_w h2
  have hh : sH (cuS B) ≤ 10 := Nat.le_trans hW.1.1 h10
  obtain ⟨z, hz1, hz2, rfl⟩ := zI_of x
  obtain ⟨u, hu1, hu2, rfl⟩ := zI_of y
  have bad : ¬ ((0 ≤ z ∧ z < sH (cuS B)) ∧ (0 ≤ u ∧ u < sH (cuS B))) → PE 101 0 c SL xs (D' + 2) 233 [.ref 68, .int (zI z), .int (zI u)] (.inr 101) (F, A, J, gThr G) := fun hb => PE_1 h1 (fun J1 => m_233 (Geo_thr h1) h10 ⟨hz1, hz2⟩ ⟨hu1, hu2⟩ h3.2.2.2.1.1 h3.2.2.2.1.2.1 h3.2.2.2.1.2.2.1 (fun _ => Po_mk cod1 trivial rfl (EN_qt hE' CScr.rfl (MScr_code2 0 1))) (fun h he => absurd (show (0 ≤ z ∧ z < sH (cuS B)) ∧ (0 ≤ u ∧ u < sH (cuS B)) from ⟨h, he ▸ h⟩) hb) (fun a b ha hb2 e1 e2 => absurd (show (0 ≤ z ∧ z < sH (cuS B)) ∧ (0 ≤ u ∧ u < sH (cuS B)) from ⟨⟨by omega, by rw [e1]; exact Int.ofNat_lt.mpr ha⟩, ⟨by omega, by rw [e2]; exact Int.ofNat_lt.mpr hb2⟩⟩) hb))
  refine t_135n_0 h1 ?_
  rw [hW.2.1, zI_lt0 ⟨hz1, hz2⟩, zI_lt0 ⟨hu1, hu2⟩, zI_lt hz1 hz2 (by omega) (by omega), zI_lt hu1 hu2 (by omega) (by omega)]
  refine ⟨fun e => bad (by omega), fun e => ⟨fun e2 => ⟨fun e3 => bad (by omega), fun e3 => ⟨fun e4 => ?_, fun e4 => bad (by omega)⟩⟩, fun e2 => bad (by omega)⟩⟩
  obtain ⟨a, rfl⟩ : ∃ i : Nat, z = i := ⟨z.toNat, by omega⟩
  obtain ⟨b, rfl⟩ : ∃ i : Nat, u = i := ⟨u.toNat, by omega⟩
  have ha : a < sH (cuS B) := by omega
  have hb : b < sH (cuS B) := by omega
  refine c_66 h1 h10 h2.2.2.2.1.1 h2.2.2.2.1.2.1 ha hb (fun hr => k_135n_19 h1 ⟨Or.inl rfl, ?_⟩) (fun hne F1 A1 hc => k_135n_19 h1 ⟨Or.inr rfl, ?_⟩)
  · have hM := MI_cr (j := 1) h3
    exact PE_0 h1 (fun J1 => m_233 h1 h10 ⟨hz1, hz2⟩ ⟨hu1, hu2⟩ hM.2.2.2.1.1 hM.2.2.2.1.2.1 hM.2.2.2.1.2.2.1 (fun hn => absurd (show (0 ≤ (a : Int) ∧ (a : Int) < sH (cuS B)) ∧ (0 ≤ (b : Int) ∧ (b : Int) < sH (cuS B)) by omega) hn) (fun _ _ => Po_mk cod0 rfl rfl (RS_rf (by decide) hE')) (fun a2 b2 _ _ e5 e6 hne => absurd (show a2 = b2 by omega) hne))
  · have hM := MI_cf hc.1 h3
    refine PE_0 h1 (fun J1 => m_233 h1 h10 ⟨hz1, hz2⟩ ⟨hu1, hu2⟩ hM.2.2.2.1.1 hM.2.2.2.1.2.1 hM.2.2.2.1.2.2.1 (fun hn => absurd (show (0 ≤ (a : Int) ∧ (a : Int) < sH (cuS B)) ∧ (0 ≤ (b : Int) ∧ (b : Int) < sH (cuS B)) by omega) hn) (fun _ h => absurd (show a = b by omega) hne) (fun a2 b2 _ _ e5 e6 _ F2 A2 hm => ?_))
    have h9 : a2 = a := by omega
    have h8 : b2 = b := by omega
    subst h9; subst h8
    exact Po_mk hm.1.2.2.1 rfl rfl (RS_act hE' hc hm)
theorem o_10 {x y : Int32} (hE : EN c SL xs F A G K n cd cl m tp fp im B B' p q) (hD : 60 ≤ D) (hD' : 60 ≤ D') : X D 136 0 [.ref 0, .int x, .int y] [] (F, A, J, G) (PE 101 0 c SL xs D' 234 [.ref 68, .int x, .int y, .null]) := by
  obtain ⟨D, rfl⟩ : ∃ e, D = e + 3 := ⟨D - 3, by omega⟩
  obtain ⟨D', rfl⟩ : ∃ e, D' = e + 2 := ⟨D' - 2, by omega⟩
  have hE' := hE
  obtain ⟨h1, h2, h3, h4, h5, h6, h7⟩ := hE
  have h10 := h2.1.1.1
  obtain ⟨z, hz1, hz2, rfl⟩ := zI_of x
  obtain ⟨u, hu1, hu2, rfl⟩ := zI_of y
  have bad : ¬ (0 ≤ z ∧ z < n) → PE 101 0 c SL xs (D' + 2) 234 [.ref 68, .int (zI z), .int (zI u), .null] (.inr 101) (F, A, J, gThr G) := fun hb => PE_1 h1 (fun J1 => m_234 (Geo_thr h1) h3.1 ⟨hz1, hz2⟩ ⟨hu1, hu2⟩ h3.2.2.2.1.1 h3.2.2.2.1.2.1 h3.2.2.2.1.2.2.1 (fun _ => Po_mk cod1 trivial rfl (EN_qt hE' CScr.rfl (MScr_code2 0 1))) (fun h => absurd h hb) (fun i hi he => absurd (show 0 ≤ z ∧ z < n by omega) hb))
  refine t_136n_0 h1 ?_
  rw [h2.1.2.1, zI_lt0 ⟨hz1, hz2⟩, zI_lt hz1 hz2 (by omega) (by omega)]
  refine ⟨fun e => bad (by omega), fun e => ⟨fun e2 => ?_, fun e2 => bad (by omega)⟩⟩
  obtain ⟨i, rfl⟩ : ∃ i : Nat, z = i := ⟨z.toNat, by omega⟩
  have hi : i < n := by omega
  refine c_67 h1 h10 hi ⟨hu1, hu2⟩ h2.2.2.2.1.1 h2.2.2.2.1.2.1 (fun hr => k_136n_14 h1 ?_) (fun hr F1 A1 hc => k_136n_14 h1 ?_)
  · have hM := MI_cr (j := 1) h3
    exact PE_0 h1 (fun J1 => m_234 h1 hM.1 ⟨hz1, hz2⟩ ⟨hu1, hu2⟩ hM.2.2.2.1.1 hM.2.2.2.1.2.1 hM.2.2.2.1.2.2.1 (fun hb => absurd (show 0 ≤ (i : Int) ∧ (i : Int) < n by omega) hb) (fun _ _ => Po_mk cod0 rfl rfl (RS_rf (by decide) hE')) (fun i2 hi2 he h => absurd h hr))
  · have hM := MI_cf hc.1 h3
    refine PE_0 h1 (fun J1 => m_234 h1 hM.1 ⟨hz1, hz2⟩ ⟨hu1, hu2⟩ hM.2.2.2.1.1 hM.2.2.2.1.2.1 hM.2.2.2.1.2.2.1 (fun hb => absurd (show 0 ≤ (i : Int) ∧ (i : Int) < n by omega) hb) (fun _ h => absurd hr h) (fun i2 hi2 he _ F2 A2 hm => ?_))
    have h9 : i2 = i := by omega
    subst h9
    exact Po_mk hm.1.2.2.1 rfl rfl (RS_act hE' hc hm)
theorem o_11 {x y : Int32} (hE : EN c SL xs F A G K n cd cl m tp fp im B B' p q) (hD : 60 ≤ D) (hD' : 60 ≤ D') : X D 137 0 [.ref 0, .int x, .int y] [] (F, A, J, G) (PE 101 0 c SL xs D' 235 [.ref 68, .int x, .int y, .null]) := by
  obtain ⟨D, rfl⟩ : ∃ e, D = e + 3 := ⟨D - 3, by omega⟩
  obtain ⟨D', rfl⟩ : ∃ e, D' = e + 2 := ⟨D' - 2, by omega⟩
  have hE' := hE
  obtain ⟨h1, h2, h3, h4, h5, h6, h7⟩ := hE
  have h10 := h2.1.1.1
  obtain ⟨z, hz1, hz2, rfl⟩ := zI_of x
  obtain ⟨u, hu1, hu2, rfl⟩ := zI_of y
  have bad : ¬ (0 ≤ z ∧ z < n) → PE 101 0 c SL xs (D' + 2) 235 [.ref 68, .int (zI z), .int (zI u), .null] (.inr 101) (F, A, J, gThr G) := fun hb => PE_1 h1 (fun J1 => m_235 (Geo_thr h1) h3.1 ⟨hz1, hz2⟩ ⟨hu1, hu2⟩ h3.2.2.2.1.1 h3.2.2.2.1.2.1 h3.2.2.2.1.2.2.1 (fun _ => Po_mk cod1 trivial rfl (EN_qt hE' CScr.rfl (MScr_code2 0 1))) (fun h => absurd h hb) (fun i hi he => absurd (show 0 ≤ z ∧ z < n by omega) hb))
  refine t_137n_0 h1 ?_
  rw [h2.1.2.1, zI_lt0 ⟨hz1, hz2⟩, zI_lt hz1 hz2 (by omega) (by omega)]
  refine ⟨fun e => bad (by omega), fun e => ⟨fun e2 => ?_, fun e2 => bad (by omega)⟩⟩
  obtain ⟨i, rfl⟩ : ∃ i : Nat, z = i := ⟨z.toNat, by omega⟩
  have hi : i < n := by omega
  refine c_68 h1 h10 hi ⟨hu1, hu2⟩ h2.2.2.2.1.1 h2.2.2.2.1.2.1 (fun hr => k_137n_14 h1 ?_) (fun hr F1 A1 hc => k_137n_14 h1 ?_)
  · have hM := MI_cr (j := 1) h3
    exact PE_0 h1 (fun J1 => m_235 h1 hM.1 ⟨hz1, hz2⟩ ⟨hu1, hu2⟩ hM.2.2.2.1.1 hM.2.2.2.1.2.1 hM.2.2.2.1.2.2.1 (fun hb => absurd (show 0 ≤ (i : Int) ∧ (i : Int) < n by omega) hb) (fun _ _ => Po_mk cod0 rfl rfl (RS_rf (by decide) hE')) (fun i2 hi2 he h => absurd h hr))
  · have hM := MI_cf hc.1 h3
    refine PE_0 h1 (fun J1 => m_235 h1 hM.1 ⟨hz1, hz2⟩ ⟨hu1, hu2⟩ hM.2.2.2.1.1 hM.2.2.2.1.2.1 hM.2.2.2.1.2.2.1 (fun hb => absurd (show 0 ≤ (i : Int) ∧ (i : Int) < n by omega) hb) (fun _ h => absurd hr h) (fun i2 hi2 he _ F2 A2 hm => ?_))
    have h9 : i2 = i := by omega
    subst h9
    exact Po_mk hm.1.2.2.1 rfl rfl (RS_act hE' hc hm)
theorem o_12 (hE : EN c SL xs F A G K n cd cl m tp fp im B B' p q) (hD : 60 ≤ D) (hD' : 60 ≤ D') : X D 138 0 [.ref 0] [] (F, A, J, G) (P0 c SL xs D' 239 [.ref 68]) := by
  obtain ⟨D, rfl⟩ : ∃ e, D = e + 5 := ⟨D - 5, by omega⟩
  obtain ⟨D', rfl⟩ : ∃ e, D' = e + 3 := ⟨D' - 3, by omega⟩
  have hE' := hE
  obtain ⟨h1, h2, h3, h4, h5, h6, h7⟩ := hE
  refine t_138n_0 h1 ?_
  rw [h2.1.2.2.2.1]
  refine c_69 h1 h2.1 h2.2.1 h2.1.1.2.2.2 h2.2.2.2.1.1 h2.2.2.2.1.2.1 (fun F1 A1 hc => k_138n_14 h1 ⟨_, rfl, ⟨p, q, h1⟩, ?_⟩)
  have hM := MI_cf hc.1 h3
  exact m_239 h1 hM.1 hM.2.1 hM.2.2.2.1.1 hM.2.2.2.1.2.1 hM.2.2.2.1.2.2.1 (fun F2 A2 hm => ⟨rfl, RS_act hE' hc hm⟩)
theorem o_13 {x : Int32} (hE : EN c SL xs F A G K n cd cl m tp fp im B B' p q) (hD : 60 ≤ D) (hD' : 60 ≤ D') : X D 139 0 [.ref 0, .int x] [] (F, A, J, G) (P0 c SL xs D' 240 [.ref 68, .int x]) := by
  obtain ⟨D, rfl⟩ : ∃ e, D = e + 3 := ⟨D - 3, by omega⟩
  obtain ⟨D', rfl⟩ : ∃ e, D' = e + 2 := ⟨D' - 2, by omega⟩
  have hE' := hE
  obtain ⟨h1, h2, h3, h4, h5, h6, h7⟩ := hE
  have h10 := h2.1.1.1
  obtain ⟨z, hz1, hz2, rfl⟩ := zI_of x
  refine t_139n_0 h1 (c_70 h1 ⟨hz1, hz2⟩ h2.2.2.2.1.1 h2.2.2.2.1.2.1 (fun hr => k_139n_8 h1 ⟨_, rfl, ⟨p, q, h1⟩, ?_⟩) (fun hr F1 A1 hc => k_139n_8 h1 ⟨_, rfl, ⟨p, q, h1⟩, ?_⟩))
  · have hM := MI_cr (j := 1) h3
    exact m_240 h1 h10 ⟨hz1, hz2⟩ hM.2.2.2.1.1 hM.2.2.2.1.2.1 hM.2.2.2.1.2.2.1 (fun _ => ⟨rfl, RS_rf (by decide) hE'⟩) (fun h => absurd h hr)
  · have hM := MI_cf hc.1 h3
    exact m_240 h1 h10 ⟨hz1, hz2⟩ hM.2.2.2.1.1 hM.2.2.2.1.2.1 hM.2.2.2.1.2.2.1 (fun h => absurd hr h) (fun _ F2 A2 hm => ⟨rfl, RS_act hE' hc hm⟩)
theorem o_14 (hE : EN c SL xs F A G K n cd cl m tp fp im B B' p q) (hD : 60 ≤ D) (hD' : 60 ≤ D') : X D 140 0 [.ref 0] [] (F, A, J, G) (P0 c SL xs D' 241 [.ref 68]) := by
  obtain ⟨D, rfl⟩ : ∃ e, D = e + 4 := ⟨D - 4, by omega⟩
  obtain ⟨D', rfl⟩ : ∃ e, D' = e + 1 := ⟨D' - 1, by omega⟩
  have hE' := hE
  obtain ⟨h1, h2, h3, h4, h5, h6, h7⟩ := hE
  have h10 := h2.1.1.1
  refine t_140n_0 h1 (c_71 h1 h10 h2.2.2.2.1.1 h2.2.2.2.1.2.1 (fun hr => k_140n_7 h1 ⟨_, rfl, ⟨p, q, h1⟩, ?_⟩) (fun j hj F1 A1 hf hH hS => k_140n_7 h1 ⟨_, rfl, ⟨p, q, h1⟩, ?_⟩))
  · exact m_241 h1 h10 h3.2.2.2.1.1 h3.2.2.2.1.2.1 (fun _ => ⟨rfl, EN_q0 hE' CScr.rfl (MScr_code 0)⟩) (fun j hj => absurd hr (by omega))
  · have hM := MI_cf hf h3
    refine m_241 h1 h10 hM.2.2.2.1.1 hM.2.2.2.1.2.1 (fun hz => absurd hj (by omega)) (fun j2 hj2 F2 A2 hf2 f31 g85 hS2 => ?_)
    have h9 : j2 = j := by omega
    subst h9
    have hH2 : MHs (A2 85) n j2 B.2.1 := by
      rw [g85]
      have hb := hM.2.2.2.1.2.1
      exact ⟨by have := hb.1; omega, fun i hi => hb.2.1 i (by omega), fun i hi => hb.2.2 i (by omega)⟩
    refine ⟨rfl, EN_rs ⟨h1, CI_hi (Nat.le_refl _) (fun i hi => hf2.1 i (by omega)) (fun i hi => hf2.2.2.2 i (by omega)) (CI_fr hf hH hS h2), MI_fr hf2 f31 hH2 hS2 hM, h4, ?_, by omega, by omega⟩⟩
    rw [hf2.2.2.2 2000 (by decide), hf.2.2.2.2 2000 (by decide) (by decide) (by decide)]; exact h5
end OpsA
