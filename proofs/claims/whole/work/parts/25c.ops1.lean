/-! calls that may throw and change nothing: both answers -/
section Ops1
variable {D D' c c' SL p q p' q' : Nat} {xs : Nat → Int32} {F A F1 A1 F2 A2 : Nat → Nat → Int32} {J J2 : Nat → Nat → Int64} {G G' : pG} {K : Nat → Nat → Int} {n : Nat} {cd : Nat → Int} {cl m : Nat} {tp : Nat → Int32} {fp : Int32} {im : Bool} {B B' : BsT}
theorem cod0 : wF F 68 3 0 68 3 = zI ((0 : Nat) : Int) := wF_same _ _ _ _
theorem cod1 : wF F 68 3 1 68 3 = zI ((1 : Nat) : Int) := wF_same _ _ _ _
theorem cod2 : wF F 68 3 2 68 3 = zI ((2 : Nat) : Int) := wF_same _ _ _ _
theorem gThr_C : gC (gThr G) ≤ gC G + 1 := Nat.le_refl _
theorem gThr_S : gS (gThr G) ≤ gS G + 6 := Nat.le_refl _
theorem EN_q0 {K : Nat → Nat → Int} {n : Nat} {cd : Nat → Int} {cl m : Nat} {tp : Nat → Int32} {fp : Int32} {im : Bool} {B B' : BsT} (h : EN c SL xs F A G K n cd cl m tp fp im B B' p q) (s1 : CScr F A F1 A1) (s2 : MScr F1 A1 F2 A2) : RS (c + 1) SL xs (F2, A2, J2, G) := EN_q h h.1 (by omega) (by omega) s1 s2
theorem EN_qt {K : Nat → Nat → Int} {n : Nat} {cd : Nat → Int} {cl m : Nat} {tp : Nat → Int32} {fp : Int32} {im : Bool} {B B' : BsT} (h : EN c SL xs F A G K n cd cl m tp fp im B B' p q) (s1 : CScr F A F1 A1) (s2 : MScr F1 A1 F2 A2) : RS (c + 1) SL xs (F2, A2, J2, gThr G) := EN_q h (Geo_thr h.1) gThr_C gThr_S s1 s2
theorem MScr_code2 (v w : Int32) : MScr F A (wF (wF F 68 3 v) 68 3 w) A := (MScr_code (F := F) (A := A) v).tr (MScr_code w)
def Po (k : Nat) (c SL : Nat) (xs : Nat → Int32) (J1 : Nat → Nat → Int64) (P : Int32 → Prop) : pR → pM → Prop := fun r2 M2 => ∃ w F2 A2 J2 G2, r2 = .inl (some (.int w)) ∧ M2 = (F2, A2, J2, G2) ∧ F2 68 3 = zI (k : Int) ∧ P w ∧ J2 104 = J1 104 ∧ RS (c + 1) SL xs (F2, A2, J2, G2)
theorem Po_mk {k : Nat} {J1 : Nat → Nat → Int64} {P : Int32 → Prop} {w : Int32} (h3 : F2 68 3 = zI (k : Int)) (hP : P w) (hJ : J2 104 = J1 104) (hR : RS (c + 1) SL xs (F2, A2, J2, G')) : Po k c SL xs J1 P (.inl (some (.int w))) (F2, A2, J2, G') := ⟨w, F2, A2, J2, G', rfl, rfl, h3, hP, hJ, hR⟩
theorem PE_0 {e1 e2 d mm : Nat} {mL : List Value} {v : Int32} (hG : Geo G SL p q) (h : ∀ J1, X d mm 0 mL [] (F, A, J1, G) (Po 0 c SL xs J1 (fun w => w = v))) : PE e1 e2 c SL xs d mm mL (.inl (some (.int v))) (F, A, J, G) := ⟨0, v, Or.inl ⟨rfl, rfl⟩, ⟨p, q, hG⟩, fun J1 => X_mono (fun r2 M2 ⟨w, F2, A2, J2, G2, a, b, c, d, e, f⟩ => by subst b; exact ⟨w, a, c, fun _ => d, e, f⟩) (h J1)⟩
theorem PE_1 {e1 e2 d mm : Nat} {mL : List Value} (hG : Geo G SL p q) (h : ∀ J1, X d mm 0 mL [] (F, A, J1, gThr G) (Po 1 c SL xs J1 (fun _ => True))) : PE e1 e2 c SL xs d mm mL (.inr e1) (F, A, J, gThr G) := ⟨1, 0, Or.inr (Or.inl ⟨rfl, rfl⟩), ⟨p, q, Geo_thr hG⟩, fun J1 => X_mono (fun r2 M2 ⟨w, F2, A2, J2, G2, a, b, c, d, e, f⟩ => by subst b; exact ⟨w, a, c, fun h => absurd h (by decide), e, f⟩) (h J1)⟩
theorem PE_2 {e1 e2 d mm : Nat} {mL : List Value} (hG : Geo G SL p q) (h2 : e2 ≠ 0) (h : ∀ J1, X d mm 0 mL [] (F, A, J1, gThr G) (Po 2 c SL xs J1 (fun _ => True))) : PE e1 e2 c SL xs d mm mL (.inr e2) (F, A, J, gThr G) := ⟨2, 0, Or.inr (Or.inr ⟨rfl, h2, rfl⟩), ⟨p, q, Geo_thr hG⟩, fun J1 => X_mono (fun r2 M2 ⟨w, F2, A2, J2, G2, a, b, c, d, e, f⟩ => by subst b; exact ⟨w, a, c, fun h => absurd h (by decide), e, f⟩) (h J1)⟩
theorem o_3 {x : Int32} (hE : EN c SL xs F A G K n cd cl m tp fp im B B' p q) (hD : 60 ≤ D) (hD' : 60 ≤ D') : X D 129 0 [.ref 0, .int x, .null] [] (F, A, J, G) (PE 101 0 c SL xs D' 222 [.ref 68, .int x]) := by
  obtain ⟨D, rfl⟩ : ∃ e, D = e + 5 := ⟨D - 5, by omega⟩
  obtain ⟨D', rfl⟩ : ∃ e, D' = e + 6 := ⟨D' - 6, by omega⟩
  have hE' := hE
  obtain ⟨h1, h2, h3, h4, h5, h6, h7⟩ := hE
  have hW := CI_w h2
  have hV := MI_w h3
  have cT := h2.1
  have mT := h3.1
  have e21 : ((2 : Int32) - 1).toNatClampNeg = 1 := by decide
  have e31 : ((3 : Int32) - 1).toNatClampNeg = 2 := by decide
  have s0 : ((12 : Int32) - 12).toNatClampNeg = 0 := by decide
  have s1 : ((13 : Int32) - 12).toNatClampNeg = 1 := by decide
  have s2 : ((14 : Int32) - 12).toNatClampNeg = 2 := by decide
  refine t_129n_0 h1 ⟨fun e => by subst e; exact (PE_0 h1 (fun J1 => t_222_0 h1 ⟨fun _ => (Po_mk cod0 (by rw [cT.2.1, mT.2.2.1]) rfl (EN_q0 hE' CScr.rfl (MScr_code 0))), fun h => absurd h (by decide), fun h => absurd h (by decide), fun h => absurd h (by decide), fun h => absurd h (by decide), fun h => absurd h (by decide), fun h => absurd h (by decide), fun h => absurd h (by decide), fun h => absurd h (by decide), fun h => absurd h (by decide), fun h => absurd h (by decide), fun h => absurd h (by decide), fun h => absurd h (by decide), fun h => absurd h (by decide), fun h => absurd h (by decide), fun h => absurd h (by decide)⟩)), fun e => by subst e; exact (PE_0 h1 (fun J1 => t_222_0 h1 ⟨fun h => absurd h (by decide), fun _ => (Po_mk cod0 (by rw [hW.2.1, hV.2.1]) rfl (EN_q0 hE' CScr.rfl (MScr_code 0))), fun h => absurd h (by decide), fun h => absurd h (by decide), fun h => absurd h (by decide), fun h => absurd h (by decide), fun h => absurd h (by decide), fun h => absurd h (by decide), fun h => absurd h (by decide), fun h => absurd h (by decide), fun h => absurd h (by decide), fun h => absurd h (by decide), fun h => absurd h (by decide), fun h => absurd h (by decide), fun h => absurd h (by decide), fun h => absurd h (by decide)⟩)), fun e => by subst e; exact (PE_0 h1 (fun J1 => t_222_0 h1 ⟨fun h => absurd h (by decide), fun h => absurd h (by decide), fun _ => ⟨by decide, Po_mk cod0 (by rw [e21, cT.2.2.1, mT.2.2.2.1]) rfl (EN_q0 hE' CScr.rfl (MScr_code 0))⟩, fun h => absurd h (by decide), fun h => absurd h (by decide), fun h => absurd h (by decide), fun h => absurd h (by decide), fun h => absurd h (by decide), fun h => absurd h (by decide), fun h => absurd h (by decide), fun h => absurd h (by decide), fun h => absurd h (by decide), fun h => absurd h (by decide), fun h => absurd h (by decide), fun h => absurd h (by decide), fun h => absurd h (by decide)⟩)), fun e => by subst e; exact (PE_0 h1 (fun J1 => t_222_0 h1 ⟨fun h => absurd h (by decide), fun h => absurd h (by decide), fun h => absurd h (by decide), fun _ => ⟨by decide, Po_mk cod0 (by rw [e31, cT.2.2.2.1, mT.2.2.2.2.1]) rfl (EN_q0 hE' CScr.rfl (MScr_code 0))⟩, fun h => absurd h (by decide), fun h => absurd h (by decide), fun h => absurd h (by decide), fun h => absurd h (by decide), fun h => absurd h (by decide), fun h => absurd h (by decide), fun h => absurd h (by decide), fun h => absurd h (by decide), fun h => absurd h (by decide), fun h => absurd h (by decide), fun h => absurd h (by decide), fun h => absurd h (by decide)⟩)), fun e => ?c4, fun e => ?c5, fun e => by subst e; exact (PE_0 h1 (fun J1 => t_222_0 h1 ⟨fun h => absurd h (by decide), fun h => absurd h (by decide), fun h => absurd h (by decide), fun h => absurd h (by decide), fun h => absurd h (by decide), fun h => absurd h (by decide), fun _ => (Po_mk cod0 (by rw [h2.2.2.2.1.2.1.2, h3.2.2.2.1.2.2.1.2]) rfl (EN_q0 hE' CScr.rfl (MScr_code 0))), fun h => absurd h (by decide), fun h => absurd h (by decide), fun h => absurd h (by decide), fun h => absurd h (by decide), fun h => absurd h (by decide), fun h => absurd h (by decide), fun h => absurd h (by decide), fun h => absurd h (by decide), fun h => absurd h (by decide)⟩)), fun e => ?c7, fun e => by subst e; exact (PE_0 h1 (fun J1 => t_222_0 h1 ⟨fun h => absurd h (by decide), fun h => absurd h (by decide), fun h => absurd h (by decide), fun h => absurd h (by decide), fun h => absurd h (by decide), fun h => absurd h (by decide), fun h => absurd h (by decide), fun h => absurd h (by decide), fun _ => (Po_mk cod0 (by rw [hW.2.2.1, hV.2.2.1]) rfl (EN_q0 hE' CScr.rfl (MScr_code 0))), fun h => absurd h (by decide), fun h => absurd h (by decide), fun h => absurd h (by decide), fun h => absurd h (by decide), fun h => absurd h (by decide), fun h => absurd h (by decide), fun h => absurd h (by decide)⟩)), fun e => by subst e; exact (PE_0 h1 (fun J1 => t_222_0 h1 ⟨fun h => absurd h (by decide), fun h => absurd h (by decide), fun h => absurd h (by decide), fun h => absurd h (by decide), fun h => absurd h (by decide), fun h => absurd h (by decide), fun h => absurd h (by decide), fun h => absurd h (by decide), fun h => absurd h (by decide), fun _ => (Po_mk cod0 (by rw [h2.2.2.2.1.1.2.1, h3.2.2.2.1.1]) rfl (EN_q0 hE' CScr.rfl (MScr_code 0))), fun h => absurd h (by decide), fun h => absurd h (by decide), fun h => absurd h (by decide), fun h => absurd h (by decide), fun h => absurd h (by decide), fun h => absurd h (by decide)⟩)), fun e => by subst e; exact (PE_0 h1 (fun J1 => t_222_0 h1 ⟨fun h => absurd h (by decide), fun h => absurd h (by decide), fun h => absurd h (by decide), fun h => absurd h (by decide), fun h => absurd h (by decide), fun h => absurd h (by decide), fun h => absurd h (by decide), fun h => absurd h (by decide), fun h => absurd h (by decide), fun h => absurd h (by decide), fun _ => (Po_mk cod0 (by rw [(CI_sn h2).2.1, (MI_sn h3).2.1]) rfl (EN_q0 hE' CScr.rfl (MScr_code 0))), fun h => absurd h (by decide), fun h => absurd h (by decide), fun h => absurd h (by decide), fun h => absurd h (by decide), fun h => absurd h (by decide)⟩)), fun e => by subst e; exact (PE_0 h1 (fun J1 => t_222_0 h1 ⟨fun h => absurd h (by decide), fun h => absurd h (by decide), fun h => absurd h (by decide), fun h => absurd h (by decide), fun h => absurd h (by decide), fun h => absurd h (by decide), fun h => absurd h (by decide), fun h => absurd h (by decide), fun h => absurd h (by decide), fun h => absurd h (by decide), fun h => absurd h (by decide), fun _ => (Po_mk cod0 (by rw [h2.2.2.1.1, h3.2.2.1.1]) rfl (EN_q0 hE' CScr.rfl (MScr_code 0))), fun h => absurd h (by decide), fun h => absurd h (by decide), fun h => absurd h (by decide), fun h => absurd h (by decide)⟩)), fun e => by subst e; exact (PE_0 h1 (fun J1 => t_222_0 h1 ⟨fun h => absurd h (by decide), fun h => absurd h (by decide), fun h => absurd h (by decide), fun h => absurd h (by decide), fun h => absurd h (by decide), fun h => absurd h (by decide), fun h => absurd h (by decide), fun h => absurd h (by decide), fun h => absurd h (by decide), fun h => absurd h (by decide), fun h => absurd h (by decide), fun h => absurd h (by decide), fun _ => ⟨by decide, Po_mk cod0 (by rw [s0, h2.2.2.2.1.2.2.2.2.2.2 0 (by decide), h3.2.2.2.1.2.2.2.2 0 (by decide)]) rfl (EN_q0 hE' CScr.rfl (MScr_code 0))⟩, fun h => absurd h (by decide), fun h => absurd h (by decide), fun h => absurd h (by decide)⟩)), fun e => by subst e; exact (PE_0 h1 (fun J1 => t_222_0 h1 ⟨fun h => absurd h (by decide), fun h => absurd h (by decide), fun h => absurd h (by decide), fun h => absurd h (by decide), fun h => absurd h (by decide), fun h => absurd h (by decide), fun h => absurd h (by decide), fun h => absurd h (by decide), fun h => absurd h (by decide), fun h => absurd h (by decide), fun h => absurd h (by decide), fun h => absurd h (by decide), fun h => absurd h (by decide), fun _ => ⟨by decide, Po_mk cod0 (by rw [s1, h2.2.2.2.1.2.2.2.2.2.2 1 (by decide), h3.2.2.2.1.2.2.2.2 1 (by decide)]) rfl (EN_q0 hE' CScr.rfl (MScr_code 0))⟩, fun h => absurd h (by decide), fun h => absurd h (by decide)⟩)), fun e => by subst e; exact (PE_0 h1 (fun J1 => t_222_0 h1 ⟨fun h => absurd h (by decide), fun h => absurd h (by decide), fun h => absurd h (by decide), fun h => absurd h (by decide), fun h => absurd h (by decide), fun h => absurd h (by decide), fun h => absurd h (by decide), fun h => absurd h (by decide), fun h => absurd h (by decide), fun h => absurd h (by decide), fun h => absurd h (by decide), fun h => absurd h (by decide), fun h => absurd h (by decide), fun h => absurd h (by decide), fun _ => ⟨by decide, Po_mk cod0 (by rw [s2, h2.2.2.2.1.2.2.2.2.2.2 2 (by decide), h3.2.2.2.1.2.2.2.2 2 (by decide)]) rfl (EN_q0 hE' CScr.rfl (MScr_code 0))⟩, fun h => absurd h (by decide)⟩)), fun eo => (PE_1 h1 (fun J1 => t_222_0 (Geo_thr h1) ⟨fun e => by subst e; exact absurd eo (by decide), fun e => by subst e; exact absurd eo (by decide), fun e => by subst e; exact absurd eo (by decide), fun e => by subst e; exact absurd eo (by decide), fun e => by subst e; exact absurd eo (by decide), fun e => by subst e; exact absurd eo (by decide), fun e => by subst e; exact absurd eo (by decide), fun e => by subst e; exact absurd eo (by decide), fun e => by subst e; exact absurd eo (by decide), fun e => by subst e; exact absurd eo (by decide), fun e => by subst e; exact absurd eo (by decide), fun e => by subst e; exact absurd eo (by decide), fun e => by subst e; exact absurd eo (by decide), fun e => by subst e; exact absurd eo (by decide), fun e => by subst e; exact absurd eo (by decide), fun _ => (Po_mk cod1 (trivial) rfl (EN_qt hE' CScr.rfl (MScr_code2 0 1)))⟩))⟩
  case c4 =>
    subst e
    refine c_88 h1 tw_27 cT hW (fun A1 hf _ => k_129n_117 h1 ⟨fun er => (PE_0 h1 (fun J1 => t_222_0 h1 ⟨fun h => absurd h (by decide), fun h => absurd h (by decide), fun h => absurd h (by decide), fun h => absurd h (by decide), fun _ => ?_, fun h => absurd h (by decide), fun h => absurd h (by decide), fun h => absurd h (by decide), fun h => absurd h (by decide), fun h => absurd h (by decide), fun h => absurd h (by decide), fun h => absurd h (by decide), fun h => absurd h (by decide), fun h => absurd h (by decide), fun h => absurd h (by decide), fun h => absurd h (by decide)⟩)), fun er => (PE_0 h1 (fun J1 => t_222_0 h1 ⟨fun h => absurd h (by decide), fun h => absurd h (by decide), fun h => absurd h (by decide), fun h => absurd h (by decide), fun _ => ?_, fun h => absurd h (by decide), fun h => absurd h (by decide), fun h => absurd h (by decide), fun h => absurd h (by decide), fun h => absurd h (by decide), fun h => absurd h (by decide), fun h => absurd h (by decide), fun h => absurd h (by decide), fun h => absurd h (by decide), fun h => absurd h (by decide), fun h => absurd h (by decide)⟩))⟩)
    · have hM := MI_sc (F' := F) (FrT_scr27 hf) h3
      exact m_218 h1 (MTn_scr (MScr_code 0) hM.1) (MTw_3 (MI_w hM)) (k_222_105 h1 ⟨fun _ => (Po_mk cod0 (rfl) rfl (EN_q0 hE' (FrT_scr27 hf) (MScr_code 0))), fun er2 => absurd er er2⟩)
    · have hM := MI_sc (F' := F) (FrT_scr27 hf) h3
      exact m_218 h1 (MTn_scr (MScr_code 0) hM.1) (MTw_3 (MI_w hM)) (k_222_105 h1 ⟨fun er2 => absurd er2 er, fun _ => (Po_mk cod0 (rfl) rfl (EN_q0 hE' (FrT_scr27 hf) (MScr_code 0)))⟩)
  case c5 =>
    subst e
    refine c_87 h1 tw_27 cT hW (fun A1 hf _ => k_129n_130 h1 (PE_0 h1 (fun J1 => t_222_0 h1 ⟨fun h => absurd h (by decide), fun h => absurd h (by decide), fun h => absurd h (by decide), fun h => absurd h (by decide), fun h => absurd h (by decide), fun _ => ?_, fun h => absurd h (by decide), fun h => absurd h (by decide), fun h => absurd h (by decide), fun h => absurd h (by decide), fun h => absurd h (by decide), fun h => absurd h (by decide), fun h => absurd h (by decide), fun h => absurd h (by decide), fun h => absurd h (by decide), fun h => absurd h (by decide)⟩)))
    have hM := MI_sc (F' := F) (FrT_scr27 hf) h3
    exact m_217 (d := D' + 1) h1 (MTn_scr (MScr_code 0) hM.1) (MTw_3 (MI_w hM)) (k_222_118 h1 (Po_mk cod0 (rfl) rfl (EN_q0 hE' (FrT_scr27 hf) (MScr_code 0))))
  case c7 =>
    subst e
    refine c_93 h1 tw_27 cT hW (k_129n_140 h1 (PE_0 h1 (fun J1 => t_222_0 h1 ⟨fun h => absurd h (by decide), fun h => absurd h (by decide), fun h => absurd h (by decide), fun h => absurd h (by decide), fun h => absurd h (by decide), fun h => absurd h (by decide), fun h => absurd h (by decide), fun _ => ?_, fun h => absurd h (by decide), fun h => absurd h (by decide), fun h => absurd h (by decide), fun h => absurd h (by decide), fun h => absurd h (by decide), fun h => absurd h (by decide), fun h => absurd h (by decide), fun h => absurd h (by decide)⟩)))
    exact m_220 h1 (MTn_scr (MScr_code 0) mT) (MTw_3 hV) (k_222_128 h1 (Po_mk cod0 (rfl) rfl (EN_q0 hE' CScr.rfl (MScr_code 0))))
theorem wrm_z (hW : Wrm A) {k : Int} (h : 0 ≤ k ∧ k ≤ 3) : A 71 k.toNat = zI (wormZ k) := by
  have : k = 0 ∨ k = 1 ∨ k = 2 ∨ k = 3 := by omega
  rcases this with rfl | rfl | rfl | rfl
  · exact hW.1
  · exact hW.2.1
  · exact hW.2.2.1
  · exact hW.2.2.2
theorem o_4 {x y : Int32} (hE : EN c SL xs F A G K n cd cl m tp fp im B B' p q) (hD : 60 ≤ D) (hD' : 60 ≤ D') : X D 130 0 [.ref 0, .int x, .int y, .null] [] (F, A, J, G) (PE 101 0 c SL xs D' 223 [.ref 68, .int x, .int y]) := by
  obtain ⟨D, rfl⟩ : ∃ e, D = e + 2 := ⟨D - 2, by omega⟩
  obtain ⟨D', rfl⟩ : ∃ e, D' = e + 2 := ⟨D' - 2, by omega⟩
  have hE' := hE
  obtain ⟨h1, h2, h3, h4, h5, h6, h7⟩ := hE
  have hW := CI_w h2
  have hV := MI_w h3
  have cT := h2.1
  have mT := h3.1
  have h10 := cT.1.1
  have hh : sH (cuS B) ≤ 10 := Nat.le_trans hW.1.1 h10
  have ho : ∀ l, l < sH (cuS B) → sO (cuS B) l < 10 := fun l hl => by have := hW.1.2.1 l hl; omega
  obtain ⟨z, hz1, hz2, rfl⟩ := zI_of x
  have bad : ¬ (0 ≤ z ∧ z < n) → PE 101 0 c SL xs (D' + 2) 223 [.ref 68, .int (zI z), .int y] (.inr 101) (F, A, J, gThr G) := by
    intro hb
    refine (PE_1 h1 (fun J1 => t_223_0 (Geo_thr h1) ?_))
    rw [mT.2.2.1, inR_z ⟨hz1, hz2⟩ h10]
    refine ⟨hB_z h10, fun h => absurd (of_decide_eq_true h) hb, fun _ => (Po_mk cod1 (trivial) rfl (EN_qt hE' CScr.rfl (MScr_code2 0 1)))⟩
  refine t_130n_0 h1 ?_
  rw [cT.2.1, zI_lt0 ⟨hz1, hz2⟩, zI_lt hz1 hz2 (by omega) (by omega)]
  refine ⟨fun e => bad (by omega), fun e => ⟨fun e2 => ?_, fun e2 => bad (by omega)⟩⟩
  obtain ⟨i, rfl⟩ : ∃ i : Nat, z = i := ⟨z.toNat, by omega⟩
  have hi : i < n := by omega
  have hb10 : inB (zI (i : Int)) 10 = true := zN_in (by omega) (by decide)
  have hb20 : inB (zI (i : Int)) 20 = true := zN_in (by omega) (by decide)
  have hK := cT.1.2.1 i hi
  rw [hW.2.1, zI_clamp (by omega)]
  have ref : ∀ J1 Q, (y = 0 → Q (.inl (some (.int (zI (K 0 i))))) (wF F 68 3 0, A, J1, G)) → (y = 1 → Q (.inl (some (.int (zI (K 1 i))))) (wF F 68 3 0, A, J1, G)) → (y = 2 → Q (.inl (some (.int (zI (carZ K (sY (cuS B)) i true))))) (wF F 68 3 0, A, J1, G)) → (y = 3 → Q (.inl (some (.int (zI (sL (cuS B) i))))) (wF F 68 3 0, A, J1, G)) → (y = 4 → Q (.inl (some (.int (zI (K 3 i))))) (wF F 68 3 0, A, J1, G)) → (y = 5 → Q (.inl (some (.int (zI (sM (cuS B) i))))) (wF F 68 3 0, A, J1, G)) → (y = 6 → Q (.inl (some (.int (zI (sW (cuS B) i))))) (wF F 68 3 0, A, J1, G)) → (y = 7 → Q (.inl (some (.int (zI (lvZ (sO (cuS B)) (sH (cuS B)) (i : Int)))))) (wF F 68 3 0, A, J1, G)) → X (D' + 2) 223 0 [.ref 68, .int (zI (i : Int)), .int y] [] (F, A, J1, G) Q ∨ (y.toInt < 0 ∨ 7 < y.toInt) := by
    intro J1 Q q0 q1 q2 q3 q4 q5 q6 q7
    by_cases eo : y.toInt < 0 ∨ 7 < y.toInt
    · exact Or.inr eo
    · refine Or.inl (t_223_0 h1 ?_)
      rw [mT.2.2.1, inR_z ⟨hz1, hz2⟩ h10, wF_cell (by decide), hV.2.1, zI_clamp (by omega), lv_z hz1 hz2 hh hV.2.2.2.1 ho, mT.2.2.2.2.2.1 i hi, mT.2.2.2.2.2.2.1 i hi, mT.2.2.2.2.2.2.2.1 i hi, mT.2.2.2.2.2.2.2.2 i hi, hV.2.2.2.2.1 i hi, hV.2.2.2.2.2.1 i hi, hV.2.2.2.2.2.2 i hi, hV.2.2.1, zI_clampZ hK.1.1 (by omega), wrm_z mT.2.1 hK.1, zI_mul, zI_sub]
      have hy := hW.1.2.2.2.2
      have hwm := yw_b (K 0 i) hy.1 hy.2
      have hcm : wormZ (K 0 i) * sY (cuS B) = sY (cuS B) * wormZ (K 0 i) := Int.mul_comm _ _
      have e2 : jmax 0 (zI (K 2 i - wormZ (K 0 i) * sY (cuS B))) = zI (carZ K (sY (cuS B)) i true) := by
        rw [show (0 : Int32) = zI 0 from rfl, zI_jmax (by omega) (by omega) (by omega) (by omega), hcm]
        unfold carZ
        rw [if_neg (fun h => by cases h.2)]
      rw [e2]
      exact ⟨hB_z h10, fun _ => ⟨fun e => ⟨hb20, q0 e⟩, fun e => ⟨hb20, q1 e⟩, fun e => ⟨hb20, by rw [zI_inB (by omega) (by omega)]; omega, q2 e⟩, fun e => ⟨hb10, q3 e⟩, fun e => ⟨hb20, q4 e⟩, fun e => ⟨hb10, q5 e⟩, fun e => ⟨hb10, q6 e⟩, fun e => ⟨hB_z hh, q7 e⟩, fun e => absurd e eo⟩, fun h => absurd (decide_eq_true (show 0 ≤ (i : Int) ∧ (i : Int) < n by omega)) (by rw [h]; decide)⟩
  have nt : ∀ {J1 : Nat → Nat → Int64} {Q : pR → pM → Prop}, ¬ (y.toInt < 0 ∨ 7 < y.toInt) → X (D' + 2) 223 0 [.ref 68, .int (zI (i : Int)), .int y] [] (F, A, J1, G) Q ∨ (y.toInt < 0 ∨ 7 < y.toInt) → X (D' + 2) 223 0 [.ref 68, .int (zI (i : Int)), .int y] [] (F, A, J1, G) Q := fun hn h => h.elim id (fun q => absurd q hn)
  refine ⟨fun e => by subst e; exact ⟨hb10, PE_0 h1 (fun J1 => nt (by decide) (ref J1 _ (fun _ => (Po_mk cod0 (by rw [cT.2.2.2.2.1 i hi]) rfl (EN_q0 hE' CScr.rfl (MScr_code 0)))) (fun h => absurd h (by decide)) (fun h => absurd h (by decide)) (fun h => absurd h (by decide)) (fun h => absurd h (by decide)) (fun h => absurd h (by decide)) (fun h => absurd h (by decide)) (fun h => absurd h (by decide))))⟩, fun e => by subst e; exact ⟨hb10, PE_0 h1 (fun J1 => nt (by decide) (ref J1 _ (fun h => absurd h (by decide)) (fun _ => (Po_mk cod0 (by rw [cT.2.2.2.2.2.1 i hi]) rfl (EN_q0 hE' CScr.rfl (MScr_code 0)))) (fun h => absurd h (by decide)) (fun h => absurd h (by decide)) (fun h => absurd h (by decide)) (fun h => absurd h (by decide)) (fun h => absurd h (by decide)) (fun h => absurd h (by decide))))⟩, fun e => by subst e; exact ⟨hb10, PE_0 h1 (fun J1 => nt (by decide) (ref J1 _ (fun h => absurd h (by decide)) (fun h => absurd h (by decide)) (fun _ => (Po_mk cod0 (by rw [cT.2.2.2.2.1 i hi, cT.2.2.2.2.2.2.1 i hi, hW.2.2.1, car_z1 cT.1 hi hW.1.2.2.2.2]) rfl (EN_q0 hE' CScr.rfl (MScr_code 0)))) (fun h => absurd h (by decide)) (fun h => absurd h (by decide)) (fun h => absurd h (by decide)) (fun h => absurd h (by decide)) (fun h => absurd h (by decide))))⟩, fun e => by subst e; exact ⟨hb10, PE_0 h1 (fun J1 => nt (by decide) (ref J1 _ (fun h => absurd h (by decide)) (fun h => absurd h (by decide)) (fun h => absurd h (by decide)) (fun _ => (Po_mk cod0 (by rw [hW.2.2.2.2.2.2 i hi]) rfl (EN_q0 hE' CScr.rfl (MScr_code 0)))) (fun h => absurd h (by decide)) (fun h => absurd h (by decide)) (fun h => absurd h (by decide)) (fun h => absurd h (by decide))))⟩, fun e => by subst e; exact ⟨hb10, PE_0 h1 (fun J1 => nt (by decide) (ref J1 _ (fun h => absurd h (by decide)) (fun h => absurd h (by decide)) (fun h => absurd h (by decide)) (fun h => absurd h (by decide)) (fun _ => (Po_mk cod0 (by rw [cT.2.2.2.2.2.2.2 i hi]) rfl (EN_q0 hE' CScr.rfl (MScr_code 0)))) (fun h => absurd h (by decide)) (fun h => absurd h (by decide)) (fun h => absurd h (by decide))))⟩, fun e => by subst e; exact ⟨hb10, PE_0 h1 (fun J1 => nt (by decide) (ref J1 _ (fun h => absurd h (by decide)) (fun h => absurd h (by decide)) (fun h => absurd h (by decide)) (fun h => absurd h (by decide)) (fun h => absurd h (by decide)) (fun _ => (Po_mk cod0 (by rw [hW.2.2.2.2.1 i hi]) rfl (EN_q0 hE' CScr.rfl (MScr_code 0)))) (fun h => absurd h (by decide)) (fun h => absurd h (by decide))))⟩, fun e => by subst e; exact ⟨hb10, PE_0 h1 (fun J1 => nt (by decide) (ref J1 _ (fun h => absurd h (by decide)) (fun h => absurd h (by decide)) (fun h => absurd h (by decide)) (fun h => absurd h (by decide)) (fun h => absurd h (by decide)) (fun h => absurd h (by decide)) (fun _ => (Po_mk cod0 (by rw [hW.2.2.2.2.2.1 i hi]) rfl (EN_q0 hE' CScr.rfl (MScr_code 0)))) (fun h => absurd h (by decide))))⟩, fun e => by subst e; exact ⟨hB_z hh, PE_0 h1 (fun J1 => nt (by decide) (ref J1 _ (fun h => absurd h (by decide)) (fun h => absurd h (by decide)) (fun h => absurd h (by decide)) (fun h => absurd h (by decide)) (fun h => absurd h (by decide)) (fun h => absurd h (by decide)) (fun h => absurd h (by decide)) (fun _ => (Po_mk cod0 (by rw [lv_z hz1 hz2 hh hW.2.2.2.1 ho]) rfl (EN_q0 hE' CScr.rfl (MScr_code 0))))))⟩, fun eo => (PE_1 h1 (fun J1 => t_223_0 (Geo_thr h1) ?_))⟩
  rw [mT.2.2.1, inR_z ⟨hz1, hz2⟩ h10]
  exact ⟨hB_z h10, fun _ => ⟨fun e => by subst e; exact absurd eo (by decide), fun e => by subst e; exact absurd eo (by decide), fun e => by subst e; exact absurd eo (by decide), fun e => by subst e; exact absurd eo (by decide), fun e => by subst e; exact absurd eo (by decide), fun e => by subst e; exact absurd eo (by decide), fun e => by subst e; exact absurd eo (by decide), fun e => by subst e; exact absurd eo (by decide), fun _ => (Po_mk cod1 (trivial) rfl (EN_qt hE' CScr.rfl (MScr_code2 0 1)))⟩, fun h => absurd (decide_eq_true (show 0 ≤ (i : Int) ∧ (i : Int) < n by omega)) (by rw [h]; decide)⟩
theorem o_5 {x y : Int32} (hE : EN c SL xs F A G K n cd cl m tp fp im B B' p q) (hD : 60 ≤ D) (hD' : 60 ≤ D') : X D 131 0 [.ref 0, .int x, .int y, .null] [] (F, A, J, G) (PE 101 0 c SL xs D' 225 [.ref 68, .int x, .int y]) := by
  obtain ⟨D, rfl⟩ : ∃ e, D = e + 3 := ⟨D - 3, by omega⟩
  obtain ⟨D', rfl⟩ : ∃ e, D' = e + 4 := ⟨D' - 4, by omega⟩
  have hE' := hE
  obtain ⟨h1, h2, h3, h4, h5, h6, h7⟩ := hE
  have hW := CI_w h2
  have hV := MI_w h3
  have cT := h2.1
  have mT := h3.1
  have h10 := cT.1.1
  have hh : sH (cuS B) ≤ 10 := Nat.le_trans hW.1.1 h10
  obtain ⟨z, hz1, hz2, rfl⟩ := zI_of x
  have bad : ¬ (0 ≤ z ∧ z < sH (cuS B)) → PE 101 0 c SL xs (D' + 4) 225 [.ref 68, .int (zI z), .int y] (.inr 101) (F, A, J, gThr G) := by
    intro hb
    refine (PE_1 h1 (fun J1 => t_225_0 (Geo_thr h1) ?_))
    rw [wF_cell (by decide), hV.2.1, inR_z ⟨hz1, hz2⟩ hh]
    refine ⟨hB_z hh, fun h => absurd (of_decide_eq_true h) hb, fun _ => (Po_mk cod1 (trivial) rfl (EN_qt hE' CScr.rfl (MScr_code2 0 1)))⟩
  refine t_131n_0 h1 ?_
  rw [hW.2.1, zI_lt0 ⟨hz1, hz2⟩, zI_lt hz1 hz2 (by omega) (by omega)]
  refine ⟨fun e => bad (by omega), fun e => ⟨fun e2 => ?_, fun e2 => bad (by omega)⟩⟩
  obtain ⟨i, rfl⟩ : ∃ i : Nat, z = i := ⟨z.toNat, by omega⟩
  have hi : i < sH (cuS B) := by omega
  have hon := hW.1.2.1 i hi
  have hb10 : inB (zI (i : Int)) 10 = true := zN_in (by omega) (by decide)
  have yl : ∀ {w : Int}, y = zI w → -2147483648 ≤ w ∧ w < 2147483648 → inL y.toInt64 0 4 = decide (0 ≤ w ∧ w ≤ 4) := fun hw hb => by
    rw [hw, inL_z (x := 0) (y := 4) (a := 0) (b := 4) rfl rfl hb (by decide) (by decide)]
  refine c_84 h1 tw_27 cT hW (fun A1 hf hg => k_131n_17 h1 ?_)
  have hM := MI_sc (F' := F) (FrT_scr27 hf) h3
  have hVM := MI_w hM
  have hT0 : MTn (wF F 68 3 0) A1 K n := MTn_scr (MScr_code 0) hM.1
  have hW0 := MTw_3 (v := 0) hVM
  obtain ⟨g5, g6, g7⟩ := hg
  have rin : inR (zI (i : Int)) (zI (sH (cuS B) : Int)) = true := by rw [inR_z ⟨hz1, hz2⟩ hh]; exact decide_eq_true ⟨by omega, e2⟩
  have nr : ∀ {P : Prop}, inR (zI (i : Int)) (zI (sH (cuS B) : Int)) = false → P := fun h => by rw [rin] at h; cases h
  rw [zI_clamp (by omega), g5 i hi, g6 i hi, g7 i hi, hf 28 (by decide), hW.2.2.2.1 i hi]
  have fr : ∀ {w : Int32}, PE 101 0 c SL xs (D' + 4) 225 [.ref 68, .int (zI (i : Int)), .int y] (.inl (some (.int w))) (F, A1, J, G) = PE 101 0 c SL xs (D' + 4) 225 [.ref 68, .int (zI (i : Int)), .int y] (.inl (some (.int w))) (F, A1, J, G) := rfl
  have fin : ∀ {J1 : Nat → Nat → Int64}, RS (c + 1) SL xs (wF F 68 3 0, A1, J1, G) := EN_q0 hE' (FrT_scr27 hf) (MScr_code 0)
  have pre : ∀ {J1 : Nat → Nat → Int64} {Q : pR → pM → Prop} {w : Int}, y = zI w → (0 ≤ w ∧ w ≤ 4) → ((y = 0 → inB (zI (i : Int)) 10 = true ∧ (Q (.inl (some (.int (A1 81 (zI (i : Int)).toNatClampNeg)))) ((wF F 68 3 0), A1, J1, G))) ∧ (¬ y = 0 → ((y = 1 → X (D' + 3) 213 0 [.ref 68, .int (zI (i : Int)), .null, .null] [] ((wF F 68 3 0), A1, J1, G) (KK (D' + 4) 225 54 [.ref 68, .int (zI (i : Int)), .int y] [] Q)) ∧ (¬ y = 1 → ((y = 2 → inB (zI (i : Int)) 10 = true ∧ inB (A1 81 (zI (i : Int)).toNatClampNeg) 10 = true ∧ inB (A1 73 (A1 81 (zI (i : Int)).toNatClampNeg).toNatClampNeg) 4 = true ∧ Wrm A1 ∧ (Q (.inl (some (.int (carS (A1 73 (A1 81 (zI (i : Int)).toNatClampNeg).toNatClampNeg) (A1 75 (A1 81 (zI (i : Int)).toNatClampNeg).toNatClampNeg) ((wF F 68 3 0) 68 29) (bI (decide (zI (i : Int) = (wF F 68 3 0) 68 28 - 1))))))) ((wF F 68 3 0), A1, J1, G))) ∧ (¬ y = 2 → ((y = 3 → X (D' + 3) 215 0 [.ref 68, .int (zI (i : Int)), .null, .null] [] ((wF F 68 3 0), A1, J1, G) (KK (D' + 4) 225 80 [.ref 68, .int (zI (i : Int)), .int y] [] Q)) ∧ (¬ y = 3 → X (D' + 3) 216 0 [.ref 68, .int (zI (i : Int))] [] ((wF F 68 3 0), A1, J1, G) (KK (D' + 4) 225 88 [.ref 68, .int (zI (i : Int)), .int y] [] Q))))))))) → X (D' + 4) 225 0 [.ref 68, .int (zI (i : Int)), .int y] [] (F, A1, J1, G) Q := by
    intro J1 Q w hw hw4 hq
    refine t_225_0 h1 ?_
    have e28 : wF F 68 3 0 68 28 = zI (sH (cuS B) : Int) := by rw [wF_cell (by decide)]; exact hVM.2.1
    rw [yl hw ⟨by omega, by omega⟩, e28]
    rw [e28] at hq
    exact ⟨hB_z hh, fun _ => ⟨fun _ => hq, fun h => absurd (decide_eq_true hw4) (by rw [h]; decide)⟩, fun h => nr h⟩
  refine ⟨fun e => ⟨hb10, PE_0 h1 (fun J1 => pre (w := 0) e (by decide) ⟨fun _ => ⟨hb10, Po_mk cod0 (?_) rfl (fin)⟩, fun h => absurd e h⟩)⟩, fun e => ⟨hb10, PE_0 h1 (fun J1 => pre (w := 1) e (by decide) ⟨fun h => absurd (e.symm.trans h) (by decide), fun _ => ⟨fun _ => m_213 h1 hT0 hW0 hi (k_225_54 h1 (Po_mk cod0 (rfl) rfl (fin))), fun h => absurd e h⟩⟩)⟩, fun e => ⟨hb10, PE_0 h1 (fun J1 => pre (w := 2) e (by decide) ⟨fun h => absurd (e.symm.trans h) (by decide), fun _ => ⟨fun h => absurd (e.symm.trans h) (by decide), fun _ => ⟨fun _ => ?_, fun h => absurd e h⟩⟩⟩)⟩, fun e => ⟨hb10, PE_0 h1 (fun J1 => pre (w := 3) e (by decide) ⟨fun h => absurd (e.symm.trans h) (by decide), fun _ => ⟨fun h => absurd (e.symm.trans h) (by decide), fun _ => ⟨fun h => absurd (e.symm.trans h) (by decide), fun _ => ⟨fun _ => m_215 (d := D' + 2) h1 hT0 hW0 hi (k_225_80 h1 (Po_mk cod0 (rfl) rfl (fin))), fun h => absurd e h⟩⟩⟩⟩)⟩, fun e => ?_, fun eo => (PE_1 h1 (fun J1 => t_225_0 (Geo_thr h1) ?_))⟩
  · rw [zI_clamp (by omega), hVM.2.2.2.1 i hi]
  · have hK := cT.1.2.1 _ hon
    rw [zI_clamp (n := i) (by omega), hVM.2.2.2.1 i hi, zI_clamp (n := sO (cuS B) i) (by omega), hM.1.2.2.2.2.2.1 _ hon, hM.1.2.2.2.2.2.2.2.1 _ hon, wF_cell (by decide), wF_cell (by decide), hVM.2.1, hVM.2.2.1]
    refine ⟨hb10, zN_in (by omega) (by decide), by rw [zI_inB (by omega) (by omega)]; omega, hM.1.2.1, Po_mk cod0 (?_) rfl (fin)⟩
    have et : decide (zI (i : Int) = zI (sH (cuS B) : Int) - 1) = topB (sH (cuS B)) i := by
      unfold topB
      apply decide_eq_decide.mpr
      rw [zZ_s1, zI_eq (by omega) (by omega) (by omega) (by omega)]
      omega
    rw [et, car_z cT.1 hon hW.1.2.2.2.2]
  · refine (t_86_0 h1 tw_27 ?_ : X (D + 2) 86 0 [.ref 27, .int (zI (i : Int))] [] (F, A1, J, G) _)
    have hs := slk_b (K := K) (yr := sY (cuS B)) cT.1 hW.1 hi
    have htl := tlt_b (l := i) cT.1 hW.1 hi
    have h40 := cT.1.2.2.1
    have hiff := hld_iff (K := K) (h := sH (cuS B)) (ord := sO (cuS B)) (ml := sM (cuS B)) (wd := sW (cuS B)) (ln := sL (cuS B)) (yr := sY (cuS B)) i
    have es : carZ K (sY (cuS B)) (sO (cuS B) i) (topB (sH (cuS B)) i) - loadZ K (sH (cuS B)) (sO (cuS B)) (sM (cuS B)) i = slkZ K (sH (cuS B)) (sO (cuS B)) (sM (cuS B)) (sY (cuS B)) i := rfl
    rw [zI_clamp (n := i) (by omega), g5 i hi, g6 i hi, g7 i hi, cT.2.2.1, zI_sub, es, lim_z (by omega) (by omega) (by omega) (by omega), zI_lt0 (by omega)]
    have r1 : hldZ K (sH (cuS B)) (sO (cuS B)) (sM (cuS B)) (sW (cuS B)) (sL (cuS B)) (sY (cuS B)) i = true → PE 101 0 c SL xs (D' + 4) 225 [.ref 68, .int (zI (i : Int)), .int y] (.inl (some (.int 1))) (F, A1, J, G) := fun hl => (PE_0 h1 (fun J1 => pre (w := 4) e (by decide) ⟨fun h => absurd (e.symm.trans h) (by decide), fun _ => ⟨fun h => absurd (e.symm.trans h) (by decide), fun _ => ⟨fun h => absurd (e.symm.trans h) (by decide), fun _ => ⟨fun h => absurd (e.symm.trans h) (by decide), fun _ => m_216 h1 hT0 hW0 hi (k_225_88 h1 ⟨fun h => absurd h (by rw [hl]; decide), fun _ => (Po_mk cod0 (rfl) rfl (fin))⟩)⟩⟩⟩⟩))
    have r0 : hldZ K (sH (cuS B)) (sO (cuS B)) (sM (cuS B)) (sW (cuS B)) (sL (cuS B)) (sY (cuS B)) i = false → PE 101 0 c SL xs (D' + 4) 225 [.ref 68, .int (zI (i : Int)), .int y] (.inl (some (.int 0))) (F, A1, J, G) := fun hl => (PE_0 h1 (fun J1 => pre (w := 4) e (by decide) ⟨fun h => absurd (e.symm.trans h) (by decide), fun _ => ⟨fun h => absurd (e.symm.trans h) (by decide), fun _ => ⟨fun h => absurd (e.symm.trans h) (by decide), fun _ => ⟨fun h => absurd (e.symm.trans h) (by decide), fun _ => m_216 h1 hT0 hW0 hi (k_225_88 h1 ⟨fun _ => (Po_mk cod0 (rfl) rfl (fin)), fun h => absurd (by rw [hl]; rfl) h⟩)⟩⟩⟩⟩))
    refine ⟨hb10, fun e3 => k_131n_85 h1 ⟨fun _ => r0 ?_, fun h => absurd rfl h⟩, fun e3 => ⟨fun e4 => k_131n_85 h1 ⟨fun h => absurd h ne10, fun _ => r1 ?_⟩, fun e4 => k_131n_85 h1 ⟨fun _ => r0 ?_, fun h => absurd rfl h⟩⟩⟩
    · rw [← Bool.not_eq_true, hiff]; omega
    · rw [hiff]; rw [decide_eq_true_eq] at e4; exact ⟨by omega, e4⟩
    · rw [← Bool.not_eq_true, hiff]; rw [decide_eq_false_iff_not] at e4; exact fun q => e4 q.2
  · rw [wF_cell (by decide), hVM.2.1]
    obtain ⟨w, hw1, hw2, rfl⟩ := zI_of y
    rw [zI_toInt hw1 hw2] at eo
    rw [yl rfl ⟨hw1, hw2⟩]
    exact ⟨hB_z hh, fun _ => ⟨fun h => absurd (of_decide_eq_true h) (by omega), fun _ => (Po_mk cod1 (trivial) rfl (EN_qt hE' (FrT_scr27 hf) (MScr_code2 0 1)))⟩, fun h => nr h⟩
end Ops1
