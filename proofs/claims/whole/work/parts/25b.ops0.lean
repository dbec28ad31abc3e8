/-! calls that never throw and change nothing: both answers -/
section Ops0
def EN (c SL : Nat) (xs : Nat → Int32) (F A : Nat → Nat → Int32) (G : pG) (K : Nat → Nat → Int) (n : Nat) (cd : Nat → Int) (cl m : Nat) (tp : Nat → Int32) (fp : Int32) (im : Bool) (B B' : BsT) (p q : Nat) : Prop := Geo G SL p q ∧ CI c F A K n cd cl m tp fp im B B' ∧ MI F A K n cd cl m tp fp im B B' ∧ (m ≤ 600 ∧ BtOk tp m) ∧ A 2000 = xs ∧ gC G ≤ 105 + c ∧ gS G ≤ 20000 + 6 * c
variable {D D' c c' SL p q p' q' : Nat} {xs : Nat → Int32} {F A F1 A1 F2 A2 : Nat → Nat → Int32} {J J2 : Nat → Nat → Int64} {G G' : pG} {K : Nat → Nat → Int} {n : Nat} {cd : Nat → Int} {cl m : Nat} {tp : Nat → Int32} {fp : Int32} {im : Bool} {B B' : BsT}
theorem EN_rs {K : Nat → Nat → Int} {n : Nat} {cd : Nat → Int} {cl m : Nat} {tp : Nat → Int32} {fp : Int32} {im : Bool} {B B' : BsT} (h : EN c SL xs F A G K n cd cl m tp fp im B B' p q) : RS c SL xs (F, A, J, G) := ⟨p, q, h.1, ⟨K, n, cd, cl, m, tp, fp, im, B, B', h.2.1, h.2.2.1, h.2.2.2.1.1, h.2.2.2.1.2⟩, h.2.2.2.2.1, h.2.2.2.2.2.1, h.2.2.2.2.2.2⟩
theorem RS_en {M : pM} (h : RS c SL xs M) : ∃ (K : Nat → Nat → Int) (n : Nat) (cd : Nat → Int) (cl m : Nat) (tp : Nat → Int32) (fp : Int32) (im : Bool) (B B' : BsT) (p q : Nat), EN c SL xs M.1 M.2.1 M.2.2.2 K n cd cl m tp fp im B B' p q := by
  obtain ⟨p, q, h1, ⟨K, n, cd, cl, m, tp, fp, im, B, B', h2, h3, h4, h5⟩, h6, h7, h8⟩ := h
  exact ⟨K, n, cd, cl, m, tp, fp, im, B, B', p, q, h1, h2, h3, ⟨h4, h5⟩, h6, h7, h8⟩
theorem CI_w (h : CI c F A K n cd cl m tp fp im B B') : CTw 27 F A n (sH (cuS B)) (sO (cuS B)) (sM (cuS B)) (sW (cuS B)) (sL (cuS B)) (sY (cuS B)) := h.2.2.2.1.2.1.1
theorem CI_sn (h : CI c F A K n cd cl m tp fp im B B') : CSn F A B.2.2.1 B.2.2.2.1 B.2.2.2.2.1 := ⟨h.2.2.2.1.2.2.1, h.2.2.2.1.2.2.2.1, h.2.2.2.1.2.2.2.2.1, h.2.2.2.1.2.2.2.2.2.1⟩
theorem CI_ok (h : CI c F A K n cd cl m tp fp im B B') : SOk n (cuS B) := h.2.2.2.1.1.2.2.1 B.1 (Nat.le_refl _)
theorem MI_w (h : MI F A K n cd cl m tp fp im B B') : MTw F A n (sH (cuS B)) (sO (cuS B)) (sM (cuS B)) (sW (cuS B)) (sL (cuS B)) (sY (cuS B)) := h.2.2.2.1.2.2.1.1
theorem MI_sn (h : MI F A K n cd cl m tp fp im B B') : MSn F A B.2.2.1 B.2.2.2.1 B.2.2.2.2.1 := h.2.2.2.1.2.2.2.1
/-- behind a query: scratch alone has changed -/
theorem EN_q {K : Nat → Nat → Int} {n : Nat} {cd : Nat → Int} {cl m : Nat} {tp : Nat → Int32} {fp : Int32} {im : Bool} {B B' : BsT} (h : EN c SL xs F A G K n cd cl m tp fp im B B' p q) (hG : Geo G' SL p' q') (hC : gC G' ≤ gC G + 1) (hS : gS G' ≤ gS G + 6) (s1 : CScr F A F1 A1) (s2 : MScr F1 A1 F2 A2) : RS (c + 1) SL xs (F2, A2, J2, G') := by
  obtain ⟨h1, h2, h3, h4, h5, h6, h7⟩ := h
  refine EN_rs (K := K) (n := n) (cd := cd) (cl := cl) (m := m) (tp := tp) (fp := fp) (im := im) (B := B) (B' := B') ⟨hG, CI_ms (Nat.le_refl _) s2 (CI_sc (by omega) s1 h2), MI_ms s2 (MI_sc s1 h3), h4, ?_, by omega, by omega⟩
  rw [s2.2.2.1 2000 (by decide) (by decide) (by decide), s1.2.2 2000 (by decide) (by decide) (by decide)]; exact h5
theorem o_2 (hE : EN c SL xs F A G K n cd cl m tp fp im B B' p q) : X D 128 0 [.ref 0] [] (F, A, J, G) (P0 c SL xs D' 206 [.ref 68]) := by
  refine t_128n_0 hE.1 ⟨_, rfl, ⟨p, q, hE.1⟩, t_206_0 hE.1 ⟨?_, EN_q hE hE.1 (by omega) (by omega) CScr.rfl (MScr_code 0)⟩⟩
  rw [hE.2.1.2.2.2.2.2.2.2.1, hE.2.2.1.2.2.2.2.1]
theorem o_6 (hE : EN c SL xs F A G K n cd cl m tp fp im B B' p q) (hD : 60 ≤ D) (hD' : 60 ≤ D') : X D 132 0 [.ref 0] [] (F, A, J, G) (P0 c SL xs D' 224 [.ref 68]) := by
  obtain ⟨D, rfl⟩ : ∃ e, D = e + 1 := ⟨D - 1, by omega⟩
  obtain ⟨D', rfl⟩ : ∃ e, D' = e + 1 := ⟨D' - 1, by omega⟩
  have hW := CI_w hE.2.1
  have hW2 := MI_w hE.2.2.1
  have h10 : sH (cuS B) ≤ 10 := Nat.le_trans hW.1.1 hE.2.1.1.1.1
  have hn10 := hE.2.1.1.1.1
  have ho : ∀ l, l < sH (cuS B) → sO (cuS B) l < 10 := fun l hl => by have := hW.1.2.1 l hl; omega
  refine t_132n_0 hE.1 ?_
  rw [hW.2.1, hE.2.1.1.2.1, bits_z h10 hW.2.2.2.1 ho]
  refine ⟨hB_z h10, _, rfl, ⟨p, q, hE.1⟩, t_224_0 hE.1 ?_⟩
  rw [wF_cell (by decide), hW2.2.1, hE.2.2.1.1.2.2.1, bits_z h10 hW2.2.2.2.1 ho]
  exact ⟨hB_z h10, rfl, EN_q hE hE.1 (by omega) (by omega) CScr.rfl (MScr_code 0)⟩
theorem o_15 (hE : EN c SL xs F A G K n cd cl m tp fp im B B' p q) (hD : 60 ≤ D) (hD' : 60 ≤ D') : X D 141 0 [.ref 0] [] (F, A, J, G) (P0 c SL xs D' 242 [.ref 68]) := by
  obtain ⟨D, rfl⟩ : ∃ e, D = e + 5 := ⟨D - 5, by omega⟩
  obtain ⟨D', rfl⟩ : ∃ e, D' = e + 7 := ⟨D' - 7, by omega⟩
  refine t_141n_0 hE.1 (c_89 hE.1 tw_27 hE.2.1.1 (CI_w hE.2.1) (fun A1 hf _ => k_141n_10 hE.1 ⟨_, rfl, ⟨p, q, hE.1⟩, ?_⟩))
  have hM := MI_sc (F' := F) (FrT_scr27 hf) hE.2.2.1
  exact m_242 hE.1 hM.1 (MI_w hM) ⟨rfl, EN_q hE hE.1 (by omega) (by omega) (FrT_scr27 hf) (MScr_code 0)⟩
theorem o_20 (hE : EN c SL xs F A G K n cd cl m tp fp im B B' p q) (hD : 60 ≤ D) (hD' : 60 ≤ D') : X D 146 0 [.ref 0] [] (F, A, J, G) (P0 c SL xs D' 255 [.ref 68, .null, .null]) := by
  obtain ⟨D, rfl⟩ : ∃ e, D = e + 3 := ⟨D - 3, by omega⟩
  obtain ⟨D', rfl⟩ : ∃ e, D' = e + 1 := ⟨D' - 1, by omega⟩
  refine t_146n_0 hE.1 (c_116 hE.1 hE.2.1.1 (CI_w hE.2.1) (fun F1 A1 G1 p1 q1 hs hG1 hC1 hS1 => k_146n_7 hG1 ⟨_, rfl, ⟨p1, q1, hG1⟩, ?_⟩))
  have hM := MI_sc hs hE.2.2.1
  exact m_255 hG1 hM.1 (MI_w hM) (fun A2 h2 => ⟨rfl, EN_q hE hG1 (by omega) (by omega) hs h2⟩)
theorem o_21 (hE : EN c SL xs F A G K n cd cl m tp fp im B B' p q) (hD : 60 ≤ D) (hD' : 60 ≤ D') : X D 147 0 [.ref 0] [] (F, A, J, G) (P0 c SL xs D' 256 [.ref 68, .null, .null, .null]) := by
  obtain ⟨D, rfl⟩ : ∃ e, D = e + 6 := ⟨D - 6, by omega⟩
  obtain ⟨D', rfl⟩ : ∃ e, D' = e + 6 := ⟨D' - 6, by omega⟩
  have hyr := (CI_ok hE.2.1).2.2
  refine t_147n_0 hE.1 (c_112 hE.1 hE.2.1.1 (CI_w hE.2.1) hyr (fun F1 A1 hs => k_147n_7 hE.1 ⟨_, rfl, ⟨p, q, hE.1⟩, ?_⟩))
  have hM := MI_sc hs hE.2.2.1
  exact m_256 hE.1 hM.1 (MI_w hM) hyr ⟨rfl, EN_q hE hE.1 (by omega) (by omega) hs (MScr_code 0)⟩
theorem o_25 (hE : EN c SL xs F A G K n cd cl m tp fp im B B' p q) (hD : 60 ≤ D) (hD' : 60 ≤ D') : X D 151 0 [.ref 0] [] (F, A, J, G) (P0 c SL xs D' 263 [.ref 68, .null, .null]) := by
  obtain ⟨D, rfl⟩ : ∃ e, D = e + 5 := ⟨D - 5, by omega⟩
  obtain ⟨D', rfl⟩ : ∃ e, D' = e + 3 := ⟨D' - 3, by omega⟩
  refine t_151n_0 hE.1 (c_114 hE.1 hE.2.1.1 (CI_w hE.2.1) hE.2.1.2.1 (fun F1 A1 hs => k_151n_7 hE.1 ⟨_, rfl, ⟨p, q, hE.1⟩, ?_⟩))
  have hM := MI_sc hs hE.2.2.1
  exact m_263 hE.1 hM.1 (MI_w hM) hM.2.1 (fun F2 A2 h2 _ => ⟨rfl, EN_q hE hE.1 (by omega) (by omega) hs h2⟩)
theorem o_27 (hE : EN c SL xs F A G K n cd cl m tp fp im B B' p q) (hD : 60 ≤ D) (hD' : 60 ≤ D') : X D 153 0 [.ref 0] [] (F, A, J, G) (P0 c SL xs D' 269 [.ref 68, .null, .null, .null, .null, .null]) := by
  obtain ⟨D, rfl⟩ : ∃ e, D = e + 6 := ⟨D - 6, by omega⟩
  obtain ⟨D', rfl⟩ : ∃ e, D' = e + 6 := ⟨D' - 6, by omega⟩
  refine t_153n_0 hE.1 (c_115 hE.1 hE.2.1.1 (CI_w hE.2.1) (fun F1 A1 hs => k_153n_7 hE.1 ⟨_, rfl, ⟨p, q, hE.1⟩, ?_⟩))
  have hM := MI_sc hs hE.2.2.1
  exact m_269 hE.1 hM.1 (MI_w hM) ⟨rfl, EN_q hE hE.1 (by omega) (by omega) hs (MScr_code 0)⟩
theorem o_29 (hE : EN c SL xs F A G K n cd cl m tp fp im B B' p q) (hD : 60 ≤ D) (hD' : 60 ≤ D') : X D 155 0 [.ref 0] [] (F, A, J, G) (P0 c SL xs D' 270 [.ref 68, .null, .null, .null, .null, .null]) := by
  obtain ⟨D, rfl⟩ : ∃ e, D = e + 6 := ⟨D - 6, by omega⟩
  obtain ⟨D', rfl⟩ : ∃ e, D' = e + 7 := ⟨D' - 7, by omega⟩
  refine t_155n_0 hE.1 (c_109 hE.1 hE.2.1.1 (CI_w hE.2.1) (fun F1 A1 hs => k_155n_7 hE.1 ⟨_, rfl, ⟨p, q, hE.1⟩, ?_⟩))
  have hM := MI_sc hs hE.2.2.1
  exact m_270 hE.1 hM.1 (MI_w hM) (fun A2 h2 => ⟨rfl, EN_q hE hE.1 (by omega) (by omega) hs h2⟩)
theorem o_32 (hE : EN c SL xs F A G K n cd cl m tp fp im B B' p q) (hD : 60 ≤ D) (hD' : 60 ≤ D') : X D 158 0 [.ref 0] [] (F, A, J, G) (P0 c SL xs D' 272 [.ref 68, .null, .null]) := by
  obtain ⟨D, rfl⟩ : ∃ e, D = e + 4 := ⟨D - 4, by omega⟩
  obtain ⟨D', rfl⟩ : ∃ e, D' = e + 2 := ⟨D' - 2, by omega⟩
  refine t_158n_0 hE.1 (c_95 hE.1 tw_27 hE.2.1.1 (CI_w hE.2.1) (fun A1 hf _ => k_158n_10 hE.1 ⟨_, rfl, ⟨p, q, hE.1⟩, ?_⟩))
  have hM := MI_sc (F' := F) (FrT_scr27 hf) hE.2.2.1
  exact m_272 hE.1 hM.1 (MI_w hM) ⟨rfl, EN_q hE hE.1 (by omega) (by omega) (FrT_scr27 hf) (MScr_code 0)⟩
theorem o_34 (hE : EN c SL xs F A G K n cd cl m tp fp im B B' p q) (hD : 60 ≤ D) (hD' : 60 ≤ D') : X D 160 0 [.ref 0] [] (F, A, J, G) (P0 c SL xs D' 268 [.ref 68, .null, .null, .null, .null]) := by
  obtain ⟨D, rfl⟩ : ∃ e, D = e + 7 := ⟨D - 7, by omega⟩
  obtain ⟨D', rfl⟩ : ∃ e, D' = e + 7 := ⟨D' - 7, by omega⟩
  refine t_160n_0 hE.1 (c_106 hE.1 hE.2.1.1 (CI_w hE.2.1) (fun F1 A1 hs => k_160n_7 hE.1 ⟨_, rfl, ⟨p, q, hE.1⟩, ?_⟩))
  have hM := MI_sc hs hE.2.2.1
  exact m_268 hE.1 hM.1 (MI_w hM) (fun F2 A2 h2 _ => ⟨rfl, EN_q hE hE.1 (by omega) (by omega) hs h2⟩)
theorem o_35 (hE : EN c SL xs F A G K n cd cl m tp fp im B B' p q) (hD : 60 ≤ D) (hD' : 60 ≤ D') : X D 161 0 [.ref 0] [] (F, A, J, G) (P0 c SL xs D' 265 [.ref 68, .null, .null, .null]) := by
  obtain ⟨D, rfl⟩ : ∃ e, D = e + 2 := ⟨D - 2, by omega⟩
  obtain ⟨D', rfl⟩ : ∃ e, D' = e + 1 := ⟨D' - 1, by omega⟩
  refine t_161n_0 hE.1 (c_94 hE.1 tw_27 hE.2.1.1 (CI_w hE.2.1) (k_161n_10 hE.1 ⟨_, rfl, ⟨p, q, hE.1⟩, ?_⟩))
  exact m_265 hE.1 hE.2.2.1.1 (MI_w hE.2.2.1) ⟨rfl, EN_q hE hE.1 (by omega) (by omega) CScr.rfl (MScr_code 0)⟩
/-- behind what changes the piles' own rows -/
theorem CI_pl (hc : c ≤ c') (hF : ∀ i, i < 68 → i ≠ 21 → i ≠ 61 → F1 i = F i) (h21 : ∀ k, k ≠ 6 → F1 21 k = F 21 k) (hA : ∀ i, i < 68 → (i < 62 ∨ 65 < i) → A1 i = A i) (h63 : A1 63 0 = 0 ∧ A1 64 0 = 0) (hMs : CMs F1 A1 K n (sM (cuS B)) (sW (cuS B)) (sL (cuS B)) (sY (cuS B))) (hI : CI c F A K n cd cl m tp fp im B B') : CI c' F1 A1 K n cd cl m tp fp im B B' := by
  obtain ⟨a1, a2, a3, ⟨b1, b2, b3, b4, b5⟩, ⟨τ, a5, a5'⟩, a6, a7, a8, a9, a10⟩ := hI
  refine ⟨?_, ?_, ?_, ⟨?_, ?_, b3, ?_, ?_⟩, ⟨τ, ?_, by omega⟩, hMs, h63, ?_, ?_, fun h => ?_⟩
  · unfold CTn
    rw [hF 12 (by decide) (by decide) (by decide), hA 13 (by decide) (by decide), hA 14 (by decide) (by decide), hA 15 (by decide) (by decide), hA 17 (by decide) (by decide)]; exact a1
  · unfold CRl
    rw [hF 18 (by decide) (by decide) (by decide), hA 19 (by decide) (by decide)]; exact a2
  · unfold CTp
    rw [hF 0 (by decide) (by decide) (by decide), hA 1 (by decide) (by decide)]; exact a3
  · exact CHs_cg (by rw [hF 22 (by decide) (by decide) (by decide)]) (hA 23 (by decide) (by decide)) b1
  · exact CSt_cg (hF 27 (by decide) (by decide) (by decide)) (hA 28 (by decide) (by decide)) (hA 29 (by decide) (by decide)) (hA 30 (by decide) (by decide)) (hA 31 (by decide) (by decide)) b2
  · rw [h21 2 (by decide)]; exact b4
  · rw [hA 24 (by decide) (by decide), hA 25 (by decide) (by decide), hA 26 (by decide) (by decide)]; exact b5
  · unfold CTu
    rw [hF 66 (by decide) (by decide) (by decide), hA 67 (by decide) (by decide)]; exact a5
  · rw [hF 0 (by decide) (by decide) (by decide)]; exact a8
  · rw [hF 0 (by decide) (by decide) (by decide)]; exact a9
  · exact CB_cg (fun i hi => hF i (by omega) (by omega) (by omega)) (fun i i1 i2 => hA i (by omega) (by omega)) (a10 h)
/-- any end -/
theorem EN_e {K : Nat → Nat → Int} {n : Nat} {cd : Nat → Int} {cl m : Nat} {tp : Nat → Int32} {fp : Int32} {im : Bool} {B B' : BsT} (hG : Geo G' SL p' q') (h2 : CI (c + 1) F1 A1 K n cd cl m tp fp im B B') (h3 : MI F1 A1 K n cd cl m tp fp im B B') (s2 : MScr F1 A1 F2 A2) (h4 : m ≤ 600 ∧ BtOk tp m) (h5 : A1 2000 = xs) (h6 : gC G' ≤ 105 + (c + 1)) (h7 : gS G' ≤ 20000 + 6 * (c + 1)) : RS (c + 1) SL xs (F2, A2, J2, G') := by
  refine EN_rs (K := K) (n := n) (cd := cd) (cl := cl) (m := m) (tp := tp) (fp := fp) (im := im) (B := B) (B' := B') ⟨hG, CI_ms (Nat.le_refl _) s2 h2, MI_ms s2 h3, h4, ?_, h6, h7⟩
  rw [s2.2.2.1 2000 (by decide) (by decide) (by decide)]; exact h5
theorem o_22 (hE : EN c SL xs F A G K n cd cl m tp fp im B B' p q) (hD : 60 ≤ D) (hD' : 60 ≤ D') : X D 148 0 [.ref 0] [] (F, A, J, G) (P0 c SL xs D' 261 [.ref 68]) := by
  obtain ⟨D, rfl⟩ : ∃ e, D = e + 5 := ⟨D - 5, by omega⟩
  obtain ⟨D', rfl⟩ : ∃ e, D' = e + 4 := ⟨D' - 4, by omega⟩
  obtain ⟨h1, h2, h3, h4, h5, h6, h7⟩ := hE
  have hn10 := h2.1.1.1
  refine t_148n_0 h1 (c_26 h1 h2.1 (CI_w h2) (fun A1 x hA hx hm => k_148n_7 h1 ⟨_, rfl, ⟨p, q, h1⟩, ?_⟩))
  have hI : CI (c + 1) F A1 K n cd cl m tp fp im B B' := CI_pl (by omega) (fun _ _ _ _ => rfl) (fun _ _ => rfl) (fun i _ hi => hA i (by omega)) (by rw [hA 63 (by decide), hA 64 (by decide)]; exact h2.2.2.2.2.2.2.1) (by unfold CMs; rw [hA 62 (by decide)]; exact h2.2.2.2.2.2.1) h2
  have hM := MI_lo (F' := F) rfl (fun i hi _ => hA i (by omega)) h3
  refine m_261 h1 hM.1 (MI_w hM) (by omega) (fun y hy hm2 => ⟨by rw [mx_unique hm hm2], EN_e h1 hI hM (MScr_code 0) h4 (by rw [hA 2000 (by decide)]; exact h5) (by omega) (by omega)⟩)
theorem o_19 (hE : EN c SL xs F A G K n cd cl m tp fp im B B' p q) (hD : 60 ≤ D) (hD' : 60 ≤ D') : X D 145 0 [.ref 0] [] (F, A, J, G) (PL c SL xs D' 252 [.ref 68]) := by
  obtain ⟨D, rfl⟩ : ∃ e, D = e + 6 := ⟨D - 6, by omega⟩
  obtain ⟨D', rfl⟩ : ∃ e, D' = e + 5 := ⟨D' - 5, by omega⟩
  obtain ⟨h1, h2, h3, h4, h5, h6, h7⟩ := hE
  refine t_145n_0 h1 (c_19 (li := 0) (se := 0) h1 h2.1 (CI_w h2) h2.2.2.2.2.2.2.1.1 h2.2.2.2.2.2.2.1.2 (by decide) (by decide) (fun F1 A1 g1 g2 g3 g4 g5 => k_145n_9 h1 ⟨_, rfl, ⟨p, q, h1⟩, ?_⟩))
  have hI : CI (c + 1) F1 A1 K n cd cl m tp fp im B B' := CI_pl (by omega) (fun i _ _ hi => g1 i hi) (fun k _ => by rw [g1 21 (by decide)]) (fun i _ hi => g3 i (by omega)) ⟨g4, g5⟩ (by unfold CMs; rw [g1 21 (by decide), g2 2 (by decide), g3 62 (by decide)]; exact h2.2.2.2.2.2.1) h2
  have hM := MI_lo (g1 68 (by decide)) (fun i hi _ => g3 i (by omega)) h3
  exact m_252 h1 hM.1 (MI_w hM) (fun F2 A2 J2 _ hs _ => ⟨rfl, EN_e h1 hI hM hs h4 (by rw [g3 2000 (by decide)]; exact h5) (by omega) (by omega)⟩)
theorem o_38 (hE : EN c SL xs F A G K n cd cl m tp fp im B B' p q) (hc : c < 600) (hD : 60 ≤ D) (hD' : 60 ≤ D') : X D 164 0 [.ref 0] [] (F, A, J, G) (P0 c SL xs D' 278 [.ref 68, .null, .null, .null, .null]) := by
  obtain ⟨D, rfl⟩ : ∃ e, D = e + 5 := ⟨D - 5, by omega⟩
  obtain ⟨D', rfl⟩ : ∃ e, D' = e + 4 := ⟨D' - 4, by omega⟩
  obtain ⟨h1, h2, h3, h4, h5, h6, h7⟩ := hE
  obtain ⟨τ, hτ, hτ2⟩ := h2.2.2.2.2.1
  have hh : sH (cuS B) ≤ 10 := Nat.le_trans (CI_w h2).1.1 h2.1.1.1
  refine t_164n_0 h1 (c_11 h1 h2.1 (CI_w h2) (CI_sn h2) hτ (by omega) (fun F1 A1 g1 g2 g3 => k_164n_7 h1 ⟨_, rfl, ⟨p, q, h1⟩, ?_⟩))
  have hM := MI_lo (g1 68 (by decide)) (fun i hi _ => g2 i (by omega) (by omega)) h3
  have hI : CI (c + 1) F1 A1 K n cd cl m tp fp im B B' := by
    obtain ⟨a1, a2, a3, a4, _, a6, a7, a8, a9, a10⟩ := h2
    refine ⟨?_, ?_, ?_, ?_, ⟨_, g3, by omega⟩, ?_, ?_, ?_, ?_, fun h => ?_⟩
    · unfold CTn
      rw [g1 12 (by decide), g2 13 (by decide) (by decide), g2 14 (by decide) (by decide), g2 15 (by decide) (by decide), g2 17 (by decide) (by decide)]; exact a1
    · unfold CRl
      rw [g1 18 (by decide), g2 19 (by decide) (by decide)]; exact a2
    · unfold CTp
      rw [g1 0 (by decide), g2 1 (by decide) (by decide)]; exact a3
    · exact CB_cg (fun i hi => g1 i (by omega)) (fun i i1 i2 => g2 i (by omega) (by omega)) a4
    · unfold CMs
      rw [g1 21 (by decide), g1 61 (by decide), g2 62 (by decide) (by decide)]; exact a6
    · rw [g2 63 (by decide) (by decide), g2 64 (by decide) (by decide)]; exact a7
    · rw [g1 0 (by decide)]; exact a8
    · rw [g1 0 (by decide)]; exact a9
    · exact CB_cg (fun i hi => g1 i (by omega)) (fun i i1 i2 => g2 i (by omega) (by omega)) (a10 h)
  exact m_278 h1 hM.1 (MI_w hM) (MI_sn hM) (fun F2 A2 hs _ => ⟨rfl, EN_e h1 hI hM hs h4 (by rw [g2 2000 (by decide) (by decide)]; exact h5) (by omega) (by omega)⟩)
end Ops0
