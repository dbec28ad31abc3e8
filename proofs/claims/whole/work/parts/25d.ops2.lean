/-! more calls that may throw and change nothing -/
section Ops2
variable {D D' c c' SL p q p' q' : Nat} {xs : Nat → Int32} {F A F1 A1 F2 A2 : Nat → Nat → Int32} {J J2 : Nat → Nat → Int64} {G G' : pG} {K : Nat → Nat → Int} {n : Nat} {cd : Nat → Int} {cl m : Nat} {tp : Nat → Int32} {fp : Int32} {im : Bool} {B B' : BsT}
theorem fsB_at (p : Nat → Bool) : ∀ k j, fsB p k j = -1 ∨ ∃ i, j ≤ i ∧ i < j + k ∧ p i = true ∧ fsB p k j = (i : Int)
  | 0, j => Or.inl rfl
  | k + 1, j => by
    rw [fsB]
    by_cases h : p j = true
    · rw [if_pos h]; exact Or.inr ⟨j, Nat.le_refl _, by omega, h, rfl⟩
    · rw [if_neg h]
      rcases fsB_at p k (j + 1) with h1 | ⟨i, h1, h2, h3, h4⟩
      · exact Or.inl h1
      · exact Or.inr ⟨i, by omega, by omega, h3, h4⟩
theorem lvZ_at {ord : Nat → Nat} {h : Nat} {z : Int} (hn : ¬ lvZ ord h z = -1) : ∃ l, l < h ∧ (ord l : Int) = z ∧ lvZ ord h z = (l : Int) := by
  rcases fsB_at (fun l => decide ((ord l : Int) = z)) h 0 with h1 | ⟨i, h1, h2, h3, h4⟩
  · exact absurd h1 hn
  · exact ⟨i, by omega, of_decide_eq_true h3, h4⟩
theorem o_16 {x : Int32} (hE : EN c SL xs F A G K n cd cl m tp fp im B B' p q) (hD : 60 ≤ D) (hD' : 60 ≤ D') : X D 142 0 [.ref 0, .int x] [] (F, A, J, G) (PE 101 0 c SL xs D' 243 [.ref 68, .int x, .null]) := by
  obtain ⟨D, rfl⟩ : ∃ e, D = e + 6 := ⟨D - 6, by omega⟩
  obtain ⟨D', rfl⟩ : ∃ e, D' = e + 6 := ⟨D' - 6, by omega⟩
  have hE' := hE
  obtain ⟨h1, h2, h3, h4, h5, h6, h7⟩ := hE
  have hW := CI_w h2
  have h10 := h2.1.1.1
  have hh : sH (cuS B) ≤ 10 := Nat.le_trans hW.1.1 h10
  have ho : ∀ l, l < sH (cuS B) → sO (cuS B) l < 10 := fun l hl => by have := hW.1.2.1 l hl; omega
  obtain ⟨z, hz1, hz2, rfl⟩ := zI_of x
  have bad : ¬ (0 ≤ z ∧ z < n) → PE 101 0 c SL xs (D' + 6) 243 [.ref 68, .int (zI z), .null] (.inr 101) (F, A, J, gThr G) := fun hb => PE_1 h1 (fun J1 => m_243 (Geo_thr h1) h3.1 (MI_w h3) ⟨hz1, hz2⟩ (fun _ r => Po_mk cod1 trivial rfl (EN_qt hE' CScr.rfl (MScr_code 1))) (fun h => absurd h hb) (fun l hl he => absurd (show 0 ≤ z ∧ z < n by have := hW.1.2.1 l hl; omega) hb))
  refine t_142n_0 h1 ?_
  rw [h2.1.2.1, zI_lt0 ⟨hz1, hz2⟩, zI_lt hz1 hz2 (by omega) (by omega), hW.2.1, lv_z hz1 hz2 hh hW.2.2.2.1 ho]
  refine ⟨fun e => bad (by omega), fun e => ⟨fun e2 => ⟨hB_z hh, ?_⟩, fun e2 => bad (by omega)⟩⟩
  have hlb := lvZ_b (ord := sO (cuS B)) (h := sH (cuS B)) (z := z)
  rw [show (-1 : Int32) = zI (-1) from rfl, zI_eq (by omega) (by omega) (by omega) (by omega)]
  refine ⟨fun el => PE_0 h1 (fun J1 => m_243 h1 h3.1 (MI_w h3) ⟨hz1, hz2⟩ (fun hb => absurd (show 0 ≤ z ∧ z < n by omega) hb) (fun _ _ => Po_mk cod0 rfl rfl (EN_q0 hE' CScr.rfl (MScr_code 0))) (fun l hl he => ?_)), fun el => ?_⟩
  · obtain ⟨i, rfl⟩ : ∃ i : Nat, z = i := ⟨z.toNat, by omega⟩
    exact absurd (by omega) (lv_not el l hl)
  · obtain ⟨l, hl, hol, hlv⟩ := lvZ_at el
    obtain ⟨i, rfl⟩ : ∃ i : Nat, z = i := ⟨z.toNat, by omega⟩
    have hoi : sO (cuS B) l = i := by omega
    have hbit : (bst (sO (cuS B)) (sH (cuS B))).testBit i = true := by
      cases hb : (bst (sO (cuS B)) (sH (cuS B))).testBit i
      · exact absurd (lvZ_none.mpr hb) el
      · rfl
    have hws := wit_std (K := K) hW.1 hl
    rw [hoi] at hws
    refine c_105 h1 h2.1 hW hbit (by omega) (fun F1 A1 hs => k_142n_28 h1 ?_)
    have hwb : -70000 ≤ witZ K (sH (cuS B)) (sO (cuS B)) (sM (cuS B)) (sW (cuS B)) (sL (cuS B)) (sY (cuS B)) i ∧ witZ K (sH (cuS B)) (sO (cuS B)) (sM (cuS B)) (sW (cuS B)) (sL (cuS B)) (sY (cuS B)) i ≤ 9999 := by
      unfold witZ
      exact ⟨by have := mor_ge (K := K) (h := sH (cuS B) - 1) (ord := remO (sO (cuS B)) (lvZ (sO (cuS B)) (sH (cuS B)) (i : Int)).toNat) (ml := sM (cuS B)) (wd := sW (cuS B)) (ln := sL (cuS B)) (yr := sY (cuS B)) trivial; omega, by
        unfold morZ
        split
        · exact mnZ_le _ _ _ _
        · decide⟩
    rw [show (-1 : Int32) = zI (-1) from rfl, zI_eq (by omega) (by omega) (by omega) (by omega), hws]
    have hM := MI_sc hs h3
    have ref : ∀ (b : Bool) (v : Int32), stdB K (sH (cuS B) - 1) (remO (sO (cuS B)) l) (sM (cuS B)) (sW (cuS B)) (sL (cuS B)) (sY (cuS B)) = b → bI b = v → PE 101 0 c SL xs (D' + 6) 243 [.ref 68, .int (zI (i : Int)), .null] (.inl (some (.int v))) (F1, A1, J, G) := fun b v hb hv => PE_0 h1 (fun J1 => m_243 h1 hM.1 (MI_w hM) ⟨hz1, hz2⟩ (fun hn => absurd (show 0 ≤ (i : Int) ∧ (i : Int) < n by omega) hn) (fun _ hn => absurd hn el) (fun l2 hl2 he2 F2 A2 hs2 hc2 => by
      have : l2 = l := hW.1.2.2.1 l2 l hl2 hl (by omega)
      subst this
      rw [hb, hv]
      exact Po_mk hc2 rfl rfl (EN_q0 hE' hs hs2)))
    exact ⟨fun hf => ref false 0 hf rfl, fun hf => ref true 1 (by simpa using hf) rfl⟩
theorem o_30 {x : Int32} (hE : EN c SL xs F A G K n cd cl m tp fp im B B' p q) (hD : 60 ≤ D) (hD' : 60 ≤ D') : X D 156 0 [.ref 0, .int x] [] (F, A, J, G) (PE 101 0 c SL xs D' 271 [.ref 68, .int x]) := by
  obtain ⟨D, rfl⟩ : ∃ e, D = e + 3 := ⟨D - 3, by omega⟩
  obtain ⟨D', rfl⟩ : ∃ e, D' = e + 3 := ⟨D' - 3, by omega⟩
  have hE' := hE
  obtain ⟨h1, h2, h3, h4, h5, h6, h7⟩ := hE
  have hW := CI_w h2
  have hh : sH (cuS B) ≤ 10 := Nat.le_trans hW.1.1 h2.1.1.1
  obtain ⟨z, hz1, hz2, rfl⟩ := zI_of x
  have bad : ¬ (0 ≤ z ∧ z < sH (cuS B)) → PE 101 0 c SL xs (D' + 3) 271 [.ref 68, .int (zI z)] (.inr 101) (F, A, J, gThr G) := fun hb => PE_1 h1 (fun J1 => m_271 (Geo_thr h1) h3.1 (MI_w h3) ⟨hz1, hz2⟩ (fun _ => Po_mk cod1 trivial rfl (EN_qt hE' CScr.rfl (MScr_code2 0 1))) (fun l hl he => absurd (show 0 ≤ z ∧ z < sH (cuS B) by omega) hb))
  refine t_156n_0 h1 ?_
  rw [hW.2.1, zI_lt0 ⟨hz1, hz2⟩, zI_lt hz1 hz2 (by omega) (by omega)]
  refine ⟨fun e => bad (by omega), fun e => ⟨fun e2 => ?_, fun e2 => bad (by omega)⟩⟩
  obtain ⟨i, rfl⟩ : ∃ i : Nat, z = i := ⟨z.toNat, by omega⟩
  have hi : i < sH (cuS B) := by omega
  refine c_84 h1 tw_27 h2.1 hW (fun A1 hf hg => k_156n_15 h1 (t_85_0 h1 tw_27 ?_))
  have hM := MI_sc (F' := F) (FrT_scr27 hf) h3
  rw [zI_clamp (by omega), hg.1 i hi, hg.2.1 i hi, zI_sub]
  refine ⟨zN_in (by omega) (by decide), k_156n_26 h1 (PE_0 h1 (fun J1 => m_271 h1 hM.1 (MI_w hM) ⟨hz1, hz2⟩ (fun hb => absurd (show 0 ≤ (i : Int) ∧ (i : Int) < sH (cuS B) by omega) hb) (fun l hl he => Po_mk cod0 ?_ rfl (EN_q0 hE' (FrT_scr27 hf) (MScr_code 0)))))⟩
  have : l = i := by omega
  subst this
  rfl
theorem o_31 {x : Int32} (hE : EN c SL xs F A G K n cd cl m tp fp im B B' p q) (hD : 60 ≤ D) (hD' : 60 ≤ D') : X D 157 0 [.ref 0, .int x] [] (F, A, J, G) (PE 100 0 c SL xs D' 257 [.ref 68, .int x, .null]) := by
  obtain ⟨D, rfl⟩ : ∃ e, D = e + 5 := ⟨D - 5, by omega⟩
  obtain ⟨D', rfl⟩ : ∃ e, D' = e + 5 := ⟨D' - 5, by omega⟩
  have hE' := hE
  obtain ⟨h1, h2, h3, h4, h5, h6, h7⟩ := hE
  have hW := CI_w h2
  have hyr := (CI_ok h2).2.2
  obtain ⟨z, hz1, hz2, rfl⟩ := zI_of x
  have bad : ¬ (0 ≤ z ∧ z ≤ 99) → PE 100 0 c SL xs (D' + 5) 257 [.ref 68, .int (zI z), .null] (.inr 100) (F, A, J, gThr G) := fun hb => PE_1 h1 (fun J1 => m_257 (Geo_thr h1) h3.1 (MI_w h3) ⟨hz1, hz2⟩ hyr (fun _ r => Po_mk cod1 trivial rfl (EN_qt hE' CScr.rfl (MScr_code 1))) (fun h => absurd h hb))
  refine t_157n_0 h1 ?_
  rw [zI_lt0 ⟨hz1, hz2⟩, show (99 : Int32) = zI 99 from rfl, zI_lt (by omega) (by omega) hz1 hz2]
  refine ⟨fun e => bad (by omega), fun e => ⟨fun e2 => bad (by omega), fun e2 => c_111 h1 h2.1 hW ⟨by omega, by omega⟩ hyr (fun F1 A1 hs => k_157n_29 h1 ?_)⟩⟩
  have hM := MI_sc hs h3
  exact PE_0 h1 (fun J1 => m_257 h1 hM.1 (MI_w hM) ⟨hz1, hz2⟩ hyr (fun hb => absurd (show 0 ≤ z ∧ z ≤ 99 by omega) hb) (fun _ => Po_mk cod0 rfl rfl (EN_q0 hE' hs (MScr_code 0))))
theorem o_33 {x : Int32} (hE : EN c SL xs F A G K n cd cl m tp fp im B B' p q) (hD : 60 ≤ D) (hD' : 60 ≤ D') : X D 159 0 [.ref 0, .int x] [] (F, A, J, G) (PE 100 0 c SL xs D' 264 [.ref 68, .int x, .null]) := by
  obtain ⟨D, rfl⟩ : ∃ e, D = e + 5 := ⟨D - 5, by omega⟩
  obtain ⟨D', rfl⟩ : ∃ e, D' = e + 3 := ⟨D' - 3, by omega⟩
  have hE' := hE
  obtain ⟨h1, h2, h3, h4, h5, h6, h7⟩ := hE
  have hW := CI_w h2
  obtain ⟨z, hz1, hz2, rfl⟩ := zI_of x
  have bad : ¬ (0 ≤ z ∧ z ≤ 999) → PE 100 0 c SL xs (D' + 3) 264 [.ref 68, .int (zI z), .null] (.inr 100) (F, A, J, gThr G) := fun hb => PE_1 h1 (fun J1 => m_264 (Geo_thr h1) h3.1 (MI_w h3) h3.2.1 ⟨hz1, hz2⟩ (fun _ r => Po_mk cod1 trivial rfl (EN_qt hE' CScr.rfl (MScr_code 1))) (fun h => absurd h hb))
  refine t_159n_0 h1 ?_
  rw [zI_lt0 ⟨hz1, hz2⟩, show (999 : Int32) = zI 999 from rfl, zI_lt (by omega) (by omega) hz1 hz2]
  refine ⟨fun e => bad (by omega), fun e => ⟨fun e2 => bad (by omega), fun e2 => c_113 h1 h2.1 hW h2.2.1 ⟨by omega, by omega⟩ (fun F1 A1 hs => k_159n_30 h1 ?_)⟩⟩
  have hM := MI_sc hs h3
  exact PE_0 h1 (fun J1 => m_264 h1 hM.1 (MI_w hM) hM.2.1 ⟨hz1, hz2⟩ (fun hb => absurd (show 0 ≤ z ∧ z ≤ 999 by omega) hb) (fun _ F2 A2 hs2 hc2 => Po_mk hc2 rfl rfl (EN_q0 hE' hs hs2)))
theorem o_40 {x : Int32} (hE : EN c SL xs F A G K n cd cl m tp fp im B B' p q) (hD : 60 ≤ D) (hD' : 60 ≤ D') : X D 166 0 [.ref 0, .int x] [] (F, A, J, G) (PE 101 0 c SL xs D' 282 [.ref 68, .int x, .null, .null, .null]) := by
  obtain ⟨D, rfl⟩ : ∃ e, D = e + 7 := ⟨D - 7, by omega⟩
  obtain ⟨D', rfl⟩ : ∃ e, D' = e + 8 := ⟨D' - 8, by omega⟩
  have hE' := hE
  obtain ⟨h1, h2, h3, h4, h5, h6, h7⟩ := hE
  have hW := CI_w h2
  have hml := (CI_ok h2).2.1
  obtain ⟨z, hz1, hz2, rfl⟩ := zI_of x
  have bad : ¬ (z = 0 ∨ z = 1) → PE 101 0 c SL xs (D' + 8) 282 [.ref 68, .int (zI z), .null, .null, .null] (.inr 101) (F, A, J, gThr G) := fun hb => PE_1 h1 (fun J1 => m_282 (Geo_thr h1) h3.1 (MI_w h3) hml ⟨hz1, hz2⟩ (fun _ r => Po_mk cod1 trivial rfl (EN_qt hE' CScr.rfl (MScr_code 1))) (fun h => absurd h hb))
  have good : (z = 0 ∨ z = 1) → X (D + 6) 118 0 [.ref 49, .null, .null] [] (F, A, J, G) (KK (D + 7) 166 27 [.ref 0, .int (zI z)] [] (PE 101 0 c SL xs (D' + 8) 282 [.ref 68, .int (zI z), .null, .null, .null])) := fun hz => c_118 h1 h2.1 hW hml (fun F1 A1 hs g3 g4 => k_166n_27 h1 (by
    have hM := MI_sc hs h3
    rw [show (0 : Int32) = zI 0 from rfl, zI_eq hz1 hz2 (by omega) (by omega), g3, g4]
    refine ⟨fun e => PE_0 h1 (fun J1 => m_282 h1 hM.1 (MI_w hM) hml ⟨hz1, hz2⟩ (fun hb => absurd hz hb) (fun _ => ?_)), fun e => PE_0 h1 (fun J1 => m_282 h1 hM.1 (MI_w hM) hml ⟨hz1, hz2⟩ (fun hb => absurd hz hb) (fun _ => ?_))⟩
    · rw [if_pos e]; exact Po_mk cod0 rfl rfl (EN_q0 hE' hs (MScr_code 0))
    · rw [if_neg e]; exact Po_mk cod0 rfl rfl (EN_q0 hE' hs (MScr_code 0))))
  refine t_166n_0 h1 ?_
  rw [show (0 : Int32) = zI 0 from rfl, show (1 : Int32) = zI 1 from rfl, zI_eq hz1 hz2 (by omega) (by omega), zI_eq hz1 hz2 (by omega) (by omega)]
  exact ⟨fun e => good (Or.inl e), fun e => ⟨fun e2 => good (Or.inr e2), fun e2 => bad (by omega)⟩⟩
theorem o_41 {x y w : Int32} (hE : EN c SL xs F A G K n cd cl m tp fp im B B' p q) (hD : 60 ≤ D) (hD' : 60 ≤ D') : X D 167 0 [.ref 0, .int x, .int y, .int w] [] (F, A, J, G) (PE 101 100 c SL xs D' 285 [.ref 68, .int x, .int y, .int w, .null, .null, .null]) := by
  obtain ⟨D, rfl⟩ : ∃ e, D = e + 6 := ⟨D - 6, by omega⟩
  obtain ⟨D', rfl⟩ : ∃ e, D' = e + 6 := ⟨D' - 6, by omega⟩
  have hE' := hE
  obtain ⟨h1, h2, h3, h4, h5, h6, h7⟩ := hE
  have hW := CI_w h2
  have hml := (CI_ok h2).2.1
  have hyr := (CI_ok h2).2.2
  obtain ⟨z, hz1, hz2, rfl⟩ := zI_of w
  obtain ⟨u, hu1, hu2, rfl⟩ := zI_of y
  have bad : ¬ (0 ≤ z ∧ z ≤ 2) → PE 101 100 c SL xs (D' + 6) 285 [.ref 68, .int x, .int (zI u), .int (zI z), .null, .null, .null] (.inr 101) (F, A, J, gThr G) := fun hb => PE_1 h1 (fun J1 => m_285 (Geo_thr h1) h3.1 (MI_w h3) hml hyr ⟨hu1, hu2⟩ ⟨hz1, hz2⟩ (fun _ r => Po_mk cod1 trivial rfl (EN_qt hE' CScr.rfl (MScr_code 1))) (fun h => absurd h hb) (fun m _ _ h => absurd h hb))
  have bad2 : (0 ≤ z ∧ z ≤ 2) → ¬ (0 ≤ u ∧ u ≤ 40) → PE 101 100 c SL xs (D' + 6) 285 [.ref 68, .int x, .int (zI u), .int (zI z), .null, .null, .null] (.inr 100) (F, A, J, gThr G) := fun ha hb => PE_2 h1 (by decide) (fun J1 => m_285 (Geo_thr h1) h3.1 (MI_w h3) hml hyr ⟨hu1, hu2⟩ ⟨hz1, hz2⟩ (fun h => absurd ha h) (fun _ _ r => Po_mk cod2 trivial rfl (EN_qt hE' CScr.rfl (MScr_code 2))) (fun m he hm _ => absurd (show 0 ≤ u ∧ u ≤ 40 by omega) hb))
  refine t_167n_0 h1 ?_
  rw [zI_lt0 ⟨hz1, hz2⟩, zI_lt0 ⟨hu1, hu2⟩, show (2 : Int32) = zI 2 from rfl, show (40 : Int32) = zI 40 from rfl, zI_lt (by omega) (by omega) hz1 hz2, zI_lt (by omega) (by omega) hu1 hu2]
  refine ⟨fun e => bad (by omega), fun e => ⟨fun e2 => bad (by omega), fun e2 => ⟨fun e3 => bad2 (by omega) (by omega), fun e3 => ⟨fun e4 => bad2 (by omega) (by omega), fun e4 => ?_⟩⟩⟩⟩
  obtain ⟨v, rfl⟩ : ∃ i : Nat, u = i := ⟨u.toNat, by omega⟩
  refine c_122 h1 h2.1 hW hml hyr (by omega) (fun F1 A1 hs g5 g6 g7 => k_167n_50 h1 ?_)
  have hM := MI_sc hs h3
  rw [show (0 : Int32) = zI 0 from rfl, show (1 : Int32) = zI 1 from rfl, zI_eq hz1 hz2 (by omega) (by omega), zI_eq hz1 hz2 (by omega) (by omega), g5, g6, g7]
  have ref : ∀ v2 : Int32, (zI (if z = 0 then (dsZ K n (sH (cuS B)) (sO (cuS B)) (sM (cuS B)) (sW (cuS B)) (sL (cuS B)) (sY (cuS B)) x v).1 else if z = 1 then (dsZ K n (sH (cuS B)) (sO (cuS B)) (sM (cuS B)) (sW (cuS B)) (sL (cuS B)) (sY (cuS B)) x v).2 else if sH (cuS B) = 0 then 0 else loadZ K (sH (cuS B)) (sO (cuS B)) (dyZ K n (sH (cuS B)) (sO (cuS B)) (sM (cuS B)) (sL (cuS B)) x v).2.1 0)) = v2 → PE 101 100 c SL xs (D' + 6) 285 [.ref 68, .int x, .int (zI (v : Int)), .int (zI z), .null, .null, .null] (.inl (some (.int v2))) (F1, A1, J, G) := fun v2 hv => PE_0 h1 (fun J1 => m_285 h1 hM.1 (MI_w hM) hml hyr ⟨hu1, hu2⟩ ⟨hz1, hz2⟩ (fun h => absurd (show 0 ≤ z ∧ z ≤ 2 by omega) h) (fun _ h => absurd (show 0 ≤ (v : Int) ∧ (v : Int) ≤ 40 by omega) h) (fun m he hm _ F2 A2 hs2 hc2 => by
    have : m = v := by omega
    subst this
    exact Po_mk hc2 hv rfl (EN_q0 hE' hs hs2)))
  exact ⟨fun e => ref _ (by rw [if_pos e]), fun e => ⟨fun e2 => ref _ (by rw [if_neg e, if_pos e2]), fun e2 => ref _ (by rw [if_neg e, if_neg e2])⟩⟩
theorem o_37 {x : Int32} (hE : EN c SL xs F A G K n cd cl m tp fp im B B' p q) (hD : 60 ≤ D) (hD' : 60 ≤ D') : X D 163 0 [.ref 0, .int x] [] (F, A, J, G) (PE 101 0 c SL xs D' 276 [.ref 68, .int x]) := by
  obtain ⟨D, rfl⟩ : ∃ e, D = e + 4 := ⟨D - 4, by omega⟩
  obtain ⟨D', rfl⟩ : ∃ e, D' = e + 4 := ⟨D' - 4, by omega⟩
  have hE' := hE
  obtain ⟨h1, h2, h3, h4, h5, h6, h7⟩ := hE
  have hW := CI_w h2
  obtain ⟨z, hz1, hz2, rfl⟩ := zI_of x
  have ref : ∀ (A1 : Nat → Nat → Int32) (v : Int32), CScr F A F A1 → (0 ≤ z ∧ z ≤ 2) → (if z = 2 then bI (asB K (sH (cuS B)) (sO (cuS B)) (sW (cuS B)) (sL (cuS B)) B.2.2.1 B.2.2.2.1 B.2.2.2.2.1) else if z = 0 then zI ((flt id (mbB K (sH (cuS B)) (sO (cuS B)) (sW (cuS B)) (sL (cuS B)) B.2.2.1 B.2.2.2.1 B.2.2.2.2.1) (19 * sH (cuS B))).length : Int) else zI (owA (sO (cuS B)) (fsB (mbB K (sH (cuS B)) (sO (cuS B)) (sW (cuS B)) (sL (cuS B)) B.2.2.1 B.2.2.2.1 B.2.2.2.2.1) (19 * sH (cuS B)) 0))) = v → PE 101 0 c SL xs (D' + 4) 276 [.ref 68, .int (zI z)] (.inl (some (.int v))) (F, A1, J, G) := by
    intro A1 v hs hz hv
    have hM := MI_sc hs h3
    exact PE_0 h1 (fun J1 => m_276 h1 hM.1 (MI_w hM) (MI_sn hM) ⟨hz1, hz2⟩ (fun h => absurd hz h) (fun _ F2 A2 hs2 hc2 => Po_mk hc2 hv rfl (EN_q0 hE' hs hs2)))
  refine t_163n_0 h1 ?_
  rw [zI_toInt hz1 hz2, show (0 : Int32) = zI 0 from rfl, show (1 : Int32) = zI 1 from rfl, show (2 : Int32) = zI 2 from rfl, zI_eq hz1 hz2 (by omega) (by omega), zI_eq hz1 hz2 (by omega) (by omega), zI_eq hz1 hz2 (by omega) (by omega)]
  refine ⟨fun e => c_9 h1 h2.1 hW (CI_sn h2) (fun A1 hs => k_163n_35 h1 (ref A1 _ hs (by omega) (by rw [if_neg (by omega), if_pos e]))), fun e => c_10 h1 h2.1 hW (CI_sn h2) (fun A1 hs => k_163n_43 h1 (ref A1 _ hs (by omega) (by rw [if_neg (by omega), if_neg (by omega)]))), fun e => c_8 h1 h2.1 hW (CI_sn h2) (fun A1 hs => k_163n_51 h1 ⟨fun e2 => ref A1 _ hs (by omega) (by rw [if_pos e, e2]), fun e2 => ref A1 _ hs (by omega) ?_⟩), fun e => PE_1 h1 (fun J1 => m_276 (Geo_thr h1) h3.1 (MI_w h3) (MI_sn h3) ⟨hz1, hz2⟩ (fun _ r => Po_mk cod1 trivial rfl (EN_qt hE' CScr.rfl (MScr_code 1))) (fun h => absurd h (by omega)))⟩
  rw [if_pos e]
  cases hb : asB K (sH (cuS B)) (sO (cuS B)) (sW (cuS B)) (sL (cuS B)) B.2.2.1 B.2.2.2.1 B.2.2.2.2.1
  · rw [hb] at e2; exact absurd rfl e2
  · rfl
theorem o_23 {x y : Int32} (hE : EN c SL xs F A G K n cd cl m tp fp im B B' p q) (hD : 60 ≤ D) (hD' : 60 ≤ D') : X D 149 0 [.ref 0, .int x, .int y] [] (F, A, J, G) (PE 101 100 c SL xs D' 259 [.ref 68, .int x, .int y]) := by
  obtain ⟨D, rfl⟩ : ∃ e, D = e + 3 := ⟨D - 3, by omega⟩
  obtain ⟨D', rfl⟩ : ∃ e, D' = e + 3 := ⟨D' - 3, by omega⟩
  have hE' := hE
  obtain ⟨h1, h2, h3, h4, h5, h6, h7⟩ := hE
  have hW := CI_w h2
  have h10 := h2.1.1.1
  have cT := h2.1
  obtain ⟨z, hz1, hz2, rfl⟩ := zI_of x
  obtain ⟨u, hu1, hu2, rfl⟩ := zI_of y
  have bad : ¬ ((0 ≤ z ∧ z < n) ∧ (0 ≤ u ∧ u < n)) → PE 101 100 c SL xs (D' + 3) 259 [.ref 68, .int (zI z), .int (zI u)] (.inr 101) (F, A, J, gThr G) := fun hb => PE_1 h1 (fun J1 => m_259 (Geo_thr h1) h3.1 (MI_w h3) ⟨hz1, hz2⟩ ⟨hu1, hu2⟩ (fun _ => Po_mk cod1 trivial rfl (EN_qt hE' CScr.rfl (MScr_code2 0 1))) (fun h => absurd h hb) (fun i j hi hj e1 e2 => absurd (show (0 ≤ z ∧ z < n) ∧ (0 ≤ u ∧ u < n) by omega) hb))
  refine t_149n_0 h1 ?_
  rw [cT.2.1, zI_lt0 ⟨hz1, hz2⟩, zI_lt0 ⟨hu1, hu2⟩, zI_lt hz1 hz2 (by omega) (by omega), zI_lt hu1 hu2 (by omega) (by omega), zI_eq hz1 hz2 hu1 hu2]
  refine ⟨fun e => bad (by omega), fun e => ⟨fun e2 => ⟨fun e3 => bad (by omega), fun e3 => ⟨fun e4 => ⟨fun e5 => PE_2 h1 (by decide) (fun J1 => m_259 (Geo_thr h1) h3.1 (MI_w h3) ⟨hz1, hz2⟩ ⟨hu1, hu2⟩ (fun h => absurd (show (0 ≤ z ∧ z < n) ∧ (0 ≤ u ∧ u < n) by omega) h) (fun _ _ => Po_mk cod2 trivial rfl (EN_qt hE' CScr.rfl (MScr_code2 0 2))) (fun i j hi hj e1 e2 hne => by omega)), fun e5 => ?_⟩, fun e4 => bad (by omega)⟩⟩, fun e2 => bad (by omega)⟩⟩
  obtain ⟨i, rfl⟩ : ∃ i : Nat, z = i := ⟨z.toNat, by omega⟩
  obtain ⟨j, rfl⟩ : ∃ i : Nat, u = i := ⟨u.toNat, by omega⟩
  have hi : i < n := by omega
  have hj : j < n := by omega
  rw [zI_clamp (n := i) (by omega), zI_clamp (n := j) (by omega), cT.2.2.2.2.1 i hi, cT.2.2.2.2.1 j hj, cT.2.2.2.2.2.2.1 i hi, cT.2.2.2.2.2.2.1 j hj, cT.2.2.2.2.2.1 i hi, cT.2.2.2.2.2.1 j hj, hW.2.2.1, car_z0 cT.1 hi hW.1.2.2.2.2, car_z0 cT.1 hj hW.1.2.2.2.2]
  refine ⟨zN_in (by omega) (by decide), zN_in (by omega) (by decide), PE_0 h1 (fun J1 => m_259 h1 h3.1 (MI_w h3) ⟨hz1, hz2⟩ ⟨hu1, hu2⟩ (fun h => absurd (show (0 ≤ (i : Int) ∧ (i : Int) < n) ∧ (0 ≤ (j : Int) ∧ (j : Int) < n) by omega) h) (fun _ h => absurd h e5) (fun i2 j2 hi2 hj2 e1 e2' _ => Po_mk cod0 ?_ rfl (EN_q0 hE' CScr.rfl (MScr_code 0))))⟩
  have h9 : i2 = i := by omega
  have h8 : j2 = j := by omega
  rw [h9, h8]
theorem o_24 {x y : Int32} (hE : EN c SL xs F A G K n cd cl m tp fp im B B' p q) (hD : 60 ≤ D) (hD' : 60 ≤ D') : X D 150 0 [.ref 0, .int x, .int y] [] (F, A, J, G) (PE 101 100 c SL xs D' 262 [.ref 68, .int x, .int y, .null]) := by
  obtain ⟨D, rfl⟩ : ∃ e, D = e + 5 := ⟨D - 5, by omega⟩
  obtain ⟨D', rfl⟩ : ∃ e, D' = e + 5 := ⟨D' - 5, by omega⟩
  have hE' := hE
  obtain ⟨h1, h2, h3, h4, h5, h6, h7⟩ := hE
  have hW := CI_w h2
  have h10 := h2.1.1.1
  have hml := (CI_ok h2).2.1
  have hh : sH (cuS B) ≤ 10 := Nat.le_trans hW.1.1 h10
  have ho : ∀ l, l < sH (cuS B) → sO (cuS B) l < 10 := fun l hl => by have := hW.1.2.1 l hl; omega
  obtain ⟨z, hz1, hz2, rfl⟩ := zI_of x
  obtain ⟨u, hu1, hu2, rfl⟩ := zI_of y
  have hlb := lvZ_b (ord := sO (cuS B)) (h := sH (cuS B)) (z := z)
  refine t_150n_0 h1 ?_
  rw [hW.2.1, lv_z hz1 hz2 hh hW.2.2.2.1 ho, show (-1 : Int32) = zI (-1) from rfl, zI_eq (by omega) (by omega) (by omega) (by omega), zI_lt0 ⟨hu1, hu2⟩, show (99 : Int32) = zI 99 from rfl, zI_lt (by omega) (by omega) hu1 hu2]
  refine ⟨hB_z hh, fun el => PE_1 h1 (fun J1 => m_262 (Geo_thr h1) h3.1 (MI_w h3) ⟨hz1, hz2⟩ ⟨hu1, hu2⟩ hml (fun _ r => Po_mk cod1 trivial rfl (EN_qt hE' CScr.rfl (MScr_code 1))) (fun h => absurd el h) (fun i _ _ _ h => absurd el h)), fun el => ?_⟩
  obtain ⟨l, hl, hol, hlv⟩ := lvZ_at el
  have hln := hW.1.2.1 l hl
  have bad2 : ¬ (0 ≤ u ∧ u ≤ 99) → PE 101 100 c SL xs (D' + 5) 262 [.ref 68, .int (zI z), .int (zI u), .null] (.inr 100) (F, A, J, gThr G) := fun hb => PE_2 h1 (by decide) (fun J1 => m_262 (Geo_thr h1) h3.1 (MI_w h3) ⟨hz1, hz2⟩ ⟨hu1, hu2⟩ hml (fun h => absurd h (by omega)) (fun _ _ _ r => Po_mk cod2 trivial rfl (EN_qt hE' CScr.rfl (MScr_code 2))) (fun i _ _ h => absurd h hb))
  refine ⟨fun e3 => bad2 (by omega), fun e3 => ⟨fun e4 => bad2 (by omega), fun e4 => ?_⟩⟩
  obtain ⟨i, rfl⟩ : ∃ i : Nat, z = i := ⟨z.toNat, by omega⟩
  refine c_110 h1 h2.1 hW (show i < n by omega) ⟨by omega, by omega⟩ (hml i (by omega)) (fun F1 A1 hs => k_150n_35 h1 ?_)
  have hM := MI_sc hs h3
  refine PE_0 h1 (fun J1 => m_262 h1 hM.1 (MI_w hM) ⟨hz1, hz2⟩ ⟨hu1, hu2⟩ hml (fun h => absurd h (by omega)) (fun _ _ h => absurd (show 0 ≤ u ∧ u ≤ 99 by omega) h) (fun i2 e5 _ _ _ => ?_))
  have : i2 = i := by omega
  subst this
  exact Po_mk cod0 rfl rfl (EN_q0 hE' hs (MScr_code 0))
theorem o_26 {x : Int32} (hE : EN c SL xs F A G K n cd cl m tp fp im B B' p q) (hD : 60 ≤ D) (hD' : 60 ≤ D') : X D 152 0 [.ref 0, .int x] [] (F, A, J, G) (PE 101 0 c SL xs D' 267 [.ref 68, .int x, .null, .null, .null]) := by
  obtain ⟨D, rfl⟩ : ∃ e, D = e + 7 := ⟨D - 7, by omega⟩
  obtain ⟨D', rfl⟩ : ∃ e, D' = e + 6 := ⟨D' - 6, by omega⟩
  have hE' := hE
  obtain ⟨h1, h2, h3, h4, h5, h6, h7⟩ := hE
  have hW := CI_w h2
  have h10 := h2.1.1.1
  have hh : sH (cuS B) ≤ 10 := Nat.le_trans hW.1.1 h10
  have ho : ∀ l, l < sH (cuS B) → sO (cuS B) l < 10 := fun l hl => by have := hW.1.2.1 l hl; omega
  obtain ⟨z, hz1, hz2, rfl⟩ := zI_of x
  have hlb := lvZ_b (ord := sO (cuS B)) (h := sH (cuS B)) (z := z)
  refine t_152n_0 h1 ?_
  rw [hW.2.1, lv_z hz1 hz2 hh hW.2.2.2.1 ho, show (-1 : Int32) = zI (-1) from rfl, zI_eq (by omega) (by omega) (by omega) (by omega)]
  refine ⟨hB_z hh, fun el => PE_1 h1 (fun J1 => m_267 (Geo_thr h1) h3.1 (MI_w h3) ⟨hz1, hz2⟩ (fun _ r => Po_mk cod1 trivial rfl (EN_qt hE' CScr.rfl (MScr_code 1))) (fun i _ _ h => absurd el h)), fun el => ?_⟩
  obtain ⟨l, hl, hol, hlv⟩ := lvZ_at el
  have hln := hW.1.2.1 l hl
  obtain ⟨i, rfl⟩ : ∃ i : Nat, z = i := ⟨z.toNat, by omega⟩
  refine c_107 h1 h2.1 hW (show i < n by omega) (fun F1 A1 hs => k_152n_13 h1 ?_)
  have hM := MI_sc hs h3
  refine PE_0 h1 (fun J1 => m_267 h1 hM.1 (MI_w hM) ⟨hz1, hz2⟩ (fun h => absurd h (by omega)) (fun i2 e5 _ _ F2 A2 hs2 hc2 => ?_))
  have : i2 = i := by omega
  subst this
  exact Po_mk hc2 rfl rfl (EN_q0 hE' hs hs2)
end Ops2
