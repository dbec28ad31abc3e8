/-! the law's cases -/
section Law26
theorem wJ_same (J : Nat → Nat → Int64) (o k : Nat) (v : Int64) : wJ J o k v o k = v := by simp [wJ, va_up]
variable {d c SL : Nat} {xs : Nat → Int32} {F A : Nat → Nat → Int32} {J : Nat → Nat → Int64} {G : pG} {Q : pR → pM → Prop} {x4 : Int32} {v5 v6 : Value}
theorem w_0 (hR : RS c SL xs (F, A, J, G)) (hc : c < 600) (hd : 60 ≤ d) (i1 : inB (x4 + 1) SL = true) (i2 : inB (x4 + 2) SL = true) (i3 : inB (x4 + 3) SL = true) (i4 : inB (x4 + 4) SL = true) (i5 : inB (x4 + 5) SL = true) (hK : ∀ v5 v6 M, RS (c + 1) SL xs M → X (d + 9) 312 1995 [.ref 2000, .ref 0, .ref 68, .ref 104, .int x4, v5, v6, .null] [] M Q) : X (d + 9) 312 232 [.ref 2000, .ref 0, .ref 68, .ref 104, .int x4, v5, v6, .null] [] (F, A, J, G) Q := by
  obtain ⟨K, n, cd, cl, m, tp, fp, im, B, B', p, q, hE⟩ := RS_en hR
  have hE : EN c SL xs F A G K n cd cl m tp fp im B B' p q := hE
  refine t_312_232 hE.1 ⟨i1, i2, i3, i4, i5, X_mono (fun r M1 hr => ?_) (X_scr (k_scr hE.1) (o_0 (D' := d + 8) hE (by omega)))⟩
  obtain ⟨⟨v, rfl, ⟨p1, q1, hG1⟩, hx⟩, hs⟩ := hr
  obtain ⟨F1, A1, J1, G1⟩ := M1
  refine k_312_266 hG1 ⟨i1, i2, i3, i4, i5, ?_⟩
  rw [show A1 2000 = A 2000 from hs]
  refine X_mono (fun r2 M2 hr2 => ?_) hx
  obtain ⟨rfl, hR2⟩ := hr2
  obtain ⟨F2, A2, J2, G2⟩ := M2
  obtain ⟨p2, q2, hG2, _⟩ := id hR2
  exact k_312_300 hG2 ⟨fun _ => hK _ _ _ hR2, fun h => absurd rfl h⟩
theorem w_1 (hR : RS c SL xs (F, A, J, G)) (hc : c < 600) (hd : 60 ≤ d) (i1 : inB (x4 + 1) SL = true) (i2 : inB (x4 + 2) SL = true) (i3 : inB (x4 + 3) SL = true) (i4 : inB (x4 + 4) SL = true) (i5 : inB (x4 + 5) SL = true) (hK : ∀ v5 v6 M, RS (c + 1) SL xs M → X (d + 9) 312 1995 [.ref 2000, .ref 0, .ref 68, .ref 104, .int x4, v5, v6, .null] [] M Q) : X (d + 9) 312 305 [.ref 2000, .ref 0, .ref 68, .ref 104, .int x4, v5, v6, .null] [] (F, A, J, G) Q := by
  obtain ⟨K, n, cd, cl, m, tp, fp, im, B, B', p, q, hE⟩ := RS_en hR
  have hE : EN c SL xs F A G K n cd cl m tp fp im B B' p q := hE
  refine t_312_305 hE.1 ⟨i1, h_290 (d := d + 7) hE.1 (X_mono (fun r M1 hr => ?_) (X_scr (k_scr hE.1) (o_1 (D' := d + 8) hE (by omega) (by omega))))⟩
  obtain ⟨⟨k, v, hk, ⟨p1, q1, hG1⟩, hx⟩, hs⟩ := hr
  obtain ⟨F1, A1, J1, G1⟩ := M1
  have hG1 : Geo G1 SL p1 q1 := hG1
  rcases hk with ⟨rfl, rfl⟩ | ⟨rfl, rfl⟩ | ⟨rfl, h0, rfl⟩
  · refine Or.inl ⟨v, F1, A1, J1, G1, rfl, rfl, k_104 hG1, l_104 hG1, k_312_316 hG1 ⟨i1, ?_⟩⟩
    rw [show A1 2000 = A 2000 from hs]
    refine X_mono (fun r2 M2 hr2 => ?_) (hx (wJ J1 104 0 v.toInt64))
    obtain ⟨w, rfl, h3, hv, hJ, hR2⟩ := hr2
    obtain ⟨F2, A2, J2, G2⟩ := M2
    obtain ⟨p2, q2, hG2, _⟩ := id hR2
    have hj : J2 104 0 = v.toInt64 := by rw [show J2 104 = wJ J1 104 0 v.toInt64 104 from hJ, wJ_same]
    have hw : w = v := hv rfl
    subst hw
    exact k_312_328 hG2 ⟨fun _ => ⟨fun _ => ⟨fun _ => hK _ _ _ hR2, fun h => absurd hj h⟩, fun h => absurd rfl h⟩, fun h => absurd h3 h⟩
  · refine Or.inr (Or.inl ⟨rfl, k_312_316 hG1 ⟨i1, ?_⟩⟩)
    rw [show A1 2000 = A 2000 from hs]
    refine X_mono (fun r2 M2 hr2 => ?_) (hx J1)
    obtain ⟨w, rfl, h3, hv, hJ, hR2⟩ := hr2
    obtain ⟨F2, A2, J2, G2⟩ := M2
    obtain ⟨p2, q2, hG2, _⟩ := id hR2
    exact k_312_328 hG2 ⟨fun _ => ⟨fun h => absurd h (by decide), fun _ => hK _ _ _ hR2⟩, fun h => absurd h3 h⟩
  · exact absurd rfl h0
theorem w_2 (hR : RS c SL xs (F, A, J, G)) (hc : c < 600) (hd : 60 ≤ d) (i1 : inB (x4 + 1) SL = true) (i2 : inB (x4 + 2) SL = true) (i3 : inB (x4 + 3) SL = true) (i4 : inB (x4 + 4) SL = true) (i5 : inB (x4 + 5) SL = true) (hK : ∀ v5 v6 M, RS (c + 1) SL xs M → X (d + 9) 312 1995 [.ref 2000, .ref 0, .ref 68, .ref 104, .int x4, v5, v6, .null] [] M Q) : X (d + 9) 312 361 [.ref 2000, .ref 0, .ref 68, .ref 104, .int x4, v5, v6, .null] [] (F, A, J, G) Q := by
  obtain ⟨K, n, cd, cl, m, tp, fp, im, B, B', p, q, hE⟩ := RS_en hR
  have hE : EN c SL xs F A G K n cd cl m tp fp im B B' p q := hE
  refine t_312_361 hE.1 (X_mono (fun r M1 hr => ?_) (X_scr (k_scr hE.1) (o_2 (D' := d + 8) hE)))
  obtain ⟨⟨v, rfl, ⟨p1, q1, hG1⟩, hx⟩, hs⟩ := hr
  obtain ⟨F1, A1, J1, G1⟩ := M1
  refine k_312_365 hG1 (?_)
  refine X_mono (fun r2 M2 hr2 => ?_) hx
  obtain ⟨rfl, hR2⟩ := hr2
  obtain ⟨F2, A2, J2, G2⟩ := M2
  obtain ⟨p2, q2, hG2, _⟩ := id hR2
  exact k_312_369 hG2 ⟨fun _ => hK _ _ _ hR2, fun h => absurd rfl h⟩
theorem w_3 (hR : RS c SL xs (F, A, J, G)) (hc : c < 600) (hd : 60 ≤ d) (i1 : inB (x4 + 1) SL = true) (i2 : inB (x4 + 2) SL = true) (i3 : inB (x4 + 3) SL = true) (i4 : inB (x4 + 4) SL = true) (i5 : inB (x4 + 5) SL = true) (hK : ∀ v5 v6 M, RS (c + 1) SL xs M → X (d + 9) 312 1995 [.ref 2000, .ref 0, .ref 68, .ref 104, .int x4, v5, v6, .null] [] M Q) : X (d + 9) 312 374 [.ref 2000, .ref 0, .ref 68, .ref 104, .int x4, v5, v6, .null] [] (F, A, J, G) Q := by
  obtain ⟨K, n, cd, cl, m, tp, fp, im, B, B', p, q, hE⟩ := RS_en hR
  have hE : EN c SL xs F A G K n cd cl m tp fp im B B' p q := hE
  refine t_312_374 hE.1 ⟨i1, h_291 (d := d + 7) hE.1 (X_mono (fun r M1 hr => ?_) (X_scr (k_scr hE.1) (o_3 (D' := d + 8) hE (by omega) (by omega))))⟩
  obtain ⟨⟨k, v, hk, ⟨p1, q1, hG1⟩, hx⟩, hs⟩ := hr
  obtain ⟨F1, A1, J1, G1⟩ := M1
  have hG1 : Geo G1 SL p1 q1 := hG1
  rcases hk with ⟨rfl, rfl⟩ | ⟨rfl, rfl⟩ | ⟨rfl, h0, rfl⟩
  · refine Or.inl ⟨v, F1, A1, J1, G1, rfl, rfl, k_104 hG1, l_104 hG1, k_312_385 hG1 ⟨i1, ?_⟩⟩
    rw [show A1 2000 = A 2000 from hs]
    refine X_mono (fun r2 M2 hr2 => ?_) (hx (wJ J1 104 0 v.toInt64))
    obtain ⟨w, rfl, h3, hv, hJ, hR2⟩ := hr2
    obtain ⟨F2, A2, J2, G2⟩ := M2
    obtain ⟨p2, q2, hG2, _⟩ := id hR2
    have hj : J2 104 0 = v.toInt64 := by rw [show J2 104 = wJ J1 104 0 v.toInt64 104 from hJ, wJ_same]
    have hw : w = v := hv rfl
    subst hw
    exact k_312_397 hG2 ⟨fun _ => ⟨fun _ => ⟨fun _ => hK _ _ _ hR2, fun h => absurd hj h⟩, fun h => absurd rfl h⟩, fun h => absurd h3 h⟩
  · refine Or.inr (Or.inl ⟨rfl, k_312_385 hG1 ⟨i1, ?_⟩⟩)
    rw [show A1 2000 = A 2000 from hs]
    refine X_mono (fun r2 M2 hr2 => ?_) (hx J1)
    obtain ⟨w, rfl, h3, hv, hJ, hR2⟩ := hr2
    obtain ⟨F2, A2, J2, G2⟩ := M2
    obtain ⟨p2, q2, hG2, _⟩ := id hR2
    exact k_312_397 hG2 ⟨fun _ => ⟨fun h => absurd h (by decide), fun _ => hK _ _ _ hR2⟩, fun h => absurd h3 h⟩
  · exact absurd rfl h0
theorem w_4 (hR : RS c SL xs (F, A, J, G)) (hc : c < 600) (hd : 60 ≤ d) (i1 : inB (x4 + 1) SL = true) (i2 : inB (x4 + 2) SL = true) (i3 : inB (x4 + 3) SL = true) (i4 : inB (x4 + 4) SL = true) (i5 : inB (x4 + 5) SL = true) (hK : ∀ v5 v6 M, RS (c + 1) SL xs M → X (d + 9) 312 1995 [.ref 2000, .ref 0, .ref 68, .ref 104, .int x4, v5, v6, .null] [] M Q) : X (d + 9) 312 430 [.ref 2000, .ref 0, .ref 68, .ref 104, .int x4, v5, v6, .null] [] (F, A, J, G) Q := by
  obtain ⟨K, n, cd, cl, m, tp, fp, im, B, B', p, q, hE⟩ := RS_en hR
  have hE : EN c SL xs F A G K n cd cl m tp fp im B B' p q := hE
  refine t_312_430 hE.1 ⟨i1, i2, h_292 (d := d + 7) hE.1 (X_mono (fun r M1 hr => ?_) (X_scr (k_scr hE.1) (o_4 (D' := d + 8) hE (by omega) (by omega))))⟩
  obtain ⟨⟨k, v, hk, ⟨p1, q1, hG1⟩, hx⟩, hs⟩ := hr
  obtain ⟨F1, A1, J1, G1⟩ := M1
  have hG1 : Geo G1 SL p1 q1 := hG1
  rcases hk with ⟨rfl, rfl⟩ | ⟨rfl, rfl⟩ | ⟨rfl, h0, rfl⟩
  · refine Or.inl ⟨v, F1, A1, J1, G1, rfl, rfl, k_104 hG1, l_104 hG1, k_312_447 hG1 ⟨i1, i2, ?_⟩⟩
    rw [show A1 2000 = A 2000 from hs]
    refine X_mono (fun r2 M2 hr2 => ?_) (hx (wJ J1 104 0 v.toInt64))
    obtain ⟨w, rfl, h3, hv, hJ, hR2⟩ := hr2
    obtain ⟨F2, A2, J2, G2⟩ := M2
    obtain ⟨p2, q2, hG2, _⟩ := id hR2
    have hj : J2 104 0 = v.toInt64 := by rw [show J2 104 = wJ J1 104 0 v.toInt64 104 from hJ, wJ_same]
    have hw : w = v := hv rfl
    subst hw
    exact k_312_465 hG2 ⟨fun _ => ⟨fun _ => ⟨fun _ => hK _ _ _ hR2, fun h => absurd hj h⟩, fun h => absurd rfl h⟩, fun h => absurd h3 h⟩
  · refine Or.inr (Or.inl ⟨rfl, k_312_447 hG1 ⟨i1, i2, ?_⟩⟩)
    rw [show A1 2000 = A 2000 from hs]
    refine X_mono (fun r2 M2 hr2 => ?_) (hx J1)
    obtain ⟨w, rfl, h3, hv, hJ, hR2⟩ := hr2
    obtain ⟨F2, A2, J2, G2⟩ := M2
    obtain ⟨p2, q2, hG2, _⟩ := id hR2
    exact k_312_465 hG2 ⟨fun _ => ⟨fun h => absurd h (by decide), fun _ => hK _ _ _ hR2⟩, fun h => absurd h3 h⟩
  · exact absurd rfl h0
theorem w_5 (hR : RS c SL xs (F, A, J, G)) (hc : c < 600) (hd : 60 ≤ d) (i1 : inB (x4 + 1) SL = true) (i2 : inB (x4 + 2) SL = true) (i3 : inB (x4 + 3) SL = true) (i4 : inB (x4 + 4) SL = true) (i5 : inB (x4 + 5) SL = true) (hK : ∀ v5 v6 M, RS (c + 1) SL xs M → X (d + 9) 312 1995 [.ref 2000, .ref 0, .ref 68, .ref 104, .int x4, v5, v6, .null] [] M Q) : X (d + 9) 312 498 [.ref 2000, .ref 0, .ref 68, .ref 104, .int x4, v5, v6, .null] [] (F, A, J, G) Q := by
  obtain ⟨K, n, cd, cl, m, tp, fp, im, B, B', p, q, hE⟩ := RS_en hR
  have hE : EN c SL xs F A G K n cd cl m tp fp im B B' p q := hE
  refine t_312_498 hE.1 ⟨i1, i2, h_293 (d := d + 7) hE.1 (X_mono (fun r M1 hr => ?_) (X_scr (k_scr hE.1) (o_5 (D' := d + 8) hE (by omega) (by omega))))⟩
  obtain ⟨⟨k, v, hk, ⟨p1, q1, hG1⟩, hx⟩, hs⟩ := hr
  obtain ⟨F1, A1, J1, G1⟩ := M1
  have hG1 : Geo G1 SL p1 q1 := hG1
  rcases hk with ⟨rfl, rfl⟩ | ⟨rfl, rfl⟩ | ⟨rfl, h0, rfl⟩
  · refine Or.inl ⟨v, F1, A1, J1, G1, rfl, rfl, k_104 hG1, l_104 hG1, k_312_515 hG1 ⟨i1, i2, ?_⟩⟩
    rw [show A1 2000 = A 2000 from hs]
    refine X_mono (fun r2 M2 hr2 => ?_) (hx (wJ J1 104 0 v.toInt64))
    obtain ⟨w, rfl, h3, hv, hJ, hR2⟩ := hr2
    obtain ⟨F2, A2, J2, G2⟩ := M2
    obtain ⟨p2, q2, hG2, _⟩ := id hR2
    have hj : J2 104 0 = v.toInt64 := by rw [show J2 104 = wJ J1 104 0 v.toInt64 104 from hJ, wJ_same]
    have hw : w = v := hv rfl
    subst hw
    exact k_312_533 hG2 ⟨fun _ => ⟨fun _ => ⟨fun _ => hK _ _ _ hR2, fun h => absurd hj h⟩, fun h => absurd rfl h⟩, fun h => absurd h3 h⟩
  · refine Or.inr (Or.inl ⟨rfl, k_312_515 hG1 ⟨i1, i2, ?_⟩⟩)
    rw [show A1 2000 = A 2000 from hs]
    refine X_mono (fun r2 M2 hr2 => ?_) (hx J1)
    obtain ⟨w, rfl, h3, hv, hJ, hR2⟩ := hr2
    obtain ⟨F2, A2, J2, G2⟩ := M2
    obtain ⟨p2, q2, hG2, _⟩ := id hR2
    exact k_312_533 hG2 ⟨fun _ => ⟨fun h => absurd h (by decide), fun _ => hK _ _ _ hR2⟩, fun h => absurd h3 h⟩
  · exact absurd rfl h0
theorem w_6 (hR : RS c SL xs (F, A, J, G)) (hc : c < 600) (hd : 60 ≤ d) (i1 : inB (x4 + 1) SL = true) (i2 : inB (x4 + 2) SL = true) (i3 : inB (x4 + 3) SL = true) (i4 : inB (x4 + 4) SL = true) (i5 : inB (x4 + 5) SL = true) (hK : ∀ v5 v6 M, RS (c + 1) SL xs M → X (d + 9) 312 1995 [.ref 2000, .ref 0, .ref 68, .ref 104, .int x4, v5, v6, .null] [] M Q) : X (d + 9) 312 566 [.ref 2000, .ref 0, .ref 68, .ref 104, .int x4, v5, v6, .null] [] (F, A, J, G) Q := by
  obtain ⟨K, n, cd, cl, m, tp, fp, im, B, B', p, q, hE⟩ := RS_en hR
  have hE : EN c SL xs F A G K n cd cl m tp fp im B B' p q := hE
  refine t_312_566 hE.1 (X_mono (fun r M1 hr => ?_) (X_scr (k_scr hE.1) (o_6 (D' := d + 8) hE (by omega) (by omega))))
  obtain ⟨⟨v, rfl, ⟨p1, q1, hG1⟩, hx⟩, hs⟩ := hr
  obtain ⟨F1, A1, J1, G1⟩ := M1
  refine k_312_570 hG1 (?_)
  refine X_mono (fun r2 M2 hr2 => ?_) hx
  obtain ⟨rfl, hR2⟩ := hr2
  obtain ⟨F2, A2, J2, G2⟩ := M2
  obtain ⟨p2, q2, hG2, _⟩ := id hR2
  exact k_312_574 hG2 ⟨fun _ => hK _ _ _ hR2, fun h => absurd rfl h⟩
theorem w_7 (hR : RS c SL xs (F, A, J, G)) (hc : c < 600) (hd : 60 ≤ d) (i1 : inB (x4 + 1) SL = true) (i2 : inB (x4 + 2) SL = true) (i3 : inB (x4 + 3) SL = true) (i4 : inB (x4 + 4) SL = true) (i5 : inB (x4 + 5) SL = true) (hK : ∀ v5 v6 M, RS (c + 1) SL xs M → X (d + 9) 312 1995 [.ref 2000, .ref 0, .ref 68, .ref 104, .int x4, v5, v6, .null] [] M Q) : X (d + 9) 312 579 [.ref 2000, .ref 0, .ref 68, .ref 104, .int x4, v5, v6, .null] [] (F, A, J, G) Q := by
  obtain ⟨K, n, cd, cl, m, tp, fp, im, B, B', p, q, hE⟩ := RS_en hR
  have hE : EN c SL xs F A G K n cd cl m tp fp im B B' p q := hE
  refine t_312_579 hE.1 ⟨i1, i2, h_294 (d := d + 7) hE.1 (X_mono (fun r M1 hr => ?_) (X_scr (k_scr hE.1) (o_7 (D' := d + 8) hE (by omega) (by omega))))⟩
  obtain ⟨⟨k, v, hk, ⟨p1, q1, hG1⟩, hx⟩, hs⟩ := hr
  obtain ⟨F1, A1, J1, G1⟩ := M1
  have hG1 : Geo G1 SL p1 q1 := hG1
  rcases hk with ⟨rfl, rfl⟩ | ⟨rfl, rfl⟩ | ⟨rfl, h0, rfl⟩
  · refine Or.inl ⟨v, F1, A1, J1, G1, rfl, rfl, k_104 hG1, l_104 hG1, k_312_596 hG1 ⟨i1, i2, ?_⟩⟩
    rw [show A1 2000 = A 2000 from hs]
    refine X_mono (fun r2 M2 hr2 => ?_) (hx (wJ J1 104 0 v.toInt64))
    obtain ⟨w, rfl, h3, hv, hJ, hR2⟩ := hr2
    obtain ⟨F2, A2, J2, G2⟩ := M2
    obtain ⟨p2, q2, hG2, _⟩ := id hR2
    have hj : J2 104 0 = v.toInt64 := by rw [show J2 104 = wJ J1 104 0 v.toInt64 104 from hJ, wJ_same]
    have hw : w = v := hv rfl
    subst hw
    exact k_312_614 hG2 ⟨fun _ => ⟨fun _ => ⟨fun _ => hK _ _ _ hR2, fun h => absurd hj h⟩, fun h => absurd rfl h⟩, fun h => absurd h3 h⟩
  · refine Or.inr (Or.inl ⟨rfl, k_312_596 hG1 ⟨i1, i2, ?_⟩⟩)
    rw [show A1 2000 = A 2000 from hs]
    refine X_mono (fun r2 M2 hr2 => ?_) (hx J1)
    obtain ⟨w, rfl, h3, hv, hJ, hR2⟩ := hr2
    obtain ⟨F2, A2, J2, G2⟩ := M2
    obtain ⟨p2, q2, hG2, _⟩ := id hR2
    exact k_312_614 hG2 ⟨fun _ => ⟨fun h => absurd h (by decide), fun _ => hK _ _ _ hR2⟩, fun h => absurd h3 h⟩
  · exact absurd rfl h0
theorem w_8 (hR : RS c SL xs (F, A, J, G)) (hc : c < 600) (hd : 60 ≤ d) (i1 : inB (x4 + 1) SL = true) (i2 : inB (x4 + 2) SL = true) (i3 : inB (x4 + 3) SL = true) (i4 : inB (x4 + 4) SL = true) (i5 : inB (x4 + 5) SL = true) (hK : ∀ v5 v6 M, RS (c + 1) SL xs M → X (d + 9) 312 1995 [.ref 2000, .ref 0, .ref 68, .ref 104, .int x4, v5, v6, .null] [] M Q) : X (d + 9) 312 647 [.ref 2000, .ref 0, .ref 68, .ref 104, .int x4, v5, v6, .null] [] (F, A, J, G) Q := by
  obtain ⟨K, n, cd, cl, m, tp, fp, im, B, B', p, q, hE⟩ := RS_en hR
  have hE : EN c SL xs F A G K n cd cl m tp fp im B B' p q := hE
  refine t_312_647 hE.1 ⟨i1, h_295 (d := d + 7) hE.1 (X_mono (fun r M1 hr => ?_) (X_scr (k_scr hE.1) (o_8 (D' := d + 8) hE (by omega) (by omega))))⟩
  obtain ⟨⟨k, v, hk, ⟨p1, q1, hG1⟩, hx⟩, hs⟩ := hr
  obtain ⟨F1, A1, J1, G1⟩ := M1
  have hG1 : Geo G1 SL p1 q1 := hG1
  rcases hk with ⟨rfl, rfl⟩ | ⟨rfl, rfl⟩ | ⟨rfl, h0, rfl⟩
  · refine Or.inl ⟨v, F1, A1, J1, G1, rfl, rfl, k_104 hG1, l_104 hG1, k_312_658 hG1 ⟨i1, ?_⟩⟩
    rw [show A1 2000 = A 2000 from hs]
    refine X_mono (fun r2 M2 hr2 => ?_) (hx (wJ J1 104 0 v.toInt64))
    obtain ⟨w, rfl, h3, hv, hJ, hR2⟩ := hr2
    obtain ⟨F2, A2, J2, G2⟩ := M2
    obtain ⟨p2, q2, hG2, _⟩ := id hR2
    have hj : J2 104 0 = v.toInt64 := by rw [show J2 104 = wJ J1 104 0 v.toInt64 104 from hJ, wJ_same]
    have hw : w = v := hv rfl
    subst hw
    exact k_312_670 hG2 ⟨fun _ => ⟨fun _ => ⟨fun _ => hK _ _ _ hR2, fun h => absurd hj h⟩, fun h => absurd rfl h⟩, fun h => absurd h3 h⟩
  · refine Or.inr (Or.inl ⟨rfl, k_312_658 hG1 ⟨i1, ?_⟩⟩)
    rw [show A1 2000 = A 2000 from hs]
    refine X_mono (fun r2 M2 hr2 => ?_) (hx J1)
    obtain ⟨w, rfl, h3, hv, hJ, hR2⟩ := hr2
    obtain ⟨F2, A2, J2, G2⟩ := M2
    obtain ⟨p2, q2, hG2, _⟩ := id hR2
    exact k_312_670 hG2 ⟨fun _ => ⟨fun h => absurd h (by decide), fun _ => hK _ _ _ hR2⟩, fun h => absurd h3 h⟩
  · exact absurd rfl h0
theorem w_9 (hR : RS c SL xs (F, A, J, G)) (hc : c < 600) (hd : 60 ≤ d) (i1 : inB (x4 + 1) SL = true) (i2 : inB (x4 + 2) SL = true) (i3 : inB (x4 + 3) SL = true) (i4 : inB (x4 + 4) SL = true) (i5 : inB (x4 + 5) SL = true) (hK : ∀ v5 v6 M, RS (c + 1) SL xs M → X (d + 9) 312 1995 [.ref 2000, .ref 0, .ref 68, .ref 104, .int x4, v5, v6, .null] [] M Q) : X (d + 9) 312 703 [.ref 2000, .ref 0, .ref 68, .ref 104, .int x4, v5, v6, .null] [] (F, A, J, G) Q := by
  obtain ⟨K, n, cd, cl, m, tp, fp, im, B, B', p, q, hE⟩ := RS_en hR
  have hE : EN c SL xs F A G K n cd cl m tp fp im B B' p q := hE
  refine t_312_703 hE.1 ⟨i1, i2, h_296 (d := d + 7) hE.1 (X_mono (fun r M1 hr => ?_) (X_scr (k_scr hE.1) (o_9 (D' := d + 8) hE (by omega) (by omega))))⟩
  obtain ⟨⟨k, v, hk, ⟨p1, q1, hG1⟩, hx⟩, hs⟩ := hr
  obtain ⟨F1, A1, J1, G1⟩ := M1
  have hG1 : Geo G1 SL p1 q1 := hG1
  rcases hk with ⟨rfl, rfl⟩ | ⟨rfl, rfl⟩ | ⟨rfl, h0, rfl⟩
  · refine Or.inl ⟨v, F1, A1, J1, G1, rfl, rfl, k_104 hG1, l_104 hG1, k_312_720 hG1 ⟨i1, i2, ?_⟩⟩
    rw [show A1 2000 = A 2000 from hs]
    refine X_mono (fun r2 M2 hr2 => ?_) (hx (wJ J1 104 0 (if v = 0 then 0 else 1)))
    obtain ⟨w, rfl, h3, hv, hJ, hR2⟩ := hr2
    obtain ⟨F2, A2, J2, G2⟩ := M2
    obtain ⟨p2, q2, hG2, _⟩ := id hR2
    have hj : J2 104 0 = (if v = 0 then 0 else 1) := by rw [show J2 104 = wJ J1 104 0 (if v = 0 then 0 else 1) 104 from hJ, wJ_same]
    have hw : w = v := hv rfl
    subst hw
    exact k_312_738 hG2 ⟨fun _ => ⟨fun _ => ⟨fun hr0 => ⟨fun _ => hK _ _ _ hR2, fun h => absurd (by rw [hj, if_pos hr0]) h⟩, fun hr0 => ⟨fun _ => hK _ _ _ hR2, fun h => absurd (by rw [hj, if_neg hr0]) h⟩⟩, fun h => absurd rfl h⟩, fun h => absurd h3 h⟩
  · refine Or.inr (Or.inl ⟨rfl, k_312_720 hG1 ⟨i1, i2, ?_⟩⟩)
    rw [show A1 2000 = A 2000 from hs]
    refine X_mono (fun r2 M2 hr2 => ?_) (hx J1)
    obtain ⟨w, rfl, h3, hv, hJ, hR2⟩ := hr2
    obtain ⟨F2, A2, J2, G2⟩ := M2
    obtain ⟨p2, q2, hG2, _⟩ := id hR2
    exact k_312_738 hG2 ⟨fun _ => ⟨fun h => absurd h (by decide), fun _ => hK _ _ _ hR2⟩, fun h => absurd h3 h⟩
  · exact absurd rfl h0
theorem w_10 (hR : RS c SL xs (F, A, J, G)) (hc : c < 600) (hd : 60 ≤ d) (i1 : inB (x4 + 1) SL = true) (i2 : inB (x4 + 2) SL = true) (i3 : inB (x4 + 3) SL = true) (i4 : inB (x4 + 4) SL = true) (i5 : inB (x4 + 5) SL = true) (hK : ∀ v5 v6 M, RS (c + 1) SL xs M → X (d + 9) 312 1995 [.ref 2000, .ref 0, .ref 68, .ref 104, .int x4, v5, v6, .null] [] M Q) : X (d + 9) 312 778 [.ref 2000, .ref 0, .ref 68, .ref 104, .int x4, v5, v6, .null] [] (F, A, J, G) Q := by
  obtain ⟨K, n, cd, cl, m, tp, fp, im, B, B', p, q, hE⟩ := RS_en hR
  have hE : EN c SL xs F A G K n cd cl m tp fp im B B' p q := hE
  refine t_312_778 hE.1 ⟨i1, i2, h_297 (d := d + 7) hE.1 (X_mono (fun r M1 hr => ?_) (X_scr (k_scr hE.1) (o_10 (D' := d + 8) hE (by omega) (by omega))))⟩
  obtain ⟨⟨k, v, hk, ⟨p1, q1, hG1⟩, hx⟩, hs⟩ := hr
  obtain ⟨F1, A1, J1, G1⟩ := M1
  have hG1 : Geo G1 SL p1 q1 := hG1
  rcases hk with ⟨rfl, rfl⟩ | ⟨rfl, rfl⟩ | ⟨rfl, h0, rfl⟩
  · refine Or.inl ⟨v, F1, A1, J1, G1, rfl, rfl, k_104 hG1, l_104 hG1, k_312_795 hG1 ⟨i1, i2, ?_⟩⟩
    rw [show A1 2000 = A 2000 from hs]
    refine X_mono (fun r2 M2 hr2 => ?_) (hx (wJ J1 104 0 v.toInt64))
    obtain ⟨w, rfl, h3, hv, hJ, hR2⟩ := hr2
    obtain ⟨F2, A2, J2, G2⟩ := M2
    obtain ⟨p2, q2, hG2, _⟩ := id hR2
    have hj : J2 104 0 = v.toInt64 := by rw [show J2 104 = wJ J1 104 0 v.toInt64 104 from hJ, wJ_same]
    have hw : w = v := hv rfl
    subst hw
    exact k_312_813 hG2 ⟨fun _ => ⟨fun _ => ⟨fun _ => hK _ _ _ hR2, fun h => absurd hj h⟩, fun h => absurd rfl h⟩, fun h => absurd h3 h⟩
  · refine Or.inr (Or.inl ⟨rfl, k_312_795 hG1 ⟨i1, i2, ?_⟩⟩)
    rw [show A1 2000 = A 2000 from hs]
    refine X_mono (fun r2 M2 hr2 => ?_) (hx J1)
    obtain ⟨w, rfl, h3, hv, hJ, hR2⟩ := hr2
    obtain ⟨F2, A2, J2, G2⟩ := M2
    obtain ⟨p2, q2, hG2, _⟩ := id hR2
    exact k_312_813 hG2 ⟨fun _ => ⟨fun h => absurd h (by decide), fun _ => hK _ _ _ hR2⟩, fun h => absurd h3 h⟩
  · exact absurd rfl h0
theorem w_11 (hR : RS c SL xs (F, A, J, G)) (hc : c < 600) (hd : 60 ≤ d) (i1 : inB (x4 + 1) SL = true) (i2 : inB (x4 + 2) SL = true) (i3 : inB (x4 + 3) SL = true) (i4 : inB (x4 + 4) SL = true) (i5 : inB (x4 + 5) SL = true) (hK : ∀ v5 v6 M, RS (c + 1) SL xs M → X (d + 9) 312 1995 [.ref 2000, .ref 0, .ref 68, .ref 104, .int x4, v5, v6, .null] [] M Q) : X (d + 9) 312 846 [.ref 2000, .ref 0, .ref 68, .ref 104, .int x4, v5, v6, .null] [] (F, A, J, G) Q := by
  obtain ⟨K, n, cd, cl, m, tp, fp, im, B, B', p, q, hE⟩ := RS_en hR
  have hE : EN c SL xs F A G K n cd cl m tp fp im B B' p q := hE
  refine t_312_846 hE.1 ⟨i1, i2, h_298 (d := d + 7) hE.1 (X_mono (fun r M1 hr => ?_) (X_scr (k_scr hE.1) (o_11 (D' := d + 8) hE (by omega) (by omega))))⟩
  obtain ⟨⟨k, v, hk, ⟨p1, q1, hG1⟩, hx⟩, hs⟩ := hr
  obtain ⟨F1, A1, J1, G1⟩ := M1
  have hG1 : Geo G1 SL p1 q1 := hG1
  rcases hk with ⟨rfl, rfl⟩ | ⟨rfl, rfl⟩ | ⟨rfl, h0, rfl⟩
  · refine Or.inl ⟨v, F1, A1, J1, G1, rfl, rfl, k_104 hG1, l_104 hG1, k_312_863 hG1 ⟨i1, i2, ?_⟩⟩
    rw [show A1 2000 = A 2000 from hs]
    refine X_mono (fun r2 M2 hr2 => ?_) (hx (wJ J1 104 0 v.toInt64))
    obtain ⟨w, rfl, h3, hv, hJ, hR2⟩ := hr2
    obtain ⟨F2, A2, J2, G2⟩ := M2
    obtain ⟨p2, q2, hG2, _⟩ := id hR2
    have hj : J2 104 0 = v.toInt64 := by rw [show J2 104 = wJ J1 104 0 v.toInt64 104 from hJ, wJ_same]
    have hw : w = v := hv rfl
    subst hw
    exact k_312_881 hG2 ⟨fun _ => ⟨fun _ => ⟨fun _ => hK _ _ _ hR2, fun h => absurd hj h⟩, fun h => absurd rfl h⟩, fun h => absurd h3 h⟩
  · refine Or.inr (Or.inl ⟨rfl, k_312_863 hG1 ⟨i1, i2, ?_⟩⟩)
    rw [show A1 2000 = A 2000 from hs]
    refine X_mono (fun r2 M2 hr2 => ?_) (hx J1)
    obtain ⟨w, rfl, h3, hv, hJ, hR2⟩ := hr2
    obtain ⟨F2, A2, J2, G2⟩ := M2
    obtain ⟨p2, q2, hG2, _⟩ := id hR2
    exact k_312_881 hG2 ⟨fun _ => ⟨fun h => absurd h (by decide), fun _ => hK _ _ _ hR2⟩, fun h => absurd h3 h⟩
  · exact absurd rfl h0
theorem w_12 (hR : RS c SL xs (F, A, J, G)) (hc : c < 600) (hd : 60 ≤ d) (i1 : inB (x4 + 1) SL = true) (i2 : inB (x4 + 2) SL = true) (i3 : inB (x4 + 3) SL = true) (i4 : inB (x4 + 4) SL = true) (i5 : inB (x4 + 5) SL = true) (hK : ∀ v5 v6 M, RS (c + 1) SL xs M → X (d + 9) 312 1995 [.ref 2000, .ref 0, .ref 68, .ref 104, .int x4, v5, v6, .null] [] M Q) : X (d + 9) 312 914 [.ref 2000, .ref 0, .ref 68, .ref 104, .int x4, v5, v6, .null] [] (F, A, J, G) Q := by
  obtain ⟨K, n, cd, cl, m, tp, fp, im, B, B', p, q, hE⟩ := RS_en hR
  have hE : EN c SL xs F A G K n cd cl m tp fp im B B' p q := hE
  refine t_312_914 hE.1 (X_mono (fun r M1 hr => ?_) (X_scr (k_scr hE.1) (o_12 (D' := d + 8) hE (by omega) (by omega))))
  obtain ⟨⟨v, rfl, ⟨p1, q1, hG1⟩, hx⟩, hs⟩ := hr
  obtain ⟨F1, A1, J1, G1⟩ := M1
  refine k_312_918 hG1 (?_)
  refine X_mono (fun r2 M2 hr2 => ?_) hx
  obtain ⟨rfl, hR2⟩ := hr2
  obtain ⟨F2, A2, J2, G2⟩ := M2
  obtain ⟨p2, q2, hG2, _⟩ := id hR2
  exact k_312_922 hG2 ⟨fun _ => hK _ _ _ hR2, fun h => absurd rfl h⟩
theorem w_13 (hR : RS c SL xs (F, A, J, G)) (hc : c < 600) (hd : 60 ≤ d) (i1 : inB (x4 + 1) SL = true) (i2 : inB (x4 + 2) SL = true) (i3 : inB (x4 + 3) SL = true) (i4 : inB (x4 + 4) SL = true) (i5 : inB (x4 + 5) SL = true) (hK : ∀ v5 v6 M, RS (c + 1) SL xs M → X (d + 9) 312 1995 [.ref 2000, .ref 0, .ref 68, .ref 104, .int x4, v5, v6, .null] [] M Q) : X (d + 9) 312 927 [.ref 2000, .ref 0, .ref 68, .ref 104, .int x4, v5, v6, .null] [] (F, A, J, G) Q := by
  obtain ⟨K, n, cd, cl, m, tp, fp, im, B, B', p, q, hE⟩ := RS_en hR
  have hE : EN c SL xs F A G K n cd cl m tp fp im B B' p q := hE
  refine t_312_927 hE.1 ⟨i1, X_mono (fun r M1 hr => ?_) (X_scr (k_scr hE.1) (o_13 (D' := d + 8) hE (by omega) (by omega)))⟩
  obtain ⟨⟨v, rfl, ⟨p1, q1, hG1⟩, hx⟩, hs⟩ := hr
  obtain ⟨F1, A1, J1, G1⟩ := M1
  refine k_312_937 hG1 ⟨i1, ?_⟩
  rw [show A1 2000 = A 2000 from hs]
  refine X_mono (fun r2 M2 hr2 => ?_) hx
  obtain ⟨rfl, hR2⟩ := hr2
  obtain ⟨F2, A2, J2, G2⟩ := M2
  obtain ⟨p2, q2, hG2, _⟩ := id hR2
  exact k_312_947 hG2 ⟨fun _ => hK _ _ _ hR2, fun h => absurd rfl h⟩
theorem w_14 (hR : RS c SL xs (F, A, J, G)) (hc : c < 600) (hd : 60 ≤ d) (i1 : inB (x4 + 1) SL = true) (i2 : inB (x4 + 2) SL = true) (i3 : inB (x4 + 3) SL = true) (i4 : inB (x4 + 4) SL = true) (i5 : inB (x4 + 5) SL = true) (hK : ∀ v5 v6 M, RS (c + 1) SL xs M → X (d + 9) 312 1995 [.ref 2000, .ref 0, .ref 68, .ref 104, .int x4, v5, v6, .null] [] M Q) : X (d + 9) 312 952 [.ref 2000, .ref 0, .ref 68, .ref 104, .int x4, v5, v6, .null] [] (F, A, J, G) Q := by
  obtain ⟨K, n, cd, cl, m, tp, fp, im, B, B', p, q, hE⟩ := RS_en hR
  have hE : EN c SL xs F A G K n cd cl m tp fp im B B' p q := hE
  refine t_312_952 hE.1 (X_mono (fun r M1 hr => ?_) (X_scr (k_scr hE.1) (o_14 (D' := d + 8) hE (by omega) (by omega))))
  obtain ⟨⟨v, rfl, ⟨p1, q1, hG1⟩, hx⟩, hs⟩ := hr
  obtain ⟨F1, A1, J1, G1⟩ := M1
  refine k_312_956 hG1 (?_)
  refine X_mono (fun r2 M2 hr2 => ?_) hx
  obtain ⟨rfl, hR2⟩ := hr2
  obtain ⟨F2, A2, J2, G2⟩ := M2
  obtain ⟨p2, q2, hG2, _⟩ := id hR2
  exact k_312_960 hG2 ⟨fun _ => hK _ _ _ hR2, fun h => absurd rfl h⟩
theorem w_15 (hR : RS c SL xs (F, A, J, G)) (hc : c < 600) (hd : 60 ≤ d) (i1 : inB (x4 + 1) SL = true) (i2 : inB (x4 + 2) SL = true) (i3 : inB (x4 + 3) SL = true) (i4 : inB (x4 + 4) SL = true) (i5 : inB (x4 + 5) SL = true) (hK : ∀ v5 v6 M, RS (c + 1) SL xs M → X (d + 9) 312 1995 [.ref 2000, .ref 0, .ref 68, .ref 104, .int x4, v5, v6, .null] [] M Q) : X (d + 9) 312 965 [.ref 2000, .ref 0, .ref 68, .ref 104, .int x4, v5, v6, .null] [] (F, A, J, G) Q := by
  obtain ⟨K, n, cd, cl, m, tp, fp, im, B, B', p, q, hE⟩ := RS_en hR
  have hE : EN c SL xs F A G K n cd cl m tp fp im B B' p q := hE
  refine t_312_965 hE.1 (X_mono (fun r M1 hr => ?_) (X_scr (k_scr hE.1) (o_15 (D' := d + 8) hE (by omega) (by omega))))
  obtain ⟨⟨v, rfl, ⟨p1, q1, hG1⟩, hx⟩, hs⟩ := hr
  obtain ⟨F1, A1, J1, G1⟩ := M1
  refine k_312_969 hG1 (?_)
  refine X_mono (fun r2 M2 hr2 => ?_) hx
  obtain ⟨rfl, hR2⟩ := hr2
  obtain ⟨F2, A2, J2, G2⟩ := M2
  obtain ⟨p2, q2, hG2, _⟩ := id hR2
  exact k_312_973 hG2 ⟨fun _ => hK _ _ _ hR2, fun h => absurd rfl h⟩
theorem w_16 (hR : RS c SL xs (F, A, J, G)) (hc : c < 600) (hd : 60 ≤ d) (i1 : inB (x4 + 1) SL = true) (i2 : inB (x4 + 2) SL = true) (i3 : inB (x4 + 3) SL = true) (i4 : inB (x4 + 4) SL = true) (i5 : inB (x4 + 5) SL = true) (hK : ∀ v5 v6 M, RS (c + 1) SL xs M → X (d + 9) 312 1995 [.ref 2000, .ref 0, .ref 68, .ref 104, .int x4, v5, v6, .null] [] M Q) : X (d + 9) 312 978 [.ref 2000, .ref 0, .ref 68, .ref 104, .int x4, v5, v6, .null] [] (F, A, J, G) Q := by
  obtain ⟨K, n, cd, cl, m, tp, fp, im, B, B', p, q, hE⟩ := RS_en hR
  have hE : EN c SL xs F A G K n cd cl m tp fp im B B' p q := hE
  refine t_312_978 hE.1 ⟨i1, h_299 (d := d + 7) hE.1 (X_mono (fun r M1 hr => ?_) (X_scr (k_scr hE.1) (o_16 (D' := d + 8) hE (by omega) (by omega))))⟩
  obtain ⟨⟨k, v, hk, ⟨p1, q1, hG1⟩, hx⟩, hs⟩ := hr
  obtain ⟨F1, A1, J1, G1⟩ := M1
  have hG1 : Geo G1 SL p1 q1 := hG1
  rcases hk with ⟨rfl, rfl⟩ | ⟨rfl, rfl⟩ | ⟨rfl, h0, rfl⟩
  · refine Or.inl ⟨v, F1, A1, J1, G1, rfl, rfl, k_104 hG1, l_104 hG1, k_312_989 hG1 ⟨i1, ?_⟩⟩
    rw [show A1 2000 = A 2000 from hs]
    refine X_mono (fun r2 M2 hr2 => ?_) (hx (wJ J1 104 0 (if v = 0 then 0 else 1)))
    obtain ⟨w, rfl, h3, hv, hJ, hR2⟩ := hr2
    obtain ⟨F2, A2, J2, G2⟩ := M2
    obtain ⟨p2, q2, hG2, _⟩ := id hR2
    have hj : J2 104 0 = (if v = 0 then 0 else 1) := by rw [show J2 104 = wJ J1 104 0 (if v = 0 then 0 else 1) 104 from hJ, wJ_same]
    have hw : w = v := hv rfl
    subst hw
    exact k_312_1001 hG2 ⟨fun _ => ⟨fun _ => ⟨fun hr0 => ⟨fun _ => hK _ _ _ hR2, fun h => absurd (by rw [hj, if_pos hr0]) h⟩, fun hr0 => ⟨fun _ => hK _ _ _ hR2, fun h => absurd (by rw [hj, if_neg hr0]) h⟩⟩, fun h => absurd rfl h⟩, fun h => absurd h3 h⟩
  · refine Or.inr (Or.inl ⟨rfl, k_312_989 hG1 ⟨i1, ?_⟩⟩)
    rw [show A1 2000 = A 2000 from hs]
    refine X_mono (fun r2 M2 hr2 => ?_) (hx J1)
    obtain ⟨w, rfl, h3, hv, hJ, hR2⟩ := hr2
    obtain ⟨F2, A2, J2, G2⟩ := M2
    obtain ⟨p2, q2, hG2, _⟩ := id hR2
    exact k_312_1001 hG2 ⟨fun _ => ⟨fun h => absurd h (by decide), fun _ => hK _ _ _ hR2⟩, fun h => absurd h3 h⟩
  · exact absurd rfl h0
theorem w_17 (hR : RS c SL xs (F, A, J, G)) (hc : c < 600) (hd : 60 ≤ d) (i1 : inB (x4 + 1) SL = true) (i2 : inB (x4 + 2) SL = true) (i3 : inB (x4 + 3) SL = true) (i4 : inB (x4 + 4) SL = true) (i5 : inB (x4 + 5) SL = true) (hK : ∀ v5 v6 M, RS (c + 1) SL xs M → X (d + 9) 312 1995 [.ref 2000, .ref 0, .ref 68, .ref 104, .int x4, v5, v6, .null] [] M Q) : X (d + 9) 312 1041 [.ref 2000, .ref 0, .ref 68, .ref 104, .int x4, v5, v6, .null] [] (F, A, J, G) Q := by
  obtain ⟨K, n, cd, cl, m, tp, fp, im, B, B', p, q, hE⟩ := RS_en hR
  have hE : EN c SL xs F A G K n cd cl m tp fp im B B' p q := hE
  refine t_312_1041 hE.1 ⟨i1, h_300 (d := d + 7) hE.1 (X_mono (fun r M1 hr => ?_) (X_scr (k_scr hE.1) (o_17 (D' := d + 8) hE (by omega) (by omega))))⟩
  obtain ⟨⟨k, v, hk, ⟨p1, q1, hG1⟩, hx⟩, hs⟩ := hr
  obtain ⟨F1, A1, J1, G1⟩ := M1
  have hG1 : Geo G1 SL p1 q1 := hG1
  rcases hk with ⟨rfl, rfl⟩ | ⟨rfl, rfl⟩ | ⟨rfl, h0, rfl⟩
  · refine Or.inl ⟨v, F1, A1, J1, G1, rfl, rfl, k_104 hG1, l_104 hG1, k_312_1052 hG1 ⟨i1, ?_⟩⟩
    rw [show A1 2000 = A 2000 from hs]
    refine X_mono (fun r2 M2 hr2 => ?_) (hx (wJ J1 104 0 v.toInt64))
    obtain ⟨w, rfl, h3, hv, hJ, hR2⟩ := hr2
    obtain ⟨F2, A2, J2, G2⟩ := M2
    obtain ⟨p2, q2, hG2, _⟩ := id hR2
    have hj : J2 104 0 = v.toInt64 := by rw [show J2 104 = wJ J1 104 0 v.toInt64 104 from hJ, wJ_same]
    have hw : w = v := hv rfl
    subst hw
    exact k_312_1064 hG2 ⟨fun _ => ⟨fun _ => ⟨fun _ => hK _ _ _ hR2, fun h => absurd hj h⟩, fun h => absurd rfl h⟩, fun h => absurd h3 h⟩
  · refine Or.inr (Or.inl ⟨rfl, k_312_1052 hG1 ⟨i1, ?_⟩⟩)
    rw [show A1 2000 = A 2000 from hs]
    refine X_mono (fun r2 M2 hr2 => ?_) (hx J1)
    obtain ⟨w, rfl, h3, hv, hJ, hR2⟩ := hr2
    obtain ⟨F2, A2, J2, G2⟩ := M2
    obtain ⟨p2, q2, hG2, _⟩ := id hR2
    exact k_312_1064 hG2 ⟨fun _ => ⟨fun h => absurd h (by decide), fun _ => hK _ _ _ hR2⟩, fun h => absurd h3 h⟩
  · exact absurd rfl h0
theorem w_18 (hR : RS c SL xs (F, A, J, G)) (hc : c < 600) (hd : 60 ≤ d) (i1 : inB (x4 + 1) SL = true) (i2 : inB (x4 + 2) SL = true) (i3 : inB (x4 + 3) SL = true) (i4 : inB (x4 + 4) SL = true) (i5 : inB (x4 + 5) SL = true) (hK : ∀ v5 v6 M, RS (c + 1) SL xs M → X (d + 9) 312 1995 [.ref 2000, .ref 0, .ref 68, .ref 104, .int x4, v5, v6, .null] [] M Q) : X (d + 9) 312 1097 [.ref 2000, .ref 0, .ref 68, .ref 104, .int x4, v5, v6, .null] [] (F, A, J, G) Q := by
  obtain ⟨K, n, cd, cl, m, tp, fp, im, B, B', p, q, hE⟩ := RS_en hR
  have hE : EN c SL xs F A G K n cd cl m tp fp im B B' p q := hE
  refine t_312_1097 hE.1 ⟨i1, h_301 (d := d + 7) hE.1 (X_mono (fun r M1 hr => ?_) (X_scr (k_scr hE.1) (o_18 (D' := d + 8) hE (by omega) (by omega))))⟩
  obtain ⟨⟨k, v, hk, ⟨p1, q1, hG1⟩, hx⟩, hs⟩ := hr
  obtain ⟨F1, A1, J1, G1⟩ := M1
  have hG1 : Geo G1 SL p1 q1 := hG1
  rcases hk with ⟨rfl, rfl⟩ | ⟨rfl, rfl⟩ | ⟨rfl, h0, rfl⟩
  · refine Or.inl ⟨v, F1, A1, J1, G1, rfl, rfl, k_104 hG1, l_104 hG1, k_312_1108 hG1 ⟨i1, ?_⟩⟩
    rw [show A1 2000 = A 2000 from hs]
    refine X_mono (fun r2 M2 hr2 => ?_) (hx (wJ J1 104 0 v.toInt64))
    obtain ⟨w, rfl, h3, hv, hJ, hR2⟩ := hr2
    obtain ⟨F2, A2, J2, G2⟩ := M2
    obtain ⟨p2, q2, hG2, _⟩ := id hR2
    have hj : J2 104 0 = v.toInt64 := by rw [show J2 104 = wJ J1 104 0 v.toInt64 104 from hJ, wJ_same]
    have hw : w = v := hv rfl
    subst hw
    exact k_312_1120 hG2 ⟨fun _ => ⟨fun _ => ⟨fun _ => hK _ _ _ hR2, fun h => absurd hj h⟩, fun h => absurd rfl h⟩, fun h => absurd h3 h⟩
  · refine Or.inr (Or.inl ⟨rfl, k_312_1108 hG1 ⟨i1, ?_⟩⟩)
    rw [show A1 2000 = A 2000 from hs]
    refine X_mono (fun r2 M2 hr2 => ?_) (hx J1)
    obtain ⟨w, rfl, h3, hv, hJ, hR2⟩ := hr2
    obtain ⟨F2, A2, J2, G2⟩ := M2
    obtain ⟨p2, q2, hG2, _⟩ := id hR2
    exact k_312_1120 hG2 ⟨fun _ => ⟨fun h => absurd h (by decide), fun _ => hK _ _ _ hR2⟩, fun h => absurd h3 h⟩
  · exact absurd rfl h0
theorem w_19 (hR : RS c SL xs (F, A, J, G)) (hc : c < 600) (hd : 60 ≤ d) (i1 : inB (x4 + 1) SL = true) (i2 : inB (x4 + 2) SL = true) (i3 : inB (x4 + 3) SL = true) (i4 : inB (x4 + 4) SL = true) (i5 : inB (x4 + 5) SL = true) (hK : ∀ v5 v6 M, RS (c + 1) SL xs M → X (d + 9) 312 1995 [.ref 2000, .ref 0, .ref 68, .ref 104, .int x4, v5, v6, .null] [] M Q) : X (d + 9) 312 1153 [.ref 2000, .ref 0, .ref 68, .ref 104, .int x4, v5, v6, .null] [] (F, A, J, G) Q := by
  obtain ⟨K, n, cd, cl, m, tp, fp, im, B, B', p, q, hE⟩ := RS_en hR
  have hE : EN c SL xs F A G K n cd cl m tp fp im B B' p q := hE
  refine t_312_1153 hE.1 (X_mono (fun r M1 hr => ?_) (X_scr (k_scr hE.1) (o_19 (D' := d + 8) hE (by omega) (by omega))))
  obtain ⟨⟨v, rfl, ⟨p1, q1, hG1⟩, hx⟩, hs⟩ := hr
  obtain ⟨F1, A1, J1, G1⟩ := M1
  refine k_312_1157 hG1 (?_)
  refine X_mono (fun r2 M2 hr2 => ?_) hx
  obtain ⟨rfl, hR2⟩ := hr2
  obtain ⟨F2, A2, J2, G2⟩ := M2
  obtain ⟨p2, q2, hG2, _⟩ := id hR2
  exact k_312_1161 hG2 ⟨fun _ => hK _ _ _ hR2, fun h => absurd rfl h⟩
theorem w_20 (hR : RS c SL xs (F, A, J, G)) (hc : c < 600) (hd : 60 ≤ d) (i1 : inB (x4 + 1) SL = true) (i2 : inB (x4 + 2) SL = true) (i3 : inB (x4 + 3) SL = true) (i4 : inB (x4 + 4) SL = true) (i5 : inB (x4 + 5) SL = true) (hK : ∀ v5 v6 M, RS (c + 1) SL xs M → X (d + 9) 312 1995 [.ref 2000, .ref 0, .ref 68, .ref 104, .int x4, v5, v6, .null] [] M Q) : X (d + 9) 312 1167 [.ref 2000, .ref 0, .ref 68, .ref 104, .int x4, v5, v6, .null] [] (F, A, J, G) Q := by
  obtain ⟨K, n, cd, cl, m, tp, fp, im, B, B', p, q, hE⟩ := RS_en hR
  have hE : EN c SL xs F A G K n cd cl m tp fp im B B' p q := hE
  refine t_312_1167 hE.1 (X_mono (fun r M1 hr => ?_) (X_scr (k_scr hE.1) (o_20 (D' := d + 8) hE (by omega) (by omega))))
  obtain ⟨⟨v, rfl, ⟨p1, q1, hG1⟩, hx⟩, hs⟩ := hr
  obtain ⟨F1, A1, J1, G1⟩ := M1
  refine k_312_1171 hG1 (?_)
  refine X_mono (fun r2 M2 hr2 => ?_) hx
  obtain ⟨rfl, hR2⟩ := hr2
  obtain ⟨F2, A2, J2, G2⟩ := M2
  obtain ⟨p2, q2, hG2, _⟩ := id hR2
  exact k_312_1175 hG2 ⟨fun _ => hK _ _ _ hR2, fun h => absurd rfl h⟩
theorem w_21 (hR : RS c SL xs (F, A, J, G)) (hc : c < 600) (hd : 60 ≤ d) (i1 : inB (x4 + 1) SL = true) (i2 : inB (x4 + 2) SL = true) (i3 : inB (x4 + 3) SL = true) (i4 : inB (x4 + 4) SL = true) (i5 : inB (x4 + 5) SL = true) (hK : ∀ v5 v6 M, RS (c + 1) SL xs M → X (d + 9) 312 1995 [.ref 2000, .ref 0, .ref 68, .ref 104, .int x4, v5, v6, .null] [] M Q) : X (d + 9) 312 1180 [.ref 2000, .ref 0, .ref 68, .ref 104, .int x4, v5, v6, .null] [] (F, A, J, G) Q := by
  obtain ⟨K, n, cd, cl, m, tp, fp, im, B, B', p, q, hE⟩ := RS_en hR
  have hE : EN c SL xs F A G K n cd cl m tp fp im B B' p q := hE
  refine t_312_1180 hE.1 (X_mono (fun r M1 hr => ?_) (X_scr (k_scr hE.1) (o_21 (D' := d + 8) hE (by omega) (by omega))))
  obtain ⟨⟨v, rfl, ⟨p1, q1, hG1⟩, hx⟩, hs⟩ := hr
  obtain ⟨F1, A1, J1, G1⟩ := M1
  refine k_312_1184 hG1 (?_)
  refine X_mono (fun r2 M2 hr2 => ?_) hx
  obtain ⟨rfl, hR2⟩ := hr2
  obtain ⟨F2, A2, J2, G2⟩ := M2
  obtain ⟨p2, q2, hG2, _⟩ := id hR2
  exact k_312_1188 hG2 ⟨fun _ => hK _ _ _ hR2, fun h => absurd rfl h⟩
theorem w_22 (hR : RS c SL xs (F, A, J, G)) (hc : c < 600) (hd : 60 ≤ d) (i1 : inB (x4 + 1) SL = true) (i2 : inB (x4 + 2) SL = true) (i3 : inB (x4 + 3) SL = true) (i4 : inB (x4 + 4) SL = true) (i5 : inB (x4 + 5) SL = true) (hK : ∀ v5 v6 M, RS (c + 1) SL xs M → X (d + 9) 312 1995 [.ref 2000, .ref 0, .ref 68, .ref 104, .int x4, v5, v6, .null] [] M Q) : X (d + 9) 312 1193 [.ref 2000, .ref 0, .ref 68, .ref 104, .int x4, v5, v6, .null] [] (F, A, J, G) Q := by
  obtain ⟨K, n, cd, cl, m, tp, fp, im, B, B', p, q, hE⟩ := RS_en hR
  have hE : EN c SL xs F A G K n cd cl m tp fp im B B' p q := hE
  refine t_312_1193 hE.1 (X_mono (fun r M1 hr => ?_) (X_scr (k_scr hE.1) (o_22 (D' := d + 8) hE (by omega) (by omega))))
  obtain ⟨⟨v, rfl, ⟨p1, q1, hG1⟩, hx⟩, hs⟩ := hr
  obtain ⟨F1, A1, J1, G1⟩ := M1
  refine k_312_1197 hG1 (?_)
  refine X_mono (fun r2 M2 hr2 => ?_) hx
  obtain ⟨rfl, hR2⟩ := hr2
  obtain ⟨F2, A2, J2, G2⟩ := M2
  obtain ⟨p2, q2, hG2, _⟩ := id hR2
  exact k_312_1201 hG2 ⟨fun _ => hK _ _ _ hR2, fun h => absurd rfl h⟩
theorem w_23 (hR : RS c SL xs (F, A, J, G)) (hc : c < 600) (hd : 60 ≤ d) (i1 : inB (x4 + 1) SL = true) (i2 : inB (x4 + 2) SL = true) (i3 : inB (x4 + 3) SL = true) (i4 : inB (x4 + 4) SL = true) (i5 : inB (x4 + 5) SL = true) (hK : ∀ v5 v6 M, RS (c + 1) SL xs M → X (d + 9) 312 1995 [.ref 2000, .ref 0, .ref 68, .ref 104, .int x4, v5, v6, .null] [] M Q) : X (d + 9) 312 1206 [.ref 2000, .ref 0, .ref 68, .ref 104, .int x4, v5, v6, .null] [] (F, A, J, G) Q := by
  obtain ⟨K, n, cd, cl, m, tp, fp, im, B, B', p, q, hE⟩ := RS_en hR
  have hE : EN c SL xs F A G K n cd cl m tp fp im B B' p q := hE
  refine t_312_1206 hE.1 ⟨i1, i2, h_302 (d := d + 7) hE.1 (X_mono (fun r M1 hr => ?_) (X_scr (k_scr hE.1) (o_23 (D' := d + 8) hE (by omega) (by omega))))⟩
  obtain ⟨⟨k, v, hk, ⟨p1, q1, hG1⟩, hx⟩, hs⟩ := hr
  obtain ⟨F1, A1, J1, G1⟩ := M1
  have hG1 : Geo G1 SL p1 q1 := hG1
  rcases hk with ⟨rfl, rfl⟩ | ⟨rfl, rfl⟩ | ⟨rfl, h0, rfl⟩
  · refine Or.inl ⟨v, F1, A1, J1, G1, rfl, rfl, k_104 hG1, l_104 hG1, k_312_1223 hG1 ⟨i1, i2, ?_⟩⟩
    rw [show A1 2000 = A 2000 from hs]
    refine X_mono (fun r2 M2 hr2 => ?_) (hx (wJ J1 104 0 (if v = 0 then 0 else 1)))
    obtain ⟨w, rfl, h3, hv, hJ, hR2⟩ := hr2
    obtain ⟨F2, A2, J2, G2⟩ := M2
    obtain ⟨p2, q2, hG2, _⟩ := id hR2
    have hj : J2 104 0 = (if v = 0 then 0 else 1) := by rw [show J2 104 = wJ J1 104 0 (if v = 0 then 0 else 1) 104 from hJ, wJ_same]
    have hw : w = v := hv rfl
    subst hw
    exact k_312_1241 hG2 ⟨fun _ => ⟨fun _ => ⟨fun hr0 => ⟨fun _ => hK _ _ _ hR2, fun h => absurd (by rw [hj, if_pos hr0]) h⟩, fun hr0 => ⟨fun _ => hK _ _ _ hR2, fun h => absurd (by rw [hj, if_neg hr0]) h⟩⟩, fun h => absurd rfl h⟩, fun h => absurd h3 h⟩
  · refine Or.inr (Or.inl ⟨rfl, k_312_1223 hG1 ⟨i1, i2, ?_⟩⟩)
    rw [show A1 2000 = A 2000 from hs]
    refine X_mono (fun r2 M2 hr2 => ?_) (hx J1)
    obtain ⟨w, rfl, h3, hv, hJ, hR2⟩ := hr2
    obtain ⟨F2, A2, J2, G2⟩ := M2
    obtain ⟨p2, q2, hG2, _⟩ := id hR2
    exact k_312_1241 hG2 ⟨fun _ => ⟨fun h => absurd h (by decide), fun _ => hK _ _ _ hR2⟩, fun h => absurd h3 h⟩
  · refine Or.inr (Or.inr ⟨rfl, ?_⟩)
    rw [if_neg (by decide)]
    refine k_312_1223 hG1 ⟨i1, i2, ?_⟩
    rw [show A1 2000 = A 2000 from hs]
    refine X_mono (fun r2 M2 hr2 => ?_) (hx J1)
    obtain ⟨w, rfl, h3, hv, hJ, hR2⟩ := hr2
    obtain ⟨F2, A2, J2, G2⟩ := M2
    obtain ⟨p2, q2, hG2, _⟩ := id hR2
    exact k_312_1241 hG2 ⟨fun _ => ⟨fun h => absurd h (by decide), fun _ => hK _ _ _ hR2⟩, fun h => absurd h3 h⟩
theorem w_24 (hR : RS c SL xs (F, A, J, G)) (hc : c < 600) (hd : 60 ≤ d) (i1 : inB (x4 + 1) SL = true) (i2 : inB (x4 + 2) SL = true) (i3 : inB (x4 + 3) SL = true) (i4 : inB (x4 + 4) SL = true) (i5 : inB (x4 + 5) SL = true) (hK : ∀ v5 v6 M, RS (c + 1) SL xs M → X (d + 9) 312 1995 [.ref 2000, .ref 0, .ref 68, .ref 104, .int x4, v5, v6, .null] [] M Q) : X (d + 9) 312 1281 [.ref 2000, .ref 0, .ref 68, .ref 104, .int x4, v5, v6, .null] [] (F, A, J, G) Q := by
  obtain ⟨K, n, cd, cl, m, tp, fp, im, B, B', p, q, hE⟩ := RS_en hR
  have hE : EN c SL xs F A G K n cd cl m tp fp im B B' p q := hE
  refine t_312_1281 hE.1 ⟨i1, i2, h_303 (d := d + 7) hE.1 (X_mono (fun r M1 hr => ?_) (X_scr (k_scr hE.1) (o_24 (D' := d + 8) hE (by omega) (by omega))))⟩
  obtain ⟨⟨k, v, hk, ⟨p1, q1, hG1⟩, hx⟩, hs⟩ := hr
  obtain ⟨F1, A1, J1, G1⟩ := M1
  have hG1 : Geo G1 SL p1 q1 := hG1
  rcases hk with ⟨rfl, rfl⟩ | ⟨rfl, rfl⟩ | ⟨rfl, h0, rfl⟩
  · refine Or.inl ⟨v, F1, A1, J1, G1, rfl, rfl, k_104 hG1, l_104 hG1, k_312_1298 hG1 ⟨i1, i2, ?_⟩⟩
    rw [show A1 2000 = A 2000 from hs]
    refine X_mono (fun r2 M2 hr2 => ?_) (hx (wJ J1 104 0 v.toInt64))
    obtain ⟨w, rfl, h3, hv, hJ, hR2⟩ := hr2
    obtain ⟨F2, A2, J2, G2⟩ := M2
    obtain ⟨p2, q2, hG2, _⟩ := id hR2
    have hj : J2 104 0 = v.toInt64 := by rw [show J2 104 = wJ J1 104 0 v.toInt64 104 from hJ, wJ_same]
    have hw : w = v := hv rfl
    subst hw
    exact k_312_1316 hG2 ⟨fun _ => ⟨fun _ => ⟨fun _ => hK _ _ _ hR2, fun h => absurd hj h⟩, fun h => absurd rfl h⟩, fun h => absurd h3 h⟩
  · refine Or.inr (Or.inl ⟨rfl, k_312_1298 hG1 ⟨i1, i2, ?_⟩⟩)
    rw [show A1 2000 = A 2000 from hs]
    refine X_mono (fun r2 M2 hr2 => ?_) (hx J1)
    obtain ⟨w, rfl, h3, hv, hJ, hR2⟩ := hr2
    obtain ⟨F2, A2, J2, G2⟩ := M2
    obtain ⟨p2, q2, hG2, _⟩ := id hR2
    exact k_312_1316 hG2 ⟨fun _ => ⟨fun h => absurd h (by decide), fun _ => hK _ _ _ hR2⟩, fun h => absurd h3 h⟩
  · refine Or.inr (Or.inr ⟨rfl, ?_⟩)
    rw [if_neg (by decide)]
    refine k_312_1298 hG1 ⟨i1, i2, ?_⟩
    rw [show A1 2000 = A 2000 from hs]
    refine X_mono (fun r2 M2 hr2 => ?_) (hx J1)
    obtain ⟨w, rfl, h3, hv, hJ, hR2⟩ := hr2
    obtain ⟨F2, A2, J2, G2⟩ := M2
    obtain ⟨p2, q2, hG2, _⟩ := id hR2
    exact k_312_1316 hG2 ⟨fun _ => ⟨fun h => absurd h (by decide), fun _ => hK _ _ _ hR2⟩, fun h => absurd h3 h⟩
theorem w_25 (hR : RS c SL xs (F, A, J, G)) (hc : c < 600) (hd : 60 ≤ d) (i1 : inB (x4 + 1) SL = true) (i2 : inB (x4 + 2) SL = true) (i3 : inB (x4 + 3) SL = true) (i4 : inB (x4 + 4) SL = true) (i5 : inB (x4 + 5) SL = true) (hK : ∀ v5 v6 M, RS (c + 1) SL xs M → X (d + 9) 312 1995 [.ref 2000, .ref 0, .ref 68, .ref 104, .int x4, v5, v6, .null] [] M Q) : X (d + 9) 312 1349 [.ref 2000, .ref 0, .ref 68, .ref 104, .int x4, v5, v6, .null] [] (F, A, J, G) Q := by
  obtain ⟨K, n, cd, cl, m, tp, fp, im, B, B', p, q, hE⟩ := RS_en hR
  have hE : EN c SL xs F A G K n cd cl m tp fp im B B' p q := hE
  refine t_312_1349 hE.1 (X_mono (fun r M1 hr => ?_) (X_scr (k_scr hE.1) (o_25 (D' := d + 8) hE (by omega) (by omega))))
  obtain ⟨⟨v, rfl, ⟨p1, q1, hG1⟩, hx⟩, hs⟩ := hr
  obtain ⟨F1, A1, J1, G1⟩ := M1
  refine k_312_1353 hG1 (?_)
  refine X_mono (fun r2 M2 hr2 => ?_) hx
  obtain ⟨rfl, hR2⟩ := hr2
  obtain ⟨F2, A2, J2, G2⟩ := M2
  obtain ⟨p2, q2, hG2, _⟩ := id hR2
  exact k_312_1357 hG2 ⟨fun _ => hK _ _ _ hR2, fun h => absurd rfl h⟩
theorem w_26 (hR : RS c SL xs (F, A, J, G)) (hc : c < 600) (hd : 60 ≤ d) (i1 : inB (x4 + 1) SL = true) (i2 : inB (x4 + 2) SL = true) (i3 : inB (x4 + 3) SL = true) (i4 : inB (x4 + 4) SL = true) (i5 : inB (x4 + 5) SL = true) (hK : ∀ v5 v6 M, RS (c + 1) SL xs M → X (d + 9) 312 1995 [.ref 2000, .ref 0, .ref 68, .ref 104, .int x4, v5, v6, .null] [] M Q) : X (d + 9) 312 1362 [.ref 2000, .ref 0, .ref 68, .ref 104, .int x4, v5, v6, .null] [] (F, A, J, G) Q := by
  obtain ⟨K, n, cd, cl, m, tp, fp, im, B, B', p, q, hE⟩ := RS_en hR
  have hE : EN c SL xs F A G K n cd cl m tp fp im B B' p q := hE
  refine t_312_1362 hE.1 ⟨i1, h_304 (d := d + 7) hE.1 (X_mono (fun r M1 hr => ?_) (X_scr (k_scr hE.1) (o_26 (D' := d + 8) hE (by omega) (by omega))))⟩
  obtain ⟨⟨k, v, hk, ⟨p1, q1, hG1⟩, hx⟩, hs⟩ := hr
  obtain ⟨F1, A1, J1, G1⟩ := M1
  have hG1 : Geo G1 SL p1 q1 := hG1
  rcases hk with ⟨rfl, rfl⟩ | ⟨rfl, rfl⟩ | ⟨rfl, h0, rfl⟩
  · refine Or.inl ⟨v, F1, A1, J1, G1, rfl, rfl, k_104 hG1, l_104 hG1, k_312_1373 hG1 ⟨i1, ?_⟩⟩
    rw [show A1 2000 = A 2000 from hs]
    refine X_mono (fun r2 M2 hr2 => ?_) (hx (wJ J1 104 0 v.toInt64))
    obtain ⟨w, rfl, h3, hv, hJ, hR2⟩ := hr2
    obtain ⟨F2, A2, J2, G2⟩ := M2
    obtain ⟨p2, q2, hG2, _⟩ := id hR2
    have hj : J2 104 0 = v.toInt64 := by rw [show J2 104 = wJ J1 104 0 v.toInt64 104 from hJ, wJ_same]
    have hw : w = v := hv rfl
    subst hw
    exact k_312_1385 hG2 ⟨fun _ => ⟨fun _ => ⟨fun _ => hK _ _ _ hR2, fun h => absurd hj h⟩, fun h => absurd rfl h⟩, fun h => absurd h3 h⟩
  · refine Or.inr (Or.inl ⟨rfl, k_312_1373 hG1 ⟨i1, ?_⟩⟩)
    rw [show A1 2000 = A 2000 from hs]
    refine X_mono (fun r2 M2 hr2 => ?_) (hx J1)
    obtain ⟨w, rfl, h3, hv, hJ, hR2⟩ := hr2
    obtain ⟨F2, A2, J2, G2⟩ := M2
    obtain ⟨p2, q2, hG2, _⟩ := id hR2
    exact k_312_1385 hG2 ⟨fun _ => ⟨fun h => absurd h (by decide), fun _ => hK _ _ _ hR2⟩, fun h => absurd h3 h⟩
  · exact absurd rfl h0
theorem w_27 (hR : RS c SL xs (F, A, J, G)) (hc : c < 600) (hd : 60 ≤ d) (i1 : inB (x4 + 1) SL = true) (i2 : inB (x4 + 2) SL = true) (i3 : inB (x4 + 3) SL = true) (i4 : inB (x4 + 4) SL = true) (i5 : inB (x4 + 5) SL = true) (hK : ∀ v5 v6 M, RS (c + 1) SL xs M → X (d + 9) 312 1995 [.ref 2000, .ref 0, .ref 68, .ref 104, .int x4, v5, v6, .null] [] M Q) : X (d + 9) 312 1418 [.ref 2000, .ref 0, .ref 68, .ref 104, .int x4, v5, v6, .null] [] (F, A, J, G) Q := by
  obtain ⟨K, n, cd, cl, m, tp, fp, im, B, B', p, q, hE⟩ := RS_en hR
  have hE : EN c SL xs F A G K n cd cl m tp fp im B B' p q := hE
  refine t_312_1418 hE.1 (X_mono (fun r M1 hr => ?_) (X_scr (k_scr hE.1) (o_27 (D' := d + 8) hE (by omega) (by omega))))
  obtain ⟨⟨v, rfl, ⟨p1, q1, hG1⟩, hx⟩, hs⟩ := hr
  obtain ⟨F1, A1, J1, G1⟩ := M1
  refine k_312_1422 hG1 (?_)
  refine X_mono (fun r2 M2 hr2 => ?_) hx
  obtain ⟨rfl, hR2⟩ := hr2
  obtain ⟨F2, A2, J2, G2⟩ := M2
  obtain ⟨p2, q2, hG2, _⟩ := id hR2
  exact k_312_1426 hG2 ⟨fun _ => hK _ _ _ hR2, fun h => absurd rfl h⟩
theorem w_28 (hR : RS c SL xs (F, A, J, G)) (hc : c < 600) (hd : 60 ≤ d) (i1 : inB (x4 + 1) SL = true) (i2 : inB (x4 + 2) SL = true) (i3 : inB (x4 + 3) SL = true) (i4 : inB (x4 + 4) SL = true) (i5 : inB (x4 + 5) SL = true) (hK : ∀ v5 v6 M, RS (c + 1) SL xs M → X (d + 9) 312 1995 [.ref 2000, .ref 0, .ref 68, .ref 104, .int x4, v5, v6, .null] [] M Q) : X (d + 9) 312 1431 [.ref 2000, .ref 0, .ref 68, .ref 104, .int x4, v5, v6, .null] [] (F, A, J, G) Q := by
  obtain ⟨K, n, cd, cl, m, tp, fp, im, B, B', p, q, hE⟩ := RS_en hR
  have hE : EN c SL xs F A G K n cd cl m tp fp im B B' p q := hE
  refine t_312_1431 hE.1 ⟨i1, i2, h_305 (d := d + 7) hE.1 (X_mono (fun r M1 hr => ?_) (X_scr (k_scr hE.1) (o_28 (D' := d + 8) hE (by omega) (by omega))))⟩
  obtain ⟨⟨k, v, hk, ⟨p1, q1, hG1⟩, hx⟩, hs⟩ := hr
  obtain ⟨F1, A1, J1, G1⟩ := M1
  have hG1 : Geo G1 SL p1 q1 := hG1
  rcases hk with ⟨rfl, rfl⟩ | ⟨rfl, rfl⟩
  · refine Or.inl ⟨v, F1, A1, J1, G1, rfl, rfl, k_104 hG1, l_104 hG1, k_312_1448 hG1 ⟨i1, i2, ?_⟩⟩
    rw [show A1 2000 = A 2000 from hs]
    refine X_mono (fun r2 M2 hr2 => ?_) (hx (wJ J1 104 0 v))
    obtain ⟨w, rfl, h3, hv, hJ, hR2⟩ := hr2
    obtain ⟨F2, A2, J2, G2⟩ := M2
    obtain ⟨p2, q2, hG2, _⟩ := id hR2
    have hj : J2 104 0 = v := by rw [show J2 104 = wJ J1 104 0 v 104 from hJ, wJ_same]
    have hw : w = v := hv rfl
    subst hw
    exact k_312_1466 hG2 ⟨fun _ => ⟨fun _ => ⟨fun _ => hK _ _ _ hR2, fun h => absurd hj h⟩, fun h => absurd rfl h⟩, fun h => absurd h3 h⟩
  · refine Or.inr (Or.inl ⟨rfl, k_312_1448 hG1 ⟨i1, i2, ?_⟩⟩)
    rw [show A1 2000 = A 2000 from hs]
    refine X_mono (fun r2 M2 hr2 => ?_) (hx J1)
    obtain ⟨w, rfl, h3, hv, hJ, hR2⟩ := hr2
    obtain ⟨F2, A2, J2, G2⟩ := M2
    obtain ⟨p2, q2, hG2, _⟩ := id hR2
    exact k_312_1466 hG2 ⟨fun _ => ⟨fun h => absurd h (by decide), fun _ => hK _ _ _ hR2⟩, fun h => absurd h3 h⟩
theorem w_29 (hR : RS c SL xs (F, A, J, G)) (hc : c < 600) (hd : 60 ≤ d) (i1 : inB (x4 + 1) SL = true) (i2 : inB (x4 + 2) SL = true) (i3 : inB (x4 + 3) SL = true) (i4 : inB (x4 + 4) SL = true) (i5 : inB (x4 + 5) SL = true) (hK : ∀ v5 v6 M, RS (c + 1) SL xs M → X (d + 9) 312 1995 [.ref 2000, .ref 0, .ref 68, .ref 104, .int x4, v5, v6, .null] [] M Q) : X (d + 9) 312 1498 [.ref 2000, .ref 0, .ref 68, .ref 104, .int x4, v5, v6, .null] [] (F, A, J, G) Q := by
  obtain ⟨K, n, cd, cl, m, tp, fp, im, B, B', p, q, hE⟩ := RS_en hR
  have hE : EN c SL xs F A G K n cd cl m tp fp im B B' p q := hE
  refine t_312_1498 hE.1 (X_mono (fun r M1 hr => ?_) (X_scr (k_scr hE.1) (o_29 (D' := d + 8) hE (by omega) (by omega))))
  obtain ⟨⟨v, rfl, ⟨p1, q1, hG1⟩, hx⟩, hs⟩ := hr
  obtain ⟨F1, A1, J1, G1⟩ := M1
  refine k_312_1502 hG1 (?_)
  refine X_mono (fun r2 M2 hr2 => ?_) hx
  obtain ⟨rfl, hR2⟩ := hr2
  obtain ⟨F2, A2, J2, G2⟩ := M2
  obtain ⟨p2, q2, hG2, _⟩ := id hR2
  exact k_312_1506 hG2 ⟨fun _ => hK _ _ _ hR2, fun h => absurd rfl h⟩
theorem w_30 (hR : RS c SL xs (F, A, J, G)) (hc : c < 600) (hd : 60 ≤ d) (i1 : inB (x4 + 1) SL = true) (i2 : inB (x4 + 2) SL = true) (i3 : inB (x4 + 3) SL = true) (i4 : inB (x4 + 4) SL = true) (i5 : inB (x4 + 5) SL = true) (hK : ∀ v5 v6 M, RS (c + 1) SL xs M → X (d + 9) 312 1995 [.ref 2000, .ref 0, .ref 68, .ref 104, .int x4, v5, v6, .null] [] M Q) : X (d + 9) 312 1511 [.ref 2000, .ref 0, .ref 68, .ref 104, .int x4, v5, v6, .null] [] (F, A, J, G) Q := by
  obtain ⟨K, n, cd, cl, m, tp, fp, im, B, B', p, q, hE⟩ := RS_en hR
  have hE : EN c SL xs F A G K n cd cl m tp fp im B B' p q := hE
  refine t_312_1511 hE.1 ⟨i1, h_306 (d := d + 7) hE.1 (X_mono (fun r M1 hr => ?_) (X_scr (k_scr hE.1) (o_30 (D' := d + 8) hE (by omega) (by omega))))⟩
  obtain ⟨⟨k, v, hk, ⟨p1, q1, hG1⟩, hx⟩, hs⟩ := hr
  obtain ⟨F1, A1, J1, G1⟩ := M1
  have hG1 : Geo G1 SL p1 q1 := hG1
  rcases hk with ⟨rfl, rfl⟩ | ⟨rfl, rfl⟩ | ⟨rfl, h0, rfl⟩
  · refine Or.inl ⟨v, F1, A1, J1, G1, rfl, rfl, k_104 hG1, l_104 hG1, k_312_1522 hG1 ⟨i1, ?_⟩⟩
    rw [show A1 2000 = A 2000 from hs]
    refine X_mono (fun r2 M2 hr2 => ?_) (hx (wJ J1 104 0 v.toInt64))
    obtain ⟨w, rfl, h3, hv, hJ, hR2⟩ := hr2
    obtain ⟨F2, A2, J2, G2⟩ := M2
    obtain ⟨p2, q2, hG2, _⟩ := id hR2
    have hj : J2 104 0 = v.toInt64 := by rw [show J2 104 = wJ J1 104 0 v.toInt64 104 from hJ, wJ_same]
    have hw : w = v := hv rfl
    subst hw
    exact k_312_1534 hG2 ⟨fun _ => ⟨fun _ => ⟨fun _ => hK _ _ _ hR2, fun h => absurd hj h⟩, fun h => absurd rfl h⟩, fun h => absurd h3 h⟩
  · refine Or.inr (Or.inl ⟨rfl, k_312_1522 hG1 ⟨i1, ?_⟩⟩)
    rw [show A1 2000 = A 2000 from hs]
    refine X_mono (fun r2 M2 hr2 => ?_) (hx J1)
    obtain ⟨w, rfl, h3, hv, hJ, hR2⟩ := hr2
    obtain ⟨F2, A2, J2, G2⟩ := M2
    obtain ⟨p2, q2, hG2, _⟩ := id hR2
    exact k_312_1534 hG2 ⟨fun _ => ⟨fun h => absurd h (by decide), fun _ => hK _ _ _ hR2⟩, fun h => absurd h3 h⟩
  · exact absurd rfl h0
theorem w_31 (hR : RS c SL xs (F, A, J, G)) (hc : c < 600) (hd : 60 ≤ d) (i1 : inB (x4 + 1) SL = true) (i2 : inB (x4 + 2) SL = true) (i3 : inB (x4 + 3) SL = true) (i4 : inB (x4 + 4) SL = true) (i5 : inB (x4 + 5) SL = true) (hK : ∀ v5 v6 M, RS (c + 1) SL xs M → X (d + 9) 312 1995 [.ref 2000, .ref 0, .ref 68, .ref 104, .int x4, v5, v6, .null] [] M Q) : X (d + 9) 312 1567 [.ref 2000, .ref 0, .ref 68, .ref 104, .int x4, v5, v6, .null] [] (F, A, J, G) Q := by
  obtain ⟨K, n, cd, cl, m, tp, fp, im, B, B', p, q, hE⟩ := RS_en hR
  have hE : EN c SL xs F A G K n cd cl m tp fp im B B' p q := hE
  refine t_312_1567 hE.1 ⟨i1, h_307 (d := d + 7) hE.1 (X_mono (fun r M1 hr => ?_) (X_scr (k_scr hE.1) (o_31 (D' := d + 8) hE (by omega) (by omega))))⟩
  obtain ⟨⟨k, v, hk, ⟨p1, q1, hG1⟩, hx⟩, hs⟩ := hr
  obtain ⟨F1, A1, J1, G1⟩ := M1
  have hG1 : Geo G1 SL p1 q1 := hG1
  rcases hk with ⟨rfl, rfl⟩ | ⟨rfl, rfl⟩ | ⟨rfl, h0, rfl⟩
  · refine Or.inl ⟨v, F1, A1, J1, G1, rfl, rfl, k_104 hG1, l_104 hG1, k_312_1578 hG1 ⟨i1, ?_⟩⟩
    rw [show A1 2000 = A 2000 from hs]
    refine X_mono (fun r2 M2 hr2 => ?_) (hx (wJ J1 104 0 v.toInt64))
    obtain ⟨w, rfl, h3, hv, hJ, hR2⟩ := hr2
    obtain ⟨F2, A2, J2, G2⟩ := M2
    obtain ⟨p2, q2, hG2, _⟩ := id hR2
    have hj : J2 104 0 = v.toInt64 := by rw [show J2 104 = wJ J1 104 0 v.toInt64 104 from hJ, wJ_same]
    have hw : w = v := hv rfl
    subst hw
    exact k_312_1590 hG2 ⟨fun _ => ⟨fun _ => ⟨fun _ => hK _ _ _ hR2, fun h => absurd hj h⟩, fun h => absurd rfl h⟩, fun h => absurd h3 h⟩
  · refine Or.inr (Or.inl ⟨rfl, k_312_1578 hG1 ⟨i1, ?_⟩⟩)
    rw [show A1 2000 = A 2000 from hs]
    refine X_mono (fun r2 M2 hr2 => ?_) (hx J1)
    obtain ⟨w, rfl, h3, hv, hJ, hR2⟩ := hr2
    obtain ⟨F2, A2, J2, G2⟩ := M2
    obtain ⟨p2, q2, hG2, _⟩ := id hR2
    exact k_312_1590 hG2 ⟨fun _ => ⟨fun h => absurd h (by decide), fun _ => hK _ _ _ hR2⟩, fun h => absurd h3 h⟩
  · exact absurd rfl h0
theorem w_32 (hR : RS c SL xs (F, A, J, G)) (hc : c < 600) (hd : 60 ≤ d) (i1 : inB (x4 + 1) SL = true) (i2 : inB (x4 + 2) SL = true) (i3 : inB (x4 + 3) SL = true) (i4 : inB (x4 + 4) SL = true) (i5 : inB (x4 + 5) SL = true) (hK : ∀ v5 v6 M, RS (c + 1) SL xs M → X (d + 9) 312 1995 [.ref 2000, .ref 0, .ref 68, .ref 104, .int x4, v5, v6, .null] [] M Q) : X (d + 9) 312 1623 [.ref 2000, .ref 0, .ref 68, .ref 104, .int x4, v5, v6, .null] [] (F, A, J, G) Q := by
  obtain ⟨K, n, cd, cl, m, tp, fp, im, B, B', p, q, hE⟩ := RS_en hR
  have hE : EN c SL xs F A G K n cd cl m tp fp im B B' p q := hE
  refine t_312_1623 hE.1 (X_mono (fun r M1 hr => ?_) (X_scr (k_scr hE.1) (o_32 (D' := d + 8) hE (by omega) (by omega))))
  obtain ⟨⟨v, rfl, ⟨p1, q1, hG1⟩, hx⟩, hs⟩ := hr
  obtain ⟨F1, A1, J1, G1⟩ := M1
  refine k_312_1627 hG1 (?_)
  refine X_mono (fun r2 M2 hr2 => ?_) hx
  obtain ⟨rfl, hR2⟩ := hr2
  obtain ⟨F2, A2, J2, G2⟩ := M2
  obtain ⟨p2, q2, hG2, _⟩ := id hR2
  exact k_312_1631 hG2 ⟨fun _ => hK _ _ _ hR2, fun h => absurd rfl h⟩
theorem w_33 (hR : RS c SL xs (F, A, J, G)) (hc : c < 600) (hd : 60 ≤ d) (i1 : inB (x4 + 1) SL = true) (i2 : inB (x4 + 2) SL = true) (i3 : inB (x4 + 3) SL = true) (i4 : inB (x4 + 4) SL = true) (i5 : inB (x4 + 5) SL = true) (hK : ∀ v5 v6 M, RS (c + 1) SL xs M → X (d + 9) 312 1995 [.ref 2000, .ref 0, .ref 68, .ref 104, .int x4, v5, v6, .null] [] M Q) : X (d + 9) 312 1636 [.ref 2000, .ref 0, .ref 68, .ref 104, .int x4, v5, v6, .null] [] (F, A, J, G) Q := by
  obtain ⟨K, n, cd, cl, m, tp, fp, im, B, B', p, q, hE⟩ := RS_en hR
  have hE : EN c SL xs F A G K n cd cl m tp fp im B B' p q := hE
  refine t_312_1636 hE.1 ⟨i1, h_308 (d := d + 7) hE.1 (X_mono (fun r M1 hr => ?_) (X_scr (k_scr hE.1) (o_33 (D' := d + 8) hE (by omega) (by omega))))⟩
  obtain ⟨⟨k, v, hk, ⟨p1, q1, hG1⟩, hx⟩, hs⟩ := hr
  obtain ⟨F1, A1, J1, G1⟩ := M1
  have hG1 : Geo G1 SL p1 q1 := hG1
  rcases hk with ⟨rfl, rfl⟩ | ⟨rfl, rfl⟩ | ⟨rfl, h0, rfl⟩
  · refine Or.inl ⟨v, F1, A1, J1, G1, rfl, rfl, k_104 hG1, l_104 hG1, k_312_1647 hG1 ⟨i1, ?_⟩⟩
    rw [show A1 2000 = A 2000 from hs]
    refine X_mono (fun r2 M2 hr2 => ?_) (hx (wJ J1 104 0 v.toInt64))
    obtain ⟨w, rfl, h3, hv, hJ, hR2⟩ := hr2
    obtain ⟨F2, A2, J2, G2⟩ := M2
    obtain ⟨p2, q2, hG2, _⟩ := id hR2
    have hj : J2 104 0 = v.toInt64 := by rw [show J2 104 = wJ J1 104 0 v.toInt64 104 from hJ, wJ_same]
    have hw : w = v := hv rfl
    subst hw
    exact k_312_1659 hG2 ⟨fun _ => ⟨fun _ => ⟨fun _ => hK _ _ _ hR2, fun h => absurd hj h⟩, fun h => absurd rfl h⟩, fun h => absurd h3 h⟩
  · refine Or.inr (Or.inl ⟨rfl, k_312_1647 hG1 ⟨i1, ?_⟩⟩)
    rw [show A1 2000 = A 2000 from hs]
    refine X_mono (fun r2 M2 hr2 => ?_) (hx J1)
    obtain ⟨w, rfl, h3, hv, hJ, hR2⟩ := hr2
    obtain ⟨F2, A2, J2, G2⟩ := M2
    obtain ⟨p2, q2, hG2, _⟩ := id hR2
    exact k_312_1659 hG2 ⟨fun _ => ⟨fun h => absurd h (by decide), fun _ => hK _ _ _ hR2⟩, fun h => absurd h3 h⟩
  · exact absurd rfl h0
theorem w_34 (hR : RS c SL xs (F, A, J, G)) (hc : c < 600) (hd : 60 ≤ d) (i1 : inB (x4 + 1) SL = true) (i2 : inB (x4 + 2) SL = true) (i3 : inB (x4 + 3) SL = true) (i4 : inB (x4 + 4) SL = true) (i5 : inB (x4 + 5) SL = true) (hK : ∀ v5 v6 M, RS (c + 1) SL xs M → X (d + 9) 312 1995 [.ref 2000, .ref 0, .ref 68, .ref 104, .int x4, v5, v6, .null] [] M Q) : X (d + 9) 312 1692 [.ref 2000, .ref 0, .ref 68, .ref 104, .int x4, v5, v6, .null] [] (F, A, J, G) Q := by
  obtain ⟨K, n, cd, cl, m, tp, fp, im, B, B', p, q, hE⟩ := RS_en hR
  have hE : EN c SL xs F A G K n cd cl m tp fp im B B' p q := hE
  refine t_312_1692 hE.1 (X_mono (fun r M1 hr => ?_) (X_scr (k_scr hE.1) (o_34 (D' := d + 8) hE (by omega) (by omega))))
  obtain ⟨⟨v, rfl, ⟨p1, q1, hG1⟩, hx⟩, hs⟩ := hr
  obtain ⟨F1, A1, J1, G1⟩ := M1
  refine k_312_1696 hG1 (?_)
  refine X_mono (fun r2 M2 hr2 => ?_) hx
  obtain ⟨rfl, hR2⟩ := hr2
  obtain ⟨F2, A2, J2, G2⟩ := M2
  obtain ⟨p2, q2, hG2, _⟩ := id hR2
  exact k_312_1700 hG2 ⟨fun _ => hK _ _ _ hR2, fun h => absurd rfl h⟩
theorem w_35 (hR : RS c SL xs (F, A, J, G)) (hc : c < 600) (hd : 60 ≤ d) (i1 : inB (x4 + 1) SL = true) (i2 : inB (x4 + 2) SL = true) (i3 : inB (x4 + 3) SL = true) (i4 : inB (x4 + 4) SL = true) (i5 : inB (x4 + 5) SL = true) (hK : ∀ v5 v6 M, RS (c + 1) SL xs M → X (d + 9) 312 1995 [.ref 2000, .ref 0, .ref 68, .ref 104, .int x4, v5, v6, .null] [] M Q) : X (d + 9) 312 1705 [.ref 2000, .ref 0, .ref 68, .ref 104, .int x4, v5, v6, .null] [] (F, A, J, G) Q := by
  obtain ⟨K, n, cd, cl, m, tp, fp, im, B, B', p, q, hE⟩ := RS_en hR
  have hE : EN c SL xs F A G K n cd cl m tp fp im B B' p q := hE
  refine t_312_1705 hE.1 (X_mono (fun r M1 hr => ?_) (X_scr (k_scr hE.1) (o_35 (D' := d + 8) hE (by omega) (by omega))))
  obtain ⟨⟨v, rfl, ⟨p1, q1, hG1⟩, hx⟩, hs⟩ := hr
  obtain ⟨F1, A1, J1, G1⟩ := M1
  refine k_312_1709 hG1 (?_)
  refine X_mono (fun r2 M2 hr2 => ?_) hx
  obtain ⟨rfl, hR2⟩ := hr2
  obtain ⟨F2, A2, J2, G2⟩ := M2
  obtain ⟨p2, q2, hG2, _⟩ := id hR2
  exact k_312_1713 hG2 ⟨fun _ => hK _ _ _ hR2, fun h => absurd rfl h⟩
theorem w_36 (hR : RS c SL xs (F, A, J, G)) (hc : c < 600) (hd : 60 ≤ d) (i1 : inB (x4 + 1) SL = true) (i2 : inB (x4 + 2) SL = true) (i3 : inB (x4 + 3) SL = true) (i4 : inB (x4 + 4) SL = true) (i5 : inB (x4 + 5) SL = true) (hK : ∀ v5 v6 M, RS (c + 1) SL xs M → X (d + 9) 312 1995 [.ref 2000, .ref 0, .ref 68, .ref 104, .int x4, v5, v6, .null] [] M Q) : X (d + 9) 312 1718 [.ref 2000, .ref 0, .ref 68, .ref 104, .int x4, v5, v6, .null] [] (F, A, J, G) Q := by
  obtain ⟨K, n, cd, cl, m, tp, fp, im, B, B', p, q, hE⟩ := RS_en hR
  have hE : EN c SL xs F A G K n cd cl m tp fp im B B' p q := hE
  refine t_312_1718 hE.1 ⟨i1, i2, X_mono (fun r M1 hr => ?_) (X_scr (k_scr hE.1) (o_36 (D' := d + 8) hE (by omega) (by omega)))⟩
  obtain ⟨⟨v, rfl, ⟨p1, q1, hG1⟩, hx⟩, hs⟩ := hr
  obtain ⟨F1, A1, J1, G1⟩ := M1
  refine k_312_1734 hG1 ⟨i1, i2, ?_⟩
  rw [show A1 2000 = A 2000 from hs]
  refine X_mono (fun r2 M2 hr2 => ?_) hx
  obtain ⟨rfl, hR2⟩ := hr2
  obtain ⟨F2, A2, J2, G2⟩ := M2
  obtain ⟨p2, q2, hG2, _⟩ := id hR2
  exact k_312_1750 hG2 ⟨fun _ => hK _ _ _ hR2, fun h => absurd rfl h⟩
theorem w_37 (hR : RS c SL xs (F, A, J, G)) (hc : c < 600) (hd : 60 ≤ d) (i1 : inB (x4 + 1) SL = true) (i2 : inB (x4 + 2) SL = true) (i3 : inB (x4 + 3) SL = true) (i4 : inB (x4 + 4) SL = true) (i5 : inB (x4 + 5) SL = true) (hK : ∀ v5 v6 M, RS (c + 1) SL xs M → X (d + 9) 312 1995 [.ref 2000, .ref 0, .ref 68, .ref 104, .int x4, v5, v6, .null] [] M Q) : X (d + 9) 312 1755 [.ref 2000, .ref 0, .ref 68, .ref 104, .int x4, v5, v6, .null] [] (F, A, J, G) Q := by
  obtain ⟨K, n, cd, cl, m, tp, fp, im, B, B', p, q, hE⟩ := RS_en hR
  have hE : EN c SL xs F A G K n cd cl m tp fp im B B' p q := hE
  refine t_312_1755 hE.1 ⟨i1, h_309 (d := d + 7) hE.1 (X_mono (fun r M1 hr => ?_) (X_scr (k_scr hE.1) (o_37 (D' := d + 8) hE (by omega) (by omega))))⟩
  obtain ⟨⟨k, v, hk, ⟨p1, q1, hG1⟩, hx⟩, hs⟩ := hr
  obtain ⟨F1, A1, J1, G1⟩ := M1
  have hG1 : Geo G1 SL p1 q1 := hG1
  rcases hk with ⟨rfl, rfl⟩ | ⟨rfl, rfl⟩ | ⟨rfl, h0, rfl⟩
  · refine Or.inl ⟨v, F1, A1, J1, G1, rfl, rfl, k_104 hG1, l_104 hG1, k_312_1766 hG1 ⟨i1, ?_⟩⟩
    rw [show A1 2000 = A 2000 from hs]
    refine X_mono (fun r2 M2 hr2 => ?_) (hx (wJ J1 104 0 v.toInt64))
    obtain ⟨w, rfl, h3, hv, hJ, hR2⟩ := hr2
    obtain ⟨F2, A2, J2, G2⟩ := M2
    obtain ⟨p2, q2, hG2, _⟩ := id hR2
    have hj : J2 104 0 = v.toInt64 := by rw [show J2 104 = wJ J1 104 0 v.toInt64 104 from hJ, wJ_same]
    have hw : w = v := hv rfl
    subst hw
    exact k_312_1778 hG2 ⟨fun _ => ⟨fun _ => ⟨fun _ => hK _ _ _ hR2, fun h => absurd hj h⟩, fun h => absurd rfl h⟩, fun h => absurd h3 h⟩
  · refine Or.inr (Or.inl ⟨rfl, k_312_1766 hG1 ⟨i1, ?_⟩⟩)
    rw [show A1 2000 = A 2000 from hs]
    refine X_mono (fun r2 M2 hr2 => ?_) (hx J1)
    obtain ⟨w, rfl, h3, hv, hJ, hR2⟩ := hr2
    obtain ⟨F2, A2, J2, G2⟩ := M2
    obtain ⟨p2, q2, hG2, _⟩ := id hR2
    exact k_312_1778 hG2 ⟨fun _ => ⟨fun h => absurd h (by decide), fun _ => hK _ _ _ hR2⟩, fun h => absurd h3 h⟩
  · exact absurd rfl h0
theorem w_38 (hR : RS c SL xs (F, A, J, G)) (hc : c < 600) (hd : 60 ≤ d) (i1 : inB (x4 + 1) SL = true) (i2 : inB (x4 + 2) SL = true) (i3 : inB (x4 + 3) SL = true) (i4 : inB (x4 + 4) SL = true) (i5 : inB (x4 + 5) SL = true) (hK : ∀ v5 v6 M, RS (c + 1) SL xs M → X (d + 9) 312 1995 [.ref 2000, .ref 0, .ref 68, .ref 104, .int x4, v5, v6, .null] [] M Q) : X (d + 9) 312 1811 [.ref 2000, .ref 0, .ref 68, .ref 104, .int x4, v5, v6, .null] [] (F, A, J, G) Q := by
  obtain ⟨K, n, cd, cl, m, tp, fp, im, B, B', p, q, hE⟩ := RS_en hR
  have hE : EN c SL xs F A G K n cd cl m tp fp im B B' p q := hE
  refine t_312_1811 hE.1 (X_mono (fun r M1 hr => ?_) (X_scr (k_scr hE.1) (o_38 (D' := d + 8) hE hc (by omega) (by omega))))
  obtain ⟨⟨v, rfl, ⟨p1, q1, hG1⟩, hx⟩, hs⟩ := hr
  obtain ⟨F1, A1, J1, G1⟩ := M1
  refine k_312_1815 hG1 (?_)
  refine X_mono (fun r2 M2 hr2 => ?_) hx
  obtain ⟨rfl, hR2⟩ := hr2
  obtain ⟨F2, A2, J2, G2⟩ := M2
  obtain ⟨p2, q2, hG2, _⟩ := id hR2
  exact k_312_1819 hG2 ⟨fun _ => hK _ _ _ hR2, fun h => absurd rfl h⟩
theorem w_39 (hR : RS c SL xs (F, A, J, G)) (hc : c < 600) (hd : 60 ≤ d) (i1 : inB (x4 + 1) SL = true) (i2 : inB (x4 + 2) SL = true) (i3 : inB (x4 + 3) SL = true) (i4 : inB (x4 + 4) SL = true) (i5 : inB (x4 + 5) SL = true) (hK : ∀ v5 v6 M, RS (c + 1) SL xs M → X (d + 9) 312 1995 [.ref 2000, .ref 0, .ref 68, .ref 104, .int x4, v5, v6, .null] [] M Q) : X (d + 9) 312 1824 [.ref 2000, .ref 0, .ref 68, .ref 104, .int x4, v5, v6, .null] [] (F, A, J, G) Q := by
  obtain ⟨K, n, cd, cl, m, tp, fp, im, B, B', p, q, hE⟩ := RS_en hR
  have hE : EN c SL xs F A G K n cd cl m tp fp im B B' p q := hE
  refine t_312_1824 hE.1 (X_mono (fun r M1 hr => ?_) (X_scr (k_scr hE.1) (o_39 (D' := d + 8) hE)))
  obtain ⟨⟨rfl, ⟨p1, q1, hG1⟩, hx⟩, hs⟩ := hr
  obtain ⟨F1, A1, J1, G1⟩ := M1
  refine k_312_1828 hG1 (?_)
  refine X_mono (fun r2 M2 hr2 => ?_) hx
  obtain ⟨rfl, hR2⟩ := hr2
  obtain ⟨F2, A2, J2, G2⟩ := M2
  obtain ⟨p2, q2, hG2, _⟩ := id hR2
  exact k_312_1832 hG2 (hK _ _ _ hR2)
theorem w_40 (hR : RS c SL xs (F, A, J, G)) (hc : c < 600) (hd : 60 ≤ d) (i1 : inB (x4 + 1) SL = true) (i2 : inB (x4 + 2) SL = true) (i3 : inB (x4 + 3) SL = true) (i4 : inB (x4 + 4) SL = true) (i5 : inB (x4 + 5) SL = true) (hK : ∀ v5 v6 M, RS (c + 1) SL xs M → X (d + 9) 312 1995 [.ref 2000, .ref 0, .ref 68, .ref 104, .int x4, v5, v6, .null] [] M Q) : X (d + 9) 312 1835 [.ref 2000, .ref 0, .ref 68, .ref 104, .int x4, v5, v6, .null] [] (F, A, J, G) Q := by
  obtain ⟨K, n, cd, cl, m, tp, fp, im, B, B', p, q, hE⟩ := RS_en hR
  have hE : EN c SL xs F A G K n cd cl m tp fp im B B' p q := hE
  refine t_312_1835 hE.1 ⟨i1, h_310 (d := d + 7) hE.1 (X_mono (fun r M1 hr => ?_) (X_scr (k_scr hE.1) (o_40 (D' := d + 8) hE (by omega) (by omega))))⟩
  obtain ⟨⟨k, v, hk, ⟨p1, q1, hG1⟩, hx⟩, hs⟩ := hr
  obtain ⟨F1, A1, J1, G1⟩ := M1
  have hG1 : Geo G1 SL p1 q1 := hG1
  rcases hk with ⟨rfl, rfl⟩ | ⟨rfl, rfl⟩ | ⟨rfl, h0, rfl⟩
  · refine Or.inl ⟨v, F1, A1, J1, G1, rfl, rfl, k_104 hG1, l_104 hG1, k_312_1846 hG1 ⟨i1, ?_⟩⟩
    rw [show A1 2000 = A 2000 from hs]
    refine X_mono (fun r2 M2 hr2 => ?_) (hx (wJ J1 104 0 v.toInt64))
    obtain ⟨w, rfl, h3, hv, hJ, hR2⟩ := hr2
    obtain ⟨F2, A2, J2, G2⟩ := M2
    obtain ⟨p2, q2, hG2, _⟩ := id hR2
    have hj : J2 104 0 = v.toInt64 := by rw [show J2 104 = wJ J1 104 0 v.toInt64 104 from hJ, wJ_same]
    have hw : w = v := hv rfl
    subst hw
    exact k_312_1858 hG2 ⟨fun _ => ⟨fun _ => ⟨fun _ => hK _ _ _ hR2, fun h => absurd hj h⟩, fun h => absurd rfl h⟩, fun h => absurd h3 h⟩
  · refine Or.inr (Or.inl ⟨rfl, k_312_1846 hG1 ⟨i1, ?_⟩⟩)
    rw [show A1 2000 = A 2000 from hs]
    refine X_mono (fun r2 M2 hr2 => ?_) (hx J1)
    obtain ⟨w, rfl, h3, hv, hJ, hR2⟩ := hr2
    obtain ⟨F2, A2, J2, G2⟩ := M2
    obtain ⟨p2, q2, hG2, _⟩ := id hR2
    exact k_312_1858 hG2 ⟨fun _ => ⟨fun h => absurd h (by decide), fun _ => hK _ _ _ hR2⟩, fun h => absurd h3 h⟩
  · exact absurd rfl h0
theorem w_41 (hR : RS c SL xs (F, A, J, G)) (hc : c < 600) (hd : 60 ≤ d) (i1 : inB (x4 + 1) SL = true) (i2 : inB (x4 + 2) SL = true) (i3 : inB (x4 + 3) SL = true) (i4 : inB (x4 + 4) SL = true) (i5 : inB (x4 + 5) SL = true) (hK : ∀ v5 v6 M, RS (c + 1) SL xs M → X (d + 9) 312 1995 [.ref 2000, .ref 0, .ref 68, .ref 104, .int x4, v5, v6, .null] [] M Q) : X (d + 9) 312 1891 [.ref 2000, .ref 0, .ref 68, .ref 104, .int x4, v5, v6, .null] [] (F, A, J, G) Q := by
  obtain ⟨K, n, cd, cl, m, tp, fp, im, B, B', p, q, hE⟩ := RS_en hR
  have hE : EN c SL xs F A G K n cd cl m tp fp im B B' p q := hE
  refine t_312_1891 hE.1 ⟨i1, i2, i3, h_311 (d := d + 7) hE.1 (X_mono (fun r M1 hr => ?_) (X_scr (k_scr hE.1) (o_41 (D' := d + 8) hE (by omega) (by omega))))⟩
  obtain ⟨⟨k, v, hk, ⟨p1, q1, hG1⟩, hx⟩, hs⟩ := hr
  obtain ⟨F1, A1, J1, G1⟩ := M1
  have hG1 : Geo G1 SL p1 q1 := hG1
  rcases hk with ⟨rfl, rfl⟩ | ⟨rfl, rfl⟩ | ⟨rfl, h0, rfl⟩
  · refine Or.inl ⟨v, F1, A1, J1, G1, rfl, rfl, k_104 hG1, l_104 hG1, k_312_1914 hG1 ⟨i1, i2, i3, ?_⟩⟩
    rw [show A1 2000 = A 2000 from hs]
    refine X_mono (fun r2 M2 hr2 => ?_) (hx (wJ J1 104 0 v.toInt64))
    obtain ⟨w, rfl, h3, hv, hJ, hR2⟩ := hr2
    obtain ⟨F2, A2, J2, G2⟩ := M2
    obtain ⟨p2, q2, hG2, _⟩ := id hR2
    have hj : J2 104 0 = v.toInt64 := by rw [show J2 104 = wJ J1 104 0 v.toInt64 104 from hJ, wJ_same]
    have hw : w = v := hv rfl
    subst hw
    exact k_312_1938 hG2 ⟨fun _ => ⟨fun _ => ⟨fun _ => hK _ _ _ hR2, fun h => absurd hj h⟩, fun h => absurd rfl h⟩, fun h => absurd h3 h⟩
  · refine Or.inr (Or.inl ⟨rfl, k_312_1914 hG1 ⟨i1, i2, i3, ?_⟩⟩)
    rw [show A1 2000 = A 2000 from hs]
    refine X_mono (fun r2 M2 hr2 => ?_) (hx J1)
    obtain ⟨w, rfl, h3, hv, hJ, hR2⟩ := hr2
    obtain ⟨F2, A2, J2, G2⟩ := M2
    obtain ⟨p2, q2, hG2, _⟩ := id hR2
    exact k_312_1938 hG2 ⟨fun _ => ⟨fun h => absurd h (by decide), fun _ => hK _ _ _ hR2⟩, fun h => absurd h3 h⟩
  · refine Or.inr (Or.inr ⟨rfl, ?_⟩)
    rw [if_neg (by decide)]
    refine k_312_1914 hG1 ⟨i1, i2, i3, ?_⟩
    rw [show A1 2000 = A 2000 from hs]
    refine X_mono (fun r2 M2 hr2 => ?_) (hx J1)
    obtain ⟨w, rfl, h3, hv, hJ, hR2⟩ := hr2
    obtain ⟨F2, A2, J2, G2⟩ := M2
    obtain ⟨p2, q2, hG2, _⟩ := id hR2
    exact k_312_1938 hG2 ⟨fun _ => ⟨fun h => absurd h (by decide), fun _ => hK _ _ _ hR2⟩, fun h => absurd h3 h⟩
theorem w_42 (hR : RS c SL xs (F, A, J, G)) (hc : c < 600) (hd : 60 ≤ d) (i1 : inB (x4 + 1) SL = true) (i2 : inB (x4 + 2) SL = true) (i3 : inB (x4 + 3) SL = true) (i4 : inB (x4 + 4) SL = true) (i5 : inB (x4 + 5) SL = true) (hK : ∀ v5 v6 M, RS (c + 1) SL xs M → X (d + 9) 312 1995 [.ref 2000, .ref 0, .ref 68, .ref 104, .int x4, v5, v6, .null] [] M Q) : X (d + 9) 312 1971 [.ref 2000, .ref 0, .ref 68, .ref 104, .int x4, v5, v6, .null] [] (F, A, J, G) Q := by
  obtain ⟨K, n, cd, cl, m, tp, fp, im, B, B', p, q, hE⟩ := RS_en hR
  have hE : EN c SL xs F A G K n cd cl m tp fp im B B' p q := hE
  refine t_312_1971 hE.1 (X_mono (fun r M1 hr => ?_) (X_scr (k_scr hE.1) (o_42 (D' := d + 8) hE (by omega) (by omega))))
  obtain ⟨⟨rfl, ⟨p1, q1, hG1⟩, hx⟩, hs⟩ := hr
  obtain ⟨F1, A1, J1, G1⟩ := M1
  refine k_312_1975 hG1 (?_)
  refine X_mono (fun r2 M2 hr2 => ?_) hx
  obtain ⟨rfl, hR2⟩ := hr2
  obtain ⟨F2, A2, J2, G2⟩ := M2
  obtain ⟨p2, q2, hG2, _⟩ := id hR2
  exact k_312_1979 hG2 (hK _ _ _ hR2)
theorem w_43 (hR : RS c SL xs (F, A, J, G)) (hc : c < 600) (hd : 60 ≤ d) (i1 : inB (x4 + 1) SL = true) (i2 : inB (x4 + 2) SL = true) (i3 : inB (x4 + 3) SL = true) (i4 : inB (x4 + 4) SL = true) (i5 : inB (x4 + 5) SL = true) (hK : ∀ v5 v6 M, RS (c + 1) SL xs M → X (d + 9) 312 1995 [.ref 2000, .ref 0, .ref 68, .ref 104, .int x4, v5, v6, .null] [] M Q) : X (d + 9) 312 1982 [.ref 2000, .ref 0, .ref 68, .ref 104, .int x4, v5, v6, .null] [] (F, A, J, G) Q := by
  obtain ⟨K, n, cd, cl, m, tp, fp, im, B, B', p, q, hE⟩ := RS_en hR
  have hE : EN c SL xs F A G K n cd cl m tp fp im B B' p q := hE
  refine t_312_1982 hE.1 (X_mono (fun r M1 hr => ?_) (X_scr (k_scr hE.1) (o_43 (D' := d + 8) hE (by omega) (by omega))))
  obtain ⟨⟨v, rfl, ⟨p1, q1, hG1⟩, hx⟩, hs⟩ := hr
  obtain ⟨F1, A1, J1, G1⟩ := M1
  refine k_312_1986 hG1 (?_)
  refine X_mono (fun r2 M2 hr2 => ?_) hx
  obtain ⟨rfl, hR2⟩ := hr2
  obtain ⟨F2, A2, J2, G2⟩ := M2
  obtain ⟨p2, q2, hG2, _⟩ := id hR2
  exact k_312_1990 hG2 ⟨fun _ => hK _ _ _ hR2, fun h => absurd rfl h⟩
end Law26
