/-! the rule -/
section RuleZ
def dpt (cd : Nat → Int) : Nat → Nat
  | 0 => 0
  | i + 1 => if -6 ≤ cd i then dpt cd i + 1 else if cd i = -7 then dpt cd i else dpt cd i - 1
def WfC (cd : Nat → Int) (cl : Nat) : Prop := (∀ i, i < cl → (-15 ≤ cd i ∧ cd i ≤ 9999) ∧ dpt cd i ≤ 39 ∧ (cd i = -7 → 1 ≤ dpt cd i) ∧ (cd i < -7 → 2 ≤ dpt cd i)) ∧ (0 < cl → dpt cd cl = 1)
def evF (cd : Nat → Int) (vs : Nat → Int32) : Nat → Nat → Int32
  | 0 => fun _ => 0
  | i + 1 => if 0 ≤ cd i then va_up (evF cd vs i) (dpt cd i) (zI (cd i)) else if -6 ≤ cd i then va_up (evF cd vs i) (dpt cd i) (vs (-1 - cd i).toNat) else if cd i = -7 then va_up (evF cd vs i) (dpt cd i - 1) (if evF cd vs i (dpt cd i - 1) = 0 then 1 else 0) else va_up (evF cd vs i) (dpt cd i - 2) (opS (zI (cd i)) (evF cd vs i (dpt cd i - 2)) (evF cd vs i (dpt cd i - 1)))
def mdl (c : Int) : Int := if -6 ≤ c then c else if c = -7 then -28 else c - 12
theorem op_mdl (a b : Int32) {c : Int} (h1 : -15 ≤ c) (h2 : c ≤ -8) : opR (zI (c - 12)) a b = opS (zI c) a b := by
  have : c = -15 ∨ c = -14 ∨ c = -13 ∨ c = -12 ∨ c = -11 ∨ c = -10 ∨ c = -9 ∨ c = -8 := by omega
  unfold opR opS
  rcases this with rfl | rfl | rfl | rfl | rfl | rfl | rfl | rfl
  · rw [show zI (-15 - 12) = -27 from rfl, show zI (-15) = -15 from rfl]; rfl
  · rw [show zI (-14 - 12) = -26 from rfl, show zI (-14) = -14 from rfl]; rfl
  · rw [show zI (-13 - 12) = -25 from rfl, show zI (-13) = -13 from rfl]; rfl
  · rw [show zI (-12 - 12) = -24 from rfl, show zI (-12) = -12 from rfl]; rfl
  · rw [show zI (-11 - 12) = -23 from rfl, show zI (-11) = -11 from rfl]; rfl
  · rw [show zI (-10 - 12) = -22 from rfl, show zI (-10) = -10 from rfl]; rfl
  · rw [show zI (-9 - 12) = -21 from rfl, show zI (-9) = -9 from rfl]; rfl
  · rw [show zI (-8 - 12) = -20 from rfl, show zI (-8) = -8 from rfl]; rfl
variable {d : Nat} {F A F' A' F'' A'' : Nat → Nat → Int32} {J : Nat → Nat → Int64} {G : pG} {Q : pR → pM → Prop} {SL p q t a na b i l f : Nat} {K : Nat → Nat → Int} {n h : Nat} {ord ord' : Nat → Nat} {ml wd ln ml' wd' ln' : Nat → Int} {yr z y v τ : Int} {cd : Nat → Int} {cl : Nat} {vs : Nat → Int32}
def CRl (F A : Nat → Nat → Int32) (cd : Nat → Int) (cl : Nat) : Prop := cl ≤ 600 ∧ WfC cd cl ∧ F 18 1 = zI (cl : Int) ∧ (∀ i, i < cl → A 19 i = zI (cd i))
def MRl (F A : Nat → Nat → Int32) (cd : Nat → Int) (cl : Nat) : Prop := cl ≤ 600 ∧ WfC cd cl ∧ A 72 3 = zI (cl : Int) ∧ (∀ i, i < cl → A 78 i = zI (mdl (cd i)))
theorem vup_at {α : Type} (f : Nat → α) (k : Nat) (v : α) (j : Nat) : va_up f k v j = if j = k then v else f j := rfl
theorem valO_z {c : Int} (h1 : -6 ≤ c) (h2 : c < 0) : valO F (zI c) = F 18 (2 + (-1 - c).toNat) := by
  have : c = -1 ∨ c = -2 ∨ c = -3 ∨ c = -4 ∨ c = -5 ∨ c = -6 := by omega
  unfold valO
  rcases this with rfl | rfl | rfl | rfl | rfl | rfl
  · rw [show zI (-1) = -1 from rfl]; rfl
  · rw [show zI (-2) = -2 from rfl]; rfl
  · rw [show zI (-3) = -3 from rfl]; rfl
  · rw [show zI (-4) = -4 from rfl]; rfl
  · rw [show zI (-5) = -5 from rfl]; rfl
  · rw [show zI (-6) = -6 from rfl]; rfl
theorem c_55 (hG : Geo G SL p q) (hR : CRl F A cd cl) (h0 : 0 < cl) (hQ : ∀ F' A', (∀ i, i ≠ 18 → F' i = F i) → (∀ k, k ≠ 9 → F' 18 k = F 18 k) → (∀ i, i ≠ 20 → A' i = A i) → Q (.inl (some (.int (evF cd (fun k => F 18 (2 + k)) cl 0)))) (F', A', J, G)) : X (d + 1) 55 0 [.ref 18, .null, .null, .null] [] (F, A, J, G) Q := by
  obtain ⟨hc6, ⟨hwf, hw1⟩, r1, r2⟩ := hR
  refine t_55_0 hG ?_
  refine up_ind (h := cl) (P := fun i => ∀ F1 A1 v2 v3, (∀ i, i ≠ 18 → F1 i = F i) → (∀ k, k ≠ 9 → F1 18 k = F 18 k) → (∀ i, i ≠ 20 → A1 i = A i) → F1 18 9 = zI (dpt cd i : Int) → (∀ j, j < dpt cd i → A1 20 j = evF cd (fun k => F 18 (2 + k)) i j) → X (d + 1) 55 7 [.ref 18, .int (zI (i : Int)), v2, v3] [] (F1, A1, J, G) Q) ?_ ?_ _ A .null .null (fun i hi => wF_row hi) (fun k hk => wF_cell hk _) (fun _ _ => rfl) (wF_same _ _ _ _) (fun j hj => absurd hj (Nat.not_lt_zero j))
  · intro F1 A1 v2 v3 hF hF2 hA h9 hst
    have hd := hw1 h0
    rw [hd] at h9 hst
    refine t_55_7 hG ⟨fun e => ?_, fun _ => ⟨fun _ => ⟨?_, ?_⟩, fun e => ?_⟩⟩
    · rw [hF2 1 (by decide), r1, zN_lt (by omega) (by omega)] at e
      omega
    · rw [h9]; decide
    · have := hQ (wF F1 18 9 (F1 18 9 - 1)) A1 (fun i hi => by rw [wF_row hi]; exact hF i hi) (fun k hk => by rw [wF_cell hk]; exact hF2 k hk) hA
      rw [← hst 0 (by decide)] at this
      rw [h9] at this ⊢
      exact this
    · rw [h9] at e; exact absurd (by decide) e
  · intro i hi ih F1 A1 v2 v3 hF hF2 hA h9 hst
    obtain ⟨⟨w1, w2⟩, w3, w4, w5⟩ := hwf i hi
    have hval : ∀ c : Int, -6 ≤ c → c < 0 → valO F1 (zI c) = F 18 (2 + (-1 - c).toNat) := fun c h1 h2 => by
      rw [valO_z h1 h2]; exact hF2 _ (by omega)
    have hdp : dpt cd (i + 1) = if -6 ≤ cd i then dpt cd i + 1 else if cd i = -7 then dpt cd i else dpt cd i - 1 := rfl
    have hev : evF cd (fun k => F 18 (2 + k)) (i + 1) = if 0 ≤ cd i then va_up (evF cd (fun k => F 18 (2 + k)) i) (dpt cd i) (zI (cd i)) else if -6 ≤ cd i then va_up (evF cd (fun k => F 18 (2 + k)) i) (dpt cd i) (F 18 (2 + (-1 - cd i).toNat)) else if cd i = -7 then va_up (evF cd (fun k => F 18 (2 + k)) i) (dpt cd i - 1) (if evF cd (fun k => F 18 (2 + k)) i (dpt cd i - 1) = 0 then 1 else 0) else va_up (evF cd (fun k => F 18 (2 + k)) i) (dpt cd i - 2) (opS (zI (cd i)) (evF cd (fun k => F 18 (2 + k)) i (dpt cd i - 2)) (evF cd (fun k => F 18 (2 + k)) i (dpt cd i - 1))) := rfl
    generalize evF cd (fun k => F 18 (2 + k)) i = S at hst hev
    have hpush : ∀ v : Int32, -6 ≤ cd i → evF cd (fun k => F 18 (2 + k)) (i + 1) = va_up S (dpt cd i) v → ∀ v2 v3, X (d + 1) 55 7 [.ref 18, .int (zI ((i + 1 : Nat) : Int)), v2, v3] [] (wF F1 18 9 (zI ((dpt cd i + 1 : Nat) : Int)), wF A1 20 (dpt cd i) v, J, G) Q := by
      intro v hc he v2 v3
      rw [if_pos hc] at hdp
      refine ih _ _ _ _ (fun i hi => by rw [wF_row hi]; exact hF i hi) (fun k hk => by rw [wF_cell hk]; exact hF2 k hk) (fun i hi => by rw [wF_row hi]; exact hA i hi) (by rw [wF_same, hdp]) (fun j hj => ?_)
      rw [he, vup_at, wF_at]
      by_cases ej : j = dpt cd i
      · rw [if_pos ⟨rfl, ej⟩, if_pos ej]
      · rw [if_neg (fun q => ej q.2), if_neg ej]; exact hst j (by omega)
    refine t_55_7 hG ⟨fun _ => ⟨zN_in (by omega) (by decide), ?_⟩, fun e => ?_⟩
    · rw [zI_clamp (n := i) (by omega), hA 19 (by decide), r2 i hi, h9, zN_1, zI_lt0 (by omega), show (-6 : Int32) = zI (-6) from rfl, zI_lt (by omega) (by omega) (by omega) (by omega), show (-7 : Int32) = zI (-7) from rfl, zI_eq (by omega) (by omega) (by omega) (by omega)]
      have e40 : (zI (dpt cd i : Int) < 40) = (dpt cd i < 40) := by rw [show (40 : Int32) = zI ((40 : Nat) : Int) from rfl, zN_lt (by omega) (by omega)]
      have e0 : ((0 : Int32) < zI (dpt cd i : Int)) = (0 < dpt cd i) := by rw [show (0 : Int32) = zI ((0 : Nat) : Int) from rfl, zN_lt (by omega) (by omega)]
      refine ⟨fun e1 => ⟨fun e2 => ⟨fun e3 => ⟨fun e4 => ?_, fun e4 => ?_⟩, fun e3 => ⟨fun e4 => ?_, fun e4 => ?_⟩⟩, fun e2 => ⟨fun e3 => ⟨?_, ?_⟩, fun e3 => ?_⟩⟩, fun e1 => ⟨fun e3 => ⟨?_, ?_⟩, fun e3 => ?_⟩⟩
      · -- not
        have hd1 := w4 e3
        rw [zZ_s1, zZ_1, show (dpt cd i : Int) - 1 = ((dpt cd i - 1 : Nat) : Int) by omega, zI_clamp (by omega), show ((dpt cd i - 1 : Nat) : Int) + 1 = (dpt cd i : Int) by omega, wF_wF]
        rw [if_neg (by omega), if_neg (by omega), if_pos e3] at hev
        rw [if_neg (by omega), if_pos e3] at hdp
        have ht := hst (dpt cd i - 1) (by omega)
        have hfin : ∀ v : Int32, (if S (dpt cd i - 1) = 0 then (1 : Int32) else 0) = v → ∀ v2 v3, X (d + 1) 55 7 [.ref 18, .int (zI ((i + 1 : Nat) : Int)), v2, v3] [] (wF F1 18 9 (zI (dpt cd i : Int)), wF A1 20 (dpt cd i - 1) v, J, G) Q := by
          intro v hv v2 v3
          refine ih _ _ _ _ (fun i hi => by rw [wF_row hi]; exact hF i hi) (fun k hk => by rw [wF_cell hk]; exact hF2 k hk) (fun i hi => by rw [wF_row hi]; exact hA i hi) (by rw [wF_same, hdp]) (fun j hj => ?_)
          rw [hev, vup_at, wF_at, hv]
          by_cases ej : j = dpt cd i - 1
          · rw [if_pos ⟨rfl, ej⟩, if_pos ej]
          · rw [if_neg (fun q => ej q.2), if_neg ej]; exact hst j (by omega)
        refine ⟨zN_in (by omega) (by decide), fun e5 => ⟨fun _ => ?_, fun e6 => ?_⟩, fun e5 => ⟨fun _ => ?_, fun e6 => ?_⟩⟩
        · exact hfin 1 (by rw [← ht, if_pos e5]) _ _
        · exact absurd (show zI ((dpt cd i - 1 : Nat) : Int) < 40 by rw [show (40 : Int32) = zI ((40 : Nat) : Int) from rfl, zN_lt (by omega) (by omega)]; omega) e6
        · exact hfin 0 (by rw [← ht, if_neg e5]) _ _
        · exact absurd (show zI ((dpt cd i - 1 : Nat) : Int) < 40 by rw [show (40 : Int32) = zI ((40 : Nat) : Int) from rfl, zN_lt (by omega) (by omega)]; omega) e6
      · rw [e0] at e4
        exact absurd (w4 e3) (by omega)
      · -- two
        have hd2 := w5 (by omega)
        have hl0 : (0 : Int32) < zI ((dpt cd i - 1 : Nat) : Int) := by rw [show (0 : Int32) = zI ((0 : Nat) : Int) from rfl, zN_lt (by omega) (by omega)]; omega
        have hl4 : zI ((dpt cd i - 2 : Nat) : Int) < 40 := by rw [show (40 : Int32) = zI ((40 : Nat) : Int) from rfl, zN_lt (by omega) (by omega)]; omega
        rw [zZ_s1, show (dpt cd i : Int) - 1 = ((dpt cd i - 1 : Nat) : Int) by omega, zZ_s1, show ((dpt cd i - 1 : Nat) : Int) - 1 = ((dpt cd i - 2 : Nat) : Int) by omega]
        rw [zI_clamp (n := dpt cd i - 1) (by omega), zI_clamp (n := dpt cd i - 2) (by omega), zN_1, show dpt cd i - 2 + 1 = dpt cd i - 1 by omega, wF_wF, wF_wF, hst _ (show dpt cd i - 1 < dpt cd i by omega), hst _ (show dpt cd i - 2 < dpt cd i by omega)]
        rw [if_neg (by omega), if_neg (by omega), if_neg e3] at hev
        rw [if_neg (by omega), if_neg e3] at hdp
        refine ⟨zN_in (by omega) (by decide), fun _ => ⟨zN_in (by omega) (by decide), fun _ => ?_, fun e5 => absurd hl4 e5⟩, fun e5 => absurd hl0 e5⟩
        refine ih _ _ _ _ (fun i hi => by rw [wF_row hi]; exact hF i hi) (fun k hk => by rw [wF_cell hk]; exact hF2 k hk) (fun i hi => by rw [wF_row hi]; exact hA i hi) (by rw [wF_same, hdp]) (fun j hj => ?_)
        rw [hev, vup_at, wF_at]
        by_cases ej : j = dpt cd i - 2
        · rw [if_pos ⟨rfl, ej⟩, if_pos ej]
        · rw [if_neg (fun q => ej q.2), if_neg ej]; exact hst j (by omega)
      · rw [e0] at e4
        exact absurd (w5 (by omega)) (by omega)
      · exact zN_in (by omega) (by decide)
      · rw [zN_1, zI_clamp (n := dpt cd i) (by omega), hval _ (by omega) (by omega)]
        exact hpush _ (by omega) (by rw [hev, if_neg (by omega), if_pos (by omega)]) _ _
      · exact absurd (by rw [e40]; omega) e3
      · exact zN_in (by omega) (by decide)
      · rw [zN_1, zI_clamp (n := dpt cd i) (by omega)]
        exact hpush _ (by omega) (by rw [hev, if_pos (by omega)]) _ _
      · exact absurd (by rw [e40]; omega) e3
    · rw [hF2 1 (by decide), r1, zN_lt (by omega) (by omega)] at e
      omega
theorem m_237 (hG : Geo G SL p q) (hR : MRl F A cd cl) (h0 : 0 < cl) (hQ : ∀ A', (∀ i, i ≠ 87 → A' i = A i) → Q (.inl (some (.int (evF cd (A 86) cl 0)))) (F, A', J, G)) : X (d + 1) 237 0 [.ref 68, .null, .null, .null] [] (F, A, J, G) Q := by
  obtain ⟨hc6, ⟨hwf, hw1⟩, r1, r2⟩ := hR
  refine t_237_0 hG ?_
  refine up_ind (h := cl) (P := fun i => ∀ A1 v3, (∀ i, i ≠ 87 → A1 i = A i) → (∀ j, j < dpt cd i → A1 87 j = evF cd (A 86) i j) → X (d + 1) 237 4 [.ref 68, .int (zI (dpt cd i : Int)), .int (zI (i : Int)), v3] [] (F, A1, J, G) Q) ?_ ?_ A .null (fun _ _ => rfl) (fun j hj => absurd hj (Nat.not_lt_zero j))
  · intro A1 v3 hA hst
    refine t_237_4 hG ⟨fun e => ?_, fun _ => ?_⟩
    · rw [hA 72 (by decide), r1, zN_lt (by omega) (by omega)] at e
      omega
    · rw [hst 0 (by rw [hw1 h0]; decide)]
      exact hQ A1 hA
  · intro i hi ih A1 v3 hA hst
    obtain ⟨⟨w1, w2⟩, w3, w4, w5⟩ := hwf i hi
    have hdp : dpt cd (i + 1) = if -6 ≤ cd i then dpt cd i + 1 else if cd i = -7 then dpt cd i else dpt cd i - 1 := rfl
    have hev : evF cd (A 86) (i + 1) = if 0 ≤ cd i then va_up (evF cd (A 86) i) (dpt cd i) (zI (cd i)) else if -6 ≤ cd i then va_up (evF cd (A 86) i) (dpt cd i) (A 86 (-1 - cd i).toNat) else if cd i = -7 then va_up (evF cd (A 86) i) (dpt cd i - 1) (if evF cd (A 86) i (dpt cd i - 1) = 0 then 1 else 0) else va_up (evF cd (A 86) i) (dpt cd i - 2) (opS (zI (cd i)) (evF cd (A 86) i (dpt cd i - 2)) (evF cd (A 86) i (dpt cd i - 1))) := rfl
    generalize evF cd (A 86) i = S at hst hev
    have hm : -28 ≤ mdl (cd i) ∧ mdl (cd i) ≤ 9999 := by unfold mdl; split <;> (try split) <;> omega
    rw [hdp] at ih
    refine t_237_4 hG ⟨fun _ => ⟨zN_in (by omega) (by decide), ?_⟩, fun e => ?_⟩
    · rw [zI_clamp (n := i) (by omega), hA 78 (by decide), hA 86 (by decide), r2 i hi, zN_1 i, zN_1 (dpt cd i), show (-20 : Int32) = zI (-20) from rfl, zI_lt (by omega) (by omega) (by omega) (by omega), zI_lt0 (by omega), show (-28 : Int32) = zI (-28) from rfl, zI_eq (by omega) (by omega) (by omega) (by omega)]
      have hfin : ∀ (k : Nat) (v : Int32) (D : Nat), evF cd (A 86) (i + 1) = va_up S k v → (∀ j, j < D → j = k ∨ j < dpt cd i) → (if -6 ≤ cd i then dpt cd i + 1 else if cd i = -7 then dpt cd i else dpt cd i - 1) = D → ∀ v3, X (d + 1) 237 4 [.ref 68, .int (zI (D : Int)), .int (zI ((i + 1 : Nat) : Int)), v3] [] (F, wF A1 87 k v, J, G) Q := by
        intro k v D he hk hD v3
        rw [hD] at ih
        refine ih _ _ (fun i hi => by rw [wF_row hi]; exact hA i hi) (fun j hj => ?_)
        rw [he, vup_at, wF_at]
        by_cases ej : j = k
        · rw [if_pos ⟨rfl, ej⟩, if_pos ej]
        · rw [if_neg (fun q => ej q.2), if_neg ej]; exact hst j (by have := hk j hj; omega)
      refine ⟨fun e1 => ⟨fun e2 => ?_, fun e2 => ⟨zN_in (by omega) (by decide), ?_⟩⟩, fun e1 => ⟨fun e2 => ?_, fun e2 => ?_⟩⟩
      · have hc6 : -6 ≤ cd i := by
          by_cases hc : -6 ≤ cd i
          · exact hc
          · unfold mdl at e1; rw [if_neg hc] at e1; split at e1 <;> omega
        have hmc : mdl (cd i) = cd i := by unfold mdl; rw [if_pos hc6]
        rw [hmc] at e2
        rw [hmc, show (-1 : Int32) = zI (-1) from rfl, zI_sub, zI_inB (by omega) (by omega), zI_clampZ (a := -1 - cd i) (by omega) (by omega), zI_clamp (n := dpt cd i) (by omega)]
        refine ⟨by omega, zN_in (by omega) (by decide), ?_⟩
        exact hfin _ _ (dpt cd i + 1) (by rw [hev, if_neg (by omega), if_pos hc6]) (fun j hj => by omega) (if_pos hc6) _
      · have hc6 : -6 ≤ cd i := by
          by_cases hc : -6 ≤ cd i
          · exact hc
          · unfold mdl at e1; rw [if_neg hc] at e1; split at e1 <;> omega
        have hmc : mdl (cd i) = cd i := by unfold mdl; rw [if_pos hc6]
        rw [hmc] at e2
        rw [hmc, zI_clamp (n := dpt cd i) (by omega)]
        exact hfin _ _ (dpt cd i + 1) (by rw [hev, if_pos (by omega)]) (fun j hj => by omega) (if_pos hc6) _
      · have hc : cd i = -7 := by
          unfold mdl at e2
          by_cases hc : -6 ≤ cd i
          · rw [if_pos hc] at e2; omega
          · rw [if_neg hc] at e2
            by_cases hc7 : cd i = -7
            · exact hc7
            · rw [if_neg hc7] at e2; omega
        have hd1 := w4 hc
        rw [zZ_s1, show (dpt cd i : Int) - 1 = ((dpt cd i - 1 : Nat) : Int) by omega, zI_clamp (by omega), hst _ (show dpt cd i - 1 < dpt cd i by omega)]
        refine ⟨zN_in (by omega) (by decide), fun e5 => ?_, fun e5 => ?_⟩
        · exact hfin _ _ (dpt cd i) (by rw [hev, if_neg (by omega), if_neg (by omega), if_pos hc, if_pos e5]) (fun j hj => by omega) (by rw [if_neg (by omega), if_pos hc]) _
        · exact hfin _ _ (dpt cd i) (by rw [hev, if_neg (by omega), if_neg (by omega), if_pos hc, if_neg e5]) (fun j hj => by omega) (by rw [if_neg (by omega), if_pos hc]) _
      · have hc6 : ¬ -6 ≤ cd i := fun hc => by
          have hmc : mdl (cd i) = cd i := by unfold mdl; rw [if_pos hc]
          omega
        have hc7 : ¬ cd i = -7 := fun hc => by
          have hmc : mdl (cd i) = -28 := by unfold mdl; rw [if_neg hc6, if_pos hc]
          omega
        have hmc : mdl (cd i) = cd i - 12 := by unfold mdl; rw [if_neg hc6, if_neg hc7]
        have hd2 := w5 (by omega)
        rw [zZ_m1, show (dpt cd i : Int) - 1 = ((dpt cd i - 1 : Nat) : Int) by omega, zZ_s1, show ((dpt cd i - 1 : Nat) : Int) - 1 = ((dpt cd i - 2 : Nat) : Int) by omega, zI_clamp (n := dpt cd i - 1) (by omega), zI_clamp (n := dpt cd i - 2) (by omega), hst _ (show dpt cd i - 1 < dpt cd i by omega), hst _ (show dpt cd i - 2 < dpt cd i by omega), hmc, op_mdl _ _ w1 (by omega)]
        refine ⟨zN_in (by omega) (by decide), zN_in (by omega) (by decide), ?_⟩
        exact hfin _ _ (dpt cd i - 1) (by rw [hev, if_neg (by omega), if_neg hc6, if_neg hc7]) (fun j hj => by omega) (by rw [if_neg hc6, if_neg hc7]) _
    · rw [hA 72 (by decide), r1, zN_lt (by omega) (by omega)] at e
      omega
end RuleZ
