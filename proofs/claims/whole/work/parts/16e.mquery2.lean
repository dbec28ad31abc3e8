/-! the reference: without, relief -/
section MQueryB
variable {d : Nat} {F A F' A' F'' A'' : Nat → Nat → Int32} {J : Nat → Nat → Int64} {G : pG} {Q : pR → pM → Prop} {SL p q t a na b i l : Nat} {K : Nat → Nat → Int} {n h : Nat} {ord ord' : Nat → Nat} {ml wd ln ml' wd' ln' : Nat → Int} {yr z y : Int}
/-- the row is kept in 88, all else as it was -/
def IK (F A F1 A1 : Nat → Nat → Int32) : Prop := MScr F A F1 A1 ∧ Pkd A1 88 0 F A ∧ F1 68 3 = F 68 3
theorem IK_pack {A1 : Nat → Nat → Int32} (h1 : ∀ i, i ≠ 88 → A1 i = A i) (hp : Pkd A1 88 0 F A) : IK F A F A1 := ⟨⟨fun _ _ => rfl, fun _ _ => rfl, fun i e1 e2 e3 => h1 i (by omega), fun i e1 e2 j hj => by rw [h1 i (by omega)]⟩, hp, rfl⟩
theorem IK_un {F1 A1 F2 A2 A3 : Nat → Nat → Int32} (hk : IK F A F1 A1) (h2 : ∀ i, (i < 81 ∨ 84 < i) → A2 i = A1 i) (hF : ∀ i, i ≠ 68 → F2 i = F1 i) (hF2 : ∀ k, (k = 3 ∨ k = 13 ∨ k = 22 ∨ k = 31 ∨ k = 32 ∨ (50 ≤ k ∧ k ≤ 52)) → F2 68 k = F1 68 k) (h3 : ∀ i, (i < 81 ∨ 84 < i) → A3 i = A2 i) (h4 : ∀ j, j < 10 → A3 81 j = A2 88 (0 + 3 + j) ∧ A3 82 j = A2 88 (0 + 13 + j) ∧ A3 83 j = A2 88 (0 + 23 + j) ∧ A3 84 j = A2 88 (0 + 33 + j)) : IK F A (UnF F2 A2 88 0) A3 := by
  obtain ⟨hs, hp, h9⟩ := hk
  have hp' := hp
  obtain ⟨p1, p2, p3, p4⟩ := hp
  refine ⟨⟨fun i hi => ?_, fun k hk => ?_, fun i e1 e2 e3 => ?_, fun i e1 e2 j hj => ?_⟩, ?_, ?_⟩
  · unfold UnF; rw [wF_row hi, wF_row hi, wF_row hi, hF i hi]; exact hs.1 i hi
  · unfold UnF
    rw [h2 88 (by omega), p1, p2, p3]
    by_cases k28 : k = 28
    · subst k28; rw [wF_cell (by decide), wF_cell (by decide), wF_same]
    · by_cases k29 : k = 29
      · subst k29; rw [wF_cell (by decide), wF_same]
      · by_cases k30 : k = 30
        · subst k30; rw [wF_same]
        · rw [wF_cell k30, wF_cell k29, wF_cell k28, hF2 k (by omega)]; exact hs.2.1 k hk
  · rw [h3 i e1, h2 i e1]; exact hs.2.2.1 i e1 e2 e3
  · have q4 := h4 j hj
    have p5 := p4 j hj
    rw [h2 88 (by omega)] at q4
    have : i = 81 ∨ i = 82 ∨ i = 83 ∨ i = 84 := by omega
    rcases this with rfl | rfl | rfl | rfl
    · rw [q4.1]; exact p5.1
    · rw [q4.2.1]; exact p5.2.1
    · rw [q4.2.2.1]; exact p5.2.2.1
    · rw [q4.2.2.2]; exact p5.2.2.2
  · unfold Pkd at hp' ⊢
    rw [h3 88 (by omega), h2 88 (by omega)]
    exact hp'
  · unfold UnF
    rw [wF_cell (by decide), wF_cell (by decide), wF_cell (by decide), hF2 3 (by omega)]
    exact h9
theorem rem_ne (hw : TwOk n h ord ml wd ln yr) (hl : l < h) {k : Nat} (hk : k < h - 1) : remO ord l k ≠ ord l := by
  unfold remO
  split
  · intro e; have := hw.2.2.1 k l (by omega) hl e; omega
  · intro e; have := hw.2.2.1 (k + 1) l (by omega) hl e; omega
theorem mor_rem (hw : TwOk n h ord ml wd ln yr) (hl : l < h) : morZ K (h - 1) (remO ord l) (upZ ml (ord l) 0) wd ln yr = morZ K (h - 1) (remO ord l) ml wd ln yr := mor_congr (fun _ _ => rfl) (fun k hk => upZ_ne _ _ (rem_ne hw hl hk)) (fun _ _ => rfl) (fun _ _ => rfl)
theorem std_rem (hw : TwOk n h ord ml wd ln yr) (hl : l < h) : stdB K (h - 1) (remO ord l) (upZ ml (ord l) 0) wd ln yr = stdB K (h - 1) (remO ord l) ml wd ln yr := std_congr (fun _ _ => rfl) (fun k hk => upZ_ne _ _ (rem_ne hw hl hk)) (fun _ _ => rfl) (fun _ _ => rfl)
theorem wit_std (hw : TwOk n h ord ml wd ln yr) (hl : l < h) : (witZ K h ord ml wd ln yr (ord l) = -1) = (stdB K (h - 1) (remO ord l) ml wd ln yr = false) := by
  obtain ⟨l', hl', he', hlv⟩ := lvz_at hw ((bst_bit ord (ord l) h).mpr ⟨l, hl, rfl⟩)
  have := hw.2.2.1 l' l hl' hl he'
  subst this
  unfold witZ
  rw [hlv, Int.toNat_natCast, ← Bool.not_eq_true, stdB_iff, mor_std]
theorem MTn_A {A1 : Nat → Nat → Int32} (hA : ∀ i, i < 78 → A1 i = A i) (hT : MTn F A K n) : MTn F' A1 K n := by
  unfold MTn Wrm at hT ⊢
  rw [hA 71 (by decide), hA 72 (by decide), hA 73 (by decide), hA 74 (by decide), hA 75 (by decide), hA 77 (by decide)]
  exact hT
theorem k88 (hG : Geo G SL p q) : gK G 88 = 20 := k_88 hG
theorem l88 (hG : Geo G SL p q) : gL G 88 = 43 := l_88 hG
theorem m_243 (hG : Geo G SL p q) (hT : MTn F A K n) (hW : MTw F A n h ord ml wd ln yr) (hz : -2147483648 ≤ z ∧ z < 2147483648)
    (hb1 : ¬ (0 ≤ z ∧ z < n) → ∀ r, Q (.inl (some (.int r))) (wF F 68 3 1, A, J, G)) (hb2 : (0 ≤ z ∧ z < n) → lvZ ord h z = -1 → Q (.inl (some (.int 0))) (wF F 68 3 0, A, J, G))
    (hok : ∀ l, l < h → z = (ord l : Nat) → ∀ F' A', MScr F A F' A' → F' 68 3 = 0 → Q (.inl (some (.int (bI (stdB K (h - 1) (remO ord l) ml wd ln yr))))) (F', A', J, G)) : X (d + 6) 243 0 [.ref 68, .int (zI z), .null] [] (F, A, J, G) Q := by
  have h10 := hT.1.1
  have hh := hW.1.1
  have hW0 : MTw (wF F 68 3 0) A n h ord ml wd ln yr := by rw [MTw_code]; exact hW
  have f1' := hW0.2.1
  have hlb := lvZ_b (ord := ord) (h := h) (z := z)
  refine t_243_0 hG ?_
  rw [hT.2.2.1, f1', inR_z hz h10, lvi_z hz h10 hW0, zm1, zI_eq (by omega) (by omega) (by omega) (by omega), wF_wF]
  simp only [decide_eq_true_eq, decide_eq_false_iff_not]
  refine ⟨hB_z h10, fun e1 => ⟨hB_z (by omega), fun e2 => hb2 e1 e2, fun e2 => ?_⟩, fun e1 => hb1 e1 _⟩
  obtain ⟨i, rfl⟩ : ∃ i : Nat, z = i := ⟨z.toNat, by omega⟩
  have hbt : (bst ord h).testBit i = true := by
    rw [← Bool.not_eq_false, ← lvZ_none]; exact e2
  obtain ⟨l, hl, he, hlv⟩ := lvz_at hW.1 hbt
  refine m_207 hG (k88 hG) (l88 hG) (by decide) (b := 0) (by decide) (by decide) (fun A1 h1 h1' hp => k_243_39 hG ?_)
  have hT1 : MTn (wF F 68 3 0) A1 K n := MTn_A (fun i hi => h1 i (by omega)) hT
  have hk := IK_pack h1 hp
  have hW1 := MTw_scr h10 hk.1 hW0
  refine m_230 hG h10 hW1 hl he (fun A2 hA2 hW2 => k_243_44 hG ?_)
  refine m_218 hG (MTn_A (fun i hi => hA2 i (by omega)) hT1) hW2 (k_243_48 hG ?_)
  refine m_208 hG (k88 hG) (l88 hG) (by decide) (b := 0) (by decide) (by decide) (fun A3 h3 h4 => k_243_58 hG ⟨bI_01 _, ?_⟩)
  have hk3 := IK_un hk (A2 := A2) (F2 := wF (wF F 68 3 0) 68 28 (zI ((h - 1 : Nat) : Int))) (fun i hi => hA2 i (by omega)) (fun i hi => wF_row hi) (fun k hk => wF_cell (by omega) _) h3 h4
  subst he
  rw [std_rem hW.1 hl]
  exact hok l hl rfl _ _ ((MScr_code 0).tr hk3.1) (by rw [hk3.2.2, wF_same])
theorem m_268 (hG : Geo G SL p q) (hT : MTn F A K n) (hW : MTw F A n h ord ml wd ln yr) (hQ : ∀ F' A', MScr F A F' A' → F' 68 3 = 0 → Q (.inl (some (.int (zI (relZ K h ord ml wd ln yr n).1)))) (F', A', J, G)) : X (d + 7) 268 0 [.ref 68, .null, .null, .null, .null] [] (F, A, J, G) Q := by
  have h10 := hT.1.1
  have hh := hW.1.1
  have hW0 : MTw (wF F 68 3 0) A n h ord ml wd ln yr := by rw [MTw_code]; exact hW
  refine t_268_0 hG (m_207 hG (k88 hG) (l88 hG) (by decide) (b := 0) (by decide) (by decide) (fun A1 h1 h1' hp => k_268_18 hG ?_))
  refine up_ind (h := n) (P := fun j => ∀ F1 A1 v, IK (wF F 68 3 0) A F1 A1 → X (d + 7) 268 20 [.ref 68, .int (zI (relZ K h ord ml wd ln yr j).1), .int (zI (relZ K h ord ml wd ln yr j).2), .int (zI (j : Int)), v] [] (F1, A1, J, G) Q) ?_ ?_ _ A1 .null (IK_pack h1 hp)
  · intro F1 A1 v hk
    have hT1 : MTn F1 A1 K n := MTn_scr ((MScr_code 0).tr hk.1) hT
    refine t_268_20 hG ⟨fun e => ?_, fun _ => hQ F1 A1 ((MScr_code 0).tr hk.1) (by rw [hk.2.2, wF_same])⟩
    rw [hT1.2.2.1, zN_lt (by omega) (by omega)] at e
    omega
  · intro j hj ih F1 A1 v hk
    have hT1 : MTn F1 A1 K n := MTn_scr ((MScr_code 0).tr hk.1) hT
    have hW1 : MTw F1 A1 n h ord ml wd ln yr := MTw_scr h10 hk.1 hW0
    have hlb := lvZ_b (ord := ord) (h := h) (z := (j : Int))
    have hln := lvZ_none (ord := ord) (h := h) (i := j)
    have hwb : ∀ i, i < j → (bst ord h).testBit i = true → witZ K h ord ml wd ln yr i ≤ 9999 := fun i hi hb => by
      obtain ⟨l, hl, he, hlv⟩ := lvz_at hW.1 hb
      unfold witZ
      rw [hlv, Int.toNat_natCast]
      exact (mor_b hT.1 (rem_ok hl hW.1)).2
    have hb : -1 ≤ (relZ K h ord ml wd ln yr j).2 ∧ (relZ K h ord ml wd ln yr j).2 ≤ 9999 := amx_b2 (by decide) j hwb
    have ih' := fun F1 A1 v hs => ih F1 A1 v hs
    simp only [relZ, amx] at ih'
    refine t_268_20 hG ⟨fun _ => ?_, fun e => ?_⟩
    · rw [hW1.2.1, lvi_z (by omega) h10 hW1, zm1, zI_eq (by omega) (by omega) (by omega) (by omega), hln, zN_1]
      refine ⟨hB_z (by omega), fun e => ?_, fun e => ?_⟩
      · have := ih' F1 A1 v hk
        rw [if_neg (fun q => by rw [e] at q; exact absurd q.1 (by decide))] at this
        exact this
      · have e1 : (bst ord h).testBit j = true := by simpa using e
        obtain ⟨l, hl, he, hlv⟩ := lvz_at hW.1 e1
        refine m_230 hG h10 hW1 hl he (fun A2 hA2 hW2 => k_268_47 hG (m_219 hG (MTn_A (fun i hi => hA2 i (by omega)) hT1) hW2 (k_268_51 hG (m_208 hG (k88 hG) (l88 hG) (by decide) (b := 0) (by decide) (by decide) (fun A3 h3 h4 => k_268_62 hG ?_)))))
        have hk3 := IK_un hk (A2 := A2) (F2 := wF F1 68 28 (zI ((h - 1 : Nat) : Int))) (fun i hi => hA2 i (by omega)) (fun i hi => wF_row hi) (fun k hk => wF_cell (by omega) _) h3 h4
        have hwj : morZ K (h - 1) (remO ord l) (upZ ml j 0) wd ln yr = witZ K h ord ml wd ln yr j := by
          rw [← he, mor_rem hW.1 hl, he]
          unfold witZ
          rw [hlv, Int.toNat_natCast]
        have hwj' : -70000 ≤ witZ K h ord ml wd ln yr j ∧ witZ K h ord ml wd ln yr j ≤ 9999 := by
          unfold witZ
          rw [hlv, Int.toNat_natCast]
          exact mor_b hT.1 (rem_ok hl hW.1)
        rw [hwj, zI_lt (by omega) (by omega) (by omega) (by omega), zN_1]
        refine ⟨fun e' => ?_, fun e' => ?_⟩
        · have := ih' _ A3 (.int (zI (witZ K h ord ml wd ln yr j))) hk3
          rw [if_pos ⟨e1, e'⟩] at this
          exact this
        · have := ih' _ A3 (.int (zI (witZ K h ord ml wd ln yr j))) hk3
          rw [if_neg (fun q => e' q.2)] at this
          exact this
    · rw [hT1.2.2.1, zN_lt (by omega) (by omega)] at e
      omega
end MQueryB
