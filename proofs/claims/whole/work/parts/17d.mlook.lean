section MLookZ
variable {d : Nat} {F A F' A' F'' A'' : Nat → Nat → Int32} {J : Nat → Nat → Int64} {G : pG} {Q : pR → pM → Prop} {SL p q t a na b i l f : Nat} {K : Nat → Nat → Int} {n h : Nat} {ord ord' : Nat → Nat} {ml wd ln ml' wd' ln' : Nat → Int} {yr z y v τ : Int} {s : Nat} {sl : Nat → Nat} {st : Nat → Int} {L : List Nat}
/-- which -/
theorem m_276 (hG : Geo G SL p q) (hT : MTn F A K n) (hW : MTw F A n h ord ml wd ln yr) (hS : MSn F A s sl st) (hz : -2147483648 ≤ z ∧ z < 2147483648) (hb : ¬ (0 ≤ z ∧ z ≤ 2) → ∀ r, Q (.inl (some (.int r))) (wF F 68 3 1, A, J, G))
    (hok : (0 ≤ z ∧ z ≤ 2) → ∀ F' A', MScr F A F' A' → F' 68 3 = 0 → Q (.inl (some (.int (if z = 2 then bI (asB K h ord wd ln s sl st) else if z = 0 then zI ((flt id (mbB K h ord wd ln s sl st) (19 * h)).length : Int) else zI (owA ord (fsB (mbB K h ord wd ln s sl st) (19 * h) 0)))))) (F', A', J, G)) : X (d + 4) 276 0 [.ref 68, .int (zI z)] [] (F, A, J, G) Q := by
  have h10' := hT.1.1
  have h10 : h ≤ 10 := Nat.le_trans hW.1.1 hT.1.1
  have hW0 : MTw (wF F 68 3 0) A n h ord ml wd ln yr := by rw [MTw_code]; exact hW
  have hT0 : MTn (wF F 68 3 0) A K n := hT
  have hS0 : MSn (wF F 68 3 0) A s sl st := MSn_fr (by rw [wF_cell (by decide)]) rfl rfl hS
  refine t_276_0 hG ?_
  rw [inL_z (x := 0) (y := 2) (a := 0) (b := 2) rfl rfl hz (by decide) (by decide), wF_wF, show (2 : Int32) = zI 2 from rfl, zI_eq (by omega) (by omega) (by omega) (by omega)]
  simp only [decide_eq_true_eq, decide_eq_false_iff_not]
  refine ⟨fun e => ⟨fun e2 => ?_, fun e2 => ?_⟩, fun e => hb e _⟩
  · have hq := hok e _ _ (MScr_code 0) (wF_same _ _ _ _)
    rw [if_pos e2] at hq
    refine m_274 hG hT0 hW0 hS0 (k_276_32 hG ⟨fun e4 => ?_, fun e4 => ?_⟩)
    · cases hb : asB K h ord wd ln s sl st
      · rw [hb] at hq; exact hq
      · rw [hb] at e4; exact absurd e4 (by decide)
    · cases hb : asB K h ord wd ln s sl st
      · rw [hb] at e4; exact absurd rfl e4
      · rw [hb] at hq; exact hq
  · refine m_275 hG hT0 hW0 hS0 (fun F1 A1 hF hF2 hA hft => k_276_45 hG ?_)
    have hsc : MScr F A F1 A1 := (MScr_code 0).tr ⟨hF, fun k hk => hF2 k (by omega), fun i h1 h2 h3 => hA i (by omega) (by omega), fun i h1 h2 j hj => by rw [hA i (by omega) (by omega)]⟩
    have hq := hok e F1 A1 hsc (by rw [hF2 3 (by decide), wF_same])
    rw [if_neg e2] at hq
    obtain ⟨g1, g2, g3⟩ := hft
    have hlen := flt_len (ord := id) (p := mbB K h ord wd ln s sl st) (19 * h)
    rw [zI_eq0 hz]
    refine ⟨fun e3 => ?_, fun e3 => ?_⟩
    · rw [if_pos e3] at hq; rw [g1]; exact hq
    · rw [if_neg e3, flt_first] at hq
      rw [g1, zI_eq0 (by omega)]
      refine ⟨fun e4 => ?_, fun e4 => ?_⟩
      · rw [if_pos (by omega)] at hq; exact hq
      · rw [if_neg (by omega), owA_n] at hq
        rw [g2 0 (by omega), g3 0 (by omega), show (100 : Int32) = zI 100 from rfl, show (50 : Int32) = zI 50 from rfl, zI_mul, zI_add, zI_add]
        exact hq
/-- how many unlike tilts -/
theorem m_277 (hG : Geo G SL p q) (hT : MTn F A K n) (hW : MTw F A n h ord ml wd ln yr) (hl : l < h) (hft : Fit F A ord L) (hL : L.length ≤ 190) (hL2 : ∀ e, e ∈ L → e < 19 * h) (hQ : ∀ A', (∀ i, i ≠ 98 → A' i = A i) → Q (.inl (some (.int (zI ((unL (fun j => gLk K ord ln l (L.getD j 0)) L.length : Nat) : Int))))) (F, A', J, G)) : X (d + 2) 277 0 [.ref 68, .int (zI (l : Int)), .null, .null, .null, .null, .null, .null] [] (F, A, J, G) Q := by
  have h10' := hT.1.1
  have h10 : h ≤ 10 := Nat.le_trans hW.1.1 hT.1.1
  obtain ⟨g1, g2, g3⟩ := hft
  generalize hTe : tltZ K ord wd ln l = T0
  have htb := tlt_b hT.1 hW.1 hl
  rw [hTe] at htb
  have hgb : ∀ j, j < L.length → -36 ≤ gLk K ord ln l (L.getD j 0) ∧ gLk K ord ln l (L.getD j 0) ≤ 36 := by
    intro j hj
    have := hL2 _ (getD_mem hj)
    unfold gLk
    split
    · exact sh_b hT.1 hW.1 (by omega) (by omega)
    · omega
  refine t_277_0 hG ?_
  refine up_ind (h := L.length) (P := fun k => ∀ A1 v4 v5 v6 v7, (∀ i, i ≠ 98 → A1 i = A i) → (∀ j, j < k → A1 98 j = zI (T0 + gLk K ord ln l (L.getD j 0))) → X (d + 2) 277 4 [.ref 68, .int (zI (l : Int)), .int (zI ((unL (fun j => gLk K ord ln l (L.getD j 0)) k : Nat) : Int)), .int (zI (k : Int)), v4, v5, v6, v7] [] (F, A1, J, G) Q) ?_ ?_ A .null .null .null .null (fun _ _ => rfl) (fun j hj => absurd hj (Nat.not_lt_zero j))
  · intro A1 v4 v5 v6 v7 hA ht
    refine t_277_4 hG ⟨fun e => ?_, fun _ => hQ A1 hA⟩
    rw [g1, zN_lt (by omega) (by omega)] at e
    omega
  · intro k hk ih A1 v4 v5 v6 v7 hA ht
    have he := hL2 _ (getD_mem hk)
    have hul := unL_le (fun j => gLk K ord ln l (L.getD j 0)) k
    have hole := hW.1.2.1 (L.getD k 0 / 19) (by omega)
    have hlne := (hW.1.2.2.2.1 _ hole).2.2
    refine t_277_4 hG ⟨fun _ => ?_, fun e => ?_⟩
    · rw [zI_clamp (n := k) (by omega), hA 96 (by decide), hA 97 (by decide), hA 84 (by decide), g2 k hk, g3 k hk, zI_clamp (n := ord (L.getD k 0 / 19)) (by omega), hW.2.2.2.2.2.2 _ hole]
      refine ⟨zN_in (by omega) (by decide), zN_in (by omega) (by decide), ?_⟩
      have hW3 := MTw_lean (i := ord (L.getD k 0 / 19)) (v := ((L.getD k 0 % 19 : Nat) : Int) - 9) (by omega) hW
      have hA2 : ∀ i, i ≠ 98 → wF A1 84 (ord (L.getD k 0 / 19)) (zI (((L.getD k 0 % 19 : Nat) : Int) - 9)) i = wF A 84 (ord (L.getD k 0 / 19)) (zI (((L.getD k 0 % 19 : Nat) : Int) - 9)) i := by
        intro i h1
        funext j
        rw [wF_at, wF_at, hA i h1]
      have hW4 := MTw_fr (F' := F) (A' := wF A1 84 (ord (L.getD k 0 / 19)) (zI (((L.getD k 0 % 19 : Nat) : Int) - 9))) rfl rfl (fun i h1 h2 => hA2 i (by omega)) hW3
      have hT4 : MTn F (wF A1 84 (ord (L.getD k 0 / 19)) (zI (((L.getD k 0 % 19 : Nat) : Int) - 9))) K n := MTn_A (fun i hi => by rw [hA2 i (by omega), wF_row (by omega)]) hT
      refine m_215 hG hT4 hW4 hl (k_277_52 hG ?_)
      have htv : tltZ K ord wd (upZ ln (ord (L.getD k 0 / 19)) (((L.getD k 0 % 19 : Nat) : Int) - 9)) l = T0 + gLk K ord ln l (L.getD k 0) := by
        rw [tlt_up hW.1 (show L.getD k 0 / 19 < h by omega) hl, hTe]; rfl
      rw [htv, zI_clamp (n := k) (by omega), zI_clamp (n := ord (L.getD k 0 / 19)) (by omega)]
      refine ⟨zN_in (by omega) (by decide), zN_in (by omega) (by decide), ?_⟩
      have hA5 : ∀ i, i ≠ 98 → wF (wF (wF A1 84 (ord (L.getD k 0 / 19)) (zI (((L.getD k 0 % 19 : Nat) : Int) - 9))) 98 k (zI (T0 + gLk K ord ln l (L.getD k 0)))) 84 (ord (L.getD k 0 / 19)) (zI (ln (ord (L.getD k 0 / 19)))) i = A i := by
        intro i h1
        funext j
        rw [wF_at, wF_row h1, wF_at, hA i h1]
        by_cases e : i = 84 ∧ j = ord (L.getD k 0 / 19)
        · rw [if_pos e, e.1, e.2, hW.2.2.2.2.2.2 _ hole]
        · rw [if_neg e, if_neg e]
      have h98 : ∀ j, j < k + 1 → wF (wF (wF A1 84 (ord (L.getD k 0 / 19)) (zI (((L.getD k 0 % 19 : Nat) : Int) - 9))) 98 k (zI (T0 + gLk K ord ln l (L.getD k 0)))) 84 (ord (L.getD k 0 / 19)) (zI (ln (ord (L.getD k 0 / 19)))) 98 j = zI (T0 + gLk K ord ln l (L.getD j 0)) := by
        intro j hj
        rw [wF_row (by decide), wF_at]
        by_cases e : j = k
        · rw [if_pos ⟨rfl, e⟩, e]
        · rw [if_neg (fun q => e q.2), wF_row (by decide)]; exact ht j (by omega)
      generalize wF (wF (wF A1 84 (ord (L.getD k 0 / 19)) (zI (((L.getD k 0 % 19 : Nat) : Int) - 9))) 98 k (zI (T0 + gLk K ord ln l (L.getD k 0)))) 84 (ord (L.getD k 0 / 19)) (zI (ln (ord (L.getD k 0 / 19)))) = A5 at hA5 h98
      have hbk := hgb k hk
      have hi := fun v4 v5 v6 v7 => ih A5 v4 v5 v6 v7 hA5 h98
      rw [unL] at hi
      refine fs_ind (p := fun q => decide (gLk K ord ln l (L.getD q 0) = gLk K ord ln l (L.getD k 0))) (h := k) (P := fun r => ∀ v4 v5 v6 v7, X (d + 2) 277 4 [.ref 68, .int (zI (l : Int)), .int (zI ((if r = -1 then unL (fun j => gLk K ord ln l (L.getD j 0)) k + 1 else unL (fun j => gLk K ord ln l (L.getD j 0)) k : Nat) : Int)), .int (zI ((k + 1 : Nat) : Int)), v4, v5, v6, v7] [] (F, A5, J, G) Q) (R := fun j => X (d + 2) 277 68 [.ref 68, .int (zI (l : Int)), .int (zI ((unL (fun j => gLk K ord ln l (L.getD j 0)) k : Nat) : Int)), .int (zI (k : Int)), .int (zI (ord (L.getD k 0 / 19) : Int)), .int (zI (ln (ord (L.getD k 0 / 19)))), .int 1, .int (zI (j : Int))] [] (F, A5, J, G) Q) hi (fun hq => ?_) (fun j hj hp hn => ?_)
      · rw [if_pos rfl] at hq
        refine t_277_68 hG ⟨fun e => ?_, fun _ => ⟨fun e => absurd e (by decide), fun _ => ?_⟩⟩
        · rw [zN_lt (by omega) (by omega)] at e
          omega
        · rw [zN_1, zN_1]; exact hq _ _ _ _
      · have hbj := hgb j (by omega)
        refine t_277_68 hG ⟨fun _ => ⟨fun e => absurd e (by decide), fun _ => ?_⟩, fun e => ?_⟩
        · rw [zI_clamp (n := j) (by omega), zI_clamp (n := k) (by omega), h98 j (by omega), h98 k (by omega), zI_eq (by omega) (by omega) (by omega) (by omega), zN_1]
          refine ⟨zN_in (by omega) (by decide), zN_in (by omega) (by decide), fun e => ?_, fun e => ?_⟩
          · have hq := hp (decide_eq_true (by omega))
            rw [if_neg (by omega)] at hq
            have e0 : zI ((unL (fun j => gLk K ord ln l (L.getD j 0)) k : Nat) : Int) + 0 = zI ((unL (fun j => gLk K ord ln l (L.getD j 0)) k : Nat) : Int) := Int32.add_zero _
            refine t_277_68 hG ⟨fun _ => ⟨fun _ => ⟨fun _ => ?_, fun e2 => absurd rfl e2⟩, fun e2 => absurd rfl e2⟩, fun _ => ⟨fun _ => ?_, fun e2 => absurd rfl e2⟩⟩
            · rw [zN_1, e0]; exact hq _ _ _ _
            · rw [zN_1, e0]; exact hq _ _ _ _
          · exact hn (decide_eq_false (by omega))
        · rw [zN_lt (by omega) (by omega)] at e
          omega
    · rw [g1, zN_lt (by omega) (by omega)] at e
      omega
theorem m_278 (hG : Geo G SL p q) (hT : MTn F A K n) (hW : MTw F A n h ord ml wd ln yr) (hS : MSn F A s sl st) (hQ : ∀ F' A', MScr F A F' A' → F' 68 3 = 0 → Q (.inl (some (.int (zI (lkM K h ord wd ln s sl st h).1)))) (F', A', J, G)) : X (d + 4) 278 0 [.ref 68, .null, .null, .null, .null] [] (F, A, J, G) Q := by
  have h10' := hT.1.1
  have h10 : h ≤ 10 := Nat.le_trans hW.1.1 hT.1.1
  have hW0 : MTw (wF F 68 3 0) A n h ord ml wd ln yr := by rw [MTw_code]; exact hW
  have hT0 : MTn (wF F 68 3 0) A K n := hT
  have hS0 : MSn (wF F 68 3 0) A s sl st := MSn_fr (by rw [wF_cell (by decide)]) rfl rfl hS
  refine t_278_0 hG (m_275 hG hT0 hW0 hS0 (fun F1 A1 hF hF2 hA hft => k_278_9 hG ?_))
  have hlen := flt_len (ord := id) (p := mbB K h ord wd ln s sl st) (19 * h)
  refine up_ind (h := h) (P := fun l => ∀ A2 v4, (∀ i, i ≠ 98 → A2 i = A1 i) → X (d + 4) 278 15 [.ref 68, .int (zI (lkM K h ord wd ln s sl st l).1), .int (zI (lkM K h ord wd ln s sl st l).2), .int (zI (l : Int)), v4] [] (F1, A2, J, G) Q) ?_ ?_ A1 .null (fun _ _ => rfl)
  · intro A2 v4 hA2
    have hsc : MScr F A F1 A2 := (MScr_code 0).tr ⟨hF, fun k hk => hF2 k (by omega), fun i h1 h2 h3 => by rw [hA2 i (by omega)]; exact hA i (by omega) (by omega), fun i h1 h2 j hj => by rw [hA2 i (by omega), hA i (by omega) (by omega)]⟩
    refine t_278_15 hG ⟨fun e => ?_, fun _ => hQ F1 A2 hsc (by rw [hF2 3 (by decide), wF_same])⟩
    rw [hF2 28 (by decide), hW0.2.1, zN_lt (by omega) (by omega)] at e
    omega
  · intro l hl ih A2 v4 hA2
    have hub := fun l => unZ_le (mbB K h ord wd ln s sl st) (gLk K ord ln l) (19 * h)
    have hmb : 0 ≤ (lkM K h ord wd ln s sl st l).2 ∧ (lkM K h ord wd ln s sl st l).2 ≤ 200 := amx_b2 (by decide) l (fun i _ _ => by have := hub i; omega)
    have hb := hub l
    have hW2 : MTw F1 A2 n h ord ml wd ln yr := MTw_fr (hF2 28 (by decide)) (hF2 29 (by decide)) (fun i h1 h2 => by rw [hA2 i (by omega)]; exact hA i (by omega) (by omega)) hW0
    have hT2 : MTn F1 A2 K n := MTn_A (fun i hi => by rw [hA2 i (by omega)]; exact hA i (by omega) (by omega)) hT0
    have hft2 : Fit F1 A2 ord (flt id (mbB K h ord wd ln s sl st) (19 * h)) := by
      unfold Fit at hft ⊢
      rw [hA2 96 (by decide), hA2 97 (by decide)]; exact hft
    refine t_278_15 hG ⟨fun _ => m_277 hG hT2 hW2 hl hft2 (by omega) (fun e he => ?_) (fun A3 hA3 => k_278_28 hG ?_), fun e => ?_⟩
    · obtain ⟨e', h1, h2, -⟩ := (flt_mem (ord := id) _).mp he
      have : e' = e := h2
      omega
    · rw [← unZ_unL, zI_lt (by omega) (by omega) (by omega) (by omega), zN_1]
      have hi := fun v => ih A3 v (fun i hi => by rw [hA3 i hi]; exact hA2 i hi)
      rw [lkM_step] at hi
      refine ⟨fun e => ?_, fun e => ?_⟩
      · have := hi (.int (zI ((unZ (mbB K h ord wd ln s sl st) (gLk K ord ln l) (19 * h) : Nat) : Int)))
        rw [if_pos e] at this
        exact this
      · have := hi (.int (zI ((unZ (mbB K h ord wd ln s sl st) (gLk K ord ln l) (19 * h) : Nat) : Int)))
        rw [if_neg e] at this
        exact this
    · rw [hF2 28 (by decide), hW0.2.1, zN_lt (by omega) (by omega)] at e
      omega
end MLookZ
