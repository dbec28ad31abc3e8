/-! the class reads a town -/
section TownC
variable {d : Nat} {F A F0 A0 F1 A1 F' A' : Nat → Nat → Int32} {J : Nat → Nat → Int64} {G : pG} {Q : pR → pM → Prop} {SL p q : Nat} {tp : Nat → Int32} {N s i j n : Nat} {c : List Int} {t : TwnR} {e : Nat × Nat}
theorem CLE_w {k : Nat} {v : Int32} (h : CLE F0 A0 F A e) : CLE F0 A0 (wF F 2 k v) A e := by
  obtain ⟨h1, h2, h3, h4, h5⟩ := h
  exact ⟨⟨fun i i2 i8 i11 => by rw [wF_row i2]; exact h1.1 i i2 i8 i11, h1.2⟩, h2, h3, by rw [wF_row (by decide)]; exact h4, by rw [wF_row (by decide)]; exact h5⟩
/-- a limit's line but for its end -/
theorem c_32 (hG : Geo G SL p q) (hL : CL F0 A0 tp N F A s t) (hs : s < N) (h4 : t.2.2.1 = true → ∀ F', CLE F0 A0 F' A (4, s) → Q (.inl (some (.int 0))) (F', A, J, G)) (h1 : t.2.2.1 = false → ∀ v, numS tp N 0 40 (nxS tp N s) = .inr v → ∀ F', CL F0 A0 tp N F' A v.1 (t.1, upK t.2.1 4 0 v.2, true, t.2.2.2) → Q (.inl (some (.int 1))) (F', A, J, G)) (h0 : t.2.2.1 = false → ∀ e, numS tp N 0 40 (nxS tp N s) = .inl e → ∀ F', CLE F0 A0 F' A e → Q (.inl (some (.int 0))) (F', A, J, G)) : X (d + 3) 32 0 [.ref 11] [] (F, A, J, G) Q := by
  obtain ⟨l1, hC, hT, l20, l21, l22, l3, l9, l10⟩ := hL
  refine t_32_0 hG ?_
  rw [l9]
  cases hl : t.2.2.1 with
  | true => exact ⟨fun h => absurd h (by decide), fun _ => h4 hl _ (CLE_of l1 (CR_e hC (k := 4) rfl (by decide) (by decide)))⟩
  | false =>
    refine ⟨fun _ => ?_, fun h => absurd rfl h⟩
    have hC0 : CR (wF F 11 9 1) A tp N (wF F 11 9 1) A s t.2.2.2.2 := CR_re hC (fun j j9 _ => wF_cell j9 _) (by rw [wF_row (by decide)]) rfl rfl
    have l1' : RLr F0 A0 (wF F 11 9 1) A := ⟨fun i i2 i8 i11 => by rw [wF_row i11]; exact l1.1 i i2 i8 i11, l1.2⟩
    refine CR_n hG hC0 (fun F2 hC2 => k_32_22 hG (c_43 hG (lo := 0) (hi := 40) (by decide) (by decide) rfl rfl hC2 (fun s3 v e3 F3 hC3 => ?_) (fun e he F3 hE => ?_)))
    · have b3 := num_b e3 (nx_le (Nat.le_of_lt hs))
      refine k_32_33 hG ⟨fun _ => h1 hl (s3, v) e3 _ ⟨?_, ?_, ?_, ?_, ?_, ?_, l3, ?_, ?_⟩, fun h => absurd hC3.2.2.2.1 h⟩
      · have hr := l1'.of hC3.1
        exact ⟨fun i i2 i8 i11 => by rw [wF_row i2]; exact hr.1 i i2 i8 i11, hr.2⟩
      · exact CR_re hC3 (fun j _ _ => by rw [wF_row (by decide)]) (by rw [wF_row (by decide)]) rfl rfl
      · refine ⟨⟨hT.1.1, fun i hi => ?_, ?_, ?_⟩, fun i hi => ?_, hT.2.2⟩
        · dsimp only at hi ⊢
          rw [upK_r (by decide), upK_r (by decide), upK_r (by decide), upK_r (by decide)]; exact hT.1.2.1 i hi
        · dsimp only; rw [upK_s]; exact b3.1
        · dsimp only; rw [upK_r (by decide)]; exact hT.1.2.2.2
        · dsimp only at hi ⊢
          rw [upK_r (by decide)]; exact hT.2.1 i hi
      · rw [wF_cell (by decide), hC3.1.1 2 (by decide) (by decide), wF_row (by decide)]; exact l20
      · dsimp only; rw [wF_same, upK_s]
      · dsimp only; rw [wF_cell (by decide), upK_r (by decide), hC3.1.1 2 (by decide) (by decide), wF_row (by decide)]; exact l22
      · rw [wF_row (by decide), hC3.1.2.1.1, wF_same]; rfl
      · rw [wF_row (by decide), hC3.1.2.1.2, wF_cell (by decide)]; exact l10
    · exact k_32_33 hG ⟨fun h => absurd h (CE_b hE), fun _ => h0 hl e he _ (CLE_w (CLE_of l1' hE))⟩
theorem c_33 (hG : Geo G SL p q) (hL : CL F0 A0 tp N F A s t) (hs : s < N) (h4 : t.2.2.2.1 = true → ∀ F', CLE F0 A0 F' A (4, s) → Q (.inl (some (.int 0))) (F', A, J, G)) (h1 : t.2.2.2.1 = false → ∀ v, numS tp N 0 999 (nxS tp N s) = .inr v → ∀ F', CL F0 A0 tp N F' A v.1 (t.1, upK t.2.1 5 0 v.2, t.2.2.1, true, t.2.2.2.2) → Q (.inl (some (.int 1))) (F', A, J, G)) (h0 : t.2.2.2.1 = false → ∀ e, numS tp N 0 999 (nxS tp N s) = .inl e → ∀ F', CLE F0 A0 F' A e → Q (.inl (some (.int 0))) (F', A, J, G)) : X (d + 3) 33 0 [.ref 11] [] (F, A, J, G) Q := by
  obtain ⟨l1, hC, hT, l20, l21, l22, l3, l9, l10⟩ := hL
  refine t_33_0 hG ?_
  rw [l10]
  cases hl : t.2.2.2.1 with
  | true => exact ⟨fun h => absurd h (by decide), fun _ => h4 hl _ (CLE_of l1 (CR_e hC (k := 4) rfl (by decide) (by decide)))⟩
  | false =>
    refine ⟨fun _ => ?_, fun h => absurd rfl h⟩
    have hC0 : CR (wF F 11 10 1) A tp N (wF F 11 10 1) A s t.2.2.2.2 := CR_re hC (fun j _ j10 => wF_cell j10 _) (by rw [wF_row (by decide)]) rfl rfl
    have l1' : RLr F0 A0 (wF F 11 10 1) A := ⟨fun i i2 i8 i11 => by rw [wF_row i11]; exact l1.1 i i2 i8 i11, l1.2⟩
    refine CR_n hG hC0 (fun F2 hC2 => k_33_22 hG (c_43 hG (lo := 0) (hi := 999) (by decide) (by decide) rfl rfl hC2 (fun s3 v e3 F3 hC3 => ?_) (fun e he F3 hE => ?_)))
    · have b3 := num_b e3 (nx_le (Nat.le_of_lt hs))
      refine k_33_34 hG ⟨fun _ => h1 hl (s3, v) e3 _ ⟨?_, ?_, ?_, ?_, ?_, ?_, l3, ?_, ?_⟩, fun h => absurd hC3.2.2.2.1 h⟩
      · have hr := l1'.of hC3.1
        exact ⟨fun i i2 i8 i11 => by rw [wF_row i2]; exact hr.1 i i2 i8 i11, hr.2⟩
      · exact CR_re hC3 (fun j _ _ => by rw [wF_row (by decide)]) (by rw [wF_row (by decide)]) rfl rfl
      · refine ⟨⟨hT.1.1, fun i hi => ?_, ?_, ?_⟩, fun i hi => ?_, hT.2.2⟩
        · dsimp only at hi ⊢
          rw [upK_r (by decide), upK_r (by decide), upK_r (by decide), upK_r (by decide)]; exact hT.1.2.1 i hi
        · dsimp only; rw [upK_r (by decide)]; exact hT.1.2.2.1
        · dsimp only; rw [upK_s]; exact b3.1
        · dsimp only at hi ⊢
          rw [upK_r (by decide)]; exact hT.2.1 i hi
      · rw [wF_cell (by decide), hC3.1.1 2 (by decide) (by decide), wF_row (by decide)]; exact l20
      · dsimp only; rw [wF_cell (by decide), upK_r (by decide), hC3.1.1 2 (by decide) (by decide), wF_row (by decide)]; exact l21
      · dsimp only; rw [wF_same, upK_s]
      · rw [wF_row (by decide), hC3.1.2.1.1, wF_cell (by decide)]; exact l9
      · rw [wF_row (by decide), hC3.1.2.1.2, wF_same]; rfl
    · exact k_33_34 hG ⟨fun h => absurd h (CE_b hE), fun _ => h0 hl e he _ (CLE_w (CLE_of l1' hE))⟩
theorem c_34 (hG : Geo G SL p q) (hd : 44 ≤ d + 2) (hL : CL F0 A0 tp N F A s t) (hs : s < N) (h4 : 0 < t.2.2.2.2.length → ∀ F', CLE F0 A0 F' A (4, s) → Q (.inl (some (.int 0))) (F', A, J, G)) (h1 : ¬ 0 < t.2.2.2.2.length → ∀ v, exS tp N 6 (nxS tp N s) [] = .inr v → ∀ F' A', CL F0 A0 tp N F' A' v.1 (t.1, t.2.1, t.2.2.1, t.2.2.2.1, v.2) → Q (.inl (some (.int 1))) (F', A', J, G)) (h0 : ¬ 0 < t.2.2.2.2.length → ∀ e, exS tp N 6 (nxS tp N s) [] = .inl e → ∀ F' A', CLE F0 A0 F' A' e → Q (.inl (some (.int 0))) (F', A', J, G)) : X (d + 3) 34 0 [.ref 11] [] (F, A, J, G) Q := by
  obtain ⟨l1, hC, hT, l20, l21, l22, l3, l9, l10⟩ := hL
  have hlen := hC.2.1.2.2.2.2
  have n6 := hC.2.1.1
  have hsN := hC.2.1.2.2.2.1
  have f81 : F 8 1 = zI (t.2.2.2.2.length : Int) := hC.2.2.2.2.2.2.2.2.1
  refine t_34_0 hG ?_
  rw [f81, show (0 : Int32) = zI ((0 : Nat) : Int) from rfl, zN_lt (by omega) (by omega)]
  refine ⟨fun hp => h4 hp _ (CLE_of l1 (CR_e hC (k := 4) rfl (by decide) (by decide))), fun hp => ?_⟩
  have h1 := h1 hp
  have h0 := h0 hp
  have hnil : t.2.2.2.2 = [] := List.length_eq_zero_iff.mp (by omega)
  refine CR_n hG hC (fun F2 hC2 => k_34_23 hG ?_)
  rw [hnil] at hC2
  have hcc := cc_ex (F0 := F) (A0 := A) (tp := tp) (N := N) (J := J) hG 6 0 (d + 2) rfl (by omega)
  refine hcc F2 A (nxS tp N s) [] _ hC2 (fun F3 A3 s3 c3 hp3 hC3 => k_34_28 hG ⟨Or.inr rfl, h1 (s3, c3) hp3 F3 A3 ⟨l1.of hC3.1, CR_same hC3, ⟨hT.1, hT.2.1, (ex_wf hp3 (nx_le hsN)).1⟩, ?_, ?_, ?_, ?_, ?_, ?_⟩⟩) (fun F3 A3 e hp3 hE => k_34_28 hG ⟨Or.inl rfl, h0 e hp3 F3 A3 (CLE_of l1 hE)⟩)
  · rw [hC3.1.1 2 (by decide) (by decide)]; exact l20
  · rw [hC3.1.1 2 (by decide) (by decide)]; exact l21
  · rw [hC3.1.1 2 (by decide) (by decide)]; exact l22
  · rw [hC3.1.2.2 3 (by decide), hC3.1.2.2 4 (by decide), hC3.1.2.2 5 (by decide), hC3.1.2.2 6 (by decide), hC3.1.2.2 7 (by decide)]; exact l3
  · rw [hC3.1.2.1.1]; exact l9
  · rw [hC3.1.2.1.2]; exact l10
/-- a line -/
theorem c_30 (hG : Geo G SL p q) (hd : 44 ≤ d + 2) (hL : CL F0 A0 tp N F A s t) (hs : s < N) (h1 : ∀ v, liS tp N s t = .inr v → ∀ F' A', CL F0 A0 tp N F' A' v.1 v.2 → Q (.inl (some (.int 1))) (F', A', J, G)) (h0 : ∀ e, liS tp N s t = .inl e → ∀ F' A', CLE F0 A0 F' A' e → Q (.inl (some (.int 0))) (F', A', J, G)) : X (d + 4) 30 0 [.ref 11, .null] [] (F, A, J, G) Q := by
  have hC := hL.2.1
  have nt : ∀ {b : Bool}, b = false → ¬ b = true := fun h => by rw [h]; decide
  refine t_30_0 hG (c_44 hG hC (fun k hk => k_30_4 hG ⟨fun h => ?_, fun _ => ?_⟩) (fun hk => k_30_4 hG ⟨fun _ => ?_, fun h => absurd rfl h⟩))
  · have hk3 : k ≤ 3 := by
      unfold knS at hk
      repeat' split at hk
      all_goals first | (cases hk; decide) | cases hk
    rw [show (-1 : Int32) = zI (-1) from rfl, zI_eq (by omega) (by omega) (by omega) (by omega)] at h
    omega
  · have hk3 : k ≤ 3 := by
      unfold knS at hk
      repeat' split at hk
      all_goals first | (cases hk; decide) | cases hk
    unfold liS at h1 h0
    rw [hk] at h1 h0
    dsimp only at h1 h0
    refine c_31 hG hk3 hL hs (fun h10 F1 hE => k_30_15 hG ⟨fun _ => h0 _ (if_pos h10) F1 A hE, fun h => absurd rfl h⟩) (fun h10 v hv F1 A1 hL1 => k_30_15 hG ⟨fun h => absurd h ne10, fun _ => ?_⟩) (fun h10 e he F1 hE => k_30_15 hG ⟨fun _ => h0 e (by rw [if_neg (by omega), he]) F1 A hE, fun h => absurd rfl h⟩)
    rw [if_neg (by omega), hv] at h1 h0
    exact c_35 hG hL1 (fun s' t' hq F2 hL2 => k_30_22 hG ⟨fun h => absurd h ne10, fun _ => h1 (s', t') hq F2 A1 hL2⟩) (fun e hq F2 hE => k_30_22 hG ⟨fun _ => h0 e hq F2 A1 hE, fun h => absurd rfl h⟩)
  · unfold liS at h1 h0
    rw [hk] at h1 h0
    dsimp only at h1 h0
    refine c_46 hG (i := 6) (by decide) hC (fun hw => k_30_37 hG ⟨fun h => absurd h ne10, fun _ => ?_⟩) (fun w6 => k_30_37 hG ⟨fun _ => ?_, fun h => absurd rfl h⟩)
    · rw [if_pos hw] at h1 h0
      refine c_32 hG hL hs (fun h4 F1 hE => k_30_44 hG ⟨fun _ => h0 _ (if_pos h4) F1 A hE, fun h => absurd rfl h⟩) (fun h4 v hv F1 hL1 => k_30_44 hG ⟨fun h => absurd h ne10, fun _ => ?_⟩) (fun h4 e he F1 hE => k_30_44 hG ⟨fun _ => h0 e (by rw [if_neg (nt h4), he]) F1 A hE, fun h => absurd rfl h⟩)
      rw [if_neg (nt h4), hv] at h1 h0
      exact c_35 hG hL1 (fun s' t' hq F2 hL2 => k_30_51 hG ⟨fun h => absurd h ne10, fun _ => h1 (s', t') hq F2 A hL2⟩) (fun e hq F2 hE => k_30_51 hG ⟨fun _ => h0 e hq F2 A hE, fun h => absurd rfl h⟩)
    · rw [if_neg (nt w6)] at h1 h0
      refine c_46 hG (i := 7) (by decide) hC (fun hw => k_30_66 hG ⟨fun h => absurd h ne10, fun _ => ?_⟩) (fun w7 => k_30_66 hG ⟨fun _ => ?_, fun h => absurd rfl h⟩)
      · rw [if_pos hw] at h1 h0
        refine c_33 hG hL hs (fun h4 F1 hE => k_30_73 hG ⟨fun _ => h0 _ (if_pos h4) F1 A hE, fun h => absurd rfl h⟩) (fun h4 v hv F1 hL1 => k_30_73 hG ⟨fun h => absurd h ne10, fun _ => ?_⟩) (fun h4 e he F1 hE => k_30_73 hG ⟨fun _ => h0 e (by rw [if_neg (nt h4), he]) F1 A hE, fun h => absurd rfl h⟩)
        rw [if_neg (nt h4), hv] at h1 h0
        exact c_35 hG hL1 (fun s' t' hq F2 hL2 => k_30_80 hG ⟨fun h => absurd h ne10, fun _ => h1 (s', t') hq F2 A hL2⟩) (fun e hq F2 hE => k_30_80 hG ⟨fun _ => h0 e hq F2 A hE, fun h => absurd rfl h⟩)
      · rw [if_neg (nt w7)] at h1 h0
        refine c_46 hG (i := 8) (by decide) hC (fun hw => k_30_95 hG ⟨fun h => absurd h ne10, fun _ => ?_⟩) (fun w8 => k_30_95 hG ⟨fun _ => h0 (1, s) (if_neg (nt w8)) _ _ (CLE_of hL.1 (CR_e hC (k := 1) rfl (by decide) (by decide))), fun h => absurd rfl h⟩)
        rw [if_pos hw] at h1 h0
        refine c_34 hG hd hL hs (fun h4 F1 hE => k_30_102 hG ⟨fun _ => h0 _ (if_pos h4) F1 A hE, fun h => absurd rfl h⟩) (fun h4 v hv F1 A1 hL1 => k_30_102 hG ⟨fun h => absurd h ne10, fun _ => ?_⟩) (fun h4 e he F1 A1 hE => k_30_102 hG ⟨fun _ => h0 e (by rw [if_neg h4, he]) F1 A1 hE, fun h => absurd rfl h⟩)
        rw [if_neg h4, hv] at h1 h0
        exact c_35 hG hL1 (fun s' t' hq F2 hL2 => k_30_109 hG ⟨fun h => absurd h ne10, fun _ => h1 (s', t') hq F2 A1 hL2⟩) (fun e hq F2 hE => k_30_109 hG ⟨fun _ => h0 e hq F2 A1 hE, fun h => absurd rfl h⟩)
theorem tw0_ok : TlOk tw0 := ⟨⟨by decide, fun i hi => absurd hi (Nat.not_lt_zero i), by decide, by decide⟩, fun i hi => absurd hi (Nat.not_lt_zero i), fun i hi => absurd hi (Nat.not_lt_zero i), fun h => absurd h (by decide)⟩
/-- a text -/
theorem c_29 (hG : Geo G SL p q) (hd : 44 ≤ d + 2) (hN : N ≤ 600) (hB : BtOk tp N) (hA : ∀ j, j < N → A 1 j = sbI (tp j)) (h1 : ∀ t, twS tp N 600 (skS tp N 0) tw0 = .inr t → ∀ s F' A', CL F A tp N F' A' s t → Q (.inl (some (.int 0))) (F', A', J, G)) (h0 : ∀ e, twS tp N 600 (skS tp N 0) tw0 = .inl e → ∀ F' A', CLE F A F' A' e → Q (.inl (some (.int (zI (e.1 : Int))))) (F', A', J, G)) : X (d + 5) 29 0 [.ref 11, .int (zI (N : Int)), .null] [] (F, A, J, G) Q := by
  have L : ∀ f F1 A1 s t, f ≤ 600 → CL F A tp N F1 A1 s t → (∀ t', twS tp N f s t = .inr t' → ∀ s F' A', CL F A tp N F' A' s t' → Q (.inl (some (.int 0))) (F', A', J, G)) → (∀ e, twS tp N f s t = .inl e → ∀ F' A', CLE F A F' A' e → Q (.inl (some (.int (zI (e.1 : Int))))) (F', A', J, G)) → X (d + 5) 29 51 [.ref 11, .int (zI (N : Int)), .int (zI ((600 - f : Nat) : Int))] [] (F1, A1, J, G) Q := by
    intro f
    induction f with
    | zero =>
      intro F1 A1 s t hf hL h1 h0
      exact t_29_51 hG ⟨fun h => absurd h (by decide), fun _ => h1 t rfl s F1 A1 hL⟩
    | succ f ih =>
      intro F1 A1 s t hf hL h1 h0
      have hlt : zI ((600 - (f + 1) : Nat) : Int) < 600 := by
        rw [show (600 : Int32) = zI ((600 : Nat) : Int) from rfl, zN_lt (by omega) (by omega)]; omega
      have e0 : ((F1 11 4) = 0) = (kdS tp N s = 0) := kd_eq hL.2.1 (k := 0) (by decide)
      refine t_29_51 hG ⟨fun _ => ?_, fun h => absurd hlt h⟩
      rw [e0]
      refine ⟨fun hk => h1 t (by rw [twS, if_pos hk]) s F1 A1 hL, fun hk => ?_⟩
      have hs : s < N := by
        apply Nat.lt_of_not_le
        intro hn
        rw [← kd_0 (tp := tp)] at hn
        exact hk hn
      rw [twS, if_neg hk] at h1 h0
      refine c_30 hG hd hL hs (fun v hv F2 A2 hL2 => k_29_69 hG ⟨fun h => absurd h ne10, fun _ => ?_⟩) (fun e he F2 A2 hE => k_29_69 hG ⟨fun _ => ?_, fun h => absurd rfl h⟩)
      · rw [hv] at h1 h0
        rw [zN_1, show 600 - (f + 1) + 1 = 600 - f by omega]
        exact ih F2 A2 v.1 v.2 (by omega) hL2 h1 h0
      · rw [he] at h0
        rw [hE.2.2.2.1]
        exact h0 e rfl F2 A2 hE
  refine t_29_0 hG (c_49 hG (e := 0) hN hB hA (Nat.zero_le _) ?_ ?_ (fun F2 g1 g2 g5 g6 g4 g7 => k_29_49 hG (L 600 F2 A _ tw0 (Nat.le_refl _) ?_ h1 h0)))
  · rw [wF_cell (by decide), wF_cell (by decide), wF_cell (by decide), wF_cell (by decide), wF_cell (by decide), wF_row (by decide), wF_row (by decide), wF_row (by decide), wF_row (by decide), wF_same, show (600 : Int32) = zI 600 from rfl, zI_jmin (by omega) (by omega) (by omega) (by omega)]
    congr 1; omega
  · rw [wF_same]; rfl
  · have hsk : skS tp N 0 ≤ N := sc_le _ (Nat.zero_le _)
    have w2 : ∀ k, F2 2 k = (wF (wF (wF (wF F 11 3 (jmin (zI (N : Int)) 600)) 2 0 0) 2 1 9) 2 2 100) 2 k := fun k => by
      rw [g1 2 (by decide), wF_row (by decide), wF_row (by decide), wF_row (by decide), wF_row (by decide), wF_row (by decide), wF_row (by decide)]
    refine ⟨⟨fun i i2 i8 i11 => ?_, fun _ _ _ _ _ _ _ => rfl⟩, ⟨⟨fun _ _ _ => rfl, ⟨rfl, rfl⟩, fun _ _ => rfl⟩, ⟨hN, hB, hA, hsk, Nat.zero_le _⟩, ?_, ?_, g5, g6, g4, g7, ?_, fun i hi => absurd hi (Nat.not_lt_zero i)⟩, tw0_ok, ?_, ?_, ?_, fun i hi => absurd hi (Nat.not_lt_zero i), ?_, ?_⟩
    · rw [g1 i i11, wF_row i11, wF_row i11, wF_row i11, wF_row i11, wF_row i11, wF_row i8, wF_row i2, wF_row i2, wF_row i2, wF_row i11]
    · rw [g2 3 (by decide) (by decide) (by decide) (by decide), wF_cell (by decide), wF_cell (by decide), wF_cell (by decide), wF_cell (by decide), wF_cell (by decide), wF_row (by decide), wF_row (by decide), wF_row (by decide), wF_row (by decide), wF_same, show (600 : Int32) = zI 600 from rfl, zI_jmin (by omega) (by omega) (by omega) (by omega)]
      congr 1; omega
    · rw [g2 8 (by decide) (by decide) (by decide) (by decide), wF_cell (by decide), wF_cell (by decide), wF_same]
    · rw [g1 8 (by decide), wF_row (by decide), wF_row (by decide), wF_row (by decide), wF_row (by decide), wF_row (by decide), wF_same]; rfl
    · rw [w2, wF_cell (by decide), wF_cell (by decide), wF_same]; rfl
    · rw [w2, wF_cell (by decide), wF_same]; rfl
    · rw [w2, wF_same]; rfl
    · rw [g2 9 (by decide) (by decide) (by decide) (by decide), wF_cell (by decide), wF_cell (by decide), wF_cell (by decide), wF_cell (by decide), wF_same]; rfl
    · rw [g2 10 (by decide) (by decide) (by decide) (by decide), wF_cell (by decide), wF_cell (by decide), wF_cell (by decide), wF_same]; rfl
end TownC
