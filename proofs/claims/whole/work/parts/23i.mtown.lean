/-! the reference reads a town -/
section TownM
def dnS (a b c : Bool) : Int32 := ((if a = true then 1 else 0) ||| (if b = true then 2 else 0)) ||| (if c = true then 4 else 0)
def dnT (t : TwnR) : Int32 := dnS t.2.2.1 t.2.2.2.1 (decide (0 < t.2.2.2.2.length))
theorem dn_1 : ∀ a b c, ((1 : Int32) &&& dnS a b c = 0) = (a = false) := by
  intro a b c; apply propext; cases a <;> cases b <;> cases c <;> decide
theorem dn_2 : ∀ a b c, ((2 : Int32) &&& dnS a b c = 0) = (b = false) := by
  intro a b c; apply propext; cases a <;> cases b <;> cases c <;> decide
theorem dn_4 : ∀ a b c, ((4 : Int32) &&& dnS a b c = 0) = (c = false) := by
  intro a b c; apply propext; cases a <;> cases b <;> cases c <;> decide
theorem dn_0 : ∀ a b c, ((0 : Int32) &&& dnS a b c = 0) := by
  intro a b c; cases a <;> cases b <;> cases c <;> decide
theorem dn_o1 : ∀ a b c, dnS a b c ||| 1 = dnS true b c := by
  intro a b c; cases a <;> cases b <;> cases c <;> decide
theorem dn_o2 : ∀ a b c, dnS a b c ||| 2 = dnS a true c := by
  intro a b c; cases a <;> cases b <;> cases c <;> decide
theorem dn_o4 : ∀ a b c, dnS a b c ||| 4 = dnS a b true := by
  intro a b c; cases a <;> cases b <;> cases c <;> decide
theorem dn_o0 : ∀ a b c, dnS a b c ||| 0 = dnS a b c := by
  intro a b c; cases a <;> cases b <;> cases c <;> decide
variable {d : Nat} {F A F0 A0 F1 A1 F' A' : Nat → Nat → Int32} {J : Nat → Nat → Int64} {G : pG} {Q : pR → pM → Prop} {SL p q : Nat} {tp : Nat → Int32} {N s i j n m : Nat} {c : List Int} {t : TwnR} {e : Nat × Nat}
theorem wd_x (hd : sLen i ≠ sLen j ∨ (0 < sLen i ∧ sCh i 0 ≠ sCh j 0)) (hi : wdB tp N i s = true) : wdB tp N j s = false := by
  apply decide_eq_false
  intro h
  have h2 := of_decide_eq_true hi
  rcases hd with hd | hd
  · exact hd (by rw [← h2.2.1, h.2.1])
  · have hl : sLen i = sLen j := by rw [← h2.2.1, h.2.1]
    exact hd.2 (by rw [← h2.2.2 0 hd.1, h.2.2 0 (by omega)])
theorem kn_none {i : Nat} (hi : i = 6 ∨ i = 7 ∨ i = 8) (hw : wdB tp N i s = true) : knS tp N s = none := by
  have nt : ∀ {b : Bool}, b = false → ¬ b = true := fun h => by rw [h]; decide
  have h2 : wdB tp N 2 s = false := wd_x (by rcases hi with rfl | rfl | rfl <;> decide +kernel) hw
  have h3 : wdB tp N 3 s = false := wd_x (by rcases hi with rfl | rfl | rfl <;> decide +kernel) hw
  have h4 : wdB tp N 4 s = false := wd_x (by rcases hi with rfl | rfl | rfl <;> decide +kernel) hw
  have h5 : wdB tp N 5 s = false := wd_x (by rcases hi with rfl | rfl | rfl <;> decide +kernel) hw
  unfold knS
  rw [if_neg (nt h2), if_neg (nt h3), if_neg (nt h4), if_neg (nt h5)]
/-- a line -/
theorem m_202 (hG : Geo G SL p q) (hd : 44 ≤ d + 3) (hL : ML F0 A0 tp N F A s t) (hs : s < N) (h1 : ∀ v, liS tp N s t = .inr v → ∀ F' A', ML F0 A0 tp N F' A' v.1 v.2 → Q (.inl (some (.int (dnT v.2)))) (F', A', J, G)) (h0 : ∀ e, liS tp N s t = .inl e → ∀ F' A' r, MLE F0 A0 F' A' e → Q (.inl (some (.int r))) (F', A', J, G)) : X (d + 4) 202 0 [.ref 68, .int (dnT t), .null, .null] [] (F, A, J, G) Q := by
  have hC := hL.2.1
  have f20 := hC.2.2.2.1
  have hsN := hC.2.1.2.2.2.1
  have nt : ∀ {b : Bool}, b = false → ¬ b = true := fun h => by rw [h]; decide
  -- behind a fault: the end
  have b155 : ∀ e F5 A5 (x2 x3 : Int32), MLE F0 A0 F5 A5 e → (∀ F' A' r, MLE F0 A0 F' A' e → Q (.inl (some (.int r))) (F', A', J, G)) → X (d + 3) 192 0 [.ref 68, .int 59] [] (F5, A5, J, G) (KK (d + 4) 202 155 [.ref 68, .int (dnT t), .int x2, .int x3] [] Q) := by
    intro e F5 A5 x2 x3 hE hQ
    exact m_192b (d := d + 1) hG hE.2 (k_202_155 hG (hQ _ _ _ hE))
  have b96 : ∀ e F5 A5 (x2 x3 r : Int32), MLE F0 A0 F5 A5 e → (∀ F' A' r, MLE F0 A0 F' A' e → Q (.inl (some (.int r))) (F', A', J, G)) → KK (d + 4) 202 96 [.ref 68, .int (dnT t), .int x2, .int x3] [.int 5, .ref 72] Q (.inl (some (.int r))) (F5, A5, J, G) := by
    intro e F5 A5 x2 x3 r hE hQ
    exact k_202_96 hG ⟨by decide, b155 e _ _ _ _ ⟨hE.1.w7 (by decide), ME_re hE.2⟩ hQ⟩
  have b119 : ∀ e F5 A5 (x2 x3 r : Int32), MLE F0 A0 F5 A5 e → (∀ F' A' r, MLE F0 A0 F' A' e → Q (.inl (some (.int r))) (F', A', J, G)) → KK (d + 4) 202 119 [.ref 68, .int (dnT t), .int x2, .int x3] [.int 6, .ref 72] Q (.inl (some (.int r))) (F5, A5, J, G) := by
    intro e F5 A5 x2 x3 r hE hQ
    exact k_202_119 hG ⟨by decide, b155 e _ _ _ _ ⟨hE.1.w7 (by decide), ME_re hE.2⟩ hQ⟩
  -- a line's end
  have fin : ∀ F5 A5 s5 t5 (x2 x3 : Int32), ML F0 A0 tp N F5 A5 s5 t5 → dnT t ||| x2 = dnT t5 → (∀ v, clS tp N s5 t5 = .inr v → ∀ F' A', ML F0 A0 tp N F' A' v.1 v.2 → Q (.inl (some (.int (dnT v.2)))) (F', A', J, G)) → (∀ e, clS tp N s5 t5 = .inl e → ∀ F' A' r, MLE F0 A0 F' A' e → Q (.inl (some (.int r))) (F', A', J, G)) → X (d + 3) 192 0 [.ref 68, .int 59] [] (F5, A5, J, G) (KK (d + 4) 202 155 [.ref 68, .int (dnT t), .int x2, .int x3] [] Q) := by
    intro F5 A5 s5 t5 x2 x3 hL5 hdn h1 h0
    refine m_192l (d := d + 1) hG hL5 (fun s' t' hq F6 hL6 => k_202_155 hG ?_) (fun e hq F6 hE => k_202_155 hG (h0 e hq F6 A5 _ hE))
    have ht : t' = t5 := by
      unfold clS at hq
      split at hq
      · cases hq; rfl
      · cases hq
    rw [hdn, ← ht]
    exact h1 (s', t') hq F6 A5 hL6
  have w4 := MLE_of hL.1 (MR_e hC (k := 4) (x := 4) rfl (by decide) (by decide))
  -- limit
  have g6 : wdB tp N 6 s = true → ∀ r, KK (d + 4) 202 52 [.ref 68, .int (dnT t), .int 1, .null] [] Q (.inl (some (.int r))) (F, A, J, G) := by
    intro hw r
    unfold liS at h1 h0
    rw [kn_none (Or.inl rfl) hw] at h1 h0
    dsimp only at h1 h0
    rw [if_pos hw] at h1 h0
    refine k_202_52 hG ?_
    unfold dnT
    rw [dn_1]
    refine ⟨fun hl => ⟨fun _ => ⟨fun _ => ?_, fun h => absurd f20 h⟩, fun h => absurd (by decide) h⟩, fun hl => ⟨fun _ => ⟨fun _ => ⟨fun _ => ?_, fun h => absurd rfl h⟩, fun h => absurd (by decide) h⟩, fun h => absurd f20 h⟩⟩
    · rw [if_neg (nt hl)] at h1 h0
      refine MR_n hG hC (fun F2 hC2 => k_202_79 hG ⟨fun _ => m_193 (d := d + 1) hG (lo := 0) (hi := 40) (by decide) (by decide) rfl rfl hC2 (fun s3 v e3 F3 hC3 => ?_) (fun e he F3 hE => b96 e _ _ _ _ _ (MLE_of hL.1 hE) (h0 e (by rw [he]))), fun h => absurd rfl h⟩)
      rw [e3] at h1 h0
      have b3 := num_b e3 (nx_le hsN)
      obtain ⟨l1, _, hT, l4, l5, l6, l7⟩ := hL
      refine k_202_96 hG ⟨by decide, fin _ _ s3 (t.1, upK t.2.1 4 0 v, true, t.2.2.2) _ _ ⟨(l1.of hC3.1).w7 (by decide), MR_re hC3 (wF_row (by decide)) (by rw [wF_cell (by decide)]) (wF_row (by decide)), ⟨⟨hT.1.1, fun i hi => ?_, ?_, ?_⟩, fun i hi => ?_, hT.2.2⟩, ?_, ?_, ?_, ?_⟩ (dn_o1 _ _ _) h1 h0⟩
      · dsimp only at hi ⊢
        rw [upK_r (by decide), upK_r (by decide), upK_r (by decide), upK_r (by decide)]; exact hT.1.2.1 i hi
      · dsimp only; rw [upK_s]; exact b3.1
      · dsimp only; rw [upK_r (by decide)]; exact hT.1.2.2.2
      · dsimp only at hi ⊢
        rw [upK_r (by decide)]; exact hT.2.1 i hi
      · rw [wF_cell (by decide)]; exact l4
      · dsimp only; rw [upK_s]; exact wF_same _ _ _ _
      · dsimp only; rw [upK_r (by decide), wF_cell (by decide)]; exact l6
      · intro i hi
        dsimp only at hi ⊢
        rw [upK_r (by decide), upK_r (by decide), upK_r (by decide), upK_r (by decide), upK_r (by decide), wF_row (o' := 73) (by decide), wF_row (o' := 74) (by decide), wF_row (o' := 75) (by decide), wF_row (o' := 76) (by decide), wF_row (o' := 77) (by decide)]
        exact l7 i hi
    · have hl' : t.2.2.1 = true := by simpa using hl
      rw [if_pos hl'] at h1 h0
      exact m_193b (d := d + 1) hG w4.2 (b96 _ _ _ _ _ _ w4 (h0 _ rfl))
  have g7 : wdB tp N 6 s = false → wdB tp N 7 s = true → ∀ r, KK (d + 4) 202 52 [.ref 68, .int (dnT t), .int 2, .null] [] Q (.inl (some (.int r))) (F, A, J, G) := by
    intro w6 hw r
    unfold liS at h1 h0
    rw [kn_none (Or.inr (Or.inl rfl)) hw] at h1 h0
    dsimp only at h1 h0
    rw [if_neg (nt w6), if_pos hw] at h1 h0
    refine k_202_52 hG ?_
    unfold dnT
    rw [dn_2]
    refine ⟨fun hl => ⟨fun _ => ⟨fun _ => ?_, fun h => absurd f20 h⟩, fun h => absurd (by decide) h⟩, fun hl => ⟨fun _ => ⟨fun _ => ⟨fun h => absurd h (by decide), fun _ => ⟨fun _ => ?_, fun h => absurd rfl h⟩⟩, fun h => absurd (by decide) h⟩, fun h => absurd f20 h⟩⟩
    · rw [if_neg (nt hl)] at h1 h0
      refine MR_n hG hC (fun F2 hC2 => k_202_79 hG ⟨fun h => absurd h (by decide), fun _ => ⟨fun _ => m_193 (d := d + 1) hG (lo := 0) (hi := 999) (by decide) (by decide) rfl rfl hC2 (fun s3 v e3 F3 hC3 => ?_) (fun e he F3 hE => b119 e _ _ _ _ _ (MLE_of hL.1 hE) (h0 e (by rw [he]))), fun h => absurd rfl h⟩⟩)
      rw [e3] at h1 h0
      have b3 := num_b e3 (nx_le hsN)
      obtain ⟨l1, _, hT, l4, l5, l6, l7⟩ := hL
      refine k_202_119 hG ⟨by decide, fin _ _ s3 (t.1, upK t.2.1 5 0 v, t.2.2.1, true, t.2.2.2.2) _ _ ⟨(l1.of hC3.1).w7 (by decide), MR_re hC3 (wF_row (by decide)) (by rw [wF_cell (by decide)]) (wF_row (by decide)), ⟨⟨hT.1.1, fun i hi => ?_, ?_, ?_⟩, fun i hi => ?_, hT.2.2⟩, ?_, ?_, ?_, ?_⟩ (dn_o2 _ _ _) h1 h0⟩
      · dsimp only at hi ⊢
        rw [upK_r (by decide), upK_r (by decide), upK_r (by decide), upK_r (by decide)]; exact hT.1.2.1 i hi
      · dsimp only; rw [upK_r (by decide)]; exact hT.1.2.2.1
      · dsimp only; rw [upK_s]; exact b3.1
      · dsimp only at hi ⊢
        rw [upK_r (by decide)]; exact hT.2.1 i hi
      · rw [wF_cell (by decide)]; exact l4
      · dsimp only; rw [upK_r (by decide), wF_cell (by decide)]; exact l5
      · dsimp only; rw [upK_s]; exact wF_same _ _ _ _
      · intro i hi
        dsimp only at hi ⊢
        rw [upK_r (by decide), upK_r (by decide), upK_r (by decide), upK_r (by decide), upK_r (by decide), wF_row (o' := 73) (by decide), wF_row (o' := 74) (by decide), wF_row (o' := 75) (by decide), wF_row (o' := 76) (by decide), wF_row (o' := 77) (by decide)]
        exact l7 i hi
    · have hl' : t.2.2.2.1 = true := by simpa using hl
      rw [if_pos hl'] at h1 h0
      exact m_193b (d := d + 1) hG w4.2 (b119 _ _ _ _ _ _ w4 (h0 _ rfl))
  have g8 : wdB tp N 6 s = false → wdB tp N 7 s = false → wdB tp N 8 s = true → ∀ r, KK (d + 4) 202 52 [.ref 68, .int (dnT t), .int 4, .null] [] Q (.inl (some (.int r))) (F, A, J, G) := by
    intro w6 w7 hw r
    unfold liS at h1 h0
    rw [kn_none (Or.inr (Or.inr rfl)) hw] at h1 h0
    dsimp only at h1 h0
    rw [if_neg (nt w6), if_neg (nt w7), if_pos hw] at h1 h0
    have hex := mc_ex (F0 := F) (A0 := A) (tp := tp) (N := N) (J := J) hG 6 0 (d + 3) rfl (by omega)
    refine k_202_52 hG ?_
    unfold dnT
    rw [dn_4]
    refine ⟨fun hl => ⟨fun _ => ⟨fun _ => ?_, fun h => absurd f20 h⟩, fun h => absurd (by decide) h⟩, fun hl => ⟨fun _ => ⟨fun _ => ⟨fun h => absurd h (by decide), fun _ => ⟨fun h => absurd h (by decide), fun _ => ?_⟩⟩, fun h => absurd (by decide) h⟩, fun h => absurd f20 h⟩⟩
    · have hl' : ¬ 0 < t.2.2.2.2.length := by simpa using hl
      rw [if_neg hl'] at h1 h0
      have hnil : t.2.2.2.2 = [] := List.length_eq_zero_iff.mp (by omega)
      refine MR_n hG hC (fun F2 hC2 => k_202_79 hG ⟨fun h => absurd h (by decide), fun _ => ⟨fun h => absurd h (by decide), fun _ => ?_⟩⟩)
      rw [hnil] at hC2
      refine hex.1 F2 A (nxS tp N s) [] _ hC2 (fun F3 A3 s3 c3 hp3 hC3 => k_202_128 hG ?_) (fun F3 A3 e hp3 hE => k_202_128 hG (b155 e _ _ _ _ (MLE_of hL.1 hE) (h0 e (by rw [hp3]))))
      rw [hp3] at h1 h0
      obtain ⟨wf1, wf2⟩ := ex_wf hp3 (nx_le hsN)
      obtain ⟨l1, _, hT, l4, l5, l6, l7⟩ := hL
      refine fin F3 A3 s3 (t.1, t.2.1, t.2.2.1, t.2.2.2.1, c3) _ _ ⟨l1.of hC3.1, MR_same hC3, ⟨hT.1, hT.2.1, wf1⟩, ?_, ?_, ?_, ?_⟩ ?_ h1 h0
      · rw [hC3.1.2.2.2.1 4 (by decide)]; exact l4
      · rw [hC3.1.2.2.2.1 5 (by decide)]; exact l5
      · rw [hC3.1.2.2.2.1 6 (by decide)]; exact l6
      · rw [hC3.1.2.2.1 73 (by decide) (by decide), hC3.1.2.2.1 74 (by decide) (by decide), hC3.1.2.2.1 75 (by decide) (by decide), hC3.1.2.2.1 76 (by decide) (by decide), hC3.1.2.2.1 77 (by decide) (by decide)]; exact l7
      · unfold dnT
        rw [dn_o4]
        dsimp only
        rw [decide_eq_true wf2]
    · have hl' : 0 < t.2.2.2.2.length := Nat.lt_of_not_le (fun h => hl (decide_eq_false (by omega)))
      rw [if_pos hl'] at h1 h0
      exact hex.2 _ _ (4, s) _ (show ME F A _ A (4, s) from MR_e hC (k := 4) (x := 4) rfl (by decide) (by decide)) (fun F3 A3 hE => k_202_128 hG (b155 (4, s) _ _ _ _ (MLE_of hL.1 hE) (h0 _ rfl)))
  have g0 : wdB tp N 6 s = false → wdB tp N 7 s = false → wdB tp N 8 s = false → KK (d + 4) 202 52 [.ref 68, .int (dnT t), .int 0, .null] [] Q (.inl (some (.int (zI (fsB (fun k => wdB tp N (2 + k) s) 4 0))))) (F, A, J, G) := by
    intro w6 w7 w8
    unfold liS at h1 h0
    refine k_202_52 hG ?_
    refine ⟨fun _ => ⟨fun h => absurd h (by decide), fun _ => ?_⟩, fun h => absurd (dn_0 _ _ _) h⟩
    cases hk : knS tp N s with
    | none =>
      rw [hk] at h1 h0
      dsimp only at h1 h0
      rw [if_neg (nt w6), if_neg (nt w7), if_neg (nt w8)] at h0
      rw [kn_fs.1 hk]
      have w1 := MLE_of hL.1 (MR_e hC (k := 1) (x := 1) rfl (by decide) (by decide))
      exact ⟨fun _ => ⟨fun _ => b155 (1, s) _ _ _ _ w1 (h0 _ rfl), fun h => absurd f20 h⟩, fun h => absurd rfl h⟩
    | some k =>
      have hk3 : k ≤ 3 := by
        unfold knS at hk
        repeat' split at hk
        all_goals first | (cases hk; decide) | cases hk
      rw [hk] at h1 h0
      dsimp only at h1 h0
      rw [kn_fs.2 k hk]
      refine ⟨fun h => ?_, fun _ => m_201 (d := d) hG hk3 hL hs (fun h10 F3 hE => k_202_141 hG (b155 (2, s) _ _ _ _ hE (h0 _ (if_pos h10)))) (fun h10 v hv F3 A3 hL3 => k_202_141 hG ?_) (fun h10 e he F3 A3 hE => k_202_141 hG (b155 e _ _ _ _ hE (h0 e (by rw [if_neg (by omega), he]))))⟩
      · rw [show (-1 : Int32) = zI (-1) from rfl, zI_eq (by omega) (by omega) (by omega) (by omega)] at h
        omega
      · rw [if_neg (by omega), hv] at h1 h0
        exact fin F3 A3 v.1 _ _ _ hL3 (dn_o0 _ _ _) h1 h0
  refine t_202_0 hG (m_189 hG (i := 6) (by decide) hC (fun hw => k_202_7 hG ⟨fun h => absurd h ne10, fun _ => m_190k (d := d + 2) hG hC (g6 hw _)⟩) (fun w6 => k_202_7 hG ⟨fun _ => ?_, fun h => absurd rfl h⟩))
  refine m_189 hG (i := 7) (by decide) hC (fun hw => k_202_21 hG ⟨fun h => absurd h ne10, fun _ => m_190k (d := d + 2) hG hC (g7 w6 hw _)⟩) (fun w7 => k_202_21 hG ⟨fun _ => ?_, fun h => absurd rfl h⟩)
  exact m_189 hG (i := 8) (by decide) hC (fun hw => k_202_35 hG ⟨fun h => absurd h ne10, fun _ => m_190k (d := d + 2) hG hC (g8 w6 w7 hw _)⟩) (fun w8 => k_202_35 hG ⟨fun _ => m_190k (d := d + 2) hG hC (g0 w6 w7 w8), fun h => absurd rfl h⟩)
/-- the upper half comes to the lower -/
theorem m_204 {a : Nat} (hka : gK G a = 20) (hla : gL G a = 2 * m) (hm : m ≤ 600) (hG : Geo G SL p q) (hQ : ∀ A', (∀ i, i ≠ a → A' i = A i) → (∀ j, j < m → A' a j = A a (m + j)) → Q (.inl none) (F, A', J, G)) : X d 204 0 [.ref a, .null] [] (F, A, J, G) Q := by
  have hh : nI (2 * m) / 2 = zI (m : Int) := by
    rw [zI_nI, zI_half (by omega) (by omega)]; congr 1; omega
  refine t_204_0 hG hka hla ?_
  refine up_ind (h := m) (P := fun x => ∀ A1, (∀ i, i ≠ a → A1 i = A i) → (∀ j, j < x → A1 a j = A a (m + j)) → (∀ j, x ≤ j → A1 a j = A a j) → X d 204 2 [.ref a, .int (zI (x : Int))] [] (F, A1, J, G) Q) ?_ ?_ A (fun _ _ => rfl) (fun j hj => absurd hj (Nat.not_lt_zero j)) (fun _ _ => rfl)
  · intro A1 g1 g2 g3
    refine t_204_2 hG hka hla ?_
    rw [hh, zN_lt (by omega) (by omega)]
    exact ⟨fun h => absurd h (Nat.lt_irrefl _), fun _ => hQ A1 g1 g2⟩
  · intro x hx ih A1 g1 g2 g3
    refine t_204_2 hG hka hla ?_
    rw [hh, zN_lt (by omega) (by omega), zN_add, zN_1, zI_clamp (n := m + x) (by omega), zI_clamp (n := x) (by omega)]
    refine ⟨fun _ => ⟨zN_in (by omega) (by omega), zN_in (by omega) (by omega), ih _ (fun i hi => ?_) (fun j hj => ?_) (fun j hj => ?_)⟩, fun h => absurd hx h⟩
    · rw [wF_row hi]; exact g1 i hi
    · rw [wF_at]
      by_cases e : j = x
      · rw [if_pos ⟨rfl, e⟩, e]; exact g3 _ (by omega)
      · rw [if_neg (fun h => e h.2)]; exact g2 j (by omega)
    · rw [wF_cell (by omega)]; exact g3 j (by omega)
def MTO (F A F' A' : Nat → Nat → Int32) (t : TwnR) : Prop := (∀ i, i ≠ 68 → F' i = F i) ∧ (∀ j, j ≠ 28 → j ≠ 29 → j ≠ 30 → j ≠ 31 → j ≠ 32 → j ≠ 50 → F' 68 j = F 68 j) ∧ (F' 68 31 = 0 ∧ F' 68 32 = 0 ∧ F' 68 50 = 0) ∧ (∀ i, (i < 72 ∨ 84 < i ∨ i = 79 ∨ i = 80) → A' i = A i) ∧ MTn F' A' t.2.1 t.1 ∧ MRl F' A' (fun i => t.2.2.2.2.getD i 0) t.2.2.2.2.length ∧ MSt F' A' t.1 (begS t.1 (t.2.1 6))
/-- what was told is taken over -/
theorem m_205 (hG : Geo G SL p q) (hW : Wrm A) (hL : ML F0 A0 tp N F A s t) (hQ : ∀ F' A', MTO F A F' A' t → Q (.inl none) (F', A', J, G)) : X (d + 1) 205 0 [.ref 68, .null] [] (F, A, J, G) Q := by
  obtain ⟨l1, hC, hT, l4, l5, l6, l7⟩ := hL
  have ht := hT.1.1
  have hcl := hC.2.1.2.2.2.2
  have n6 := hC.2.1.1
  have hsN := hC.2.1.2.2.2.1
  have a7 := hC.2.2.2.2.2.2.2.2.2.1
  have hcd := hC.2.2.2.2.2.2.2.2.2.2
  refine t_205_0 hG (m_204 (m := 4) (k_72 hG) (l_72 hG) (by decide) hG (fun A1 a1 b1 => k_205_7 hG (m_204 (m := 10) (k_73 hG) (l_73 hG) (by decide) hG (fun A2 a2 b2 => k_205_14 hG (m_204 (m := 10) (k_74 hG) (l_74 hG) (by decide) hG (fun A3 a3 b3 => k_205_21 hG (m_204 (m := 10) (k_75 hG) (l_75 hG) (by decide) hG (fun A4 a4 b4 => k_205_28 hG (m_204 (m := 10) (k_76 hG) (l_76 hG) (by decide) hG (fun A5 a5 b5 => k_205_35 hG (m_204 (m := 10) (k_77 hG) (l_77 hG) (by decide) hG (fun A6 a6 b6 => k_205_42 hG (m_204 (m := 600) (k_78 hG) (l_78 hG) (by decide) hG (fun A7 a7' b7 => k_205_49 hG ?_))))))))))))))
  have o7 : ∀ i, (i < 72 ∨ 78 < i) → A7 i = A i := fun i hi => by rw [a7' i (by omega), a6 i (by omega), a5 i (by omega), a4 i (by omega), a3 i (by omega), a2 i (by omega), a1 i (by omega)]
  have c72 : ∀ j, j < 4 → A7 72 j = A 72 (4 + j) := fun j hj => by rw [a7' 72 (by decide), a6 72 (by decide), a5 72 (by decide), a4 72 (by decide), a3 72 (by decide), a2 72 (by decide), b1 j hj]
  have c73 : ∀ j, j < 10 → A7 73 j = A 73 (10 + j) := fun j hj => by rw [a7' 73 (by decide), a6 73 (by decide), a5 73 (by decide), a4 73 (by decide), a3 73 (by decide), b2 j hj, a1 73 (by decide)]
  have c74 : ∀ j, j < 10 → A7 74 j = A 74 (10 + j) := fun j hj => by rw [a7' 74 (by decide), a6 74 (by decide), a5 74 (by decide), a4 74 (by decide), b3 j hj, a2 74 (by decide), a1 74 (by decide)]
  have c75 : ∀ j, j < 10 → A7 75 j = A 75 (10 + j) := fun j hj => by rw [a7' 75 (by decide), a6 75 (by decide), a5 75 (by decide), b4 j hj, a3 75 (by decide), a2 75 (by decide), a1 75 (by decide)]
  have c76 : ∀ j, j < 10 → A7 76 j = A 76 (10 + j) := fun j hj => by rw [a7' 76 (by decide), a6 76 (by decide), b5 j hj, a4 76 (by decide), a3 76 (by decide), a2 76 (by decide), a1 76 (by decide)]
  have c77 : ∀ j, j < 10 → A7 77 j = A 77 (10 + j) := fun j hj => by rw [a7' 77 (by decide), b6 j hj, a5 77 (by decide), a4 77 (by decide), a3 77 (by decide), a2 77 (by decide), a1 77 (by decide)]
  have c78 : ∀ j, j < 600 → A7 78 j = A 78 (600 + j) := fun j hj => by rw [b7 j hj, a6 78 (by decide), a5 78 (by decide), a4 78 (by decide), a3 78 (by decide), a2 78 (by decide), a1 78 (by decide)]
  rw [c72 0 (by decide), l4]
  refine up_ind (h := 10) (P := fun x => ∀ A8, (∀ i, (i < 81 ∨ 84 < i) → A8 i = A7 i) → (∀ c, c < x → A8 81 c = zI (c : Int) ∧ A8 82 c = 0 ∧ A8 83 c = 0 ∧ A8 84 c = A7 76 c) → X (d + 1) 205 71 [.ref 68, .int (zI (x : Int))] [] (wF (wF (wF F 68 28 (zI (t.1 : Int))) 68 29 0) 68 30 (-1), A8, J, G) Q) ?_ ?_ A7 (fun _ _ => rfl) (fun c hc => absurd hc (Nat.not_lt_zero c))
  · intro A8 g1 g2
    have hb := hT.2.1
    have hok := beg_ok (n := t.1) (l0 := t.2.1 6) hb
    refine t_205_71 hG ⟨fun h => absurd h (by decide), fun _ => hQ _ _ ⟨fun i hi => ?_, fun j j1 j2 j3 j4 j5 j6 => ?_, ⟨?_, ?_, wF_same _ _ _ _⟩, fun i hi => ?_, ⟨hT.1, ?_, ?_, ?_, ?_, fun i hi => ?_, fun i hi => ?_, fun i hi => ?_, fun i hi => ?_⟩, ⟨by omega, hT.2.2, ?_, fun i hi => ?_⟩, ?_⟩⟩
    · rw [wF_row hi, wF_row hi, wF_row hi, wF_row hi, wF_row hi, wF_row hi]
    · rw [wF_cell j6, wF_cell j5, wF_cell j4, wF_cell j3, wF_cell j2, wF_cell j1]
    · rw [wF_cell (by decide), wF_cell (by decide), wF_same]
    · rw [wF_cell (by decide), wF_same]
    · rw [g1 i (by omega), o7 i (by omega)]
    · unfold Wrm
      rw [g1 71 (by decide), o7 71 (by decide)]; exact hW
    · rw [g1 72 (by decide), c72 0 (by decide)]; exact l4
    · rw [g1 72 (by decide), c72 1 (by decide)]; exact l5
    · rw [g1 72 (by decide), c72 2 (by decide)]; exact l6
    · rw [g1 73 (by decide), c73 i (by omega)]; exact (l7 i hi).1
    · rw [g1 74 (by decide), c74 i (by omega)]; exact (l7 i hi).2.1
    · rw [g1 75 (by decide), c75 i (by omega)]; exact (l7 i hi).2.2.1
    · rw [g1 77 (by decide), c77 i (by omega)]; exact (l7 i hi).2.2.2.2
    · rw [g1 72 (by decide), c72 3 (by decide)]; exact a7
    · rw [g1 78 (by decide), c78 i (by omega)]; exact hcd i hi
    · refine ⟨⟨hok.1, ?_, ?_, fun l hl => ?_, fun i hi => ?_, fun i hi => ?_, fun i hi => ?_⟩, ?_⟩
      · rw [wF_cell (by decide), wF_cell (by decide), wF_cell (by decide), wF_cell (by decide), wF_cell (by decide), wF_same]; rfl
      · rw [wF_cell (by decide), wF_cell (by decide), wF_cell (by decide), wF_cell (by decide), wF_same]; rfl
      · have : l < t.1 := hl
        exact (g2 l (by omega)).1
      · exact (g2 i (by omega)).2.1
      · exact (g2 i (by omega)).2.2.1
      · rw [(g2 i (by omega)).2.2.2, c76 i (by omega)]; exact (l7 i hi).2.2.2.1
      · rw [wF_cell (by decide), wF_cell (by decide), wF_cell (by decide), wF_same]; rfl
  · intro x hx ih A8 g1 g2
    refine t_205_71 hG ⟨fun _ => ?_, fun h => ?_⟩
    · rw [zN_1, zI_clamp (by omega)]
      refine ⟨zN_in (by omega) (by decide), zN_in (by omega) (by decide), ih _ (fun i hi => ?_) (fun c hc => ?_)⟩
      · rw [wF_row (by omega), wF_row (by omega), wF_row (by omega), wF_row (by omega)]; exact g1 i hi
      · by_cases e : c = x
        · subst e
          refine ⟨?_, ?_, ?_, ?_⟩
          · rw [wF_row (by decide), wF_row (by decide), wF_row (by decide), wF_same]
          · rw [wF_row (by decide), wF_row (by decide), wF_same]
          · rw [wF_row (by decide), wF_same]
          · rw [wF_same, g1 76 (by decide)]
        · rw [wF_cell e, wF_cell e, wF_cell e, wF_cell e, wF_cell e, wF_cell e, wF_cell e, wF_cell e, wF_cell e, wF_cell e, wF_cell e, wF_cell e, wF_cell e, wF_cell e, wF_cell e, wF_cell e]
          exact g2 c (by omega)
    · rw [show (10 : Int32) = zI ((10 : Nat) : Int) from rfl, zN_lt (by omega) (by omega)] at h
      omega
end TownM
