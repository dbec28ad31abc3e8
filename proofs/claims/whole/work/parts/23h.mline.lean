/-! the reference reads lines -/
section LineM
variable {d : Nat} {F A F0 A0 F1 A1 F' A' : Nat → Nat → Int32} {J : Nat → Nat → Int64} {G : pG} {Q : pR → pM → Prop} {SL p q : Nat} {tp : Nat → Int32} {N s i j n : Nat} {c : List Int} {t : TwnR} {e : Nat × Nat}
theorem RGr.rf (F A : Nat → Nat → Int32) : RGr F A F A := ⟨fun _ _ => rfl, fun _ _ _ _ _ _ _ _ => rfl, fun _ _ _ => rfl, fun _ _ => rfl, fun _ _ => rfl⟩
theorem MR_re (hC : MR F0 A0 tp N F A s c) (h80 : A' 80 = A 80) (h72 : A' 72 7 = A 72 7) (h78 : A' 78 = A 78) : MR F A' tp N F A' s c := by
  obtain ⟨_, ⟨n6, hB, hA, hs, hc⟩, f15, f20, f18, f14, f19, f16, f17, a7, hcd⟩ := hC
  exact ⟨RGr.rf F A', ⟨n6, hB, by rw [h80]; exact hA, hs, hc⟩, f15, f20, f18, f14, f19, f16, f17, by rw [h72]; exact a7, by rw [h78]; exact hcd⟩
theorem MR_same (hC : MR F0 A0 tp N F A s c) : MR F A tp N F A s c := MR_re hC rfl rfl rfl
theorem ME_re (hE : ME F0 A0 F A e) : ME F A' F A' e := ⟨RGr.rf F A', hE.2⟩
/-- what a town's reading keeps -/
def RLg (F0 A0 F A : Nat → Nat → Int32) : Prop := (∀ i, i ≠ 68 → F i = F0 i) ∧ (∀ j, j ≠ 14 → j ≠ 16 → j ≠ 17 → j ≠ 18 → j ≠ 19 → j ≠ 20 → j ≠ 21 → F 68 j = F0 68 j) ∧ (∀ i, (i < 72 ∨ 78 < i) → A i = A0 i) ∧ (∀ j, j < 4 → A 72 j = A0 72 j) ∧ (∀ i j, 73 ≤ i → i ≤ 77 → j < 10 → A i j = A0 i j) ∧ (∀ j, j < 600 → A 78 j = A0 78 j)
theorem RLg.rf (F A : Nat → Nat → Int32) : RLg F A F A := ⟨fun _ _ => rfl, fun _ _ _ _ _ _ _ _ => rfl, fun _ _ => rfl, fun _ _ => rfl, fun _ _ _ _ _ => rfl, fun _ _ => rfl⟩
theorem RLg.of (h : RLg F0 A0 F A) (h2 : RGr F A F' A') : RLg F0 A0 F' A' := by
  obtain ⟨a1, a2, a3, a4, a5, a6⟩ := h
  obtain ⟨b1, b2, b3, b4, b5⟩ := h2
  refine ⟨fun i hi => ?_, fun j j1 j2 j3 j4 j5 j6 j7 => ?_, fun i hi => ?_, fun j hj => ?_, fun i j i1 i2 hj => ?_, fun j hj => ?_⟩
  · rw [b1 i hi, a1 i hi]
  · rw [b2 j j1 j2 j3 j4 j5 j6 j7, a2 j j1 j2 j3 j4 j5 j6 j7]
  · rw [b3 i (by omega) (by omega), a3 i hi]
  · rw [b4 j (by omega), a4 j hj]
  · rw [b3 i (by omega) (by omega), a5 i j i1 i2 hj]
  · rw [b5 j hj, a6 j hj]
/-- a told row is written in its upper half -/
theorem RLg.w {r k : Nat} {v : Int32} (h : RLg F0 A0 F A) (hr : 73 ≤ r ∧ r ≤ 77) (hk : 10 ≤ k) : RLg F0 A0 F (wF A r k v) := by
  obtain ⟨a1, a2, a3, a4, a5, a6⟩ := h
  refine ⟨a1, a2, fun i hi => ?_, fun j hj => ?_, fun i j i1 i2 hj => ?_, fun j hj => ?_⟩
  · rw [wF_row (by omega)]; exact a3 i hi
  · rw [wF_row (by omega)]; exact a4 j hj
  · rw [wF_cell (by omega)]; exact a5 i j i1 i2 hj
  · rw [wF_row (by omega)]; exact a6 j hj
theorem RLg.w7 {k : Nat} {v : Int32} (h : RLg F0 A0 F A) (hk : 4 ≤ k) : RLg F0 A0 F (wF A 72 k v) := by
  obtain ⟨a1, a2, a3, a4, a5, a6⟩ := h
  refine ⟨a1, a2, fun i hi => ?_, fun j hj => ?_, fun i j i1 i2 hj => ?_, fun j hj => ?_⟩
  · rw [wF_row (by omega)]; exact a3 i hi
  · rw [wF_cell (by omega)]; exact a4 j hj
  · rw [wF_row (by omega)]; exact a5 i j i1 i2 hj
  · rw [wF_row (by decide)]; exact a6 j hj
/-- the reference's reader between lines -/
def ML (F0 A0 : Nat → Nat → Int32) (tp : Nat → Int32) (N : Nat) (F A : Nat → Nat → Int32) (s : Nat) (t : TwnR) : Prop := RLg F0 A0 F A ∧ MR F A tp N F A s t.2.2.2.2 ∧ TlOk t ∧ A 72 4 = zI (t.1 : Int) ∧ A 72 5 = zI (t.2.1 4 0) ∧ A 72 6 = zI (t.2.1 5 0) ∧ (∀ i, i < t.1 → A 73 (10 + i) = zI (t.2.1 0 i) ∧ A 74 (10 + i) = zI (t.2.1 1 i) ∧ A 75 (10 + i) = zI (t.2.1 2 i) ∧ A 76 (10 + i) = zI (t.2.1 6 i) ∧ A 77 (10 + i) = zI (t.2.1 3 i))
def MLE (F0 A0 F A : Nat → Nat → Int32) (e : Nat × Nat) : Prop := RLg F0 A0 F A ∧ ME F A F A e
theorem MLE_of (h : RLg F0 A0 F A) (hE : ME F A F' A' e) : MLE F0 A0 F' A' e := ⟨h.of hE.1, ME_re hE⟩
/-- a line's end -/
theorem m_192l (hG : Geo G SL p q) (hL : ML F0 A0 tp N F A s t) (h1 : ∀ s' t', clS tp N s t = .inr (s', t') → ∀ F', ML F0 A0 tp N F' A s' t' → Q (.inl none) (F', A, J, G)) (h0 : ∀ e, clS tp N s t = .inl e → ∀ F', MLE F0 A0 F' A e → Q (.inl none) (F', A, J, G)) : X (d + 2) 192 0 [.ref 68, .int 59] [] (F, A, J, G) Q := by
  obtain ⟨l1, hC, hT, l4, l5, l6, l7⟩ := hL
  unfold clS at h1 h0
  exact m_192 hG hC (fun hg F1 hC1 => h1 _ _ (if_pos hg) F1 ⟨l1.of hC1.1, MR_same hC1, hT, l4, l5, l6, l7⟩) (fun hg F1 hE => h0 _ (if_neg (by rw [hg]; decide)) F1 (MLE_of l1 hE))
/-- a table's line but for its end; behind a fault -/
theorem m_201b (hG : Geo G SL p q) {x1 : Int32} (hn : A 72 4 = zI (n : Int)) (hE : MLE F0 A0 F A e) (hQ : ∀ A', MLE F0 A0 F A' e → Q (.inl none) (F, A', J, G)) : X (d + 3) 201 0 [.ref 68, .int x1, .null, .null, .null] [] (F, A, J, G) Q := by
  have hb := ME_b hE.2
  exact t_201_0 hG ⟨fun _ => ⟨fun h => absurd h hb, fun _ => ⟨fun h => absurd h hb, fun _ => hQ A hE⟩⟩, fun _ => ⟨fun h => absurd h hb, fun _ => hQ A hE⟩⟩
theorem m_201 (hG : Geo G SL p q) {k : Nat} (hk : k ≤ 3) (hL : ML F0 A0 tp N F A s t) (hs : s < N) (h10 : 10 ≤ t.1 → ∀ F', MLE F0 A0 F' A (2, s) → Q (.inl none) (F', A, J, G)) (h1 : t.1 < 10 → ∀ v, tbS tp N (nxS tp N s) = .inr v → ∀ F' A', ML F0 A0 tp N F' A' v.1 (t.1 + 1, upK (upK (upK (upK (upK t.2.1 0 t.1 k) 1 t.1 v.2.1) 2 t.1 v.2.2.1) 6 t.1 v.2.2.2.1) 3 t.1 v.2.2.2.2, t.2.2) → Q (.inl none) (F', A', J, G)) (h0 : t.1 < 10 → ∀ e, tbS tp N (nxS tp N s) = .inl e → ∀ F' A', MLE F0 A0 F' A' e → Q (.inl none) (F', A', J, G)) : X (d + 3) 201 0 [.ref 68, .int (zI (k : Int)), .null, .null, .null] [] (F, A, J, G) Q := by
  obtain ⟨l1, hC, hT, l4, l5, l6, l7⟩ := hL
  have ht := hT.1.1
  have f20 := hC.2.2.2.1
  refine t_201_0 hG ?_
  rw [l4, show (10 : Int32) = zI ((10 : Nat) : Int) from rfl, zN_eq (by omega) (by omega)]
  refine ⟨fun hn => ⟨fun _ => h10 (by omega) _ (MLE_of l1 (MR_e hC (k := 2) rfl (by decide) (by decide))), fun h => absurd f20 h⟩, fun hn => ⟨fun _ => ?_, fun h => absurd f20 h⟩⟩
  have hn : t.1 < 10 := by omega
  have h1 := h1 hn
  have h0 := h0 hn
  have e10 : (10 : Int32) + zI (t.1 : Int) = zI ((10 + t.1 : Nat) : Int) := by rw [show (10 : Int32) = zI ((10 : Nat) : Int) from rfl, zN_add]
  have hin : inB (zI ((10 + t.1 : Nat) : Int)) 20 = true := zN_in (by omega) (by decide)
  -- behind a fault: the rest
  have b126 : ∀ e F5 A5 (x1 x3 x4 r : Int32), RLg F0 A0 F5 A5 → ME F5 A5 F5 A5 e → A5 72 4 = zI (t.1 : Int) → (∀ F' A', MLE F0 A0 F' A' e → Q (.inl none) (F', A', J, G)) → KK (d + 3) 201 126 [.ref 68, .int x1, .int (zI ((10 + t.1 : Nat) : Int)), .int x3, .int x4] [.int (zI ((10 + t.1 : Nat) : Int)), .ref 77] Q (.inl (some (.int r))) (F5, A5, J, G) := by
    intro e F5 A5 x1 x3 x4 r hr hE h4 hQ
    refine k_201_126 hG ⟨hin, hQ _ _ ⟨?_, ME_re hE⟩⟩
    rw [zI_clamp (by omega)]
    exact (hr.w (by decide) (by omega)).w7 (by decide)
  have b94 : ∀ e F5 A5 (x1 x3 r : Int32), RLg F0 A0 F5 A5 → ME F5 A5 F5 A5 e → A5 72 4 = zI (t.1 : Int) → (∀ F' A', MLE F0 A0 F' A' e → Q (.inl none) (F', A', J, G)) → KK (d + 3) 201 94 [.ref 68, .int x1, .int (zI ((10 + t.1 : Nat) : Int)), .int x3, .null] [] Q (.inl (some (.int r))) (F5, A5, J, G) := by
    intro e F5 A5 x1 x3 r hr hE h4 hQ
    refine k_201_94 hG ⟨fun _ => ⟨hin, m_193b hG (ME_re (A' := wF A5 76 (zI ((10 + t.1 : Nat) : Int)).toNatClampNeg r) hE) (b126 e _ _ _ _ _ _ ?_ (ME_re hE) ?_ hQ)⟩, fun _ => ⟨hin, m_193b hG (ME_re (A' := wF A5 76 (zI ((10 + t.1 : Nat) : Int)).toNatClampNeg (-r)) hE) (b126 e _ _ _ _ _ _ ?_ (ME_re hE) ?_ hQ)⟩⟩
    · rw [zI_clamp (by omega)]; exact hr.w (by decide) (by omega)
    · rw [wF_row (by decide)]; exact h4
    · rw [zI_clamp (by omega)]; exact hr.w (by decide) (by omega)
    · rw [wF_row (by decide)]; exact h4
  have b71 : ∀ e F5 A5 (x1 r : Int32), RLg F0 A0 F5 A5 → ME F5 A5 F5 A5 e → A5 72 4 = zI (t.1 : Int) → (∀ F' A', MLE F0 A0 F' A' e → Q (.inl none) (F', A', J, G)) → KK (d + 3) 201 71 [.ref 68, .int x1, .int (zI ((10 + t.1 : Nat) : Int)), .null, .null] [.int (zI ((10 + t.1 : Nat) : Int)), .ref 75] Q (.inl (some (.int r))) (F5, A5, J, G) := by
    intro e F5 A5 x1 r hr hE h4 hQ
    have hmk := mk_bad hE
    refine k_201_71 hG ⟨hin, fun h => absurd h (ME_b hE), fun h => ?_, fun _ => m_193b hG (ME_re (A' := wF A5 75 (zI ((10 + t.1 : Nat) : Int)).toNatClampNeg r) hE) (b94 e _ _ _ _ _ ?_ (ME_re hE) ?_ hQ)⟩
    · rw [hmk] at h; exact absurd h (by decide)
    · rw [zI_clamp (by omega)]; exact hr.w (by decide) (by omega)
    · rw [wF_row (by decide)]; exact h4
  have b57 : ∀ e F5 A5 (x1 r : Int32), RLg F0 A0 F5 A5 → ME F5 A5 F5 A5 e → A5 72 4 = zI (t.1 : Int) → (∀ F' A', MLE F0 A0 F' A' e → Q (.inl none) (F', A', J, G)) → KK (d + 3) 201 57 [.ref 68, .int x1, .int (zI ((10 + t.1 : Nat) : Int)), .null, .null] [.int (zI ((10 + t.1 : Nat) : Int)), .ref 74] Q (.inl (some (.int r))) (F5, A5, J, G) := by
    intro e F5 A5 x1 r hr hE h4 hQ
    refine k_201_57 hG ⟨hin, m_193b hG (ME_re (A' := wF A5 74 (zI ((10 + t.1 : Nat) : Int)).toNatClampNeg r) hE) (b71 e _ _ _ _ ?_ (ME_re hE) ?_ hQ)⟩
    · rw [zI_clamp (by omega)]; exact hr.w (by decide) (by omega)
    · rw [wF_row (by decide)]; exact h4
  unfold tbS at h1 h0
  refine MR_n hG hC (fun F1 hC1 => k_201_28 hG ?_)
  have rF1 := l1.of hC1.1
  have hkk : ∀ j, t.1 ≤ j → 10 ≤ 10 + j := fun j _ => by omega
  rw [l4, e10, zI_clamp (by omega)]
  refine ⟨hin, ?_⟩
  have hC1' : MR F1 (wF A 73 (10 + t.1) (zI (k : Int))) tp N F1 (wF A 73 (10 + t.1) (zI (k : Int))) (nxS tp N s) t.2.2.2.2 := MR_re hC1 (wF_row (by decide)) (by rw [wF_row (by decide)]) (wF_row (by decide))
  have r1 : RLg F0 A0 F1 (wF A 73 (10 + t.1) (zI (k : Int))) := rF1.w (by decide) (by omega)
  have q1 : (wF A 73 (10 + t.1) (zI (k : Int))) 72 4 = zI (t.1 : Int) := by rw [wF_row (by decide)]; exact l4
  refine m_193 hG (lo := 1) (hi := 99) (by decide) (by decide) rfl rfl hC1' (fun s2 w e2 F2 hC2 => ?_) (fun e he F2 hE => b57 e _ _ _ _ (r1.of hE.1) (ME_re hE) q1 (h0 e (by rw [he])))
  rw [e2] at h1 h0
  dsimp only at h1 h0
  have b2 := num_b e2 (nx_le (Nat.le_of_lt hs))
  have r2 := r1.of hC2.1
  refine k_201_57 hG ⟨hin, ?_⟩
  rw [zI_clamp (by omega)]
  have hC2' : MR F2 (wF (wF A 73 (10 + t.1) (zI (k : Int))) 74 (10 + t.1) (zI w)) tp N F2 (wF (wF A 73 (10 + t.1) (zI (k : Int))) 74 (10 + t.1) (zI w)) s2 t.2.2.2.2 := MR_re hC2 (wF_row (by decide)) (by rw [wF_row (by decide)]) (wF_row (by decide))
  have r2' : RLg F0 A0 F2 (wF (wF A 73 (10 + t.1) (zI (k : Int))) 74 (10 + t.1) (zI w)) := r2.w (by decide) (by omega)
  have q2 : (wF (wF A 73 (10 + t.1) (zI (k : Int))) 74 (10 + t.1) (zI w)) 72 4 = zI (t.1 : Int) := by rw [wF_row (by decide)]; exact q1
  refine m_193 hG (lo := 0) (hi := 999) (by decide) (by decide) rfl rfl hC2' (fun s3 b e3 F3 hC3 => ?_) (fun e he F3 hE => b71 e _ _ _ _ (r2'.of hE.1) (ME_re hE) q2 (h0 e (by rw [he])))
  rw [e3] at h1 h0
  dsimp only at h1 h0
  have b3 := num_b e3 b2.2.2
  have r3 := r2'.of hC3.1
  -- behind the sign
  have tail : ∀ (ng : Bool) (x3 : Int32) s4, x3 = bI ng → s4 ≤ N → (∀ v, (match numS tp N 0 9 s4 with | .inl e => (.inl e : (Nat × Nat) ⊕ (Nat × Int × Int × Int × Int)) | .inr l => match numS tp N 0 99 l.1 with | .inl e => .inl e | .inr h => .inr (h.1, w, b, (if ng = true then -l.2 else l.2), h.2)) = .inr v → ∀ F' A', ML F0 A0 tp N F' A' v.1 (t.1 + 1, upK (upK (upK (upK (upK t.2.1 0 t.1 k) 1 t.1 v.2.1) 2 t.1 v.2.2.1) 6 t.1 v.2.2.2.1) 3 t.1 v.2.2.2.2, t.2.2) → Q (.inl none) (F', A', J, G)) → (∀ e, (match numS tp N 0 9 s4 with | .inl e => (.inl e : (Nat × Nat) ⊕ (Nat × Int × Int × Int × Int)) | .inr l => match numS tp N 0 99 l.1 with | .inl e => .inl e | .inr h => .inr (h.1, w, b, (if ng = true then -l.2 else l.2), h.2)) = .inl e → ∀ F' A', MLE F0 A0 F' A' e → Q (.inl none) (F', A', J, G)) → ∀ F4, RLg F0 A0 F4 (wF (wF (wF A 73 (10 + t.1) (zI (k : Int))) 74 (10 + t.1) (zI w)) 75 (10 + t.1) (zI b)) → MR F4 (wF (wF (wF A 73 (10 + t.1) (zI (k : Int))) 74 (10 + t.1) (zI w)) 75 (10 + t.1) (zI b)) tp N F4 (wF (wF (wF A 73 (10 + t.1) (zI (k : Int))) 74 (10 + t.1) (zI w)) 75 (10 + t.1) (zI b)) s4 t.2.2.2.2 → X (d + 2) 193 0 [.ref 68, .int 0, .int 9, .null] [] (F4, wF (wF (wF A 73 (10 + t.1) (zI (k : Int))) 74 (10 + t.1) (zI w)) 75 (10 + t.1) (zI b), J, G) (KK (d + 3) 201 94 [.ref 68, .int (zI (k : Int)), .int (zI ((10 + t.1 : Nat) : Int)), .int x3, .null] [] Q) := by
    intro ng x3 s4 hx3 hs4 h1 h0 F4 r4 hC4
    have q4 : (wF (wF (wF A 73 (10 + t.1) (zI (k : Int))) 74 (10 + t.1) (zI w)) 75 (10 + t.1) (zI b)) 72 4 = zI (t.1 : Int) := by rw [wF_row (by decide)]; exact q2
    refine m_193 hG (lo := 0) (hi := 9) (by decide) (by decide) rfl rfl hC4 (fun s5 l e5 F5 hC5 => ?_) (fun e he F5 hE => b94 e _ _ _ _ _ (r4.of hE.1) (ME_re hE) q4 (h0 e (by rw [he])))
    rw [e5] at h1 h0
    dsimp only at h1 h0
    have b5 := num_b e5 hs4
    have r5 := r4.of hC5.1
    have hl9 : -9 ≤ (if ng = true then -l else l) ∧ (if ng = true then -l else l) ≤ 9 := by split <;> omega
    have last : ∀ y : Int32, y = zI (if ng = true then -l else l) → X (d + 2) 193 0 [.ref 68, .int 0, .int 99, .null] [] (F5, wF (wF (wF (wF A 73 (10 + t.1) (zI (k : Int))) 74 (10 + t.1) (zI w)) 75 (10 + t.1) (zI b)) 76 (10 + t.1) y, J, G) (KK (d + 3) 201 126 [.ref 68, .int (zI (k : Int)), .int (zI ((10 + t.1 : Nat) : Int)), .int x3, .int (zI l)] [.int (zI ((10 + t.1 : Nat) : Int)), .ref 77] Q) := by
      intro y hy
      have hC5' : MR F5 (wF (wF (wF (wF A 73 (10 + t.1) (zI (k : Int))) 74 (10 + t.1) (zI w)) 75 (10 + t.1) (zI b)) 76 (10 + t.1) y) tp N F5 (wF (wF (wF (wF A 73 (10 + t.1) (zI (k : Int))) 74 (10 + t.1) (zI w)) 75 (10 + t.1) (zI b)) 76 (10 + t.1) y) s5 t.2.2.2.2 := MR_re hC5 (wF_row (by decide)) (by rw [wF_row (by decide)]) (wF_row (by decide))
      have r5' : RLg F0 A0 F5 (wF (wF (wF (wF A 73 (10 + t.1) (zI (k : Int))) 74 (10 + t.1) (zI w)) 75 (10 + t.1) (zI b)) 76 (10 + t.1) y) := r5.w (by decide) (by omega)
      have q5 : (wF (wF (wF (wF A 73 (10 + t.1) (zI (k : Int))) 74 (10 + t.1) (zI w)) 75 (10 + t.1) (zI b)) 76 (10 + t.1) y) 72 4 = zI (t.1 : Int) := by rw [wF_row (by decide)]; exact q4
      refine m_193 hG (lo := 0) (hi := 99) (by decide) (by decide) rfl rfl hC5' (fun s6 h e6 F6 hC6 => ?_) (fun e he F6 hE => b126 e _ _ _ _ _ _ (r5'.of hE.1) (ME_re hE) q5 (h0 e (by rw [he])))
      rw [e6] at h1 h0
      have b6 := num_b e6 b5.2.2
      have r6 := r5'.of hC6.1
      refine k_201_126 hG ⟨hin, ?_⟩
      rw [zI_clamp (by omega), q5, zN_1]
      refine h1 _ rfl _ _ ⟨?_, ?_, ?_, ?_, ?_, ?_, ?_⟩
      · exact (r6.w (by decide) (by omega)).w7 (by decide)
      · refine MR_re hC6 ?_ ?_ ?_
        · rw [wF_row (by decide), wF_row (by decide)]
        · rw [wF_cell (by decide), wF_row (by decide)]
        · rw [wF_row (by decide), wF_row (by decide)]
      · refine ⟨⟨by dsimp only; omega, fun i hi => ?_, ?_, ?_⟩, fun i hi => ?_, hT.2.2⟩
        · dsimp only at hi ⊢
          by_cases e : i = t.1
          · subst e
            rw [upK_r (by decide), upK_r (by decide), upK_r (by decide), upK_r (by decide), upK_s, upK_r (by decide), upK_r (by decide), upK_r (by decide), upK_s, upK_r (by decide), upK_r (by decide), upK_s, upK_s]
            exact ⟨by omega, b2.1, b3.1, b6.1⟩
          · rw [upK_c e, upK_c e, upK_c e, upK_c e, upK_c e, upK_c e, upK_c e, upK_c e, upK_c e, upK_c e, upK_c e, upK_c e, upK_c e, upK_c e, upK_c e, upK_c e, upK_c e, upK_c e, upK_c e, upK_c e]
            exact hT.1.2.1 i (by omega)
        · dsimp only
          rw [upK_r (by decide), upK_r (by decide), upK_r (by decide), upK_r (by decide), upK_r (by decide)]
          exact hT.1.2.2.1
        · dsimp only
          rw [upK_r (by decide), upK_r (by decide), upK_r (by decide), upK_r (by decide), upK_r (by decide)]
          exact hT.1.2.2.2
        · dsimp only at hi ⊢
          by_cases e : i = t.1
          · subst e
            rw [upK_r (by decide), upK_s]; exact hl9
          · rw [upK_c e, upK_c e, upK_c e, upK_c e, upK_c e]
            exact hT.2.1 i (by omega)
      · exact wF_same _ _ _ _
      · dsimp only
        rw [upK_r (by decide), upK_r (by decide), upK_r (by decide), upK_r (by decide), upK_r (by decide), wF_cell (by decide), wF_row (by decide), wF_row (by decide), wF_row (by decide), wF_row (by decide), wF_row (by decide)]; exact l5
      · dsimp only
        rw [upK_r (by decide), upK_r (by decide), upK_r (by decide), upK_r (by decide), upK_r (by decide), wF_cell (by decide), wF_row (by decide), wF_row (by decide), wF_row (by decide), wF_row (by decide), wF_row (by decide)]; exact l6
      · intro i hi
        dsimp only at hi ⊢
        rw [wF_row (o := 72) (o' := 73) (by decide), wF_row (o := 72) (o' := 74) (by decide), wF_row (o := 72) (o' := 75) (by decide), wF_row (o := 72) (o' := 76) (by decide), wF_row (o := 72) (o' := 77) (by decide)]
        by_cases e : i = t.1
        · subst e
          rw [upK_r (by decide), upK_r (by decide), upK_r (by decide), upK_r (by decide), upK_s, upK_r (by decide), upK_r (by decide), upK_r (by decide), upK_s, upK_r (by decide), upK_r (by decide), upK_s, upK_r (by decide), upK_s, upK_s]
          refine ⟨?_, ?_, ?_, ?_, ?_⟩
          · rw [wF_row (by decide), wF_row (by decide), wF_row (by decide), wF_row (by decide), wF_same]
          · rw [wF_row (by decide), wF_row (by decide), wF_row (by decide), wF_same]
          · rw [wF_row (by decide), wF_row (by decide), wF_same]
          · rw [wF_row (by decide), wF_same, hy]
          · rw [wF_same]
        · have e' : 10 + i ≠ 10 + t.1 := by omega
          rw [upK_c e, upK_c e, upK_c e, upK_c e, upK_c e, upK_c e, upK_c e, upK_c e, upK_c e, upK_c e, upK_c e, upK_c e, upK_c e, upK_c e, upK_c e, upK_c e, upK_c e, upK_c e, upK_c e, upK_c e, upK_c e, upK_c e, upK_c e, upK_c e, upK_c e]
          rw [wF_cell e', wF_cell e', wF_cell e', wF_cell e', wF_cell e', wF_cell e', wF_cell e', wF_cell e', wF_cell e', wF_cell e', wF_cell e', wF_cell e', wF_cell e', wF_cell e', wF_cell e', wF_cell e', wF_cell e', wF_cell e', wF_cell e', wF_cell e', wF_cell e', wF_cell e', wF_cell e', wF_cell e', wF_cell e']
          exact l7 i (by omega)
    refine k_201_94 hG ?_
    rw [zI_clamp (by omega)]
    cases ng with
    | true => exact ⟨fun h => absurd (hx3 ▸ h : bI true = 0) (by decide), fun _ => ⟨hin, last _ (by rw [zI_neg]; rfl)⟩⟩
    | false => exact ⟨fun _ => ⟨hin, last _ rfl⟩, fun h => absurd (show x3 = 0 from hx3) h⟩
  have hC3' : MR F3 (wF (wF (wF A 73 (10 + t.1) (zI (k : Int))) 74 (10 + t.1) (zI w)) 75 (10 + t.1) (zI b)) tp N F3 (wF (wF (wF A 73 (10 + t.1) (zI (k : Int))) 74 (10 + t.1) (zI w)) 75 (10 + t.1) (zI b)) s3 t.2.2.2.2 := MR_re hC3 (wF_row (by decide)) (by rw [wF_row (by decide)]) (wF_row (by decide))
  have r3' : RLg F0 A0 F3 (wF (wF (wF A 73 (10 + t.1) (zI (k : Int))) 74 (10 + t.1) (zI w)) 75 (10 + t.1) (zI b)) := r3.w (by decide) (by omega)
  refine k_201_71 hG ?_
  rw [mk_eq hC3, zI_clamp (by omega)]
  refine ⟨hin, mk_in hC3, fun hg => MR_n hG hC3' (fun F4 hC4 => k_201_87 hG ?_), fun hg => ?_⟩
  · rw [if_pos hg] at h1 h0
    refine tail (sgB tp N 45 s3) _ _ rfl (nx_le b3.2.2) ?_ ?_ F4 (r3'.of hC4.1) (MR_same hC4)
    · exact h1
    · exact h0
  · rw [if_neg (by rw [hg]; decide)] at h1 h0
    refine tail (sgB tp N 45 s3) _ _ rfl b3.2.2 ?_ ?_ F3 r3' hC3'
    · exact h1
    · exact h0
end LineM
