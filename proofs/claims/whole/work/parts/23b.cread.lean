/-! the class's reader: tokens -/
section ReadC
def BtOk (tp : Nat → Int32) (N : Nat) : Prop := ∀ j, j < N → ∃ b : Nat, b < 256 ∧ tp j = zI (b : Int)
theorem sb_val : ∀ b : Nat, b < 256 → sbI (zI (b : Int)) = zI (if b < 128 then (b : Int) else (b : Int) - 256) := by decide +kernel
theorem sb_let : ∀ b : Nat, b < 256 → letB (sbI (zI (b : Int))) = letB (zI (b : Int)) := by decide +kernel
theorem sb_dig : ∀ b : Nat, b < 256 → digB (sbI (zI (b : Int))) = digB (zI (b : Int)) := by decide +kernel
theorem sb_mrk : ∀ b : Nat, b < 256 → decide (sIx (1001 - 1000) (jchar (sbI (zI (b : Int)) &&& 255)) < 0) = !mrkB (zI (b : Int)) := by decide +kernel
theorem sb_same : ∀ b : Nat, b < 256 → digB (zI (b : Int)) = true → sbI (zI (b : Int)) = zI (b : Int) := by decide +kernel
theorem sb_eqc {b c : Nat} (hb : b < 256) (hc : c < 128) : (sbI (zI (b : Int)) = zI (c : Int)) = (zI (b : Int) = zI (c : Int)) := by
  rw [sb_val b hb, zN_eq (by omega) (by omega)]
  split
  · rw [zN_eq (by omega) (by omega)]
  · rw [zI_eq (by omega) (by omega) (by omega) (by omega)]
    apply propext
    omega
variable {d : Nat} {F A F0 A0 F' A' : Nat → Nat → Int32} {J : Nat → Nat → Int64} {G : pG} {Q : pR → pM → Prop} {SL p q : Nat} {tp : Nat → Int32} {N s i j e w : Nat} {c : List Int}
theorem bt_let (hB : BtOk tp N) (hj : j < N) : letB (sbI (tp j)) = letB (tp j) := by
  obtain ⟨b, hb, e⟩ := hB j hj
  rw [e]; exact sb_let b hb
theorem bt_dig (hB : BtOk tp N) (hj : j < N) : digB (sbI (tp j)) = digB (tp j) := by
  obtain ⟨b, hb, e⟩ := hB j hj
  rw [e]; exact sb_dig b hb
theorem bt_mrk (hB : BtOk tp N) (hj : j < N) : (sIx (1001 - 1000) (jchar (sbI (tp j) &&& 255)) < 0) = (mrkB (tp j) = false) := by
  obtain ⟨b, hb, e⟩ := hB j hj
  rw [e]
  have h := sb_mrk b hb
  apply propext
  constructor
  · intro h1
    rw [decide_eq_true h1] at h
    cases hm : mrkB (zI (b : Int))
    · rfl
    · rw [hm] at h; exact absurd h (by decide)
  · intro h1
    rw [h1] at h
    exact of_decide_eq_true h
theorem bt_same (hB : BtOk tp N) (hj : j < N) (hd : digB (tp j) = true) : sbI (tp j) = tp j := by
  obtain ⟨b, hb, e⟩ := hB j hj
  rw [e] at hd ⊢; exact sb_same b hb hd
theorem bt_eqc (hB : BtOk tp N) (hj : j < N) {x : Nat} (hx : x < 128) : (sbI (tp j) = zI (x : Int)) = (tp j = zI (x : Int)) := by
  obtain ⟨b, hb, e⟩ := hB j hj
  rw [e]; exact sb_eqc hb hx
/-- the next token -/
theorem c_49 (hG : Geo G SL p q) (hN : N ≤ 600) (hB : BtOk tp N) (hA : ∀ j, j < N → A 1 j = sbI (tp j)) (he : e ≤ N) (f3 : F 11 3 = zI (N : Int)) (f6 : F 11 6 = zI (e : Int)) (hQ : ∀ F', (∀ i, i ≠ 11 → F' i = F i) → (∀ j, j ≠ 4 → j ≠ 5 → j ≠ 6 → j ≠ 7 → F' 11 j = F 11 j) → F' 11 5 = zI (skS tp N e : Int) → F' 11 6 = zI (enS tp N (skS tp N e) : Int) → F' 11 4 = zI (kdS tp N (skS tp N e) : Int) → (kdS tp N (skS tp N e) = 3 → F' 11 7 = zI (nvS tp N (skS tp N e))) → Q (.inl none) (F', A, J, G)) : X (d + 1) 49 0 [.ref 11] [] (F, A, J, G) Q := by
  have hsN : skS tp N e ≤ N := sc_le _ he
  generalize hs : skS tp N e = s at *
  have L107 : ∀ k j F1, N - j = k → j ≤ N → scS (leP tp) N j = enS tp N s → kdS tp N s = 2 → (∀ i, i ≠ 11 → F1 i = F i) → (∀ j, j ≠ 4 → j ≠ 5 → j ≠ 6 → j ≠ 7 → F1 11 j = F 11 j) → F1 11 5 = zI (s : Int) → F1 11 4 = 2 → F1 11 6 = zI (j : Int) → X (d + 1) 49 107 [.ref 11] [] (F1, A, J, G) Q := by
    intro k
    induction k with
    | zero =>
      intro j F1 hk hj hsc hkd g1 g2 g5 g4 g6
      refine t_49_107 hG ?_
      rw [g6, g2 3 (by decide) (by decide) (by decide) (by decide), f3, zN_lt (by omega) (by omega)]
      refine ⟨fun h => by omega, fun _ => hQ F1 g1 g2 g5 ?_ ?_ (fun h => by omega)⟩
      · rw [g6, ← hsc, sc_f (Or.inr (by omega))]
      · rw [g4, hkd]; rfl
    | succ k ih =>
      intro j F1 hk hj hsc hkd g1 g2 g5 g4 g6
      have hjN : j < N := by omega
      refine t_49_107 hG ?_
      rw [g6, g2 3 (by decide) (by decide) (by decide) (by decide), f3, zN_lt (by omega) (by omega), zI_clamp (by omega), hA j hjN, bt_let hB hjN, zN_1]
      refine ⟨fun _ => ⟨zN_in (by omega) (by decide), fun hl => ?_, fun hl => hQ F1 g1 g2 g5 ?_ ?_ (fun h => by omega)⟩, fun h => absurd hjN h⟩
      · refine ih (j + 1) _ (by omega) (by omega) (by rw [← hsc, sc_t (p := leP tp) hl hjN]) hkd (fun i hi => ?_) (fun c c4 c5 c6 c7 => ?_) ?_ ?_ (wF_same _ _ _ _)
        · rw [wF_row hi]; exact g1 i hi
        · rw [wF_cell c6]; exact g2 c c4 c5 c6 c7
        · rw [wF_cell (by decide)]; exact g5
        · rw [wF_cell (by decide)]; exact g4
      · rw [g6, ← hsc, sc_f (Or.inl hl)]
      · rw [g4, hkd]; rfl
  have L171 : ∀ k j F1, N - j = k → j ≤ N → s ≤ j → scS (dgP tp) N j = enS tp N s → kdS tp N s = 3 → (∀ i, i ≠ 11 → F1 i = F i) → (∀ j, j ≠ 4 → j ≠ 5 → j ≠ 6 → j ≠ 7 → F1 11 j = F 11 j) → F1 11 5 = zI (s : Int) → F1 11 4 = 3 → F1 11 6 = zI (j : Int) → F1 11 7 = zI (nvF tp s (j - s)) → X (d + 1) 49 171 [.ref 11] [] (F1, A, J, G) Q := by
    intro k
    induction k with
    | zero =>
      intro j F1 hk hj hsj hsc hkd g1 g2 g5 g4 g6 g7
      refine t_49_171 hG ?_
      rw [g6, g2 3 (by decide) (by decide) (by decide) (by decide), f3, zN_lt (by omega) (by omega)]
      have hje : enS tp N s = j := by rw [← hsc, sc_f (Or.inr (by omega))]
      refine ⟨fun h => by omega, fun _ => hQ F1 g1 g2 g5 ?_ ?_ (fun _ => ?_)⟩
      · rw [g6, hje]
      · rw [g4, hkd]; rfl
      · rw [g7, nvS, hje]
    | succ k ih =>
      intro j F1 hk hj hsj hsc hkd g1 g2 g5 g4 g6 g7
      have hjN : j < N := by omega
      refine t_49_171 hG ?_
      rw [g6, g2 3 (by decide) (by decide) (by decide) (by decide), f3, zN_lt (by omega) (by omega), zI_clamp (by omega), hA j hjN, bt_dig hB hjN, zN_1, g7]
      refine ⟨fun _ => ⟨zN_in (by omega) (by decide), fun hl => ?_, fun hl => ?_⟩, fun h => absurd hjN h⟩
      · refine ih (j + 1) _ (by omega) (by omega) (by omega) (by rw [← hsc, sc_t (p := dgP tp) hl hjN]) hkd (fun i hi => ?_) (fun c c4 c5 c6 c7 => ?_) ?_ ?_ (wF_same _ _ _ _) ?_
        · rw [wF_row hi, wF_row hi]; exact g1 i hi
        · rw [wF_cell c6, wF_cell c7]; exact g2 c c4 c5 c6 c7
        · rw [wF_cell (by decide), wF_cell (by decide)]; exact g5
        · rw [wF_cell (by decide), wF_cell (by decide)]; exact g4
        · rw [wF_cell (by decide), wF_same, bt_same hB hjN hl, show j + 1 - s = (j - s) + 1 by omega, nvF, show s + (j - s) = j by omega]
          obtain ⟨b, hb, eb⟩ := hB j hjN
          rw [eb, zI_toInt (by omega) (by omega), show (10 : Int32) = zI 10 from rfl, show (48 : Int32) = zI 48 from rfl, zI_mul, zI_add, zI_sub]
          congr 1; omega
      · have hje : enS tp N s = j := by rw [← hsc, sc_f (Or.inl hl)]
        refine hQ F1 g1 g2 g5 ?_ ?_ (fun _ => ?_)
        · rw [g6, hje]
        · rw [g4, hkd]; rfl
        · rw [g7, nvS, hje]
  have L8 : ∀ k j F1, N - j = k → j ≤ N → skS tp N j = s → (∀ i, i ≠ 11 → F1 i = F i) → (∀ j, j ≠ 4 → j ≠ 5 → j ≠ 6 → j ≠ 7 → F1 11 j = F 11 j) → F1 11 5 = zI (j : Int) → X (d + 1) 49 8 [.ref 11] [] (F1, A, J, G) Q := by
    intro k
    induction k with
    | zero =>
      intro j F1 hk hj hsc g1 g2 g5
      refine t_49_8 hG ?_
      rw [g5, g2 3 (by decide) (by decide) (by decide) (by decide), f3, zN_lt (by omega) (by omega)]
      have hjs : j = s := by rw [← hsc]; exact (sc_f (Or.inr (by omega))).symm
      have hNs : N ≤ s := by omega
      subst hjs
      refine ⟨fun h => by omega, fun _ => ⟨fun h => by omega, fun _ => hQ _ (fun i hi => ?_) (fun c c4 c5 c6 c7 => ?_) ?_ ?_ ?_ (fun h => ?_)⟩⟩
      · rw [wF_row hi, wF_row hi]; exact g1 i hi
      · rw [wF_cell c4, wF_cell c6]; exact g2 c c4 c5 c6 c7
      · rw [wF_cell (by decide), wF_cell (by decide)]; exact g5
      · rw [wF_cell (by decide), wF_same, enS, if_pos hNs]
      · rw [wF_same, kdS, if_pos hNs]; rfl
      · rw [kdS, if_pos hNs] at h; omega
    | succ k ih =>
      intro j F1 hk hj hsc g1 g2 g5
      have hjN : j < N := by omega
      have e32 : (sbI (tp j) = 32) = (tp j = 32) := bt_eqc hB hjN (x := 32) (by decide)
      have e10 : (sbI (tp j) = 10) = (tp j = 10) := bt_eqc hB hjN (x := 10) (by decide)
      have step : blP tp j = true → X (d + 1) 49 8 [.ref 11] [] (wF F1 11 5 (zI ((j + 1 : Nat) : Int)), A, J, G) Q := by
        intro hb
        refine ih (j + 1) _ (by omega) (by omega) (by rw [← hsc]; exact (sc_t hb hjN).symm) (fun i hi => ?_) (fun c c4 c5 c6 c7 => ?_) (wF_same _ _ _ _)
        · rw [wF_row hi]; exact g1 i hi
        · rw [wF_cell c5]; exact g2 c c4 c5 c6 c7
      refine t_49_8 hG ?_
      rw [g5, g2 3 (by decide) (by decide) (by decide) (by decide), f3, zN_lt (by omega) (by omega), zI_clamp (by omega), hA j hjN, bt_let hB hjN, bt_dig hB hjN, bt_mrk hB hjN, e32, e10, zN_1]
      refine ⟨fun _ => ⟨zN_in (by omega) (by decide), fun h32 => step ?_, fun h32 => ⟨fun h10 => step ?_, fun h10 => ⟨fun _ => ?_, fun h => absurd hjN h⟩⟩⟩, fun h => absurd hjN h⟩
      · unfold blP; rw [decide_eq_true h32]; rfl
      · unfold blP; rw [decide_eq_true h10, Bool.or_true]
      · have hbl : blP tp j = false := by unfold blP; rw [decide_eq_false h32, decide_eq_false h10]; rfl
        have hjs : j = s := by rw [← hsc]; exact (sc_f (Or.inl hbl)).symm
        subst hjs
        refine ⟨fun hl => ?_, fun hl => ⟨fun hd => ?_, fun hd => ⟨fun hm => ?_, fun hm => ?_⟩⟩⟩
        · refine L107 _ j _ rfl hj (by rw [enS, if_neg (by omega), if_pos hl]) (by rw [kdS, if_neg (by omega), if_pos hl]) (fun i hi => ?_) (fun c c4 c5 c6 c7 => ?_) ?_ (wF_same _ _ _ _) ?_
          · rw [wF_row hi, wF_row hi]; exact g1 i hi
          · rw [wF_cell c4, wF_cell c6]; exact g2 c c4 c5 c6 c7
          · rw [wF_cell (by decide), wF_cell (by decide)]; exact g5
          · rw [wF_cell (by decide), wF_same]
        · refine L171 _ j _ rfl hj (Nat.le_refl _) (by rw [enS, if_neg (by omega), if_neg (by rw [hl]; decide), if_pos hd]) (by rw [kdS, if_neg (by omega), if_neg (by rw [hl]; decide), if_pos hd]) (fun i hi => ?_) (fun c c4 c5 c6 c7 => ?_) ?_ ?_ ?_ ?_
          · rw [wF_row hi, wF_row hi, wF_row hi]; exact g1 i hi
          · rw [wF_cell c7, wF_cell c4, wF_cell c6]; exact g2 c c4 c5 c6 c7
          · rw [wF_cell (by decide), wF_cell (by decide), wF_cell (by decide)]; exact g5
          · rw [wF_cell (by decide), wF_same]
          · rw [wF_cell (by decide), wF_cell (by decide), wF_same]
          · rw [wF_same, Nat.sub_self]; rfl
        · have hk1 : kdS tp N j = 1 := by rw [kdS, if_neg (by omega), if_neg (by rw [hl]; decide), if_neg (by rw [hd]; decide), if_neg (by rw [hm]; decide)]
          refine hQ _ (fun i hi => ?_) (fun c c4 c5 c6 c7 => ?_) ?_ ?_ ?_ (fun h => by omega)
          · rw [wF_row hi, wF_row hi, wF_row hi]; exact g1 i hi
          · rw [wF_cell c6, wF_cell c4, wF_cell c6]; exact g2 c c4 c5 c6 c7
          · rw [wF_cell (by decide), wF_cell (by decide), wF_cell (by decide)]; exact g5
          · rw [wF_same, enS, if_neg (by omega), if_neg (by rw [hl]; decide), if_neg (by rw [hd]; decide)]
          · rw [wF_cell (by decide), wF_same, hk1]; rfl
        · have hm' : mrkB (tp j) = true := by simpa using hm
          have hk1 : kdS tp N j = 4 := by rw [kdS, if_neg (by omega), if_neg (by rw [hl]; decide), if_neg (by rw [hd]; decide), if_pos hm']
          refine hQ _ (fun i hi => ?_) (fun c c4 c5 c6 c7 => ?_) ?_ ?_ ?_ (fun h => by omega)
          · rw [wF_row hi, wF_row hi, wF_row hi]; exact g1 i hi
          · rw [wF_cell c6, wF_cell c4, wF_cell c6]; exact g2 c c4 c5 c6 c7
          · rw [wF_cell (by decide), wF_cell (by decide), wF_cell (by decide)]; exact g5
          · rw [wF_same, enS, if_neg (by omega), if_neg (by rw [hl]; decide), if_neg (by rw [hd]; decide)]
          · rw [wF_cell (by decide), wF_same, hk1]; rfl
  refine t_49_0 hG (L8 _ e _ rfl he hs (fun i hi => wF_row hi) (fun c c4 c5 c6 c7 => wF_cell c5 _) ?_)
  rw [wF_same, f6]
/-- what else is kept -/
def RFr (F0 A0 F A : Nat → Nat → Int32) : Prop := (∀ i, i ≠ 8 → i ≠ 11 → F i = F0 i) ∧ (F 11 9 = F0 11 9 ∧ F 11 10 = F0 11 10) ∧ (∀ i, i ≠ 9 → A i = A0 i)
/-- the reader stands at the token s, c are the cells -/
def CR (F0 A0 : Nat → Nat → Int32) (tp : Nat → Int32) (N : Nat) (F A : Nat → Nat → Int32) (s : Nat) (c : List Int) : Prop := RFr F0 A0 F A ∧ (N ≤ 600 ∧ BtOk tp N ∧ (∀ j, j < N → A 1 j = sbI (tp j)) ∧ s ≤ N ∧ c.length ≤ s) ∧ F 11 3 = zI (N : Int) ∧ F 11 8 = 0 ∧ F 11 5 = zI (s : Int) ∧ F 11 6 = zI (enS tp N s : Int) ∧ F 11 4 = zI (kdS tp N s : Int) ∧ (kdS tp N s = 3 → F 11 7 = zI (nvS tp N s)) ∧ F 8 1 = zI (c.length : Int) ∧ ∀ i, i < c.length → A 9 i = zI (c.getD i 0)
/-- there is a fault -/
def CE (F0 A0 F A : Nat → Nat → Int32) (e : Nat × Nat) : Prop := RFr F0 A0 F A ∧ (1 ≤ e.1 ∧ e.1 ≤ 4) ∧ e.2 ≤ 600 ∧ F 11 8 = zI (e.1 : Int) ∧ F 11 0 = zI (e.2 : Int)
theorem CR_e (hC : CR F0 A0 tp N F A s c) {k : Nat} {x : Int32} (hx : x = zI (k : Int)) (h1 : 1 ≤ k) (h4 : k ≤ 4) : CE F0 A0 (wF (wF F 11 8 x) 11 0 (F 11 5)) A (k, s) := by
  obtain ⟨⟨r1, r2, r3⟩, ⟨n6, hB, hA, hs, hc⟩, f3, f8, f5, f6, f4, f7, f81, hcd⟩ := hC
  refine ⟨⟨fun i i8 i11 => ?_, ⟨?_, ?_⟩, r3⟩, ⟨h1, h4⟩, by dsimp only; omega, ?_, ?_⟩
  · rw [wF_row i11, wF_row i11]; exact r1 i i8 i11
  · rw [wF_cell (by decide), wF_cell (by decide)]; exact r2.1
  · rw [wF_cell (by decide), wF_cell (by decide)]; exact r2.2
  · rw [wF_cell (by decide), wF_same, hx]
  · rw [wF_same, f5]
theorem CR_n (hG : Geo G SL p q) (hC : CR F0 A0 tp N F A s c) (hQ : ∀ F', CR F0 A0 tp N F' A (nxS tp N s) c → Q (.inl none) (F', A, J, G)) : X (d + 1) 49 0 [.ref 11] [] (F, A, J, G) Q := by
  obtain ⟨⟨r1, r2, r3⟩, ⟨n6, hB, hA, hs, hc⟩, f3, f8, f5, f6, f4, f7, f81, hcd⟩ := hC
  refine c_49 hG n6 hB hA (en_le hs) f3 f6 (fun F' g1 g2 g5 g6 g4 g7 => hQ F' ⟨⟨fun i i8 i11 => ?_, ⟨?_, ?_⟩, r3⟩, ⟨n6, hB, hA, nx_le hs, ?_⟩, ?_, ?_, g5, g6, g4, g7, ?_, hcd⟩)
  · rw [g1 i i11]; exact r1 i i8 i11
  · rw [g2 9 (by decide) (by decide) (by decide) (by decide)]; exact r2.1
  · rw [g2 10 (by decide) (by decide) (by decide) (by decide)]; exact r2.2
  · by_cases h : s < N
    · have := nx_gt (tp := tp) h; omega
    · have h1 : enS tp N s = s := by rw [enS, if_pos (by omega)]
      have h2 : nxS tp N s = s := by rw [nxS, h1]; exact sc_f (Or.inr (by omega))
      omega
  · rw [g2 3 (by decide) (by decide) (by decide) (by decide)]; exact f3
  · rw [g2 8 (by decide) (by decide) (by decide) (by decide)]; exact f8
  · rw [g1 8 (by decide)]; exact f81
theorem CR_a (hC : CR F0 A0 tp N F A s c) {x : Int32} {z : Int} (hx : x = zI z) (hl : c.length < s) : CR F0 A0 tp N (wF F 8 1 (F 8 1 + 1)) (wF A 9 (F 8 1).toNatClampNeg x) s (c ++ [z]) := by
  obtain ⟨⟨r1, r2, r3⟩, ⟨n6, hB, hA, hs, hc⟩, f3, f8, f5, f6, f4, f7, f81, hcd⟩ := hC
  rw [f81, zN_1, zI_clamp (by omega)]
  refine ⟨⟨fun i i8 i11 => ?_, ⟨?_, ?_⟩, fun i i9 => ?_⟩, ⟨n6, hB, fun j hj => ?_, hs, ?_⟩, ?_, ?_, ?_, ?_, ?_, fun h => ?_, ?_, fun i hi => ?_⟩
  · rw [wF_row i8]; exact r1 i i8 i11
  · rw [wF_row (by decide)]; exact r2.1
  · rw [wF_row (by decide)]; exact r2.2
  · rw [wF_row i9]; exact r3 i i9
  · rw [wF_row (by decide)]; exact hA j hj
  · simp only [List.length_append, List.length_cons, List.length_nil]; omega
  · rw [wF_row (by decide)]; exact f3
  · rw [wF_row (by decide)]; exact f8
  · rw [wF_row (by decide)]; exact f5
  · rw [wF_row (by decide)]; exact f6
  · rw [wF_row (by decide)]; exact f4
  · rw [wF_row (by decide)]; exact f7 h
  · rw [wF_same]; simp only [List.length_append, List.length_cons, List.length_nil]
  · rw [wF_at]
    simp only [List.length_append, List.length_cons, List.length_nil] at hi
    by_cases e : i = c.length
    · rw [if_pos ⟨rfl, e⟩, e, hx]; simp
    · rw [if_neg (fun h => e h.2), hcd i (by omega)]
      simp only [List.getD_eq_getElem?_getD]
      rw [List.getElem?_append_left (by omega)]
theorem add_if {P P' : Prop} (hC : CR F0 A0 tp N F A s c) (hl : c.length < s) (h : P) : ((F 8 1) < 600 → inB (F 8 1) 600 = true ∧ P) ∧ (¬ (F 8 1) < 600 → P') := by
  obtain ⟨_, ⟨n6, hB, hA, hs, hc⟩, f3, f8, f5, f6, f4, f7, f81, hcd⟩ := hC
  rw [f81, show (600 : Int32) = zI ((600 : Nat) : Int) from rfl, zN_lt (by omega) (by omega)]
  exact ⟨fun _ => ⟨zN_in (by omega) (by decide), h⟩, fun h => by omega⟩
/-- tests of the token -/
theorem kd_eq (hC : CR F0 A0 tp N F A s c) {k : Nat} (hk : k < 5) : (F 11 4 = zI (k : Int)) = (kdS tp N s = k) := by
  have h4 := kd_4 (tp := tp) (N := N) (s := s)
  rw [hC.2.2.2.2.2.2.1, zN_eq (by omega) (by omega)]
theorem sg_eq (hC : CR F0 A0 tp N F A s c) {x : Nat} (hx : x < 128) (h4 : kdS tp N s = 4) : inB (F 11 5) 600 = true ∧ (A 1 (F 11 5).toNatClampNeg = zI (x : Int)) = (sgB tp N (zI (x : Int)) s = true) := by
  obtain ⟨_, ⟨n6, hB, hA, hs, hc⟩, f3, f8, f5, f6, f4, f7, f81, hcd⟩ := hC
  have hlt := kd_lt h4 (by decide)
  rw [f5, zI_clamp (by omega), hA s hlt, bt_eqc hB hlt hx]
  refine ⟨zN_in (by omega) (by decide), ?_⟩
  unfold sgB
  rw [decide_eq_true_eq]
  exact propext ⟨fun h => ⟨h4, h⟩, fun h => h.2⟩
theorem sg_no (h4 : ¬ kdS tp N s = 4) (x : Int32) : sgB tp N x s = false := decide_eq_false (fun h => h4 h.1)
theorem sg_if {P P' : Prop} (hC : CR F0 A0 tp N F A s c) {x : Nat} (hx : x < 128) (h1 : sgB tp N (zI (x : Int)) s = true → P) (h2 : sgB tp N (zI (x : Int)) s = false → P') : ((F 11 4) = 4 → inB (F 11 5) 600 = true ∧ (((A 1 (F 11 5).toNatClampNeg) = zI (x : Int) → P) ∧ (¬ (A 1 (F 11 5).toNatClampNeg) = zI (x : Int) → P'))) ∧ (¬ (F 11 4) = 4 → P') := by
  have e4 : ((F 11 4) = 4) = (kdS tp N s = 4) := kd_eq hC (k := 4) (by decide)
  rw [e4]
  refine ⟨fun h4 => ?_, fun h4 => h2 (sg_no h4 _)⟩
  obtain ⟨g1, g2⟩ := sg_eq hC hx h4
  rw [g2]
  exact ⟨g1, h1, fun h => h2 (by simpa using h)⟩
theorem sg2_if {P1 P2 P' : Prop} (hC : CR F0 A0 tp N F A s c) {x y : Nat} (hx : x < 128) (hy : y < 128) (h1 : sgB tp N (zI (x : Int)) s = true → P1) (h2 : sgB tp N (zI (x : Int)) s = false → sgB tp N (zI (y : Int)) s = true → P2) (h3 : sgB tp N (zI (x : Int)) s = false → sgB tp N (zI (y : Int)) s = false → P') :
    (((F 11 4) = 4 → inB (F 11 5) 600 = true ∧ (((A 1 (F 11 5).toNatClampNeg) = zI (x : Int) → (((F 11 4) = 4 → (((A 1 (F 11 5).toNatClampNeg) = zI (x : Int) → P1) ∧ (¬ (A 1 (F 11 5).toNatClampNeg) = zI (x : Int) → P2))) ∧ (¬ (F 11 4) = 4 → P2))) ∧ (¬ (A 1 (F 11 5).toNatClampNeg) = zI (x : Int) → (((F 11 4) = 4 → (((A 1 (F 11 5).toNatClampNeg) = zI (y : Int) → (((F 11 4) = 4 → (((A 1 (F 11 5).toNatClampNeg) = zI (x : Int) → P1) ∧ (¬ (A 1 (F 11 5).toNatClampNeg) = zI (x : Int) → P2))) ∧ (¬ (F 11 4) = 4 → P2))) ∧ (¬ (A 1 (F 11 5).toNatClampNeg) = zI (y : Int) → P'))) ∧ (¬ (F 11 4) = 4 → P'))))) ∧ (¬ (F 11 4) = 4 → (((F 11 4) = 4 → inB (F 11 5) 600 = true ∧ (((A 1 (F 11 5).toNatClampNeg) = zI (y : Int) → (((F 11 4) = 4 → (((A 1 (F 11 5).toNatClampNeg) = zI (x : Int) → P1) ∧ (¬ (A 1 (F 11 5).toNatClampNeg) = zI (x : Int) → P2))) ∧ (¬ (F 11 4) = 4 → P2))) ∧ (¬ (A 1 (F 11 5).toNatClampNeg) = zI (y : Int) → P'))) ∧ (¬ (F 11 4) = 4 → P')))) := by
  have e4 : ((F 11 4) = 4) = (kdS tp N s = 4) := kd_eq hC (k := 4) (by decide)
  rw [e4]
  by_cases h4 : kdS tp N s = 4
  · obtain ⟨g1, g2⟩ := sg_eq hC hx h4
    obtain ⟨_, g3⟩ := sg_eq hC hy h4
    rw [g2, g3]
    refine ⟨fun _ => ⟨g1, fun ha => ⟨fun _ => ⟨fun _ => h1 ha, fun e => absurd ha e⟩, fun e => absurd h4 e⟩, fun ha => ⟨fun _ => ⟨fun hb => ⟨fun _ => ⟨fun e => absurd e ha, fun _ => h2 (by simpa using ha) hb⟩, fun e => absurd h4 e⟩, fun hb => h3 (by simpa using ha) (by simpa using hb)⟩, fun e => absurd h4 e⟩⟩, fun e => absurd h4 e⟩
  · exact ⟨fun e => absurd e h4, fun _ => ⟨fun e => absurd e h4, fun _ => h3 (sg_no h4 _) (sg_no h4 _)⟩⟩
theorem ch_ok : ∀ i, i < 18 → ∀ k, k < sLen i → (sBy.getD i []).getD k 0 < 128 := by decide +kernel
theorem sby_len : 18 ≤ sBy.length := by decide +kernel
theorem slen_b : ∀ i, i < 18 → sLen i < 100 := by decide +kernel
/-- is it this word -/
theorem c_46 (hG : Geo G SL p q) (hi : i < 18) (hC : CR F0 A0 tp N F A s c) (h1 : wdB tp N i s = true → Q (.inl (some (.int 1))) (F, A, J, G)) (h0 : wdB tp N i s = false → Q (.inl (some (.int 0))) (F, A, J, G)) : X d 46 0 [.ref 11, .ref (1000 + i), .null] [] (F, A, J, G) Q := by
  have e2 : ((F 11 4) = 2) = (kdS tp N s = 2) := kd_eq hC (k := 2) (by decide)
  obtain ⟨_, ⟨n6, hB, hA, hs, hc⟩, f3, f8, f5, f6, f4, f7, f81, hcd⟩ := hC
  have hlen := slen_b i hi
  have hsi : 1000 + i - 1000 = i := by omega
  have hss : 1000 ≤ 1000 + i ∧ 1000 + i < 1000 + sBy.length := ⟨by omega, by have := sby_len; omega⟩
  have hge : s ≤ enS tp N s := by
    by_cases h : s < N
    · exact Nat.le_of_lt (en_gt h)
    · rw [enS, if_pos (by omega)]; exact Nat.le_refl _
  have hle := en_le (tp := tp) hs
  refine t_46_0 hG hss ?_
  rw [hsi, e2, f5, f6, zI_sub, show (enS tp N s : Int) - (s : Int) = ((enS tp N s - s : Nat) : Int) by omega, zI_nI, zN_eq (by omega) (by omega)]
  refine ⟨fun hk => ⟨fun hl => ?_, fun hl => h0 (decide_eq_false (fun h => hl h.2.1))⟩, fun hk => h0 (decide_eq_false (fun h => hk h.1))⟩
  have hlt := kd_lt hk (by decide)
  refine up_ind (h := sLen i) (P := fun k => (∀ m, m < k → tp (s + m) = sCh i m) → X d 46 28 [.ref 11, .ref (1000 + i), .int (zI (k : Int))] [] (F, A, J, G) Q) ?_ ?_ (fun m hm => absurd hm (Nat.not_lt_zero m))
  · intro hall
    refine t_46_28 hG hss ?_
    rw [hsi, zI_nI, zN_lt (by omega) (by omega)]
    exact ⟨fun h => absurd h (Nat.lt_irrefl _), fun _ => h1 (decide_eq_true ⟨hk, hl, hall⟩)⟩
  · intro k hk' ih hall
    have hsk : s + k < N := by omega
    have hch := ch_ok i hi k hk'
    refine t_46_28 hG hss ?_
    rw [hsi, zI_nI, zN_lt (by omega) (by omega), f5, zN_add, zI_clamp (n := s + k) (by omega), zI_clamp (n := k) (by omega), hA _ hsk, sCh, zI_nI, bt_eqc hB hsk hch, zN_1]
    refine ⟨fun _ => ⟨zN_in (by omega) (by decide), zN_in hk' (by omega), fun he => ih (fun m hm => ?_), fun he => h0 (decide_eq_false (fun h => he ?_))⟩, fun h => absurd hk' h⟩
    · by_cases e : m = k
      · rw [e, he, sCh, zI_nI]
      · exact hall m (by omega)
    · have := h.2.2 k hk'
      rw [this, sCh, zI_nI]
end ReadC
