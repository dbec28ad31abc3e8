/-! the reference: rows kept and laid back, what would be, if -/
section MTrialA
def MScr (F A F' A' : Nat → Nat → Int32) : Prop := (∀ i, i ≠ 68 → F' i = F i) ∧ (∀ k, (k = 13 ∨ k = 22 ∨ (28 ≤ k ∧ k ≤ 32) ∨ (50 ≤ k ∧ k ≤ 52)) → F' 68 k = F 68 k) ∧ (∀ i, (i < 81 ∨ 84 < i) → (i < 86 ∨ 93 < i) → (i < 96 ∨ 98 < i) → A' i = A i) ∧ (∀ i, 81 ≤ i → i ≤ 84 → ∀ j, j < 10 → A' i j = A i j)
variable {d : Nat} {F A F' A' F'' A'' : Nat → Nat → Int32} {J : Nat → Nat → Int64} {G : pG} {Q : pR → pM → Prop} {SL p q t a na b i : Nat} {K : Nat → Nat → Int} {n h : Nat} {ord ord' : Nat → Nat} {ml wd ln ml' wd' ln' : Nat → Int} {yr : Int}
theorem MScr.rfl : MScr F A F A := ⟨fun _ _ => Eq.refl _, fun _ _ => Eq.refl _, fun _ _ _ _ => Eq.refl _, fun _ _ _ _ _ => Eq.refl _⟩
theorem MScr.tr (h1 : MScr F A F' A') (h2 : MScr F' A' F'' A'') : MScr F A F'' A'' := ⟨fun i h3 => (h2.1 i h3).trans (h1.1 i h3), fun i h3 => (h2.2.1 i h3).trans (h1.2.1 i h3), fun i h3 h4 h5 => (h2.2.2.1 i h3 h4 h5).trans (h1.2.2.1 i h3 h4 h5), fun i h3 h4 j hj => (h2.2.2.2 i h3 h4 j hj).trans (h1.2.2.2 i h3 h4 j hj)⟩
theorem MScr_code (v : Int32) : MScr F A (wF F 68 3 v) A := ⟨fun i h => wF_row h, fun k h => wF_cell (by omega) _, fun _ _ _ _ => rfl, fun _ _ _ _ _ => rfl⟩
theorem MTn_scr (hs : MScr F A F' A') (hT : MTn F A K n) : MTn F' A' K n := by
  unfold MTn Wrm at hT ⊢
  rw [hs.2.2.1 71 (by decide) (by decide) (by decide), hs.2.2.1 72 (by decide) (by decide) (by decide), hs.2.2.1 73 (by decide) (by decide) (by decide), hs.2.2.1 74 (by decide) (by decide) (by decide), hs.2.2.1 75 (by decide) (by decide) (by decide), hs.2.2.1 77 (by decide) (by decide) (by decide)]
  exact hT
theorem MTw_scr (h10 : n ≤ 10) (hs : MScr F A F' A') (hW : MTw F A n h ord ml wd ln yr) : MTw F' A' n h ord ml wd ln yr := by
  obtain ⟨hw, f1, f2, b0, b1, b2, b3⟩ := hW
  have := hw.1
  refine ⟨hw, ?_, ?_, fun l hl => ?_, fun i hi => ?_, fun i hi => ?_, fun i hi => ?_⟩
  · rw [hs.2.1 28 (by omega)]; exact f1
  · rw [hs.2.1 29 (by omega)]; exact f2
  · rw [hs.2.2.2 81 (by omega) (by omega) l (by omega)]; exact b0 l hl
  · rw [hs.2.2.2 82 (by omega) (by omega) i (by omega)]; exact b1 i hi
  · rw [hs.2.2.2 83 (by omega) (by omega) i (by omega)]; exact b2 i hi
  · rw [hs.2.2.2 84 (by omega) (by omega) i (by omega)]; exact b3 i hi
theorem zN_add (a b : Nat) : zI (a : Int) + zI (b : Int) = zI ((a + b : Nat) : Int) := by rw [zI_add]; rfl
/-- what a kept row holds -/
def Pkd (A' : Nat → Nat → Int32) (a b : Nat) (F A : Nat → Nat → Int32) : Prop := A' a b = F 68 28 ∧ A' a (b + 1) = F 68 29 ∧ A' a (b + 2) = F 68 30 ∧ ∀ j, j < 10 → A' a (b + 3 + j) = A 81 j ∧ A' a (b + 13 + j) = A 82 j ∧ A' a (b + 23 + j) = A 83 j ∧ A' a (b + 33 + j) = A 84 j
theorem m_207 (hG : Geo G SL p q) (hka : gK G a = 20) (hla : gL G a = na) (hn : na < 5000) (hb : b + 43 ≤ na) (ha : a < 81 ∨ 84 < a) (hQ : ∀ A', (∀ i, i ≠ a → A' i = A i) → (∀ k, (k < b ∨ b + 43 ≤ k) → A' a k = A a k) → Pkd A' a b F A → Q (.inl none) (F, A', J, G)) : X d 207 0 [.ref 68, .ref a, .int (zI (b : Int)), .null] [] (F, A, J, G) Q := by
  have z2 : (2 : Int32) = zI ((2 : Nat) : Int) := rfl
  have z1' : (1 : Int32) = zI ((1 : Nat) : Int) := rfl
  have z3 : (3 : Int32) = zI ((3 : Nat) : Int) := rfl
  have z10 : (10 : Int32) = zI ((10 : Nat) : Int) := rfl
  have z20 : (20 : Int32) = zI ((20 : Nat) : Int) := rfl
  have z30 : (30 : Int32) = zI ((30 : Nat) : Int) := rfl
  have h81 : 81 ≠ a := by omega
  have h82 : 82 ≠ a := by omega
  have h83 : 83 ≠ a := by omega
  have h84 : 84 ≠ a := by omega
  refine t_207_0 hG hka hla ?_
  rw [z1', z2, zN_add, zN_add, zI_clamp (by omega), zI_clamp (by omega), zI_clamp (by omega)]
  refine ⟨zN_in (by omega) (by omega), zN_in (by omega) (by omega), zN_in (by omega) (by omega), ?_⟩
  refine up_ind (h := 10) (P := fun j => ∀ A1, (∀ i, i ≠ a → A1 i = A i) → (∀ k, (k < b ∨ b + 43 ≤ k) → A1 a k = A a k) → A1 a b = F 68 28 → A1 a (b + 1) = F 68 29 → A1 a (b + 2) = F 68 30 → (∀ l, l < j → A1 a (b + 3 + l) = A 81 l ∧ A1 a (b + 13 + l) = A 82 l ∧ A1 a (b + 23 + l) = A 83 l ∧ A1 a (b + 33 + l) = A 84 l) → X d 207 27 [.ref 68, .ref a, .int (zI (b : Int)), .int (zI (j : Int))] [] (F, A1, J, G) Q) ?_ ?_ _ (fun i hi => ?_) (fun k hk => ?_) ?_ ?_ ?_ (fun l hl => absurd hl (Nat.not_lt_zero l))
  · intro A1 h1 h2 h3 h4 h5 h6
    refine t_207_27 hG hka hla ⟨fun e => ?_, fun _ => hQ A1 h1 h2 ⟨h3, h4, h5, h6⟩⟩
    exact absurd e (by decide)
  · intro j hj ih A1 h1 h2 h3 h4 h5 h6
    refine t_207_27 hG hka hla ⟨fun _ => ?_, fun e => ?_⟩
    · simp only [wF_row h81, wF_row h82, wF_row h83, wF_row h84, h1 81 h81, h1 82 h82, h1 83 h83, h1 84 h84]
      rw [z3, z10, z20, z30, zN_add, zN_add, zN_add, zN_add, zN_add, zN_add, zN_add, zN_add, zN_1, zI_clamp (n := j) (by omega), zI_clamp (n := b + 3 + j) (by omega), zI_clamp (n := b + 3 + 10 + j) (by omega), zI_clamp (n := b + 3 + 20 + j) (by omega), zI_clamp (n := b + 3 + 30 + j) (by omega)]
      refine ⟨zN_in (by omega) (by omega), zN_in (by omega) (by omega), zN_in (by omega) (by omega), zN_in (by omega) (by omega), zN_in (by omega) (by omega), ih _ (fun i hi => ?_) (fun k hk => ?_) ?_ ?_ ?_ (fun l hl => ?_)⟩
      · rw [wF_row hi, wF_row hi, wF_row hi, wF_row hi]; exact h1 i hi
      · rw [wF_cell (by omega), wF_cell (by omega), wF_cell (by omega), wF_cell (by omega)]; exact h2 k hk
      · rw [wF_cell (by omega), wF_cell (by omega), wF_cell (by omega), wF_cell (by omega)]; exact h3
      · rw [wF_cell (by omega), wF_cell (by omega), wF_cell (by omega), wF_cell (by omega)]; exact h4
      · rw [wF_cell (by omega), wF_cell (by omega), wF_cell (by omega), wF_cell (by omega)]; exact h5
      · by_cases e : l = j
        · subst e
          refine ⟨?_, ?_, ?_, ?_⟩
          · rw [wF_cell (by omega), wF_cell (by omega), wF_cell (by omega), wF_same]
          · rw [wF_cell (by omega), wF_cell (by omega), show b + 13 + l = b + 3 + 10 + l by omega, wF_same]
          · rw [wF_cell (by omega), show b + 23 + l = b + 3 + 20 + l by omega, wF_same]
          · rw [show b + 33 + l = b + 3 + 30 + l by omega, wF_same]
        · have h7 := h6 l (by omega)
          refine ⟨?_, ?_, ?_, ?_⟩
          · rw [wF_cell (by omega), wF_cell (by omega), wF_cell (by omega), wF_cell (by omega)]; exact h7.1
          · rw [wF_cell (by omega), wF_cell (by omega), wF_cell (by omega), wF_cell (by omega)]; exact h7.2.1
          · rw [wF_cell (by omega), wF_cell (by omega), wF_cell (by omega), wF_cell (by omega)]; exact h7.2.2.1
          · rw [wF_cell (by omega), wF_cell (by omega), wF_cell (by omega), wF_cell (by omega)]; exact h7.2.2.2
    · rw [z10, zN_lt (by omega) (by omega)] at e
      omega
  · rw [wF_row hi, wF_row hi, wF_row hi]
  · rw [wF_cell (by omega), wF_cell (by omega), wF_cell (by omega)]
  · rw [wF_cell (by omega), wF_cell (by omega), wF_same]
  · rw [wF_cell (by omega), wF_same]
  · rw [wF_same]
def UnF (F A : Nat → Nat → Int32) (a b : Nat) : Nat → Nat → Int32 := wF (wF (wF F 68 28 (A a b)) 68 29 (A a (b + 1))) 68 30 (A a (b + 2))
theorem m_208 (hG : Geo G SL p q) (hka : gK G a = 20) (hla : gL G a = na) (hn : na < 5000) (hb : b + 43 ≤ na) (ha : a < 81 ∨ 84 < a) (hQ : ∀ A', (∀ i, (i < 81 ∨ 84 < i) → A' i = A i) → (∀ j, j < 10 → A' 81 j = A a (b + 3 + j) ∧ A' 82 j = A a (b + 13 + j) ∧ A' 83 j = A a (b + 23 + j) ∧ A' 84 j = A a (b + 33 + j)) → Q (.inl none) (UnF F A a b, A', J, G)) : X d 208 0 [.ref 68, .ref a, .int (zI (b : Int)), .null] [] (F, A, J, G) Q := by
  have z2 : (2 : Int32) = zI ((2 : Nat) : Int) := rfl
  have z1' : (1 : Int32) = zI ((1 : Nat) : Int) := rfl
  have z3 : (3 : Int32) = zI ((3 : Nat) : Int) := rfl
  have z10 : (10 : Int32) = zI ((10 : Nat) : Int) := rfl
  have z20 : (20 : Int32) = zI ((20 : Nat) : Int) := rfl
  have z30 : (30 : Int32) = zI ((30 : Nat) : Int) := rfl
  have h81 : a ≠ 81 := by omega
  have h82 : a ≠ 82 := by omega
  have h83 : a ≠ 83 := by omega
  refine t_208_0 hG hka hla ?_
  rw [z1', z2, zN_add, zN_add, zI_clamp (by omega), zI_clamp (by omega), zI_clamp (by omega)]
  refine ⟨zN_in (by omega) (by omega), zN_in (by omega) (by omega), zN_in (by omega) (by omega), ?_⟩
  show X d 208 27 [.ref 68, .ref a, .int (zI (b : Int)), .int 0] [] (UnF F A a b, A, J, G) Q
  refine up_ind (h := 10) (P := fun j => ∀ A1, (∀ i, (i < 81 ∨ 84 < i) → A1 i = A i) → (∀ l, l < j → A1 81 l = A a (b + 3 + l) ∧ A1 82 l = A a (b + 13 + l) ∧ A1 83 l = A a (b + 23 + l) ∧ A1 84 l = A a (b + 33 + l)) → X d 208 27 [.ref 68, .ref a, .int (zI (b : Int)), .int (zI (j : Int))] [] (UnF F A a b, A1, J, G) Q) ?_ ?_ A (fun _ _ => rfl) (fun l hl => absurd hl (Nat.not_lt_zero l))
  · intro A1 h1 h6
    refine t_208_27 hG hka hla ⟨fun e => ?_, fun _ => hQ A1 h1 h6⟩
    exact absurd e (by decide)
  · intro j hj ih A1 h1 h6
    refine t_208_27 hG hka hla ⟨fun _ => ?_, fun e => ?_⟩
    · simp only [wF_row h81, wF_row h82, wF_row h83, h1 a ha]
      rw [z3, z10, z20, z30, zN_add, zN_add, zN_add, zN_add, zN_add, zN_add, zN_add, zN_add, zN_1, zI_clamp (n := j) (by omega), zI_clamp (n := b + 3 + j) (by omega), zI_clamp (n := b + 3 + 10 + j) (by omega), zI_clamp (n := b + 3 + 20 + j) (by omega), zI_clamp (n := b + 3 + 30 + j) (by omega)]
      refine ⟨zN_in (by omega) (by omega), zN_in (by omega) (by omega), zN_in (by omega) (by omega), zN_in (by omega) (by omega), zN_in (by omega) (by omega), ih _ (fun i hi => ?_) (fun l hl => ?_)⟩
      · rw [wF_row (by omega), wF_row (by omega), wF_row (by omega), wF_row (by omega)]; exact h1 i hi
      · by_cases e : l = j
        · subst e
          refine ⟨?_, ?_, ?_, ?_⟩
          · rw [wF_row (by decide), wF_row (by decide), wF_row (by decide), wF_same]
          · rw [wF_row (by decide), wF_row (by decide), wF_same, show b + 3 + 10 + l = b + 13 + l by omega]
          · rw [wF_row (by decide), wF_same, show b + 3 + 20 + l = b + 23 + l by omega]
          · rw [wF_same, show b + 3 + 30 + l = b + 33 + l by omega]
        · have h7 := h6 l (by omega)
          refine ⟨?_, ?_, ?_, ?_⟩
          · rw [wF_cell e, wF_cell e, wF_cell e, wF_cell e]; exact h7.1
          · rw [wF_cell e, wF_cell e, wF_cell e, wF_cell e]; exact h7.2.1
          · rw [wF_cell e, wF_cell e, wF_cell e, wF_cell e]; exact h7.2.2.1
          · rw [wF_cell e, wF_cell e, wF_cell e, wF_cell e]; exact h7.2.2.2
    · rw [z10, zN_lt (by omega) (by omega)] at e
      omega
/-- what depends on what -/
theorem load_congr {l : Nat} (hl : l < h) (ho : ∀ k, k < h → ord k = ord' k) (hm : ∀ k, k < h → ml (ord k) = ml' (ord k)) : loadZ K h ord ml l = loadZ K h ord' ml' l := by
  unfold loadZ
  rw [hm l hl, ← ho l hl, sm_congr (g := fun k => K 1 (ord' k) + ml' (ord' k)) _ _ (fun k h1 h2 => by rw [← ho k (by omega), hm k (by omega)])]
theorem tlt_congr {l : Nat} (hl : l < h) (ho : ∀ k, k < h → ord k = ord' k) (hw : ∀ k, k < h → wd (ord k) = wd' (ord k)) (hn : ∀ k, k < h → ln (ord k) = ln' (ord k)) : tltZ K ord wd ln l = tltZ K ord' wd' ln' l := by
  unfold tltZ
  refine sm_congr _ _ (fun k h1 h2 => ?_)
  unfold trnZ
  rw [← ho k (by omega), hw k (by omega), hn k (by omega)]
theorem brk_congr (ho : ∀ k, k < h → ord k = ord' k) (hm : ∀ k, k < h → ml (ord k) = ml' (ord k)) (hw : ∀ k, k < h → wd (ord k) = wd' (ord k)) (hn : ∀ k, k < h → ln (ord k) = ln' (ord k)) : brkZ K h ord ml wd ln yr = brkZ K h ord' ml' wd' ln' yr := by
  unfold brkZ
  refine fsB_congr _ _ (fun l _ hl => ?_)
  unfold hldZ
  rw [load_congr (by omega) ho hm, tlt_congr (by omega) ho hw hn, ho l (by omega)]
theorem mor_congr (ho : ∀ k, k < h → ord k = ord' k) (hm : ∀ k, k < h → ml (ord k) = ml' (ord k)) (hw : ∀ k, k < h → wd (ord k) = wd' (ord k)) (hn : ∀ k, k < h → ln (ord k) = ln' (ord k)) : morZ K h ord ml wd ln yr = morZ K h ord' ml' wd' ln' yr := by
  unfold morZ
  rw [brk_congr ho hm hw hn, mnZ_congr h 0 9999 (fun l _ hl => by unfold slkZ; rw [load_congr (by omega) ho hm, ho l (by omega)])]
  rfl
theorem std_congr (ho : ∀ k, k < h → ord k = ord' k) (hm : ∀ k, k < h → ml (ord k) = ml' (ord k)) (hw : ∀ k, k < h → wd (ord k) = wd' (ord k)) (hn : ∀ k, k < h → ln (ord k) = ln' (ord k)) : stdB K h ord ml wd ln yr = stdB K h ord' ml' wd' ln' yr := by
  unfold stdB
  rw [brk_congr ho hm hw hn]
/-- a table is taken off -/
theorem m_230 {l : Nat} (hG : Geo G SL p q) (h10 : n ≤ 10) (hW : MTw F A n h ord ml wd ln yr) (hl : l < h) (he : ord l = i) (hQ : ∀ A', (∀ k, (k < 81 ∨ 82 < k) → A' k = A k) → MTw (wF F 68 28 (zI ((h - 1 : Nat) : Int))) A' n (h - 1) (remO ord l) (upZ ml i 0) wd ln yr → Q (.inl none) (wF F 68 28 (zI ((h - 1 : Nat) : Int)), A', J, G)) : X (d + 1) 230 0 [.ref 68, .int (zI (i : Int)), .null, .null] [] (F, A, J, G) Q := by
  obtain ⟨hw, f1, f2, b0, b1, b2, b3⟩ := hW
  have h10h : h ≤ 10 := Nat.le_trans hw.1 h10
  have hil : i < n := by rw [← he]; exact hw.2.1 l hl
  have hlv : lvZ ord h (i : Int) = (l : Int) := by
    obtain ⟨l', hl', he', hlv⟩ := lvz_at hw ((bst_bit ord i h).mpr ⟨l, hl, he⟩)
    rw [hw.2.2.1 l l' hl hl' (by omega)]; exact hlv
  refine t_230_0 hG ?_
  rw [f1, lv_z (by omega) (by omega) h10h b0 (fun l hl => by have := hw.2.1 l hl; omega), hlv, zZ_s1, show (h : Int) - 1 = ((h - 1 : Nat) : Int) by omega]
  refine ⟨hB_z h10h, ?_⟩
  have g1 : wF F 68 28 (zI ((h - 1 : Nat) : Int)) 68 28 = zI ((h - 1 : Nat) : Int) := wF_same _ _ _ _
  refine up_indF (a := l) (h := h - 1) (P := fun j => ∀ A1, (∀ i, i ≠ 81 → A1 i = A i) → (∀ k, k < j → A1 81 k = zI (remO ord l k : Int)) → (∀ k, j ≤ k → k < h → A1 81 k = zI (ord k : Int)) → X (d + 1) 230 18 [.ref 68, .int (zI (i : Int)), .int (zI (l : Int)), .int (zI (j : Int))] [] (wF F 68 28 (zI ((h - 1 : Nat) : Int)), A1, J, G) Q) (by omega) ?_ ?_ A (fun _ _ => rfl) (fun k hk => ?_) (fun k _ hk => b0 k hk)
  · intro A1 h1 h2 h3
    refine t_230_18 hG ⟨fun e => ?_, fun _ => ?_⟩
    · rw [g1, zN_lt (by omega) (by omega)] at e
      omega
    · rw [zI_clamp (by omega)]
      refine ⟨zN_in (by omega) (by decide), hQ _ (fun k hk => ?_) ⟨upZ_ok (by omega) (rem_ok hl hw), g1, ?_, fun k hk => ?_, fun j hj => ?_, fun j hj => ?_, fun j hj => ?_⟩⟩
      · rw [wF_row (by omega)]; exact h1 k (by omega)
      · rw [wF_cell (by decide)]; exact f2
      · rw [wF_row (by decide)]; exact h2 k hk
      · rw [wF_at]
        unfold upZ
        by_cases e : j = i
        · rw [if_pos ⟨rfl, e⟩, if_pos e]; rfl
        · rw [if_neg (fun q => e q.2), if_neg e, h1 82 (by decide)]; exact b1 j hj
      · rw [wF_row (by decide), h1 83 (by decide)]; exact b2 j hj
      · rw [wF_row (by decide), h1 84 (by decide)]; exact b3 j hj
  · intro j haj hj ih A1 h1 h2 h3
    refine t_230_18 hG ⟨fun _ => ?_, fun e => ?_⟩
    · rw [zN_1, zI_clamp (by omega), zI_clamp (by omega)]
      refine ⟨zN_in (by omega) (by decide), zN_in (by omega) (by decide), ih _ (fun i hi => ?_) (fun k hk => ?_) (fun k h4 h5 => ?_)⟩
      · rw [wF_row hi]; exact h1 i hi
      · rw [wF_at]
        by_cases e : k = j
        · rw [if_pos ⟨rfl, e⟩, h3 (j + 1) (by omega) (by omega)]
          unfold remO
          rw [if_neg (by omega), e]
        · rw [if_neg (fun q => e q.2)]; exact h2 k (by omega)
      · rw [wF_at, if_neg (fun q => by omega)]; exact h3 k (by omega) h5
    · rw [g1, zN_lt (by omega) (by omega)] at e
      omega
  · rw [b0 k (by omega)]
    unfold remO
    rw [if_pos hk]
end MTrialA
