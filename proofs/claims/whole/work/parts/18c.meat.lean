section MEatZ
variable {d : Nat} {F A F' A' F'' A'' : Nat → Nat → Int32} {J : Nat → Nat → Int64} {G : pG} {Q : pR → pM → Prop} {SL p q t a na b i l f : Nat} {K : Nat → Nat → Int} {n h : Nat} {ord ord' : Nat → Nat} {ml wd ln ml' wd' ln' : Nat → Int} {yr z y v τ x fd : Int} {cd : Nat → Int} {cl : Nat} {vs vs' : Nat → Int32}
theorem m_238 (hG : Geo G SL p q) (hT : MTn F A K n) (hW : MTw F A n h ord ml wd ln yr) (hR : MRl F A cd cl) (hx : 0 ≤ fd ∧ fd ≤ 999) (hQ : ∀ A', (∀ i, i ≠ 82 → i ≠ 86 → i ≠ 87 → A' i = A i) → MTw F A' n h ord (svZ K cd cl h ord fd ml h) wd ln yr → Q (.inl (some (.int (zI (lfZ K cd cl h ord fd h))))) (F, A', J, G)) : X (d + 2) 238 0 [.ref 68, .int (zI fd), .null, .null, .null, .null] [] (F, A, J, G) Q := by
  have h10' := hT.1.1
  have h10 : h ≤ 10 := Nat.le_trans hW.1.1 hT.1.1
  have hc6 := hR.1
  refine t_238_0 hG ?_
  refine up_ind (h := h) (P := fun j => ∀ A1 v4 v5, (∀ i, i ≠ 82 → i ≠ 86 → i ≠ 87 → A1 i = A i) → MTw F A1 n h ord (svZ K cd cl h ord fd ml j) wd ln yr → X (d + 2) 238 4 [.ref 68, .int (zI fd), .int (zI (lfZ K cd cl h ord fd j)), .int (zI (j : Int)), v4, v5] [] (F, A1, J, G) Q) ?_ ?_ A .null .null (fun _ _ _ _ => rfl) hW
  · intro A1 v4 v5 hA hW1
    refine t_238_4 hG ⟨fun e => ?_, fun _ => hQ A1 hA hW1⟩
    rw [hW1.2.1, zN_lt (by omega) (by omega)] at e
    omega
  · intro j hj ih A1 v4 v5 hA hW1
    have hT1 : MTn F A1 K n := MTn_A (fun i hi => hA i (by omega) (by omega) (by omega)) hT
    have hlf := lf_b (K := K) (cd := cd) (cl := cl) (h := h) (ord := ord) hx.1 j
    have htk := tk_b (K := K) (cd := cd) (cl := cl) (h := h) (ord := ord) (l := j) hlf.1
    have hoj := hW.1.2.1 j hj
    have hk := (hT.1.2.1 _ hoj).2.2.2
    generalize hxe : lfZ K cd cl h ord fd j = x at hlf htk ih
    have ih' : ∀ A1 v4 v5, (∀ i, i ≠ 82 → i ≠ 86 → i ≠ 87 → A1 i = A i) → MTw F A1 n h ord (upZ (svZ K cd cl h ord fd ml j) (ord j) (tkZ K cd cl h ord j x)) wd ln yr → X (d + 2) 238 4 [.ref 68, .int (zI fd), .int (zI (x - tkZ K cd cl h ord j x)), .int (zI ((j + 1 : Nat) : Int)), v4, v5] [] (F, A1, J, G) Q := by
      intro A1 v4 v5 h1 h2
      have := ih A1 v4 v5 h1 (by rw [svZ, hxe]; exact h2)
      rw [lfZ, hxe] at this
      exact this
    refine t_238_4 hG ⟨fun _ => ?_, fun e => ?_⟩
    · rw [zI_clamp (n := j) (by omega), hW1.2.2.2.1 j hj, zI_clamp (n := ord j) (by omega), hT1.2.2.2.2.2.2.2.2 _ hoj, hT1.2.2.2.2.2.1 _ hoj, hT1.2.2.2.2.2.2.1 _ hoj, hW1.2.1, zZ_s1, zI_sub, hA 72 (by decide) (by decide) (by decide), hR.2.2.1, wF_same, zN_1]
      have hA6 : ∀ i, i ≠ 86 → (wF (wF (wF (wF (wF (wF A1 86 0 (zI (j : Int))) 86 1 (zI (K 3 (ord j)))) 86 2 (zI x)) 86 3 (zI (K 0 (ord j)))) 86 4 (zI ((h : Int) - 1 - j))) 86 5 (zI (K 1 (ord j)))) i = A1 i := fun i hi => by
        rw [wF_row hi, wF_row hi, wF_row hi, wF_row hi, wF_row hi, wF_row hi]
      have hvs : ∀ k, k < 6 → (wF (wF (wF (wF (wF (wF A1 86 0 (zI (j : Int))) 86 1 (zI (K 3 (ord j)))) 86 2 (zI x)) 86 3 (zI (K 0 (ord j)))) 86 4 (zI ((h : Int) - 1 - j))) 86 5 (zI (K 1 (ord j)))) 86 k = vsZ K h ord j x k := fun k hk => by
        have : k = 0 ∨ k = 1 ∨ k = 2 ∨ k = 3 ∨ k = 4 ∨ k = 5 := by omega
        rcases this with rfl | rfl | rfl | rfl | rfl | rfl
        · rw [wF_cell (by decide), wF_cell (by decide), wF_cell (by decide), wF_cell (by decide), wF_cell (by decide), wF_same]; rfl
        · rw [wF_cell (by decide), wF_cell (by decide), wF_cell (by decide), wF_cell (by decide), wF_same]; rfl
        · rw [wF_cell (by decide), wF_cell (by decide), wF_cell (by decide), wF_same]; rfl
        · rw [wF_cell (by decide), wF_cell (by decide), wF_same]; rfl
        · rw [wF_cell (by decide), wF_same]; rfl
        · rw [wF_same]; rfl
      generalize (wF (wF (wF (wF (wF (wF A1 86 0 (zI (j : Int))) 86 1 (zI (K 3 (ord j)))) 86 2 (zI x)) 86 3 (zI (K 0 (ord j)))) 86 4 (zI ((h : Int) - 1 - j))) 86 5 (zI (K 1 (ord j)))) = A6 at hA6 hvs
      have hW6 : MTw F A6 n h ord (svZ K cd cl h ord fd ml j) wd ln yr := MTw_fr rfl rfl (fun i h1 h2 => hA6 i (by omega)) hW1
      refine ⟨zN_in (by omega) (by decide), zN_in (by omega) (by decide), fun e => ⟨zN_in (by omega) (by decide), ?_⟩, fun e => ?_⟩
      · rw [zI_eq0 (by omega)] at e
        have htv : jmax 0 (jmin (zI x) (zI (K 3 (ord j)))) = zI (tkZ K cd cl h ord j x) := by
          unfold tkZ
          rw [mm_z (by omega), zI_toInt (by omega) (by omega), if_pos (by omega)]
        rw [htv, zI_sub]
        exact ih' _ _ _ (fun i h1 h2 h3 => by rw [wF_row h1, hA6 i h2]; exact hA i h1 h2 h3) (MTw_meal (by omega) hW6)
      · rw [zI_eq0 (by omega)] at e
        have hR6 : MRl F A6 cd cl := ⟨hR.1, hR.2.1, by rw [hA6 72 (by decide), hA 72 (by decide) (by decide) (by decide)]; exact hR.2.2.1, by rw [hA6 78 (by decide), hA 78 (by decide) (by decide) (by decide)]; exact hR.2.2.2⟩
        refine m_237 hG hR6 (by omega) (fun A7 hA7 => k_238_110 hG ?_)
        rw [evF_congr hvs]
        have htv : jmax 0 (jmin (zI x) (evF cd (vsZ K h ord j x) cl 0)) = zI (tkZ K cd cl h ord j x) := by
          unfold tkZ
          rw [mm_z (by omega), if_neg (by omega)]
        rw [htv, zI_clamp (n := ord j) (by omega), wF_same, zI_sub, zN_1]
        refine ⟨zN_in (by omega) (by decide), ih' _ _ _ (fun i h1 h2 h3 => by rw [wF_row h1, hA7 i h3, hA6 i h2]; exact hA i h1 h2 h3) (MTw_meal (by omega) (MTw_fr rfl rfl (fun i h1 h2 => hA7 i (by omega)) hW6))⟩
    · rw [hW1.2.1, zN_lt (by omega) (by omega)] at e
      omega
/-- all are full -/
theorem ful_sub : ∀ k, ∀ x, (fulB K ord ml k).testBit x = true ↔ ∃ l, l < k ∧ ord l = x ∧ K 3 x ≤ ml x
  | 0, x => by simp [fulB]
  | k + 1, x => by
    rw [fulB]
    split
    · rename_i hc
      rw [ful_sub k x]
      constructor
      · rintro ⟨l, h1, h2, h3⟩; exact ⟨l, by omega, h2, h3⟩
      · rintro ⟨l, h1, h2, h3⟩
        refine ⟨l, ?_, h2, h3⟩
        by_cases e : l = k
        · subst e; rw [h2] at hc; omega
        · omega
    · rename_i hc
      rw [Nat.testBit_or, Bool.or_eq_true, ful_sub k x, Nat.testBit_two_pow]
      constructor
      · rintro (⟨l, h1, h2, h3⟩ | h1)
        · exact ⟨l, by omega, h2, h3⟩
        · have : ord k = x := by simpa using h1
          exact ⟨k, by omega, this, by rw [← this]; omega⟩
      · rintro ⟨l, h1, h2, h3⟩
        by_cases e : l = k
        · subst e; exact Or.inr (by simpa using h2)
        · exact Or.inl ⟨l, by omega, h2, h3⟩
theorem ful_all : fulB K ord ml h = bst ord h ↔ ∀ l, l < h → K 3 (ord l) ≤ ml (ord l) := by
  constructor
  · intro h1 l hl
    have h2 : (bst ord h).testBit (ord l) = true := (bst_bit ord _ h).mpr ⟨l, hl, rfl⟩
    rw [← h1, ful_sub] at h2
    obtain ⟨l', -, -, h3⟩ := h2
    exact h3
  · intro h1
    refine Nat.eq_of_testBit_eq (fun x => ?_)
    have h2 : (fulB K ord ml h).testBit x = true ↔ (bst ord h).testBit x = true := by
      rw [ful_sub, bst_bit]
      constructor
      · rintro ⟨l, h3, h4, -⟩; exact ⟨l, h3, h4⟩
      · rintro ⟨l, h3, h4⟩; exact ⟨l, h3, h4, by rw [← h4]; exact h1 l h3⟩
    cases ha : (fulB K ord ml h).testBit x <;> cases hb : (bst ord h).testBit x
    · rfl
    · rw [h2.mpr hb] at ha; exact absurd ha (by decide)
    · rw [h2.mp ha] at hb; exact absurd hb (by decide)
    · rfl
theorem ful_lt (hw : ∀ l, l < h → ord l < n) : fulB K ord ml h < 2 ^ n ∨ True := Or.inr trivial
theorem fulb_lt : ∀ k, (∀ l, l < k → ord l < n) → fulB K ord ml k < 2 ^ n
  | 0, _ => Nat.two_pow_pos n
  | k + 1, h => by
    have h1 := fulb_lt k (fun l hl => h l (by omega))
    rw [fulB]
    split
    · exact h1
    · exact Nat.or_lt_two_pow h1 (Nat.pow_lt_pow_right (by decide) (h k (by omega)))
theorem fil_iff (hw : TwOk n h ord ml wd ln yr) : filB K cd cl h ord fd = true ↔ fulB K ord (svZ K cd cl h ord fd ml' h) h = bst ord h := by
  unfold filB
  rw [decide_eq_true_eq, fsB_none, ful_all]
  constructor
  · intro h1 l hl
    have := h1 l (by omega) (by omega)
    unfold filP at this
    rw [decide_eq_false_iff_not] at this
    rw [sv_at hw.2.2.1 h (Nat.le_refl _) l hl]
    omega
  · intro h1 l _ hl
    have := h1 l (by omega)
    rw [sv_at hw.2.2.1 h (Nat.le_refl _) l (by omega)] at this
    unfold filP
    exact decide_eq_false (by omega)
theorem MRl_fr (h1 : A' 72 = A 72) (h2 : A' 78 = A 78) (hR : MRl F A cd cl) : MRl F' A' cd cl := ⟨hR.1, hR.2.1, by rw [h1]; exact hR.2.2.1, by rw [h2]; exact hR.2.2.2⟩
theorem m_263 (hG : Geo G SL p q) (hT : MTn F A K n) (hW : MTw F A n h ord ml wd ln yr) (hR : MRl F A cd cl) (hQ : ∀ F' A', MScr F A F' A' → F' 68 3 = 0 → Q (.inl (some (.int (zI (faiZ K cd cl h ord))))) (F', A', J, G)) : X (d + 3) 263 0 [.ref 68, .null, .null] [] (F, A, J, G) Q := by
  have h10' := hT.1.1
  have h10 : h ≤ 10 := Nat.le_trans hW.1.1 hT.1.1
  have hW0 : MTw (wF F 68 3 0) A n h ord ml wd ln yr := by rw [MTw_code]; exact hW
  have hn2 : 2 ^ n ≤ 1024 := Nat.pow_le_pow_right (n := 2) (by decide) h10'
  have hbs : bst ord h < 2 ^ n := bst_lt ord n h hW.1.2.1
  refine t_263_0 hG (m_207 hG (k88 hG) (l88 hG) (by decide) (b := 0) (by decide) (by decide) (fun A1 h1 h1' hp => k_263_14 hG ?_))
  have hk := IK_pack h1 hp
  have hend : ∀ A2, (∀ i, i ≠ 82 → i ≠ 86 → i ≠ 87 → A2 i = A1 i) → ∀ r x2 : Int32, (∀ F' A', MScr F A F' A' → F' 68 3 = 0 → Q (.inl (some (.int r))) (F', A', J, G)) → X (d + 2) 208 0 [.ref 68, .ref 88, .int 0, .null] [] (wF F 68 3 0, A2, J, G) (KK (d + 3) 263 64 [.ref 68, .int r, .int x2] [] Q) := by
    intro A2 hA2 r x2 hq
    refine m_208 hG (k88 hG) (l88 hG) (by decide) (b := 0) (by decide) (by decide) (fun A3 h3 h4 => k_263_64 hG ?_)
    have hs2 : MScr (wF F 68 3 0) A (wF F 68 3 0) (fun i => if 81 ≤ i ∧ i ≤ 84 then A1 i else A2 i) := by
      refine ⟨fun _ _ => rfl, fun _ _ => rfl, fun i e1 e2 e3 => ?_, fun i e1 e2 j hj => ?_⟩
      · show (if 81 ≤ i ∧ i ≤ 84 then A1 i else A2 i) = A i
        rw [if_neg (by omega), hA2 i (by omega) (by omega) (by omega)]; exact h1 i (by omega)
      · show (if 81 ≤ i ∧ i ≤ 84 then A1 i else A2 i) j = A i j
        rw [if_pos ⟨e1, e2⟩, h1 i (by omega)]
    have hk2 : IK (wF F 68 3 0) A (wF F 68 3 0) (fun i => if 81 ≤ i ∧ i ≤ 84 then A1 i else A2 i) := by
      refine ⟨hs2, ?_, rfl⟩
      have h88 : (fun i => if 81 ≤ i ∧ i ≤ 84 then A1 i else A2 i) 88 = A1 88 := by
        show (if 81 ≤ 88 ∧ 88 ≤ 84 then A1 88 else A2 88) = A1 88
        rw [if_neg (by omega), hA2 88 (by decide) (by decide) (by decide)]
      unfold Pkd at hp ⊢
      rw [h88]; exact hp
    have hk3 := IK_un hk2 (A2 := A2) (F2 := wF F 68 3 0) (fun i hi => by
      show A2 i = (if 81 ≤ i ∧ i ≤ 84 then A1 i else A2 i)
      rw [if_neg (by omega)]) (fun _ _ => rfl) (fun _ _ => rfl) h3 h4
    exact hq _ _ ((MScr_code 0).tr hk3.1) (by rw [hk3.2.2, wF_same])
  refine fs_ind (p := fun e => filB K cd cl h ord (e : Int)) (h := 1000) (P := fun r => ∀ F' A', MScr F A F' A' → F' 68 3 = 0 → Q (.inl (some (.int (zI r)))) (F', A', J, G)) (R := fun j => ∀ A2 ml2, (∀ i, i ≠ 82 → i ≠ 86 → i ≠ 87 → A2 i = A1 i) → MTw (wF F 68 3 0) A2 n h ord ml2 wd ln yr → X (d + 3) 263 18 [.ref 68, .int (-1), .int (zI (j : Int))] [] (wF F 68 3 0, A2, J, G) Q) hQ (fun hq A2 ml2 hA2 hW2 => ?_) (fun j hj hpj hn A2 ml2 hA2 hW2 => ?_) A1 ml (fun _ _ _ _ => rfl) (MTw_scr h10' hk.1 hW0)
  · refine t_263_18 hG ⟨fun _ => hend A2 hA2 _ _ hq, fun e => absurd (show (999 : Int32) < zI ((1000 : Nat) : Int) by decide) e⟩
  · have hT2 : MTn (wF F 68 3 0) A2 K n := MTn_A (fun i hi => by rw [hA2 i (by omega) (by omega) (by omega)]; exact h1 i (by omega)) hT
    have hR2 : MRl (wF F 68 3 0) A2 cd cl := MRl_fr (by rw [hA2 72 (by decide) (by decide) (by decide)]; exact h1 72 (by decide)) (by rw [hA2 78 (by decide) (by decide) (by decide)]; exact h1 78 (by decide)) hR
    refine t_263_18 hG ⟨fun e => ?_, fun _ => ⟨fun _ => m_238 hG hT2 hW2 hR2 (by omega) (fun A3 hA3 hW3 => k_263_35 hG ?_), fun e => absurd rfl e⟩⟩
    · rw [show (999 : Int32) = zI 999 from rfl, zI_lt (by omega) (by omega) (by omega) (by omega)] at e
      omega
    · have hA3' : ∀ i, i ≠ 82 → i ≠ 86 → i ≠ 87 → A3 i = A1 i := fun i e1 e2 e3 => by rw [hA3 i e1 e2 e3]; exact hA2 i e1 e2 e3
      have hT3 : MTn (wF F 68 3 0) A3 K n := MTn_A (fun i hi => by rw [hA3' i (by omega) (by omega) (by omega)]; exact h1 i (by omega)) hT
      have hfl : fulB K ord (svZ K cd cl h ord (j : Int) ml2 h) h < 2 ^ n := fulb_lt h hW.1.2.1
      have hfi := fil_iff (K := K) (cd := cd) (cl := cl) (fd := (j : Int)) (ml' := ml2) hW.1
      refine m_220 hG hT3 hW3 (k_263_40 hG ?_)
      rw [hW3.2.1, bits_z h10 hW3.2.2.2.1 (fun l hl => by have := hW.1.2.1 l hl; omega), zN_eq (by omega) (by omega), ← hfi, zN_1]
      refine ⟨hB_z h10, fun e => ?_, fun e => ?_⟩
      · have hq := hpj e
        refine t_263_18 hG ⟨fun _ => hend A3 hA3' _ _ hq, fun _ => ⟨fun e2 => ?_, fun _ => hend A3 hA3' _ _ hq⟩⟩
        rw [zI_eqm (by omega)] at e2
        omega
      · exact hn (by simpa using e) A3 _ hA3' hW3
theorem m_264 (hG : Geo G SL p q) (hT : MTn F A K n) (hW : MTw F A n h ord ml wd ln yr) (hR : MRl F A cd cl) (hz : -2147483648 ≤ z ∧ z < 2147483648) (hb : ¬ (0 ≤ z ∧ z ≤ 999) → ∀ r, Q (.inl (some (.int r))) (wF F 68 3 1, A, J, G))
    (hok : (0 ≤ z ∧ z ≤ 999) → ∀ F' A', MScr F A F' A' → F' 68 3 = 0 → Q (.inl (some (.int (zI (topZ K cd cl h ord z))))) (F', A', J, G)) : X (d + 3) 264 0 [.ref 68, .int (zI z), .null] [] (F, A, J, G) Q := by
  have h10' := hT.1.1
  have h10 : h ≤ 10 := Nat.le_trans hW.1.1 hT.1.1
  have hW0 : MTw (wF F 68 3 0) A n h ord ml wd ln yr := by rw [MTw_code]; exact hW
  refine t_264_0 hG ?_
  rw [inL_z (x := 0) (y := 999) (a := 0) (b := 999) rfl rfl hz (by decide) (by decide), wF_wF, hW.2.1, zI_eq0 (by omega)]
  simp only [decide_eq_true_eq, decide_eq_false_iff_not]
  refine ⟨fun e => ⟨fun e2 => ?_, fun e2 => ?_⟩, fun e => hb e _⟩
  · have hq := hok e _ _ (MScr_code 0) (wF_same _ _ _ _)
    unfold topZ at hq
    rw [if_pos (by omega)] at hq
    exact hq
  · have hq := hok e
    unfold topZ at hq
    rw [if_neg (by omega)] at hq
    refine m_207 hG (k88 hG) (l88 hG) (by decide) (b := 0) (by decide) (by decide) (fun A1 h1 h1' hp => k_264_41 hG ?_)
    have hk := IK_pack h1 hp
    have hW1 := MTw_scr h10' hk.1 hW0
    have hT1 : MTn (wF F 68 3 0) A1 K n := MTn_A (fun i hi => h1 i (by omega)) hT
    have hR1 : MRl (wF F 68 3 0) A1 cd cl := MRl_fr (h1 72 (by decide)) (h1 78 (by decide)) hR
    refine m_238 hG hT1 hW1 hR1 e (fun A2 hA2 hW2 => k_264_46 hG ?_)
    have hoh := hW.1.2.1 (h - 1) (by omega)
    rw [hW2.2.1, zZ_s1, show (h : Int) - 1 = ((h - 1 : Nat) : Int) by omega, zI_clamp (n := h - 1) (by omega), hW2.2.2.2.1 (h - 1) (by omega), zI_clamp (n := ord (h - 1)) (by omega), hW2.2.2.2.2.1 _ hoh, sv_at hW.1.2.2.1 h (Nat.le_refl _) (h - 1) (by omega)]
    refine ⟨zN_in (by omega) (by decide), zN_in (by omega) (by decide), m_208 hG (k88 hG) (l88 hG) (by decide) (b := 0) (by decide) (by decide) (fun A3 h3 h4 => k_264_73 hG ?_)⟩
    have hs2 : MScr (wF F 68 3 0) A (wF F 68 3 0) (fun i => if 81 ≤ i ∧ i ≤ 84 then A1 i else A2 i) := by
      refine ⟨fun _ _ => rfl, fun _ _ => rfl, fun i e1 e2 e3 => ?_, fun i e1 e2 j hj => ?_⟩
      · show (if 81 ≤ i ∧ i ≤ 84 then A1 i else A2 i) = A i
        rw [if_neg (by omega), hA2 i (by omega) (by omega) (by omega)]; exact h1 i (by omega)
      · show (if 81 ≤ i ∧ i ≤ 84 then A1 i else A2 i) j = A i j
        rw [if_pos ⟨e1, e2⟩, h1 i (by omega)]
    have hk2 : IK (wF F 68 3 0) A (wF F 68 3 0) (fun i => if 81 ≤ i ∧ i ≤ 84 then A1 i else A2 i) := by
      refine ⟨hs2, ?_, rfl⟩
      have h88 : (fun i => if 81 ≤ i ∧ i ≤ 84 then A1 i else A2 i) 88 = A1 88 := by
        show (if 81 ≤ 88 ∧ 88 ≤ 84 then A1 88 else A2 88) = A1 88
        rw [if_neg (by omega), hA2 88 (by decide) (by decide) (by decide)]
      unfold Pkd at hp ⊢
      rw [h88]; exact hp
    have hk3 := IK_un hk2 (A2 := A2) (F2 := wF F 68 3 0) (fun i hi => by
      show A2 i = (if 81 ≤ i ∧ i ≤ 84 then A1 i else A2 i)
      rw [if_neg (by omega)]) (fun _ _ => rfl) (fun _ _ => rfl) h3 h4
    exact hq _ _ ((MScr_code 0).tr hk3.1) (by rw [hk3.2.2, wF_same])
end MEatZ
