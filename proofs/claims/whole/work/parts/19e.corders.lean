section COrdersZ
variable {d : Nat} {F A F' A' : Nat → Nat → Int32} {J : Nat → Nat → Int64} {G : pG} {Q : pR → pM → Prop} {SL p q : Nat} {K : Nat → Nat → Int} {n h S b t : Nat} {ord : Nat → Nat} {ml wd ln : Nat → Int} {yr : Int} {li se : Nat}
theorem fr_bit (S b t : Nat) : (S ^^^ (S &&& b)).testBit t = frB S b t := by
  unfold frB
  rw [Nat.testBit_xor, Nat.testBit_and]
  cases S.testBit t <;> cases b.testBit t <;> rfl
theorem or_gt (hf : frB S b t = true) : b < b ||| 2 ^ t := by
  have h1 : b ≤ b ||| 2 ^ t := Nat.left_le_or
  have h2 : b ≠ b ||| 2 ^ t := fun q => by
    have h3 : b.testBit t = (b ||| 2 ^ t).testBit t := by rw [← q]
    unfold frB at hf
    rw [Bool.and_eq_true, Bool.not_eq_true'] at hf
    rw [Nat.testBit_or, Nat.testBit_two_pow, decide_eq_true rfl, Bool.or_true, hf.2] at h3
    exact absurd h3 (by decide)
  omega
theorem c_24 (hG : Geo G SL p q) (hT : CTn F A K n) (hW : CTw 27 F A n h ord ml wd ln yr) (hM : Sms A 63 K n ml wd ln) (h3 : CSt3 F S li se) (hS : S < 2 ^ n) (hb : b &&& S = b) (hne : b ≠ S) (hl : li < 1024) (hse : se ≤ 10) (hA : ∀ s, s &&& S = s → b < s → A 65 s = zI ((WY (ftB K n ml wd ln yr li se S) n S s : Nat) : Int)) (hQ : Q (.inl (some (.int (zI ((WY (ftB K n ml wd ln yr li se S) n S b : Nat) : Int))))) (F, A, J, G)) : X (d + 3) 24 0 [.ref 61, .int (zI (b : Int)), .null, .null, .null] [] (F, A, J, G) Q := by
  have h10' := hT.1.1
  have hn2 : 2 ^ n ≤ 1024 := Nat.pow_le_pow_right (n := 2) (by decide) h10'
  have hxl : S ^^^ (S &&& b) ≤ S := rmv_le' S _
  have hWb := WY_le (ft := ftB K n ml wd ln yr li se S) (S := S) (p := b) h10'
  rw [WY_step hS hb hne] at hQ hWb
  refine t_24_0 hG ?_
  rw [h3.1, zN_andn]
  generalize hg : (fun t => if frB S b t = true ∧ ftB K n ml wd ln yr li se S b t = true then WY (ftB K n ml wd ln yr li se S) n S (b ||| 2 ^ t) else 0) = g at hQ hWb
  refine up_ind (h := n) (P := fun t => X (d + 3) 24 14 [.ref 61, .int (zI (b : Int)), .int (zI ((sN g t : Nat) : Int)), .int (zI ((S ^^^ (S &&& b) : Nat) : Int)), .int (zI (t : Int))] [] (F, A, J, G) Q) ?_ ?_
  · refine t_24_14 hG ⟨fun e => ?_, fun _ => hQ⟩
    rw [hT.2.1, zN_lt (by omega) (by omega)] at e
    omega
  · intro t ht ih
    rw [sN] at ih
    have hgt : g t = if frB S b t = true ∧ ftB K n ml wd ln yr li se S b t = true then WY (ftB K n ml wd ln yr li se S) n S (b ||| 2 ^ t) else 0 := by rw [← hg]
    refine t_24_14 hG ⟨fun _ => ?_, fun e => ?_⟩
    · rw [shr_0 (by omega) (by omega), fr_bit, zN_1]
      refine ⟨fun e => ?_, fun e => ?_⟩
      · rw [if_neg (fun q => by rw [e] at q; exact absurd q.1 (by decide))] at hgt
        rw [hgt, Nat.add_zero] at ih
        exact ih
      · have hf : frB S b t = true := by simpa using e
        refine c_25 hG hT hW hM h3 hS hb hl hse hf ht (hA _ (sub_or hb hf) (or_gt hf)) (WY_le h10') (k_24_43 hG ?_)
        have hge : (if ftB K n ml wd ln yr li se S b t = true then WY (ftB K n ml wd ln yr li se S) n S (b ||| 2 ^ t) else 0) = g t := by
          rw [hgt]
          by_cases hc : ftB K n ml wd ln yr li se S b t = true
          · rw [if_pos hc, if_pos ⟨hf, hc⟩]
          · rw [if_neg hc, if_neg (fun q => hc q.2)]
        rw [hge, zN_add, zN_1]
        exact ih
    · rw [hT.2.1, zN_lt (by omega) (by omega)] at e
      omega
theorem ft_bad (hbad : ¬ ((smS (trnZ K ln wd) S n).natAbs : Int) ≤ K 4 0) : ∀ p t, p ||| 2 ^ t = S → ftB K n ml wd ln yr li se S p t = false := by
  intro p t e
  unfold ftB
  rw [e, decide_eq_false (p := (((smS (trnZ K ln wd) S n).natAbs : Int) ≤ K 4 0)) hbad, Bool.and_false, Bool.and_false]
theorem c_23 (hG : Geo G SL p q) (hT : CTn F A K n) (hW : CTw 27 F A n h ord ml wd ln yr) (hM : Sms A 63 K n ml wd ln) (hS : S < 2 ^ n) (hl : li < 1024) (hse : se ≤ 10) (hQ : ∀ F' A', (∀ i, i ≠ 61 → F' i = F i) → (∀ k, k < 7 → F' 61 k = F 61 k) → CSt3 F' S li se → (∀ i, i ≠ 65 → A' i = A i) → (0 < WY (ftB K n ml wd ln yr li se S) n S 0 → ∀ s, s &&& S = s → A' 65 s = zI ((WY (ftB K n ml wd ln yr li se S) n S s : Nat) : Int)) → Q (.inl (some (.int (zI ((WY (ftB K n ml wd ln yr li se S) n S 0 : Nat) : Int))))) (F', A', J, G)) : X (d + 4) 23 0 [.ref 61, .int (zI (S : Int)), .int (zI (li : Int)), .int (zI (se : Int)), .null, .null] [] (F, A, J, G) Q := by
  have h10' := hT.1.1
  have hn2 : 2 ^ n ≤ 1024 := Nat.pow_le_pow_right (n := 2) (by decide) h10'
  have h40 := hT.1.2.2.1
  have htl := tl_b hT.1 hW.1 S
  have hF1 : ∀ i, i ≠ 61 → wF (wF (wF F 61 7 (zI (S : Int))) 61 8 (zI (li : Int))) 61 9 (zI (se : Int)) i = F i := fun i hi => by rw [wF_row hi, wF_row hi, wF_row hi]
  have hF2 : ∀ k, k < 7 → wF (wF (wF F 61 7 (zI (S : Int))) 61 8 (zI (li : Int))) 61 9 (zI (se : Int)) 61 k = F 61 k := fun k hk => by rw [wF_cell (by omega), wF_cell (by omega), wF_cell (by omega)]
  have hF3 : CSt3 (wF (wF (wF F 61 7 (zI (S : Int))) 61 8 (zI (li : Int))) 61 9 (zI (se : Int))) S li se := ⟨by rw [wF_cell (by decide), wF_cell (by decide), wF_same], by rw [wF_cell (by decide), wF_same], by rw [wF_same]⟩
  refine t_23_0 hG ?_
  rw [zI_clamp (n := S) (by omega), hM.2 S hS, hT.2.2.1, lim_z (by omega) (by omega) (by omega) (by omega)]
  generalize wF (wF (wF F 61 7 (zI (S : Int))) 61 8 (zI (li : Int))) 61 9 (zI (se : Int)) = F1 at hF1 hF2 hF3
  refine ⟨zN_in (by omega) (by decide), fun e => ?_, fun e => ?_⟩
  · have fr : ∀ A1, (∀ i, i ≠ 65 → A1 i = A i) → CTn F1 A1 K n ∧ CTw 27 F1 A1 n h ord ml wd ln yr ∧ Sms A1 63 K n ml wd ln := fun A1 hA1 => by
      refine ⟨?_, ?_, ?_⟩
      · unfold CTn at hT ⊢
        rw [hF1 12 (by decide), hA1 13 (by decide), hA1 14 (by decide), hA1 15 (by decide), hA1 17 (by decide)]; exact hT
      · unfold CTw at hW ⊢
        rw [hF1 27 (by decide), hA1 (27 + 1) (by decide), hA1 (27 + 2) (by decide), hA1 (27 + 3) (by decide), hA1 (27 + 4) (by decide)]; exact hW
      · unfold Sms at hM ⊢
        rw [hA1 63 (by decide), hA1 (63 + 1) (by decide)]; exact hM
    -- downwards through the subsets
    have loop : ∀ m b i : Nat, b ≤ m → i + b ≤ S → b &&& S = b → ∀ A1, (∀ j, j ≠ 65 → A1 j = A j) → (∀ s, s &&& S = s → b ≤ s → A1 65 s = zI ((WY (ftB K n ml wd ln yr li se S) n S s : Nat) : Int)) → X (d + 4) 23 55 [.ref 61, .int (zI (S : Int)), .int (zI (li : Int)), .int (zI (se : Int)), .int (zI (b : Int)), .int (zI (i : Int))] [] (F1, A1, J, G) Q := by
      intro m
      induction m with
      | zero =>
        intro b i hb hi hbs A1 hA1 h65
        have hb0 : b = 0 := by omega
        subst hb0
        have h0 : A1 65 0 = zI ((WY (ftB K n ml wd ln yr li se S) n S 0 : Nat) : Int) := h65 0 (Nat.zero_and S) (Nat.le_refl _)
        have hq := hQ F1 A1 hF1 hF2 hF3 hA1 (fun _ s hs => h65 s hs (Nat.zero_le _))
        refine t_23_55 hG ⟨fun _ => ⟨fun e2 => absurd e2 (by decide), fun _ => ?_⟩, fun _ => ?_⟩
        · rw [h0]; exact hq
        · rw [h0]; exact hq
      | succ m ih =>
        intro b i hb hi hbs A1 hA1 h65
        by_cases hb0 : b = 0
        · exact ih b i (by omega) hi hbs A1 hA1 h65
        · obtain ⟨hT1, hW1, hM1⟩ := fr A1 hA1
          have hbp : b - 1 &&& S ≤ b - 1 := Nat.and_le_left
          have hbp2 : (b - 1 &&& S) &&& S = b - 1 &&& S := by rw [Nat.and_assoc, Nat.and_self]
          refine t_23_55 hG ⟨fun _ => ⟨fun _ => ?_, fun e2 => ?_⟩, fun e2 => ?_⟩
          · rw [hF3.1, zZ_s1, show (b : Int) - 1 = ((b - 1 : Nat) : Int) by omega, zN_and]
            refine c_24 hG hT1 hW1 hM1 hF3 hS hbp2 (by omega) hl hse (fun s hs hbs2 => h65 s hs ?_) (k_23_91 hG ?_)
            · refine Nat.le_of_not_lt (fun q => ?_)
              have := sub_pred n S b s hS hbs hs q
              omega
            · rw [zI_clamp (n := b - 1 &&& S) (by omega), zN_1]
              refine ⟨zN_in (by omega) (by decide), ih _ (i + 1) (by omega) (by omega) hbp2 _ (fun j hj => by rw [wF_row hj]; exact hA1 j hj) (fun s hs hbs2 => ?_)⟩
              rw [wF_at]
              by_cases es : s = b - 1 &&& S
              · rw [if_pos ⟨rfl, es⟩, es]
              · rw [if_neg (fun q => es q.2)]
                refine h65 s hs (Nat.le_of_not_lt (fun q => ?_))
                have := sub_pred n S b s hS hbs hs q
                omega
          · exact absurd (show (0 : Int32) < zI (b : Int) by rw [show (0 : Int32) = zI ((0 : Nat) : Int) from rfl, zN_lt (by omega) (by omega)]; omega) e2
          · exact absurd (show zI (i : Int) < 1024 by rw [show (1024 : Int32) = zI ((1024 : Nat) : Int) from rfl, zN_lt (by omega) (by omega)]; omega) e2
    refine loop S S 0 (Nat.le_refl _) (by omega) (Nat.and_self S) _ (fun j hj => wF_row hj) (fun s hs hle => ?_)
    have : s ≤ S := by rw [← hs]; exact Nat.and_le_right
    have hsS : s = S := by omega
    rw [hsS, wF_same, WY_self]; rfl
  · rw [decide_eq_false_iff_not] at e
    have hS0 : S ≠ 0 := fun q => by
      rw [q, smS_0] at e
      exact e (by show ((0 : Int).natAbs : Int) ≤ K 4 0; omega)
    have hz : WY (ftB K n ml wd ln yr li se S) n S 0 = 0 := WY_bad hS (ft_bad e) _ 0 rfl (Nat.zero_and S) (fun q => hS0 q.symm)
    have hq := hQ F1 (wF A 65 S 1) hF1 hF2 hF3 (fun j hj => wF_row hj) (fun q => by omega)
    rw [hz] at hq
    exact hq
theorem c_19 (hG : Geo G SL p q) (hT : CTn F A K n) (hW : CTw 27 F A n h ord ml wd ln yr) (h63 : A 63 0 = 0) (h64 : A 64 0 = 0) (hl : li < 1024) (hse : se ≤ 10) (hQ : ∀ F' A', (∀ i, i ≠ 61 → F' i = F i) → (∀ k, k < 7 → F' 61 k = F 61 k) → (∀ i, (i < 63 ∨ 65 < i) → A' i = A i) → A' 63 0 = 0 → A' 64 0 = 0 → Q (.inl (some (.long (zI ((WY (ftB K n ml wd ln yr li se (bst ord h)) n (bst ord h) 0 : Nat) : Int)).toInt64))) (F', A', J, G)) : X (d + 5) 19 0 [.ref 61, .int (zI (li : Int)), .int (zI (se : Int))] [] (F, A, J, G) Q := by
  have h10' := hT.1.1
  have h10 : h ≤ 10 := Nat.le_trans hW.1.1 hT.1.1
  have hbs : bst ord h < 2 ^ n := bst_lt ord n h hW.1.2.1
  refine t_19_0 hG (c_22 hG hT hW h63 h64 (fun A1 hA1 hM => k_19_4 hG ?_))
  have hT1 : CTn F A1 K n := by
    unfold CTn at hT ⊢
    rw [hA1 13 (by decide) (by decide), hA1 14 (by decide) (by decide), hA1 15 (by decide) (by decide), hA1 17 (by decide) (by decide)]; exact hT
  have hW1 : CTw 27 F A1 n h ord ml wd ln yr := by
    unfold CTw at hW ⊢
    rw [hA1 (27 + 1) (by decide) (by decide), hA1 (27 + 2) (by decide) (by decide), hA1 (27 + 3) (by decide) (by decide), hA1 (27 + 4) (by decide) (by decide)]; exact hW
  have b28 : ∀ l, l < h → A1 28 l = zI (ord l : Int) := hW1.2.2.2.1
  rw [hW.2.1, bits_z h10 b28 (fun l hl => by have := hW.1.2.1 l hl; omega)]
  refine ⟨hB_z h10, c_23 hG hT1 hW1 hM hbs hl hse (fun F2 A2 hF2 hF3 _ hA2 _ => k_19_20 hG (hQ F2 A2 hF2 hF3 (fun i hi => by rw [hA2 i (by omega)]; exact hA1 i (by omega) (by omega)) ?_ ?_))⟩
  · rw [hA2 63 (by decide), hM.1 0 (Nat.two_pow_pos n), smS_0]; rfl
  · rw [hA2 64 (by decide), hM.2 0 (Nat.two_pow_pos n), smS_0]; rfl
end COrdersZ
