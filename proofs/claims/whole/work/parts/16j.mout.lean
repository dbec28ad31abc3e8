section MOutZ
variable {d : Nat} {F A F' A' F'' A'' : Nat → Nat → Int32} {J : Nat → Nat → Int64} {G : pG} {Q : pR → pM → Prop} {SL p q t a na b i l : Nat} {K : Nat → Nat → Int} {n h h' : Nat} {ord ord' : Nat → Nat} {ml wd ln ml' wd' ln' : Nat → Int} {yr z y : Int}
theorem ouF_p (ot i : Nat) : ∀ e, pcn (ouF K h ord ml wd ln yr ot i e) ≤ pcn ot
  | 0 => Nat.le_refl _
  | e + 1 => by
    have := ouF_p ot i e
    rw [ouF]
    split
    · rename_i hc; omega
    · exact this
theorem bit_le {e ot : Nat} (h : e &&& ot = e) (k : Nat) : e / 2 ^ k % 2 ≤ ot / 2 ^ k % 2 := by
  have h1 : e.testBit k = true → ot.testBit k = true := fun h2 => by
    rw [← h, Nat.testBit_and, Bool.and_eq_true] at h2
    exact h2.2
  rw [Nat.testBit_eq_decide_div_mod_eq, Nat.testBit_eq_decide_div_mod_eq, decide_eq_true_eq, decide_eq_true_eq] at h1
  generalize e / 2 ^ k = X at h1
  generalize ot / 2 ^ k = Y at h1
  clear h
  omega
theorem two_sum {x y X Y : Nat} (h1 : x ≤ y) (h2 : X ≤ Y) (h3 : y + Y ≤ x + X) : x = y ∧ Y ≤ X := ⟨by omega, by omega⟩
theorem pcn_bits {e ot : Nat} (b0 : e % 2 ≤ ot % 2) (b1 : e / 2 % 2 ≤ ot / 2 % 2) (b2 : e / 4 % 2 ≤ ot / 4 % 2) (b3 : e / 8 % 2 ≤ ot / 8 % 2) (b4 : e / 16 % 2 ≤ ot / 16 % 2) (b5 : e / 32 % 2 ≤ ot / 32 % 2) (b6 : e / 64 % 2 ≤ ot / 64 % 2) (b7 : e / 128 % 2 ≤ ot / 128 % 2) (b8 : e / 256 % 2 ≤ ot / 256 % 2) (b9 : e / 512 % 2 ≤ ot / 512 % 2) (hp : pcn ot ≤ pcn e) : e % 2 = ot % 2 ∧ e / 2 % 2 = ot / 2 % 2 ∧ e / 4 % 2 = ot / 4 % 2 ∧ e / 8 % 2 = ot / 8 % 2 ∧ e / 16 % 2 = ot / 16 % 2 ∧ e / 32 % 2 = ot / 32 % 2 ∧ e / 64 % 2 = ot / 64 % 2 ∧ e / 128 % 2 = ot / 128 % 2 ∧ e / 256 % 2 = ot / 256 % 2 ∧ e / 512 % 2 = ot / 512 % 2 := by
  have s8 := Nat.add_le_add b8 b9
  have s7 := Nat.add_le_add b7 s8
  have s6 := Nat.add_le_add b6 s7
  have s5 := Nat.add_le_add b5 s6
  have s4 := Nat.add_le_add b4 s5
  have s3 := Nat.add_le_add b3 s4
  have s2 := Nat.add_le_add b2 s3
  have s1 := Nat.add_le_add b1 s2
  have p0 := two_sum b0 s1 hp
  have p1 := two_sum b1 s2 p0.2
  have p2 := two_sum b2 s3 p1.2
  have p3 := two_sum b3 s4 p2.2
  have p4 := two_sum b4 s5 p3.2
  have p5 := two_sum b5 s6 p4.2
  have p6 := two_sum b6 s7 p5.2
  have p7 := two_sum b7 s8 p6.2
  have p8 := two_sum b8 b9 p7.2
  exact ⟨p0.1, p1.1, p2.1, p3.1, p4.1, p5.1, p6.1, p7.1, p8.1, Nat.le_antisymm b9 p8.2⟩
theorem bit_k {e ot k : Nat} (h : e / 2 ^ k % 2 = ot / 2 ^ k % 2) : e.testBit k = ot.testBit k := by
  rw [Nat.testBit_eq_decide_div_mod_eq, Nat.testBit_eq_decide_div_mod_eq, h]
theorem pcn_sub {e ot : Nat} (he : e < 2 ^ 10) (ho : ot < 2 ^ 10) (h : e &&& ot = e) (hp : pcn ot ≤ pcn e) : e = ot := by
  have c0 : e % 2 ≤ ot % 2 := by have := bit_le h 0; rw [Nat.pow_zero, Nat.div_one, Nat.div_one] at this; exact this
  obtain ⟨q0, q1, q2, q3, q4, q5, q6, q7, q8, q9⟩ := pcn_bits c0 (bit_le h 1) (bit_le h 2) (bit_le h 3) (bit_le h 4) (bit_le h 5) (bit_le h 6) (bit_le h 7) (bit_le h 8) (bit_le h 9) hp
  refine Nat.eq_of_testBit_eq (fun k => ?_)
  match k with
  | 0 => exact bit_k (by rw [Nat.pow_zero, Nat.div_one, Nat.div_one]; exact q0)
  | 1 => exact bit_k (k := 1) q1
  | 2 => exact bit_k (k := 2) q2
  | 3 => exact bit_k (k := 3) q3
  | 4 => exact bit_k (k := 4) q4
  | 5 => exact bit_k (k := 5) q5
  | 6 => exact bit_k (k := 6) q6
  | 7 => exact bit_k (k := 7) q7
  | 8 => exact bit_k (k := 8) q8
  | 9 => exact bit_k (k := 9) q9
  | k + 10 =>
    have hk2 : 2 ^ 10 ≤ 2 ^ (k + 10) := Nat.pow_le_pow_right (by decide) (Nat.le_add_left 10 k)
    rw [Nat.testBit_lt_two_pow (Nat.lt_of_lt_of_le he hk2), Nat.testBit_lt_two_pow (Nat.lt_of_lt_of_le ho hk2)]
theorem ouF_end {ot i : Nat} (ho : ot < 1024) : ∀ k, ouF K h ord ml wd ln yr ot i (ot + k) = ouF K h ord ml wd ln yr ot i ot
  | 0 => rfl
  | k + 1 => by
    rw [show ot + (k + 1) = (ot + k) + 1 by omega, ouF, ouF_end ho k, if_neg]
    rintro ⟨h1, h2, -⟩
    have h3 : ot + k ≤ ot := by
      have : (ot + k) &&& ot ≤ ot := Nat.and_le_right
      omega
    have h4 : ot + k = ot := by omega
    rw [h4] at h2
    have := ouF_p (K := K) (h := h) (ord := ord) (ml := ml) (wd := wd) (ln := ln) (yr := yr) ot i ot
    omega
theorem MTw_ord (ho : ∀ l, l < h → ord l = ord' l) (hW : MTw F A n h ord ml wd ln yr) : MTw F A n h ord' ml wd ln yr := by
  obtain ⟨⟨h1, h2, h3, h4⟩, f1, f2, b0, b1⟩ := hW
  refine ⟨⟨h1, fun l hl => by rw [← ho l hl]; exact h2 l hl, fun l l' hl hl' he => h3 l l' hl hl' (by rw [ho l hl, ho l' hl']; exact he), h4⟩, f1, f2, fun l hl => by rw [← ho l hl]; exact b0 l hl, b1⟩
theorem MTw_h (he : h = h') (hW : MTw F A n h ord ml wd ln yr) : MTw F A n h' ord ml wd ln yr := by subst he; exact hW
theorem m_266 {s : Nat} (hG : Geo G SL p q) (hT : MTn F A K n) (hW : MTw F A n h ord ml wd ln yr) (hs : s < 1024) (hsub : ∀ x, s.testBit x = true → ∃ l, l < h ∧ ord l = x) (hQ : ∀ F' A' ml', (∀ i, i ≠ 68 → F' i = F i) → (∀ k, k ≠ 28 → F' 68 k = F 68 k) → (∀ k, (k < 81 ∨ 82 < k) → A' k = A k) → (∀ x, s.testBit x = false → ml' x = ml x) → MTw F' A' n (flt ord (fun x => !s.testBit x) h).length (fun j => (flt ord (fun x => !s.testBit x) h).getD j 0) ml' wd ln yr → Q (.inl none) (F', A', J, G)) : X (d + 2) 266 0 [.ref 68, .int (zI (s : Int)), .null] [] (F, A, J, G) Q := by
  have h10' := hT.1.1
  have h10 : h ≤ 10 := Nat.le_trans hW.1.1 hT.1.1
  refine t_266_0 hG ?_
  refine up_ind (h := n) (P := fun j => ∀ F1 A1 ml1, (∀ i, i ≠ 68 → F1 i = F i) → (∀ k, k ≠ 28 → F1 68 k = F 68 k) → (∀ k, (k < 81 ∨ 82 < k) → A1 k = A k) → (∀ x, s.testBit x = false → ml1 x = ml x) → MTw F1 A1 n (flt ord (fun x => !(s.testBit x && decide (x < j))) h).length (fun k => (flt ord (fun x => !(s.testBit x && decide (x < j))) h).getD k 0) ml1 wd ln yr → X (d + 2) 266 2 [.ref 68, .int (zI (s : Int)), .int (zI (j : Int))] [] (F1, A1, J, G) Q) ?_ ?_ F A ml (fun _ _ => rfl) (fun _ _ => rfl) (fun _ _ => rfl) (fun _ _ => rfl) ?_
  · intro F1 A1 ml1 hF hF2 hA hm hW1
    have he : flt ord (fun x => !(s.testBit x && decide (x < n))) h = flt ord (fun x => !s.testBit x) h := flt_congr h (fun l hl => by
      have := hW.1.2.1 l hl
      rw [decide_eq_true this, Bool.and_true])
    rw [he] at hW1
    refine t_266_2 hG ⟨fun e => ?_, fun _ => hQ F1 A1 ml1 hF hF2 hA hm hW1⟩
    rw [hA 72 (by omega), hT.2.2.1, zN_lt (by omega) (by omega)] at e
    omega
  · intro j hj ih F1 A1 ml1 hF hF2 hA hm hW1
    have hT1 : MTn F1 A1 K n := MTn_A (fun i hi => hA i (by omega)) hT
    refine t_266_2 hG ⟨fun _ => ?_, fun e => ?_⟩
    · rw [isO_z hs (by omega), zN_1]
      refine ⟨fun e => ?_, fun e => ?_⟩
      · obtain ⟨l, hl, he⟩ := hsub j e
        have hmem : j ∈ flt ord (fun x => !(s.testBit x && decide (x < j))) h := (flt_mem h).mpr ⟨l, hl, he, by rw [decide_eq_false (Nat.lt_irrefl j), Bool.and_false]; rfl⟩
        obtain ⟨k, hk, hke⟩ := mem_at hmem
        have hnd := flt_nd (ord := ord) (p := fun x => !(s.testBit x && decide (x < j))) h hW.1.2.2.1
        have hnew : (flt ord (fun x => !(s.testBit x && decide (x < j))) h).filter (fun x => !(x == j)) = flt ord (fun x => !(s.testBit x && decide (x < j + 1))) h := by
          rw [flt_filter]
          refine flt_congr h (fun l hl => ?_)
          by_cases e1 : ord l = j
          · rw [e1, e]; simp
          · by_cases e2 : ord l < j
            · rw [decide_eq_true e2, decide_eq_true (show ord l < j + 1 by omega)]; simp [e1]
            · rw [decide_eq_false e2, decide_eq_false (show ¬ ord l < j + 1 by omega)]; simp [e1]
        refine m_230 hG h10' hW1 hk hke (fun A2 hA2 hW2 => k_266_25 hG ?_)
        rw [zN_1]
        refine ih _ A2 (upZ ml1 j 0) (fun i hi => by rw [wF_row hi]; exact hF i hi) (fun k hk => by rw [wF_cell hk]; exact hF2 k hk) (fun k hk => by rw [hA2 k hk]; exact hA k hk) (fun x hx => ?_) ?_
        · rw [upZ_ne _ _ (fun q => by rw [q, e] at hx; exact absurd hx (by decide))]; exact hm x hx
        · refine MTw_h ?_ (MTw_ord (fun l hl => ?_) hW2)
          · rw [← hnew, len_filter _ hnd hmem]
          · unfold remO
            rw [← hnew, rem_filter _ k hnd hk hke l]
      · have he : flt ord (fun x => !(s.testBit x && decide (x < j + 1))) h = flt ord (fun x => !(s.testBit x && decide (x < j))) h := flt_congr h (fun l hl => by
          by_cases e1 : ord l = j
          · rw [e1, e]; rfl
          · by_cases e2 : ord l < j
            · rw [decide_eq_true e2, decide_eq_true (show ord l < j + 1 by omega)]
            · rw [decide_eq_false e2, decide_eq_false (show ¬ ord l < j + 1 by omega)])
        refine ih F1 A1 ml1 hF hF2 hA hm ?_
        rw [he]
        exact hW1
    · rw [hA 72 (by omega), hT.2.2.1, zN_lt (by omega) (by omega)] at e
      omega
  · have he : flt ord (fun x => !(s.testBit x && decide (x < 0))) h = flt ord (fun _ => true) h := flt_congr h (fun l hl => by
      rw [decide_eq_false (Nat.not_lt_zero _), Bool.and_false]; rfl)
    rw [he]
    have hall := flt_all (ord := ord) h
    exact MTw_h hall.1.symm (MTw_ord (fun l hl => (hall.2 l hl).symm) hW)
theorem os_congr {s : Nat} (hm : ∀ x, s.testBit x = false → ml' x = ml x) : stdB K (flt ord (fun x => !s.testBit x) h).length (fun j => (flt ord (fun x => !s.testBit x) h).getD j 0) ml' wd ln yr = osB K h ord ml wd ln yr s := by
  unfold osB
  refine std_congr (fun _ _ => rfl) (fun k hk => ?_) (fun _ _ => rfl) (fun _ _ => rfl)
  obtain ⟨l, h1, h2, h3⟩ := (flt_mem h).mp (getD_mem hk)
  exact hm _ (by simpa using h3)
theorem m_267 (hG : Geo G SL p q) (hT : MTn F A K n) (hW : MTw F A n h ord ml wd ln yr) (hz : -2147483648 ≤ z ∧ z < 2147483648)
    (hb1 : lvZ ord h z = -1 ∨ ¬ (0 ≤ z ∧ z < n) → ∀ r, Q (.inl (some (.int r))) (wF F 68 3 1, A, J, G))
    (hok : ∀ i : Nat, z = i → i < n → ¬ lvZ ord h z = -1 → ∀ F' A', MScr F A F' A' → F' 68 3 = 0 → Q (.inl (some (.int (zI (ouF K h ord ml wd ln yr (bst ord h ^^^ (bst ord h &&& 2 ^ i)) i (bst ord h ^^^ (bst ord h &&& 2 ^ i)) : Int))))) (F', A', J, G)) : X (d + 6) 267 0 [.ref 68, .int (zI z), .null, .null, .null] [] (F, A, J, G) Q := by
  have h10 := hT.1.1
  have hh := hW.1.1
  have hW0 : MTw (wF F 68 3 0) A n h ord ml wd ln yr := by rw [MTw_code]; exact hW
  have f1' := hW0.2.1
  have hlb := lvZ_b (ord := ord) (h := h) (z := z)
  have hbs : bst ord h < 2 ^ n := bst_lt ord n h hW.1.2.1
  have hn2 : 2 ^ n ≤ 1024 := Nat.pow_le_pow_right (n := 2) (by decide) h10
  refine t_267_0 hG ?_
  rw [hT.2.2.1, f1', inR_z hz h10, lvi_z hz h10 hW0, zI_eqm (by omega), wF_wF, bits_z (by omega) hW.2.2.2.1 (fun l hl => by have := hW.1.2.1 l hl; omega)]
  simp only [decide_eq_true_eq, decide_eq_false_iff_not]
  refine ⟨hB_z h10, fun e1 => ⟨hB_z (by omega), fun e2 => hb1 (Or.inl e2) _, fun e2 => ?_⟩, fun e1 => hb1 (Or.inr e1) _⟩
  obtain ⟨i, rfl⟩ : ∃ i : Nat, z = i := ⟨z.toNat, by omega⟩
  have hin : i < n := by omega
  have hok' := hok i rfl hin e2
  rw [shl_z i (by omega), zN_andn]
  have hp2 : 2 ^ i < 1024 := Nat.pow_lt_pow_right (by decide) (show i < 10 by omega)
  have hi2 : 2 ^ i < 2 ^ n := Nat.pow_lt_pow_right (by decide) hin
  have hbi : (bst ord h).testBit i = true := by rw [← Bool.not_eq_false, ← lvZ_none]; exact e2
  generalize hot : bst ord h ^^^ (bst ord h &&& 2 ^ i) = ot at hok'
  have hotb : ∀ x, ot.testBit x = true → (bst ord h).testBit x = true := fun x hx => by
    rw [← hot, Nat.testBit_xor, Nat.testBit_and] at hx
    cases hb : (bst ord h).testBit x
    · rw [hb] at hx; simp at hx
    · rfl
  have hon : ot < 2 ^ n := by rw [← hot]; exact Nat.xor_lt_two_pow hbs (Nat.lt_of_le_of_lt Nat.and_le_left hbs)
  refine m_207 hG (k88 hG) (l88 hG) (by decide) (b := 0) (by decide) (by decide) (fun A1 h1 h1' hp => k_267_50 hG ?_)
  have hfb : ∀ e, e ≤ 2 ^ n → ouF K h ord ml wd ln yr ot i e < 1024 := fun e he => by
    have := ouF_b (K := K) (h := h) (ord := ord) (ml := ml) (wd := wd) (ln := ln) (yr := yr) ot i e
    omega
  refine up_ind (h := 2 ^ n) (P := fun e => ∀ F1 A1, IK (wF F 68 3 0) A F1 A1 → X (d + 6) 267 53 [.ref 68, .int (zI (i : Int)), .int (zI (ot : Int)), .int (zI ((ouF K h ord ml wd ln yr ot i e : Nat) : Int)), .int (zI (e : Int))] [] (F1, A1, J, G) Q) ?_ ?_ _ A1 (IK_pack h1 hp)
  · intro F1 A1 hk
    have hT1 : MTn F1 A1 K n := MTn_scr ((MScr_code 0).tr hk.1) hT
    refine t_267_53 hG ⟨fun e => ?_, fun _ => ?_⟩
    · rw [hT1.2.2.1, shl_z n (by omega), zN_lt (by omega) (by omega)] at e
      omega
    · have := hok' F1 A1 ((MScr_code 0).tr hk.1) (by rw [hk.2.2, wF_same])
      have he := ouF_end (K := K) (h := h) (ord := ord) (ml := ml) (wd := wd) (ln := ln) (yr := yr) (i := i) (show ot < 1024 by omega) (2 ^ n - ot)
      rw [show ot + (2 ^ n - ot) = 2 ^ n by omega] at he
      rw [he]
      exact this
  · intro e he ih F1 A1 hk
    have hT1 : MTn F1 A1 K n := MTn_scr ((MScr_code 0).tr hk.1) hT
    have hW1 : MTw F1 A1 n h ord ml wd ln yr := MTw_scr h10 hk.1 hW0
    have hf := hfb e (by omega)
    have hfo := ouF_b (K := K) (h := h) (ord := ord) (ml := ml) (wd := wd) (ln := ln) (yr := yr) ot i e
    have hfp := ouF_p (K := K) (h := h) (ord := ord) (ml := ml) (wd := wd) (ln := ln) (yr := yr) ot i e
    rw [ouF] at ih
    have hor : e ||| 2 ^ i < 1024 := Nat.or_lt_two_pow (n := 10) (by omega) hp2
    have hgo : e &&& ot = e → pcn e < pcn (ouF K h ord ml wd ln yr ot i e) → X (d + 5) 266 0 [.ref 68, .int (zI ((e ||| 2 ^ i : Nat) : Int)), .null] [] (F1, A1, J, G) (KK (d + 6) 267 118 [.ref 68, .int (zI (i : Int)), .int (zI (ot : Int)), .int (zI ((ouF K h ord ml wd ln yr ot i e : Nat) : Int)), .int (zI (e : Int))] [] Q) := by
      intro e2 e1
      refine m_266 hG hT1 hW1 hor (fun x hx => ?_) (fun F2 A2 ml2 hF2 hF2' hA2 hm2 hW2 => k_267_118 hG ?_)
      · rw [Nat.testBit_or, Bool.or_eq_true] at hx
        rcases hx with hx | hx
        · rw [← e2, Nat.testBit_and, Bool.and_eq_true] at hx
          exact (bst_bit ord x h).mp (hotb x hx.2)
        · rw [Nat.testBit_two_pow] at hx
          have : i = x := by simpa using hx
          subst this
          exact (bst_bit ord i h).mp hbi
      · refine m_218 hG (MTn_A (fun i hi => hA2 i (by omega)) hT1) hW2 (k_267_122 hG ?_)
        rw [os_congr hm2]
        have hun : ∀ best : Nat, (if e &&& ot = e ∧ pcn e < pcn (ouF K h ord ml wd ln yr ot i e) ∧ osB K h ord ml wd ln yr (e ||| 2 ^ i) = true then e else ouF K h ord ml wd ln yr ot i e) = best → X (d + 5) 208 0 [.ref 68, .ref 88, .int 0, .null] [] (F2, A2, J, G) (KK (d + 6) 267 137 [.ref 68, .int (zI (i : Int)), .int (zI (ot : Int)), .int (zI (best : Int)), .int (zI (e : Int))] [] Q) := by
          intro best hbest
          rw [hbest] at ih
          refine m_208 hG (k88 hG) (l88 hG) (by decide) (b := 0) (by decide) (by decide) (fun A3 h3 h4 => k_267_137 hG ?_)
          rw [zN_1]
          exact ih _ _ (IK_un hk (F2 := F2) (A2 := A2) (fun i hi => hA2 i (by omega)) hF2 (fun k hk => hF2' k (by omega)) h3 h4)
        refine ⟨fun e3 => hun _ ?_, fun e3 => hun _ ?_⟩
        · have hb : osB K h ord ml wd ln yr (e ||| 2 ^ i) = false := by
            cases hb : osB K h ord ml wd ln yr (e ||| 2 ^ i)
            · rfl
            · rw [hb] at e3; exact absurd e3 (by decide)
          rw [if_neg (fun q => by rw [hb] at q; exact absurd q.2.2 (by decide))]
        · have hb : osB K h ord ml wd ln yr (e ||| 2 ^ i) = true := by
            cases hb : osB K h ord ml wd ln yr (e ||| 2 ^ i)
            · rw [hb] at e3; exact absurd rfl e3
            · rfl
          rw [if_pos ⟨e2, e1, hb⟩]
    refine t_267_53 hG ⟨fun _ => ?_, fun e' => ?_⟩
    · rw [zI_clamp (n := e) (by omega), zI_clamp (n := ouF K h ord ml wd ln yr ot i e) (by omega), nI_pcn (by omega) hf, nI_pcn hf (by omega), zI_and0 (by omega), shl_z i (by omega), zN_or, zN_1, zN_lt (by omega) (by omega)]
      refine ⟨fun e2 => ⟨zN_in (by omega) (by decide), zN_in (by omega) (by decide), fun e1 => hgo e2 e1, fun e1 => ⟨fun e3 => ?_, fun e3 => ⟨fun e4 => ?_, fun e4 => ?_⟩⟩⟩, fun e2 => ?_⟩
      · rw [if_neg (fun q => e1 q.2.1)] at ih
        exact ih F1 A1 hk
      · exfalso
        rcases hfo with hfo | hfo
        · rw [hfo] at e1 e3 e4
          have := pcn_sub (show e < 1024 by omega) (show ot < 1024 by omega) e2 (by omega)
          omega
        · omega
      · rw [if_neg (fun q => e1 q.2.1)] at ih
        exact ih F1 A1 hk
      · rw [if_neg (fun q => e2 q.1)] at ih
        exact ih F1 A1 hk
    · rw [hT1.2.2.1, shl_z n (by omega), zN_lt (by omega) (by omega)] at e'
      omega
end MOutZ
