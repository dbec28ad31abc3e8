/-! who marries whom -/
section MarryZ
variable {d : Nat} {F A F' A' F'' A'' : Nat → Nat → Int32} {J : Nat → Nat → Int64} {G : pG} {Q : pR → pM → Prop} {SL p q t a na b i l f o : Nat} {K : Nat → Nat → Int} {n h : Nat} {ord ord' : Nat → Nat} {ml wd ln ml' wd' ln' : Nat → Int} {yr z y v τ x fd B : Int} {S S' k : Nat} {mr : Nat → Nat → Bool}
def rmv (S a : Nat) : Nat := S ^^^ (S &&& 2 ^ a)
theorem rmv_bit (S a i : Nat) : (rmv S a).testBit i = (S.testBit i && !decide (a = i)) := by
  unfold rmv
  rw [Nat.testBit_xor, Nat.testBit_and, Nat.testBit_two_pow]
  cases S.testBit i <;> cases decide (a = i) <;> rfl
theorem rmv_le (S a : Nat) : rmv S a ≤ S := by
  have h1 : rmv S a &&& S = rmv S a := Nat.eq_of_testBit_eq (fun i => by
    rw [Nat.testBit_and, rmv_bit]
    cases S.testBit i <;> cases decide (a = i) <;> rfl)
  rw [← h1]
  exact Nat.and_le_right
theorem rmv_comm (S a b : Nat) : rmv (rmv S a) b = rmv (rmv S b) a := Nat.eq_of_testBit_eq (fun i => by
  rw [rmv_bit, rmv_bit, rmv_bit, rmv_bit]
  cases S.testBit i <;> cases decide (a = i) <;> cases decide (b = i) <;> rfl)
def Mt (mr : Nat → Nat → Bool) : Nat → Nat → Prop
  | 0, _ => True
  | k + 1, S => ∃ a b, a ≠ b ∧ S.testBit a = true ∧ S.testBit b = true ∧ mr a b = true ∧ Mt mr k (rmv (rmv S a) b)
theorem Mt_mono : ∀ k (S S' : Nat), (∀ i, S.testBit i = true → S'.testBit i = true) → Mt mr k S → Mt mr k S'
  | 0, _, _, _, _ => trivial
  | k + 1, S, S', h, hm => by
    obtain ⟨a, b, h1, h2, h3, h4, h5⟩ := hm
    refine ⟨a, b, h1, h a h2, h b h3, h4, Mt_mono k _ _ (fun i hi => ?_) h5⟩
    rw [rmv_bit, rmv_bit, Bool.and_eq_true, Bool.and_eq_true] at hi ⊢
    exact ⟨⟨h i hi.1.1, hi.1.2⟩, hi.2⟩
theorem Mt_split (hsy : ∀ a b, mr a b = mr b a) : ∀ k (S a : Nat), S.testBit a = true → Mt mr k S → Mt mr k (rmv S a) ∨ ∃ b k', k = k' + 1 ∧ b ≠ a ∧ S.testBit b = true ∧ mr a b = true ∧ Mt mr k' (rmv (rmv S a) b)
  | 0, _, _, _, _ => Or.inl trivial
  | k + 1, S, a, ha, hm => by
    obtain ⟨x, y, h1, h2, h3, h4, h5⟩ := hm
    by_cases e1 : a = x
    · subst e1
      exact Or.inr ⟨y, k, rfl, fun q => h1 q.symm, h3, h4, h5⟩
    · by_cases e2 : a = y
      · subst e2
        exact Or.inr ⟨x, k, rfl, h1, h2, by rw [hsy]; exact h4, by rw [rmv_comm]; exact h5⟩
      · have ha' : (rmv (rmv S x) y).testBit a = true := by
          rw [rmv_bit, rmv_bit, ha, decide_eq_false (fun q => e1 q.symm), decide_eq_false (fun q => e2 q.symm)]; rfl
        have hx' : (rmv S a).testBit x = true := by rw [rmv_bit, h2, decide_eq_false e1]; rfl
        have hy' : (rmv S a).testBit y = true := by rw [rmv_bit, h3, decide_eq_false e2]; rfl
        rcases Mt_split hsy k _ a ha' h5 with h6 | ⟨b, k', h6, h7, h8, h9, h10⟩
        · refine Or.inl ⟨x, y, h1, hx', hy', h4, ?_⟩
          rw [rmv_comm S a x, rmv_comm (rmv S x) a y]
          exact h6
        · subst h6
          rw [rmv_bit, rmv_bit, Bool.and_eq_true, Bool.and_eq_true, Bool.not_eq_true', Bool.not_eq_true', decide_eq_false_iff_not, decide_eq_false_iff_not] at h8
          obtain ⟨⟨h8, h11⟩, h12⟩ := h8
          refine Or.inr ⟨b, k' + 1, rfl, h7, h8, h9, x, y, h1, ?_, ?_, h4, ?_⟩
          · rw [rmv_bit, hx', decide_eq_false (fun q => h11 q.symm)]; rfl
          · rw [rmv_bit, hy', decide_eq_false (fun q => h12 q.symm)]; rfl
          · rw [rmv_comm (rmv S a) b x, rmv_comm S a x, rmv_comm (rmv (rmv S x) a) b y, rmv_comm (rmv S x) a y]
            exact h10
def IsMx (mr : Nat → Nat → Bool) (S c : Nat) : Prop := Mt mr c S ∧ ∀ k, Mt mr k S → k ≤ c
theorem mx_unique {c c' : Nat} (h1 : IsMx mr S c) (h2 : IsMx mr S c') : c = c' := Nat.le_antisymm (h2.2 c h1.1) (h1.2 c' h2.1)
/-- how far the best is looked for -/
def Bst (mr : Nat → Nat → Bool) (S a o best : Nat) : Prop := Mt mr best S ∧ (∀ k, Mt mr k (rmv S a) → k ≤ best) ∧ ∀ b, b < o → b ≠ a → S.testBit b = true → mr a b = true → ∀ k, Mt mr k (rmv (rmv S a) b) → k + 1 ≤ best
theorem bst_end (hsy : ∀ a b, mr a b = mr b a) {best : Nat} (ha : S.testBit a = true) (ho : ∀ b, S.testBit b = true → b < o ∨ b = a) (hb : Bst mr S a o best) : IsMx mr S best := by
  refine ⟨hb.1, fun k hk => ?_⟩
  rcases Mt_split hsy k S a ha hk with h1 | ⟨b, k', h1, h2, h3, h4, h5⟩
  · exact hb.2.1 k h1
  · subst h1
    rcases ho b h3 with h6 | h6
    · exact hb.2.2 b h6 h2 h3 h4 k' h5
    · exact absurd h6 h2
def mrB (K : Nat → Nat → Int) (yr : Int) (a b : Nat) : Bool := decide (K 1 b ≤ carZ K yr a false) && decide (K 1 a ≤ carZ K yr b false)
theorem mrB_sy (a b : Nat) : mrB K yr a b = mrB K yr b a := by unfold mrB; exact Bool.and_comm _ _
theorem marB_z (hK : TnOk K n) (hy : 0 ≤ yr ∧ yr ≤ 1200) (ha : a < n) (hb : b < n) : marB (zI (carZ K yr a false)) (zI (K 1 b)) (zI (carZ K yr b false)) (zI (K 1 a)) = mrB K yr a b := by
  have h1 := car_b (top := false) hK ha hy
  have h2 := car_b (top := false) hK hb hy
  have h3 := (hK.2.1 a ha).2.1
  have h4 := (hK.2.1 b hb).2.1
  unfold marB mrB
  have e1 : (zI (carZ K yr a false) < zI (K 1 b)) = (carZ K yr a false < K 1 b) := zI_lt (by omega) (by omega) (by omega) (by omega)
  have e2 : (zI (carZ K yr b false) < zI (K 1 a)) = (carZ K yr b false < K 1 a) := zI_lt (by omega) (by omega) (by omega) (by omega)
  congr 1
  · rw [show (!decide (zI (carZ K yr a false) < zI (K 1 b))) = decide (¬ zI (carZ K yr a false) < zI (K 1 b)) from decide_not.symm]
    refine decide_eq_decide.mpr ?_
    rw [e1]; omega
  · rw [show (!decide (zI (carZ K yr b false) < zI (K 1 a))) = decide (¬ zI (carZ K yr b false) < zI (K 1 a)) from decide_not.symm]
    refine decide_eq_decide.mpr ?_
    rw [e2]; omega
theorem bst_step {best c : Nat} (hon : o ≠ a) (ho : S.testBit o = true) (ha : S.testBit a = true) (hm : mr a o = true) (hc : IsMx mr (rmv (rmv S a) o) c) (hb : Bst mr S a o best) : Bst mr S a (o + 1) (max best (1 + c)) := by
  obtain ⟨h1, h2, h3⟩ := hb
  refine ⟨?_, fun k hk => Nat.le_trans (h2 k hk) (Nat.le_max_left _ _), fun b hb hba hS hmb k hk => ?_⟩
  · by_cases e : best ≤ 1 + c
    · rw [Nat.max_eq_right e, Nat.add_comm]
      exact ⟨a, o, fun q => hon q.symm, ha, ho, hm, hc.1⟩
    · rw [Nat.max_eq_left (by omega)]; exact h1
  · by_cases e : b = o
    · subst e
      have := hc.2 k hk
      omega
    · have := h3 b (by omega) hba hS hmb k hk
      omega
theorem bst_no {best : Nat} (hn : S.testBit o = false ∨ mr a o = false) (hb : Bst mr S a o best) : Bst mr S a (o + 1) best := by
  obtain ⟨h1, h2, h3⟩ := hb
  refine ⟨h1, h2, fun b hb hba hS hmb k hk => ?_⟩
  by_cases e : b = o
  · subst e
    rcases hn with hn | hn
    · rw [hn] at hS; exact absurd hS (by decide)
    · rw [hn] at hmb; exact absurd hmb (by decide)
  · exact h3 b (by omega) hba hS hmb k hk
theorem or_add (h : S < 2 ^ t) : S ||| 2 ^ t = 2 ^ t + S := by
  have := Nat.two_pow_add_eq_or_of_lt h 1
  rw [Nat.mul_one] at this
  rw [Nat.or_comm]
  exact this.symm
theorem rmv_or {r : Nat} (hr : r < 2 ^ t) : rmv (r ||| 2 ^ t) t = r := Nat.eq_of_testBit_eq (fun i => by
  rw [rmv_bit, Nat.testBit_or, Nat.testBit_two_pow]
  by_cases e : t = i
  · subst e
    rw [Nat.testBit_lt_two_pow hr, decide_eq_true rfl]; rfl
  · rw [decide_eq_false e]; simp)
theorem Bst_0 (hc : IsMx mr (rmv S a) k) : Bst mr S a 0 k := ⟨Mt_mono k _ _ (fun i hi => by rw [rmv_bit, Bool.and_eq_true] at hi; exact hi.1) hc.1, hc.2, fun b hb => absurd hb (Nat.not_lt_zero b)⟩
theorem c_27 {r : Nat} (hG : Geo G SL p q) (hT : CTn F A K n) (hW : CTw 27 F A n h ord ml wd ln yr) (ht : t < n) (hr : r < 2 ^ t) (hA : ∀ S, S < 2 ^ t → ∃ c : Nat, c ≤ t ∧ A 65 S = zI (c : Int) ∧ IsMx (mrB K yr) S c) (hQ : ∀ c : Nat, c ≤ t + 1 → IsMx (mrB K yr) (r ||| 2 ^ t) c → Q (.inl (some (.int (zI (c : Int))))) (F, A, J, G)) : X (d + 3) 27 0 [.ref 61, .int (zI (r : Int)), .int (zI (t : Int)), .null, .null] [] (F, A, J, G) Q := by
  have h10' := hT.1.1
  have hy := hW.1.2.2.2.2
  have ht10 : 2 ^ t ≤ 512 := Nat.pow_le_pow_right (n := 2) (j := 9) (by decide) (by omega)
  obtain ⟨c0, hc0, ha0, hm0⟩ := hA r hr
  have hbt : (r ||| 2 ^ t).testBit t = true := by rw [Nat.testBit_or, Nat.testBit_two_pow, decide_eq_true rfl, Bool.or_true]
  refine t_27_0 hG ⟨zN_in (by omega) (by decide), ?_⟩
  rw [zI_clamp (n := r) (by omega), ha0]
  refine up_ind (h := t) (P := fun o => ∀ best : Nat, best ≤ t + 1 → Bst (mrB K yr) (r ||| 2 ^ t) t o best → X (d + 3) 27 10 [.ref 61, .int (zI (r : Int)), .int (zI (t : Int)), .int (zI (best : Int)), .int (zI (o : Int))] [] (F, A, J, G) Q) ?_ ?_ c0 (by omega) (Bst_0 (by rw [rmv_or hr]; exact hm0))
  · intro best hb hB
    refine t_27_10 hG ⟨fun e => ?_, fun _ => hQ best hb (bst_end mrB_sy hbt (fun b hb2 => ?_) hB)⟩
    · rw [zN_lt (by omega) (by omega)] at e
      omega
    · rw [Nat.testBit_or, Nat.testBit_two_pow, Bool.or_eq_true] at hb2
      rcases hb2 with hb2 | hb2
      · refine Or.inl (Nat.lt_of_not_le (fun q => ?_))
        rw [Nat.testBit_lt_two_pow (Nat.lt_of_lt_of_le hr (Nat.pow_le_pow_right (by decide) q))] at hb2
        exact absurd hb2 (by decide)
      · exact Or.inr (by have h9 : t = b := by simpa using hb2
                         exact h9.symm)
  · intro o ho ih best hb hB
    have hSo : (r ||| 2 ^ t).testBit o = r.testBit o := by
      rw [Nat.testBit_or, Nat.testBit_two_pow, decide_eq_false (by omega), Bool.or_false]
    refine t_27_10 hG ⟨fun _ => ?_, fun e => ?_⟩
    · rw [shr_0 (by omega) (by omega), zI_clamp (n := o) (by omega), zI_clamp (n := t) (by omega), hT.2.2.2.2.1 _ ht, hT.2.2.2.2.1 o (by omega), hT.2.2.2.2.2.1 _ ht, hT.2.2.2.2.2.1 o (by omega), hT.2.2.2.2.2.2.1 _ ht, hT.2.2.2.2.2.2.1 o (by omega), hW.2.2.1, car_z0 hT.1 ht hy, car_z0 hT.1 (show o < n by omega) hy, marB_z hT.1 hy ht (show o < n by omega), shl_z o (by omega), zN_andn, zN_1]
      refine ⟨fun e => ih best hb (bst_no (Or.inl (by rw [hSo]; exact e)) hB), fun e => ⟨zN_in (by omega) (by decide), zN_in (by omega) (by decide), fun e2 => ?_, fun e2 => ih best hb (bst_no (Or.inr e2) hB)⟩⟩
      have hro : rmv r o < 2 ^ t := Nat.lt_of_le_of_lt (rmv_le r o) hr
      obtain ⟨c1, hc1, ha1, hm1⟩ := hA (rmv r o) hro
      have hx : r ^^^ (r &&& 2 ^ o) = rmv r o := rfl
      rw [hx, zI_clamp (n := rmv r o) (by omega), ha1, z1, zI_add, zI_jmax (by omega) (by omega) (by omega) (by omega), show max (best : Int) (1 + (c1 : Int)) = ((max best (1 + c1) : Nat) : Int) by omega]
      refine ⟨zN_in (by omega) (by decide), ih _ (by omega) (bst_step (by omega) (by rw [hSo]; simpa using e) hbt e2 ?_ hB)⟩
      rw [rmv_or hr]; exact hm1
    · rw [zN_lt (by omega) (by omega)] at e
      omega
theorem c_26 (hG : Geo G SL p q) (hT : CTn F A K n) (hW : CTw 27 F A n h ord ml wd ln yr) (hQ : ∀ A' (c : Nat), (∀ i, i ≠ 65 → A' i = A i) → c ≤ 10 → IsMx (mrB K yr) (2 ^ n - 1) c → Q (.inl (some (.int (zI (c : Int))))) (F, A', J, G)) : X (d + 4) 26 0 [.ref 61, .null, .null, .null] [] (F, A, J, G) Q := by
  have h10' := hT.1.1
  have hn2 : 2 ^ n ≤ 1024 := Nat.pow_le_pow_right (n := 2) (by decide) h10'
  have fr : ∀ A1, (∀ i, i ≠ 65 → A1 i = A i) → CTn F A1 K n ∧ CTw 27 F A1 n h ord ml wd ln yr := fun A1 hA1 => by
    constructor
    · unfold CTn at hT ⊢
      rw [hA1 13 (by decide), hA1 14 (by decide), hA1 15 (by decide), hA1 17 (by decide)]; exact hT
    · unfold CTw at hW ⊢
      rw [hA1 (27 + 1) (by decide), hA1 (27 + 2) (by decide), hA1 (27 + 3) (by decide), hA1 (27 + 4) (by decide)]; exact hW
  have h0 : IsMx (mrB K yr) 0 0 := ⟨trivial, fun k hk => by
    cases k with
    | zero => exact Nat.le_refl _
    | succ k => obtain ⟨a, b, -, h2, -⟩ := hk; rw [Nat.zero_testBit] at h2; exact absurd h2 (by decide)⟩
  refine t_26_0 hG ?_
  refine up_ind (h := n) (P := fun t => ∀ A1 v2 v3, (∀ i, i ≠ 65 → A1 i = A i) → (∀ S, S < 2 ^ t → ∃ c : Nat, c ≤ t ∧ A1 65 S = zI (c : Int) ∧ IsMx (mrB K yr) S c) → X (d + 4) 26 9 [.ref 61, .int (zI (t : Int)), v2, v3] [] (F, A1, J, G) Q) ?_ ?_ _ .null .null (fun i hi => wF_row hi) (fun S hS => ⟨0, Nat.le_refl _, ?_, ?_⟩)
  · intro A1 v2 v3 hA1 hI
    have h1 : 0 < 2 ^ n := Nat.two_pow_pos n
    obtain ⟨c, hc, hca, hcm⟩ := hI (2 ^ n - 1) (by omega)
    refine t_26_9 hG ⟨fun e => ?_, fun _ => ?_⟩
    · rw [hT.2.1, zN_lt (by omega) (by omega)] at e
      omega
    · rw [hT.2.1, shl_z n (by omega), zZ_s1, show ((2 ^ n : Nat) : Int) - 1 = ((2 ^ n - 1 : Nat) : Int) by omega, zI_clamp (by omega), hca]
      exact ⟨zN_in (by omega) (by decide), hQ A1 c hA1 (by omega) hcm⟩
  · intro t ht ih A1 v2 v3 hA1 hI
    have ht2 : 2 ^ t ≤ 512 := Nat.pow_le_pow_right (n := 2) (j := 9) (by decide) (by omega)
    refine t_26_9 hG ⟨fun _ => ?_, fun e => ?_⟩
    · rw [shl_z t (by omega)]
      refine up_ind (h := 2 ^ t) (P := fun r => ∀ A1, (∀ i, i ≠ 65 → A1 i = A i) → (∀ S, S < 2 ^ t → ∃ c : Nat, c ≤ t ∧ A1 65 S = zI (c : Int) ∧ IsMx (mrB K yr) S c) → (∀ S, S < r → ∃ c : Nat, c ≤ t + 1 ∧ A1 65 (S ||| 2 ^ t) = zI (c : Int) ∧ IsMx (mrB K yr) (S ||| 2 ^ t) c) → X (d + 4) 26 26 [.ref 61, .int (zI (t : Int)), .int (zI ((2 ^ t : Nat) : Int)), .int (zI (r : Int))] [] (F, A1, J, G) Q) ?_ ?_ A1 hA1 hI (fun S hS => absurd hS (Nat.not_lt_zero S))
      · intro A1 hA1 hI hI2
        refine t_26_26 hG ⟨fun e => ?_, fun _ => ?_⟩
        · rw [zN_lt (by omega) (by omega)] at e
          omega
        · rw [zN_1]
          refine ih A1 _ _ hA1 (fun S hS => ?_)
          rw [Nat.pow_succ] at hS
          by_cases e : S < 2 ^ t
          · obtain ⟨c, h1, h2, h3⟩ := hI S e
            exact ⟨c, by omega, h2, h3⟩
          · obtain ⟨c, h1, h2, h3⟩ := hI2 (S - 2 ^ t) (by omega)
            have hs : (S - 2 ^ t) ||| 2 ^ t = S := by
              rw [or_add (show S - 2 ^ t < 2 ^ t by omega)]
              omega
            rw [hs] at h2 h3
            exact ⟨c, h1, h2, h3⟩
      · intro r hr ih2 A1 hA1 hI hI2
        have hro : r ||| 2 ^ t < 1024 := Nat.or_lt_two_pow (n := 10) (by omega) (by omega)
        refine t_26_26 hG ⟨fun _ => ?_, fun e => ?_⟩
        · rw [zN_or]
          refine c_27 hG (fr A1 hA1).1 (fr A1 hA1).2 ht hr hI (fun c hc hm => k_26_44 hG ?_)
          rw [zI_clamp (n := r ||| 2 ^ t) (by omega), zN_1]
          have hor : ∀ S, S < 2 ^ t → S ||| 2 ^ t = 2 ^ t + S := fun S hS => or_add hS
          refine ⟨zN_in hro (by decide), ih2 _ (fun i hi => by rw [wF_row hi]; exact hA1 i hi) (fun S hS => ?_) (fun S hS => ?_)⟩
          · rw [wF_at, if_neg (fun q => by rw [hor r hr] at q; omega)]; exact hI S hS
          · rw [wF_at]
            by_cases e : S = r
            · subst e
              rw [if_pos ⟨rfl, rfl⟩]; exact ⟨c, hc, rfl, hm⟩
            · rw [if_neg (fun q => by rw [hor r hr, hor S (by omega)] at q; omega)]; exact hI2 S (by omega)
        · rw [zN_lt (by omega) (by omega)] at e
          omega
    · rw [hT.2.1, zN_lt (by omega) (by omega)] at e
      omega
  · have : S = 0 := by simp at hS; exact hS
    subst this
    rw [wF_same]; rfl
  · have : S = 0 := by simp at hS; exact hS
    subst this
    exact h0
theorem m_260 (hG : Geo G SL p q) (hT : MTn F A K n) (hW : MTw F A n h ord ml wd ln yr) : ∀ (j : Nat) (d S : Nat) (Q : pR → pM → Prop), j ≤ n → S < 2 ^ n → (∀ i, i < n - j → S.testBit i = false) → (∀ c : Nat, c ≤ j → IsMx (mrB K yr) S c → Q (.inl (some (.int (zI (c : Int))))) (F, A, J, G)) → X (d + 3 + j) 260 0 [.ref 68, .int (zI (S : Int)), .null, .null, .null, .null] [] (F, A, J, G) Q
  | 0, d, S, Q, hj, hS, hb, hQ => by
    have h10' := hT.1.1
    have hn2 : 2 ^ n ≤ 1024 := Nat.pow_le_pow_right (n := 2) (by decide) h10'
    have h0 : S = 0 := Nat.eq_of_testBit_eq (fun i => by
      rw [Nat.zero_testBit]
      by_cases e : i < n
      · exact hb i (by omega)
      · exact Nat.testBit_lt_two_pow (Nat.lt_of_lt_of_le hS (Nat.pow_le_pow_right (by decide) (by omega))))
    subst h0
    have hm : IsMx (mrB K yr) 0 0 := ⟨trivial, fun k hk => by
      cases k with
      | zero => exact Nat.le_refl _
      | succ k => obtain ⟨a, b, -, h2, -⟩ := hk; rw [Nat.zero_testBit] at h2; exact absurd h2 (by decide)⟩
    refine t_260_0 hG ?_
    refine up_ind (h := n) (P := fun a => X (d + 3) 260 2 [.ref 68, .int (zI ((0 : Nat) : Int)), .int (zI (a : Int)), .null, .null, .null] [] (F, A, J, G) Q) ?_ ?_
    · refine t_260_2 hG ⟨fun e => ?_, fun _ => ⟨fun _ => hQ 0 (Nat.le_refl _) hm, fun e => ?_⟩⟩
      · rw [hT.2.2.1, zN_lt (by omega) (by omega)] at e; omega
      · rw [hT.2.2.1] at e; exact absurd rfl e
    · intro a ha ih
      refine t_260_2 hG ⟨fun _ => ⟨fun e => ?_, fun _ => by rw [zN_1]; exact ih⟩, fun e => ?_⟩
      · rw [isO_z (by decide) (by omega), Nat.zero_testBit] at e; exact absurd e (by decide)
      · rw [hT.2.2.1, zN_lt (by omega) (by omega)] at e; omega
  | j + 1, d, S, Q, hj, hS, hb, hQ => by
    have h10' := hT.1.1
    have hy := hW.1.2.2.2.2
    have hn2 : 2 ^ n ≤ 1024 := Nat.pow_le_pow_right (n := 2) (by decide) h10'
    have hd : d + 3 + (j + 1) = (d + 1 + j) + 3 := by omega
    have hd2 : d + 3 + j = (d + 1 + j) + 2 := by omega
    have rec1 := m_260 hG hT hW j d
    rw [hd2] at rec1
    rw [hd]
    refine t_260_0 hG ?_
    -- the lowest
    have search : ∀ m a, a + m = n → (∀ i, i < a → S.testBit i = false) → X ((d + 1 + j) + 3) 260 2 [.ref 68, .int (zI (S : Int)), .int (zI (a : Int)), .null, .null, .null] [] (F, A, J, G) Q := by
      intro m
      induction m with
      | zero =>
        intro a ha hlow
        have h0 : S = 0 := Nat.eq_of_testBit_eq (fun i => by
          rw [Nat.zero_testBit]
          by_cases e : i < n
          · exact hlow i (by omega)
          · exact Nat.testBit_lt_two_pow (Nat.lt_of_lt_of_le hS (Nat.pow_le_pow_right (by decide) (by omega))))
        have hm : IsMx (mrB K yr) S 0 := ⟨trivial, fun k hk => by
          cases k with
          | zero => exact Nat.le_refl _
          | succ k => obtain ⟨a, b, -, h2, -⟩ := hk; rw [h0, Nat.zero_testBit] at h2; exact absurd h2 (by decide)⟩
        refine t_260_2 hG ⟨fun e => ?_, fun _ => ⟨fun _ => hQ 0 (Nat.zero_le _) hm, fun e => ?_⟩⟩
        · rw [hT.2.2.1, zN_lt (by omega) (by omega)] at e; omega
        · rw [hT.2.2.1, zN_eq (by omega) (by omega)] at e; omega
      | succ m ih =>
        intro a ha hlow
        refine t_260_2 hG ⟨fun _ => ?_, fun e => ?_⟩
        · rw [isO_z (by omega) (by omega), hT.2.2.1, zN_eq (by omega) (by omega), shl_z a (by omega), zN_andn, zN_1]
          refine ⟨fun e => ⟨fun e2 => by omega, fun _ => ?_⟩, fun e => ih (a + 1) (by omega) (fun i hi => ?_)⟩
          · have haj : n - (j + 1) ≤ a := Nat.le_of_not_lt (fun q => by rw [hb a q] at e; exact absurd e (by decide))
            have hx : S ^^^ (S &&& 2 ^ a) = rmv S a := rfl
            rw [hx]
            have hrs : rmv S a < 2 ^ n := Nat.lt_of_le_of_lt (rmv_le S a) hS
            have hrb : ∀ i, i < n - j → (rmv S a).testBit i = false := fun i hi => by
              rw [rmv_bit]
              by_cases e1 : a = i
              · rw [decide_eq_true e1, Bool.not_true, Bool.and_false]
              · rw [hlow i (by omega)]; rfl
            refine rec1 (rmv S a) _ (by omega) hrs hrb (fun c0 hc0 hm0 => k_260_51 hG ?_)
            rw [zN_1]
            refine up_indF (a := a + 1) (h := n) (P := fun o => ∀ best : Nat, best ≤ j + 1 → Bst (mrB K yr) S a o best → X ((d + 1 + j) + 3) 260 58 [.ref 68, .int (zI (S : Int)), .int (zI (a : Int)), .int (zI ((rmv S a : Nat) : Int)), .int (zI (best : Int)), .int (zI (o : Int))] [] (F, A, J, G) Q) (by omega) ?_ ?_ c0 (by omega) ?_
            · intro best hbb hB
              refine t_260_58 hG ⟨fun e2 => ?_, fun _ => hQ best hbb (bst_end mrB_sy e (fun b hb2 => Or.inl (Nat.lt_of_not_le (fun q => ?_))) hB)⟩
              · rw [hT.2.2.1, zN_lt (by omega) (by omega)] at e2; omega
              · rw [Nat.testBit_lt_two_pow (Nat.lt_of_lt_of_le hS (Nat.pow_le_pow_right (by decide) q))] at hb2
                exact absurd hb2 (by decide)
            · intro o hao ho ih3 best hbb hB
              have hso : (rmv S a).testBit o = S.testBit o := by rw [rmv_bit, decide_eq_false (by omega), Bool.not_false, Bool.and_true]
              have ka := (hT.1.2.1 a (by omega)).1
              have ko := (hT.1.2.1 o ho).1
              refine t_260_58 hG ⟨fun _ => ?_, fun e2 => ?_⟩
              · rw [isO_z (by omega) (by omega), hso, zI_clamp (n := o) (by omega), zI_clamp (n := a) (by omega), hT.2.2.2.2.2.1 a (by omega), hT.2.2.2.2.2.1 o ho, hT.2.2.2.2.2.2.1 a (by omega), hT.2.2.2.2.2.2.1 o ho, hT.2.2.2.2.2.2.2.1 a (by omega), hT.2.2.2.2.2.2.2.1 o ho, hW.2.2.1, car_z0 hT.1 (show a < n by omega) hy, car_z0 hT.1 ho hy, marB_z hT.1 hy (show a < n by omega) ho, shl_z o (by omega), zN_andn, zN_1]
                refine ⟨fun e3 => ⟨zN_in (by omega) (by decide), zN_in (by omega) (by decide), by rw [zI_inB (by omega) (by omega)]; omega, by rw [zI_inB (by omega) (by omega)]; omega, hT.2.1, fun e4 => ?_, fun e4 => ih3 best hbb (bst_no (Or.inr e4) hB)⟩, fun e3 => ih3 best hbb (bst_no (Or.inl e3) hB)⟩
                have hx2 : rmv S a ^^^ (rmv S a &&& 2 ^ o) = rmv (rmv S a) o := rfl
                rw [hx2]
                refine rec1 (rmv (rmv S a) o) _ (by omega) (Nat.lt_of_le_of_lt (rmv_le _ o) hrs) (fun i hi => by rw [rmv_bit, hrb i hi]; rfl) (fun c1 hc1 hm1 => k_260_103 hG ?_)
                rw [z1, zI_add, zI_jmax (by omega) (by omega) (by omega) (by omega), show max (best : Int) (1 + (c1 : Int)) = ((max best (1 + c1) : Nat) : Int) by omega, ← z1, zN_1]
                exact ih3 _ (by omega) (bst_step (by omega) e3 e e4 hm1 hB)
              · rw [hT.2.2.1, zN_lt (by omega) (by omega)] at e2; omega
            · have hB0 := Bst_0 (S := S) (a := a) hm0
              refine ⟨hB0.1, hB0.2.1, fun b hb1 hb2 hb3 => ?_⟩
              rw [hlow b (by omega)] at hb3
              exact absurd hb3 (by decide)
          · by_cases e1 : i = a
            · rw [e1]; exact e
            · exact hlow i (by omega)
        · rw [hT.2.2.1, zN_lt (by omega) (by omega)] at e; omega
    exact search n 0 (by omega) (fun i hi => absurd hi (Nat.not_lt_zero i))
theorem m_261 (hG : Geo G SL p q) (hT : MTn F A K n) (hW : MTw F A n h ord ml wd ln yr) (hd : n ≤ d) (hQ : ∀ c : Nat, c ≤ 10 → IsMx (mrB K yr) (2 ^ n - 1) c → Q (.inl (some (.int (zI (c : Int))))) (wF F 68 3 0, A, J, G)) : X (d + 4) 261 0 [.ref 68] [] (F, A, J, G) Q := by
  have h10' := hT.1.1
  have h1 : 0 < 2 ^ n := Nat.two_pow_pos n
  have hW0 : MTw (wF F 68 3 0) A n h ord ml wd ln yr := by rw [MTw_code]; exact hW
  have hT0 : MTn (wF F 68 3 0) A K n := hT
  refine t_261_0 hG ?_
  rw [hT.2.2.1, shl_z n (by omega), zZ_s1, show ((2 ^ n : Nat) : Int) - 1 = ((2 ^ n - 1 : Nat) : Int) by omega]
  have := m_260 (J := J) hG hT0 hW0 n (d - n) (2 ^ n - 1) (KK (d + 4) 261 19 [.ref 68] [] Q) (Nat.le_refl _) (by omega) (fun i hi => by omega) (fun c hc hm => k_261_19 hG (hQ c (by omega) hm))
  rw [show d - n + 3 + n = d + 3 by omega] at this
  exact this
end MarryZ
