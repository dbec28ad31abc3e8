/-! orders: the class -/
section CWaysZ
variable {d : Nat} {F A F' A' : Nat → Nat → Int32} {J : Nat → Nat → Int64} {G : pG} {Q : pR → pM → Prop} {SL p q : Nat} {K : Nat → Nat → Int} {n h S b t : Nat} {ord : Nat → Nat} {ml wd ln : Nat → Int} {yr : Int} {li se : Nat}
/-- the sums of all sets -/
def Sms (A : Nat → Nat → Int32) (a : Nat) (K : Nat → Nat → Int) (n : Nat) (ml wd ln : Nat → Int) : Prop := (∀ S, S < 2 ^ n → A a S = zI (smS (wtF K ml) S n)) ∧ (∀ S, S < 2 ^ n → A (a + 1) S = zI (smS (trnZ K ln wd) S n))
theorem bit_lt {r : Nat} (hr : r < 2 ^ t) : r.testBit t = false := Nat.testBit_lt_two_pow hr
theorem c_22 (hG : Geo G SL p q) (hT : CTn F A K n) (hW : CTw 27 F A n h ord ml wd ln yr) (h63 : A 63 0 = 0) (h64 : A 64 0 = 0) (hQ : ∀ A', (∀ i, i ≠ 63 → i ≠ 64 → A' i = A i) → Sms A' 63 K n ml wd ln → Q (.inl none) (F, A', J, G)) : X (d + 2) 22 0 [.ref 61, .null, .null, .null, .null] [] (F, A, J, G) Q := by
  have h10' := hT.1.1
  have hn2 : 2 ^ n ≤ 1024 := Nat.pow_le_pow_right (n := 2) (by decide) h10'
  refine t_22_0 hG ?_
  refine up_ind (h := n) (P := fun t => ∀ A1 v3 v4, (∀ i, i ≠ 63 → i ≠ 64 → A1 i = A i) → (∀ S, S < 2 ^ t → A1 63 S = zI (smS (wtF K ml) S n)) → (∀ S, S < 2 ^ t → A1 64 S = zI (smS (trnZ K ln wd) S n)) → X (d + 2) 22 10 [.ref 61, .ref 27, .int (zI (t : Int)), v3, v4] [] (F, A1, J, G) Q) ?_ ?_ A .null .null (fun _ _ _ => rfl) (fun S hS => ?_) (fun S hS => ?_)
  · intro A1 v3 v4 hA h1 h2
    refine t_22_10 hG ⟨fun e => ?_, fun _ => hQ A1 hA ⟨h1, h2⟩⟩
    rw [hT.2.1, zN_lt (by omega) (by omega)] at e
    omega
  · intro t ht ih A1 v3 v4 hA h1 h2
    have ht2 : 2 ^ t ≤ 512 := Nat.pow_le_pow_right (n := 2) (j := 9) (by decide) (by omega)
    refine t_22_10 hG ⟨fun _ => ?_, fun e => ?_⟩
    · rw [shl_z t (by omega)]
      refine up_ind (h := 2 ^ t) (P := fun r => ∀ A1, (∀ i, i ≠ 63 → i ≠ 64 → A1 i = A i) → (∀ S, (S < 2 ^ t ∨ (2 ^ t ≤ S ∧ S < 2 ^ t + r)) → A1 63 S = zI (smS (wtF K ml) S n)) → (∀ S, (S < 2 ^ t ∨ (2 ^ t ≤ S ∧ S < 2 ^ t + r)) → A1 64 S = zI (smS (trnZ K ln wd) S n)) → X (d + 2) 22 28 [.ref 61, .ref 27, .int (zI (t : Int)), .int (zI ((2 ^ t : Nat) : Int)), .int (zI (r : Int))] [] (F, A1, J, G) Q) ?_ ?_ A1 hA (fun S hS => h1 S (by omega)) (fun S hS => h2 S (by omega))
      · intro A1 hA h1 h2
        refine t_22_28 hG ⟨fun e => ?_, fun _ => ?_⟩
        · rw [zN_lt (by omega) (by omega)] at e
          omega
        · rw [zN_1]
          refine ih A1 _ _ hA (fun S hS => h1 S ?_) (fun S hS => h2 S ?_)
          · rw [Nat.pow_succ] at hS; omega
          · rw [Nat.pow_succ] at hS; omega
      · intro r hr ih2 A1 hA h1 h2
        have hor := or_add (S := r) hr
        have hbf := bit_lt hr
        have a14 : A1 14 t = zI (K 1 t) := by rw [hA 14 (by decide) (by decide)]; exact hT.2.2.2.2.2.1 t ht
        have a13 : A1 13 t = zI (K 0 t) := by rw [hA 13 (by decide) (by decide)]; exact hT.2.2.2.2.1 t ht
        have a29 : A1 29 t = zI (ml t) := by rw [hA 29 (by decide) (by decide)]; exact hW.2.2.2.2.1 t ht
        have a30 : A1 30 t = zI (wd t) := by rw [hA 30 (by decide) (by decide)]; exact hW.2.2.2.2.2.1 t ht
        have a31 : A1 31 t = zI (ln t) := by rw [hA 31 (by decide) (by decide)]; exact hW.2.2.2.2.2.2 t ht
        refine t_22_28 hG ⟨fun _ => ?_, fun e => ?_⟩
        · rw [zN_or, zI_clamp (n := r) (by omega), zI_clamp (n := t) (by omega), zI_clamp (n := r ||| 2 ^ t) (by omega), h1 r (by omega), h2 r (by omega), a14, a13, a29, a30, a31, trn_z hT.1 ht, zI_add, zI_add, zI_add, zN_1]
          have e1 : smS (wtF K ml) r n + K 1 t + ml t = smS (wtF K ml) (r ||| 2 ^ t) n := by rw [smS_or hbf ht]; unfold wtF; omega
          have e2 : smS (trnZ K ln wd) r n + trnZ K ln wd t = smS (trnZ K ln wd) (r ||| 2 ^ t) n := by rw [smS_or hbf ht]
          rw [e1, e2]
          refine ⟨zN_in (by omega) (by decide), zN_in (by omega) (by decide), zN_in (by omega) (by decide), ih2 _ (fun i g1 g2 => by rw [wF_row g2, wF_row g1]; exact hA i g1 g2) (fun S hS => ?_) (fun S hS => ?_)⟩
          · rw [wF_row (by decide), wF_at]
            by_cases e : S = r ||| 2 ^ t
            · rw [if_pos ⟨rfl, e⟩, e]
            · rw [if_neg (fun q => e q.2)]; exact h1 S (by omega)
          · rw [wF_at]
            by_cases e : S = r ||| 2 ^ t
            · rw [if_pos ⟨rfl, e⟩, e]
            · rw [if_neg (fun q => e q.2), wF_row (by decide)]; exact h2 S (by omega)
        · rw [zN_lt (by omega) (by omega)] at e
          omega
    · rw [hT.2.1, zN_lt (by omega) (by omega)] at e
      omega
  · have : S = 0 := by simp at hS; exact hS
    rw [this, smS_0]; exact h63
  · have : S = 0 := by simp at hS; exact hS
    rw [this, smS_0]; exact h64
theorem andn_sub {w : Nat} (hw : ∀ i, w.testBit i = true → S.testBit i = true) : S ^^^ (S &&& w) = 0 ↔ w = S := by
  rw [nx_zero]
  constructor
  · intro h1
    rw [h1]
    exact Nat.eq_of_testBit_eq (fun i => by
      have := hw i
      rw [Nat.testBit_and]
      cases ha : w.testBit i <;> cases hb : S.testBit i
      · rfl
      · have h2 : S.testBit i = (S &&& w).testBit i := by rw [← h1]
        rw [Nat.testBit_and, ha, hb] at h2
        exact absurd h2 (by decide)
      · rw [ha, hb] at this; exact absurd (this rfl) (by decide)
      · rfl)
  · intro h1; rw [h1, Nat.and_self]
theorem li_bit (hl : li < 1024) (ht : t < 10) : (zI (li : Int) &&& zI ((2 ^ t : Nat) : Int) = 0) = (li.testBit t = false) := by
  have hb : li &&& 2 ^ t < 1024 := Nat.lt_of_le_of_lt Nat.and_le_left hl
  rw [zN_and, zI_eq0 (by omega)]
  refine propext ⟨fun q => ?_, fun q => ?_⟩
  · have h0 : li &&& 2 ^ t = 0 := by omega
    have h1 : (li &&& 2 ^ t).testBit t = false := by rw [h0, Nat.zero_testBit]
    rw [Nat.testBit_and, Nat.testBit_two_pow, decide_eq_true rfl, Bool.and_true] at h1
    exact h1
  · have h0 : li &&& 2 ^ t = 0 := Nat.eq_of_testBit_eq (fun i => by
      rw [Nat.testBit_and, Nat.testBit_two_pow, Nat.zero_testBit]
      by_cases e : t = i
      · subst e; rw [q]; rfl
      · rw [decide_eq_false e, Bool.and_false])
    rw [h0]; rfl
/-- the class's fields for one set -/
def CSt3 (F : Nat → Nat → Int32) (S li se : Nat) : Prop := F 61 7 = zI (S : Int) ∧ F 61 8 = zI (li : Int) ∧ F 61 9 = zI (se : Int)
theorem c_25 {w0 : Nat} (hG : Geo G SL p q) (hT : CTn F A K n) (hW : CTw 27 F A n h ord ml wd ln yr) (hM : Sms A 63 K n ml wd ln) (h3 : CSt3 F S li se) (hS : S < 2 ^ n) (hb : b &&& S = b) (hl : li < 1024) (hse : se ≤ 10) (hf : frB S b t = true) (ht : t < n) (hw0 : A 65 (b ||| 2 ^ t) = zI (w0 : Int)) (hwb : w0 ≤ 3628800) (hQ : Q (.inl (some (.int (zI ((if ftB K n ml wd ln yr li se S b t = true then w0 else 0 : Nat) : Int))))) (F, A, J, G)) : X (d + 2) 25 0 [.ref 61, .int (zI (b : Int)), .int (zI (t : Int)), .null, .null, .null, .null] [] (F, A, J, G) Q := by
  have h10' := hT.1.1
  have hn2 : 2 ^ n ≤ 1024 := Nat.pow_le_pow_right (n := 2) (by decide) h10'
  have hy := hW.1.2.2.2.2
  have h40 := hT.1.2.2.1
  have hor := sub_or hb hf
  have horS : b ||| 2 ^ t ≤ S := by rw [← hor]; exact Nat.and_le_right
  have hbS : b ≤ S := by rw [← hb]; exact Nat.and_le_right
  have hsub : ∀ i, (b ||| 2 ^ t).testBit i = true → S.testBit i = true := fun i hi => by rw [← hor, Nat.testBit_and, Bool.and_eq_true] at hi; exact hi.2
  have hww := smS_sub (f := wtF K ml) (n := n) hsub
  have hab := andn_sub hsub
  have hxl : S ^^^ (S &&& (b ||| 2 ^ t)) ≤ S := rmv_le' S _
  have hwt := wt_b hT.1 hW.1 S
  have hwt2 := wt_b hT.1 hW.1 (b ||| 2 ^ t)
  have hwt3 := wt_b hT.1 hW.1 (S ^^^ (S &&& (b ||| 2 ^ t)))
  have htl := tl_b hT.1 hW.1 (b ||| 2 ^ t)
  have hmt := (hW.1.2.2.2.1 t ht).1
  have hc1 := car_b (top := true) hT.1 ht hy
  have hc0 := car_b (top := false) hT.1 ht hy
  have hpb : pcn b ≤ 10 := by unfold pcn; omega
  have a29 : A 29 t = zI (ml t) := hW.2.2.2.2.1 t ht
  obtain ⟨s7, s8, s9⟩ := h3
  unfold ftB at hQ
  refine t_25_0 hG ?_
  have hpc : (nI (pcn b) < zI (se : Int)) = (pcn b < se) := by rw [zI_nI, zN_lt (by omega) (by omega)]
  rw [shl_z t (by omega), zN_or, zI_clamp (n := b ||| 2 ^ t) (by omega), hw0, hM.2 (b ||| 2 ^ t) (by omega), hT.2.2.1, lim_z (by omega) (by omega) (by omega) (by omega), s7, s8, s9, li_bit hl (by omega), zN_andn, zI_clamp (n := S ^^^ (S &&& (b ||| 2 ^ t))) (by omega), zI_clamp (n := t) (by omega), zI_clamp (n := b) (by omega), hM.1 _ (show S ^^^ (S &&& (b ||| 2 ^ t)) < 2 ^ n by omega), a29, hT.2.2.2.2.1 t ht, hT.2.2.2.2.2.2.1 t ht, hW.2.2.1, car_z1 hT.1 ht hy, car_z0 hT.1 ht hy, zI_add, hpc, zI_eq0 (by omega), zI_eq0 (by omega), zI_lt (by omega) (by omega) (by omega) (by omega), zI_lt (by omega) (by omega) (by omega) (by omega)]
  -- the last questions
  have hgo : (li.testBit t = false ∨ ¬ pcn b < se) → ((smS (trnZ K ln wd) (b ||| 2 ^ t) n).natAbs : Int) ≤ K 4 0 → ((((S ^^^ (S &&& (b ||| 2 ^ t)) : Nat) : Int) = 0 → (carZ K yr t true < smS (wtF K ml) (S ^^^ (S &&& (b ||| 2 ^ t))) n + ml t → Q (.inl (some (.int 0))) (F, A, J, G)) ∧ (¬ carZ K yr t true < smS (wtF K ml) (S ^^^ (S &&& (b ||| 2 ^ t))) n + ml t → Q (.inl (some (.int (zI (w0 : Int))))) (F, A, J, G))) ∧ (¬ ((S ^^^ (S &&& (b ||| 2 ^ t)) : Nat) : Int) = 0 → (carZ K yr t false < smS (wtF K ml) (S ^^^ (S &&& (b ||| 2 ^ t))) n + ml t → Q (.inl (some (.int 0))) (F, A, J, G)) ∧ (¬ carZ K yr t false < smS (wtF K ml) (S ^^^ (S &&& (b ||| 2 ^ t))) n + ml t → Q (.inl (some (.int (zI (w0 : Int))))) (F, A, J, G)))) := by
    intro g1 g2
    have hli : ((!li.testBit t) || decide (se ≤ pcn b)) = true := by
      rcases g1 with g1 | g1
      · rw [g1]; rfl
      · rw [decide_eq_true (show se ≤ pcn b by omega), Bool.or_true]
    rw [hli, decide_eq_true g2, Bool.true_and, Bool.and_true] at hQ
    rw [hww]
    refine ⟨fun e => ?_, fun e => ?_⟩
    · have e' : b ||| 2 ^ t = S := hab.mp (by omega)
      rw [decide_eq_true e'] at hQ
      refine ⟨fun e2 => ?_, fun e2 => ?_⟩
      · rw [decide_eq_false (by omega), if_neg (by decide)] at hQ; exact hQ
      · rw [decide_eq_true (by omega), if_pos rfl] at hQ; exact hQ
    · have e' : ¬ b ||| 2 ^ t = S := fun q => e (by have := hab.mpr q; omega)
      rw [decide_eq_false (p := b ||| 2 ^ t = S) e'] at hQ
      refine ⟨fun e2 => ?_, fun e2 => ?_⟩
      · rw [decide_eq_false (by omega), if_neg (by decide)] at hQ; exact hQ
      · rw [decide_eq_true (by omega), if_pos rfl] at hQ; exact hQ
  refine ⟨zN_in (by omega) (by decide), fun e => ?_, fun e => ⟨fun e2 => ⟨fun e3 => ⟨zN_in (by omega) (by decide), zN_in (by omega) (by decide), hgo (Or.inl e3) (by simpa using e2)⟩, fun e3 => ⟨zN_in (by omega) (by decide), fun e4 => ?_, fun e4 => ⟨zN_in (by omega) (by decide), zN_in (by omega) (by decide), hgo (Or.inr e4) (by simpa using e2)⟩⟩⟩, fun e2 => ?_⟩⟩
  · have : w0 = 0 := by omega
    rw [this, ite_self] at hQ; exact hQ
  · have hli : ((!li.testBit t) || decide (se ≤ pcn b)) = false := by
      rw [decide_eq_false (show ¬ se ≤ pcn b by omega), Bool.or_false]
      simpa using e3
    rw [hli, Bool.false_and, if_neg (by decide)] at hQ; exact hQ
  · rw [e2, Bool.and_false, Bool.and_false, if_neg (by decide)] at hQ; exact hQ
end CWaysZ
