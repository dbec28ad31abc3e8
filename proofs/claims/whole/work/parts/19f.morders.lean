/-! orders: the reference -/
section MOrdersZ
variable {d : Nat} {F A F' A' : Nat → Nat → Int32} {J : Nat → Nat → Int64} {G : pG} {Q : pR → pM → Prop} {SL p q : Nat} {K : Nat → Nat → Int} {n h S b t : Nat} {ord : Nat → Nat} {ml wd ln : Nat → Int} {yr z y : Int} {li se : Nat}
theorem wJ_at (A : Nat → Nat → Int64) (o k o' k' : Nat) (v : Int64) : wJ A o k v o' k' = if o' = o ∧ k' = k then v else A o' k' := by
  by_cases ho : o' = o
  · subst ho
    by_cases hk : k' = k <;> simp [wJ, va_up, hk]
  · simp [wJ, va_up, ho]
def lz (a : Nat) : Int64 := (zI (a : Int)).toInt64
theorem lz_add {a b : Nat} (h : a + b < 2147483648) : lz a + lz b = lz (a + b) := by
  unfold lz
  rw [← Int64.toInt_inj, Int64.toInt_add, Int32.toInt_toInt64, Int32.toInt_toInt64, Int32.toInt_toInt64, zI_toInt (by omega) (by omega), zI_toInt (by omega) (by omega), zI_toInt (by omega) (by omega), Int.bmod_eq_of_le (by omega) (by omega)]
  omega
theorem lz_pos {a : Nat} (h : a < 2147483648) : (0 < lz a) = (0 < a) := by
  unfold lz
  rw [show (0 : Int64) = (zI ((0 : Nat) : Int)).toInt64 from rfl, toI64_lt, zN_lt (by omega) (by omega)]
theorem m_244 (hG : Geo G SL p q) (hT : MTn F A K n) (hW : MTw F A n h ord ml wd ln yr) (hQ : ∀ A', (∀ i, i ≠ 89 → i ≠ 90 → A' i = A i) → Sms A' 89 K n ml wd ln → Q (.inl none) (F, A', J, G)) : X (d + 1) 244 0 [.ref 68, .null, .null] [] (F, A, J, G) Q := by
  have h10' := hT.1.1
  have hn2 : 2 ^ n ≤ 1024 := Nat.pow_le_pow_right (n := 2) (by decide) h10'
  refine t_244_0 hG ?_
  refine up_ind (h := n) (P := fun t => ∀ A1 v3, (∀ i, i ≠ 89 → i ≠ 90 → A1 i = A i) → (∀ S, S < 2 ^ t → A1 89 S = zI (smS (wtF K ml) S n)) → (∀ S, S < 2 ^ t → A1 90 S = zI (smS (trnZ K ln wd) S n)) → X (d + 1) 244 16 [.ref 68, .int (zI (t : Int)), v3] [] (F, A1, J, G) Q) ?_ ?_ _ .null (fun i g1 g2 => by rw [wF_row g2, wF_row g1]) (fun S hS => ?_) (fun S hS => ?_)
  · intro A1 v3 hA h1 h2
    refine t_244_16 hG ⟨fun e => ?_, fun _ => hQ A1 hA ⟨h1, h2⟩⟩
    rw [hA 72 (by decide) (by decide), hT.2.2.1, zN_lt (by omega) (by omega)] at e
    omega
  · intro t ht ih A1 v3 hA h1 h2
    have ht2 : 2 ^ t ≤ 512 := Nat.pow_le_pow_right (n := 2) (j := 9) (by decide) (by omega)
    refine t_244_16 hG ⟨fun _ => ?_, fun e => ?_⟩
    · refine up_ind (h := 2 ^ t) (P := fun r => ∀ A1, (∀ i, i ≠ 89 → i ≠ 90 → A1 i = A i) → (∀ S, (S < 2 ^ t ∨ (2 ^ t ≤ S ∧ S < 2 ^ t + r)) → A1 89 S = zI (smS (wtF K ml) S n)) → (∀ S, (S < 2 ^ t ∨ (2 ^ t ≤ S ∧ S < 2 ^ t + r)) → A1 90 S = zI (smS (trnZ K ln wd) S n)) → X (d + 1) 244 28 [.ref 68, .int (zI (t : Int)), .int (zI (r : Int))] [] (F, A1, J, G) Q) ?_ ?_ A1 hA (fun S hS => h1 S (by omega)) (fun S hS => h2 S (by omega))
      · intro A1 hA h1 h2
        refine t_244_28 hG ⟨fun e => ?_, fun _ => ?_⟩
        · rw [shl_z t (by omega), zN_lt (by omega) (by omega)] at e
          omega
        · rw [zN_1]
          refine ih A1 _ hA (fun S hS => h1 S ?_) (fun S hS => h2 S ?_)
          · rw [Nat.pow_succ] at hS; omega
          · rw [Nat.pow_succ] at hS; omega
      · intro r hr ih2 A1 hA h1 h2
        have hor := or_add (S := r) hr
        have hbf := bit_lt hr
        have a74 : A1 74 t = zI (K 1 t) := by rw [hA 74 (by decide) (by decide)]; exact hT.2.2.2.2.2.2.1 t ht
        have a73 : A1 73 t = zI (K 0 t) := by rw [hA 73 (by decide) (by decide)]; exact hT.2.2.2.2.2.1 t ht
        have a82 : A1 82 t = zI (ml t) := by rw [hA 82 (by decide) (by decide)]; exact hW.2.2.2.2.1 t ht
        have a83 : A1 83 t = zI (wd t) := by rw [hA 83 (by decide) (by decide)]; exact hW.2.2.2.2.2.1 t ht
        have a84 : A1 84 t = zI (ln t) := by rw [hA 84 (by decide) (by decide)]; exact hW.2.2.2.2.2.2 t ht
        refine t_244_28 hG ⟨fun _ => ?_, fun e => ?_⟩
        · rw [shl_z t (by omega), zN_or, zI_clamp (n := r) (by omega), zI_clamp (n := t) (by omega), zI_clamp (n := r ||| 2 ^ t) (by omega), h1 r (by omega), h2 r (by omega), a74, a73, a82, a83, a84, trn_z hT.1 ht, zI_add, zI_add, zI_add, zN_1]
          have e1 : smS (wtF K ml) r n + K 1 t + ml t = smS (wtF K ml) (r ||| 2 ^ t) n := by rw [smS_or hbf ht]; unfold wtF; omega
          have e2 : smS (trnZ K ln wd) r n + trnZ K ln wd t = smS (trnZ K ln wd) (r ||| 2 ^ t) n := by rw [smS_or hbf ht]
          rw [e1, e2]
          refine ⟨zN_in (by omega) (by decide), zN_in (by omega) (by decide), zN_in (by omega) (by decide), zN_in (by omega) (by decide), ih2 _ (fun i g1 g2 => by rw [wF_row g2, wF_row g1]; exact hA i g1 g2) (fun S hS => ?_) (fun S hS => ?_)⟩
          · rw [wF_row (by decide), wF_at]
            by_cases e : S = r ||| 2 ^ t
            · rw [if_pos ⟨rfl, e⟩, e]
            · rw [if_neg (fun q => e q.2)]; exact h1 S (by omega)
          · rw [wF_at]
            by_cases e : S = r ||| 2 ^ t
            · rw [if_pos ⟨rfl, e⟩, e]
            · rw [if_neg (fun q => e q.2), wF_row (by decide)]; exact h2 S (by omega)
        · rw [shl_z t (by omega), zN_lt (by omega) (by omega)] at e
          omega
    · rw [hA 72 (by decide) (by decide), hT.2.2.1, zN_lt (by omega) (by omega)] at e
      omega
  · have : S = 0 := by simp at hS; exact hS
    rw [this, smS_0, wF_row (by decide), wF_same]; rfl
  · have : S = 0 := by simp at hS; exact hS
    rw [this, smS_0, wF_same]; rfl
theorem m_246 (hG : Geo G SL p q) (hT : MTn F A K n) (hW : MTw F A n h ord ml wd ln yr) (hM : Sms A 89 K n ml wd ln) (hl : F 68 39 = zI (li : Int)) (hs : li ≠ 0 → F 68 40 = zI (se : Int)) (hS : S < 2 ^ n) (hb : b &&& S = b) (hl1 : li < 1024) (hse : se ≤ 10) (hf : frB S b t = true) (ht : t < n) (hQ : Q (.inl (some (.int (bI (ftB K n ml wd ln yr li se S b t))))) (F, A, J, G)) : X (d + 2) 246 0 [.ref 68, .int (zI (b : Int)), .int (zI (t : Int)), .int (zI (S : Int)), .null] [] (F, A, J, G) Q := by
  have h10' := hT.1.1
  have hn2 : 2 ^ n ≤ 1024 := Nat.pow_le_pow_right (n := 2) (by decide) h10'
  have hy := hW.1.2.2.2.2
  have h40 := hT.1.2.2.1
  have hor := sub_or hb hf
  have horS : b ||| 2 ^ t ≤ S := by rw [← hor]; exact Nat.and_le_right
  have hbS : b ≤ S := by rw [← hb]; exact Nat.and_le_right
  have hwt := wt_b hT.1 hW.1 S
  have hwt2 := wt_b hT.1 hW.1 (b ||| 2 ^ t)
  have htl := tl_b hT.1 hW.1 (b ||| 2 ^ t)
  have hmt := (hW.1.2.2.2.1 t ht).1
  have hkt := (hT.1.2.1 t ht).1
  have hc1 := car_b (top := true) hT.1 ht hy
  have hc0 := car_b (top := false) hT.1 ht hy
  have hpb : pcn b ≤ 10 := by unfold pcn; omega
  have a90 : A 90 (b ||| 2 ^ t) = zI (smS (trnZ K ln wd) (b ||| 2 ^ t) n) := hM.2 _ (by omega)
  unfold ftB at hQ
  refine t_246_0 hG ?_
  rw [hl, isO_z hl1 (by omega), shl_z t (by omega), zN_or, zI_clamp (n := b ||| 2 ^ t) (by omega), zI_clamp (n := S) (by omega), zI_clamp (n := t) (by omega), zI_clamp (n := b) (by omega), hM.1 S hS, hM.1 (b ||| 2 ^ t) (by omega), a90, hT.2.2.2.1, hW.2.2.2.2.1 t ht, hT.2.2.2.2.2.1 t ht, hT.2.2.2.2.2.2.2.1 t ht, hW.2.2.1, car_z1 hT.1 ht hy, car_z0 hT.1 ht hy, zI_sub, zI_add, zN_eq (by omega) (by omega), zI_jabs (by omega) (by omega), zI_lt (a := carZ K yr t true) (by omega) (by omega) (by omega) (by omega), zI_lt (a := carZ K yr t false) (by omega) (by omega) (by omega) (by omega), zI_lt (a := K 4 0) (by omega) (by omega) (by omega) (by omega)]
  have hi1 : inB (zI (S : Int)) 1024 = true := zN_in (by omega) (by decide)
  have hi2 : inB (zI ((b ||| 2 ^ t : Nat) : Int)) 1024 = true := zN_in (by omega) (by decide)
  have hi3 : inB (zI (t : Int)) 10 = true := zN_in (by omega) (by decide)
  have hi4 : inB (zI (t : Int)) 20 = true := zN_in (by omega) (by decide)
  have hi5 : inB (zI (K 0 t)) 4 = true := by rw [zI_inB (by omega) (by omega)]; omega
  have hgo : ((!li.testBit t) || decide (se ≤ pcn b)) = true → ∀ (tp : Bool), decide (b ||| 2 ^ t = S) = tp → (carZ K yr t tp < smS (wtF K ml) S n - smS (wtF K ml) (b ||| 2 ^ t) n + ml t → Q (.inl (some (.int 0))) (F, A, J, G)) ∧ (¬ carZ K yr t tp < smS (wtF K ml) S n - smS (wtF K ml) (b ||| 2 ^ t) n + ml t → ((K 4 0 < ((smS (trnZ K ln wd) (b ||| 2 ^ t) n).natAbs : Int) → Q (.inl (some (.int 0))) (F, A, J, G)) ∧ (¬ K 4 0 < ((smS (trnZ K ln wd) (b ||| 2 ^ t) n).natAbs : Int) → Q (.inl (some (.int 1))) (F, A, J, G)))) := by
    intro hli tp htp
    rw [hli, htp, Bool.true_and] at hQ
    refine ⟨fun e => ?_, fun e => ⟨fun e2 => ?_, fun e2 => ?_⟩⟩
    · rw [decide_eq_false (by omega), Bool.false_and] at hQ; exact hQ
    · rw [decide_eq_false (p := (((smS (trnZ K ln wd) (b ||| 2 ^ t) n).natAbs : Int) ≤ K 4 0)) (by omega), Bool.and_false] at hQ; exact hQ
    · rw [decide_eq_true (p := (((smS (trnZ K ln wd) (b ||| 2 ^ t) n).natAbs : Int) ≤ K 4 0)) (by omega), decide_eq_true (by omega)] at hQ; exact hQ
  have hall : ((!li.testBit t) || decide (se ≤ pcn b)) = true → ((b ||| 2 ^ t = S → inB (zI (t : Int)) 20 = true ∧ inB (zI (K 0 t)) 4 = true ∧ Wrm A ∧ ((carZ K yr t true < smS (wtF K ml) S n - smS (wtF K ml) (b ||| 2 ^ t) n + ml t → Q (.inl (some (.int 0))) (F, A, J, G)) ∧ (¬ carZ K yr t true < smS (wtF K ml) S n - smS (wtF K ml) (b ||| 2 ^ t) n + ml t → ((K 4 0 < ((smS (trnZ K ln wd) (b ||| 2 ^ t) n).natAbs : Int) → Q (.inl (some (.int 0))) (F, A, J, G)) ∧ (¬ K 4 0 < ((smS (trnZ K ln wd) (b ||| 2 ^ t) n).natAbs : Int) → Q (.inl (some (.int 1))) (F, A, J, G)))))) ∧ (¬ b ||| 2 ^ t = S → inB (zI (t : Int)) 20 = true ∧ inB (zI (K 0 t)) 4 = true ∧ Wrm A ∧ ((carZ K yr t false < smS (wtF K ml) S n - smS (wtF K ml) (b ||| 2 ^ t) n + ml t → Q (.inl (some (.int 0))) (F, A, J, G)) ∧ (¬ carZ K yr t false < smS (wtF K ml) S n - smS (wtF K ml) (b ||| 2 ^ t) n + ml t → ((K 4 0 < ((smS (trnZ K ln wd) (b ||| 2 ^ t) n).natAbs : Int) → Q (.inl (some (.int 0))) (F, A, J, G)) ∧ (¬ K 4 0 < ((smS (trnZ K ln wd) (b ||| 2 ^ t) n).natAbs : Int) → Q (.inl (some (.int 1))) (F, A, J, G))))))) :=
    fun hli => ⟨fun e => ⟨hi4, hi5, hT.2.1, hgo hli true (decide_eq_true e)⟩, fun e => ⟨hi4, hi5, hT.2.1, hgo hli false (decide_eq_false e)⟩⟩
  refine ⟨fun e => ?_, fun e => ⟨hi1, hi2, hi3, hall (by rw [e]; rfl)⟩⟩
  have hl0 : li ≠ 0 := fun q => by rw [q, Nat.zero_testBit] at e; exact absurd e (by decide)
  rw [hs hl0, zI_nI, zN_lt (by omega) (by omega)]
  refine ⟨zN_in (by omega) (by decide), fun e2 => ?_, fun e2 => ⟨hi1, hi2, hi3, hall (by rw [decide_eq_true (show se ≤ pcn b by omega), Bool.or_true])⟩⟩
  rw [e, decide_eq_false (show ¬ se ≤ pcn b by omega)] at hQ
  exact hQ
theorem wJ_row {J : Nat → Nat → Int64} {o k o' : Nat} {v : Int64} (h : o' ≠ o) : wJ J o k v o' = J o' := by simp [wJ, va_up, h]
theorem m_247 (hG : Geo G SL p q) (hT : MTn F A K n) (hW : MTw F A n h ord ml wd ln yr) (hM : Sms A 89 K n ml wd ln) (hl : F 68 39 = zI (li : Int)) (hs : li ≠ 0 → F 68 40 = zI (se : Int)) (hS : S < 2 ^ n) (hl1 : li < 1024) (hse : se ≤ 10) (hQ : ∀ J', (∀ i, i ≠ 91 → J' i = J i) → (∀ s, s &&& S = s → J' 91 s = lz (WY (ftB K n ml wd ln yr li se S) n S s)) → Q (.inl none) (F, A, J', G)) : X (d + 3) 247 0 [.ref 68, .int (zI (S : Int)), .null, .null] [] (F, A, J, G) Q := by
  have h10' := hT.1.1
  have hn2 : 2 ^ n ≤ 1024 := Nat.pow_le_pow_right (n := 2) (by decide) h10'
  refine t_247n_0 hG ⟨zN_in (by omega) (by decide), ?_⟩
  rw [zI_clamp (n := S) (by omega)]
  have loop : ∀ m b : Nat, b ≤ m → b ≤ S → b &&& S = b → ∀ J1 v, (∀ i, i ≠ 91 → J1 i = J i) → (∀ s, s &&& S = s → b ≤ s → J1 91 s = lz (WY (ftB K n ml wd ln yr li se S) n S s)) → X (d + 3) 247 9 [.ref 68, .int (zI (S : Int)), .int (zI (b : Int)), v] [] (F, A, J1, G) Q := by
    intro m
    induction m with
    | zero =>
      intro b hb hbS hbs J1 v hJx hJ
      have hb0 : b = 0 := by omega
      subst hb0
      exact t_247n_9 hG ⟨fun _ => hQ J1 hJx (fun s hs => hJ s hs (Nat.zero_le _)), fun e => absurd rfl e⟩
    | succ m ih =>
      intro b hb hbS hbs J1 v hJx hJ
      by_cases hb0 : b = 0
      · exact ih b (by omega) hbS hbs J1 v hJx hJ
      · have hbp : b - 1 &&& S ≤ b - 1 := Nat.and_le_left
        have hbp2 : (b - 1 &&& S) &&& S = b - 1 &&& S := by rw [Nat.and_assoc, Nat.and_self]
        refine t_247n_9 hG ⟨fun e => ?_, fun _ => ?_⟩
        · rw [zI_eq0 (by omega)] at e; omega
        · rw [zZ_s1, show (b : Int) - 1 = ((b - 1 : Nat) : Int) by omega, zN_and, zI_clamp (n := b - 1 &&& S) (by omega)]
          refine ⟨zN_in (by omega) (by decide), ?_⟩
          have hprev : ∀ s, s &&& S = s → (b - 1 &&& S) < s → b ≤ s := fun s hs hlt => Nat.le_of_not_lt (fun q => by have := sub_pred n S b s hS hbs hs q; omega)
          generalize hc : b - 1 &&& S = c at hbp hbp2 hprev
          have hcS : c ≠ S := by omega
          have hWc := WY_step (ft := ftB K n ml wd ln yr li se S) hS hbp2 hcS
          have hWb := WY_le (ft := ftB K n ml wd ln yr li se S) (S := S) (p := c) h10'
          rw [hWc] at hWb
          generalize hg : (fun t => if frB S c t = true ∧ ftB K n ml wd ln yr li se S c t = true then WY (ftB K n ml wd ln yr li se S) n S (c ||| 2 ^ t) else 0) = g at hWc hWb
          refine up_ind (h := n) (P := fun t => ∀ J2, (∀ i, i ≠ 91 → J2 i = J i) → (∀ s, s &&& S = s → b ≤ s → J2 91 s = lz (WY (ftB K n ml wd ln yr li se S) n S s)) → J2 91 c = lz (sN g t) → X (d + 3) 247 28 [.ref 68, .int (zI (S : Int)), .int (zI (c : Int)), .int (zI (t : Int))] [] (F, A, J2, G) Q) ?_ ?_ _ (fun i hi => by rw [wJ_row hi]; exact hJx i hi) (fun s hs hle => ?_) ?_
          · intro J2 hJy hJ2 hc2
            refine t_247n_28 hG ⟨fun e => ?_, fun _ => ih c (by omega) (by omega) hbp2 J2 _ hJy (fun s hs hle => ?_)⟩
            · rw [hT.2.2.1, zN_lt (by omega) (by omega)] at e; omega
            · by_cases es : s = c
              · rw [es, hc2, hWc]
              · exact hJ2 s hs (hprev s hs (by omega))
          · intro t ht ih2 J2 hJy hJ2 hc2
            have hgt : g t = if frB S c t = true ∧ ftB K n ml wd ln yr li se S c t = true then WY (ftB K n ml wd ln yr li se S) n S (c ||| 2 ^ t) else 0 := by rw [← hg]
            have hsm : sN g (t + 1) ≤ sN g n := sN_mono n (t + 1) (by omega)
            have hst : sN g (t + 1) = sN g t + g t := rfl
            have hxl : S ^^^ (S &&& c) ≤ S := rmv_le' S _
            have hkeep : g t = 0 → X (d + 3) 247 28 [.ref 68, .int (zI (S : Int)), .int (zI (c : Int)), .int (zI ((t + 1 : Nat) : Int))] [] (F, A, J2, G) Q := fun h0 => by
              refine ih2 J2 hJy hJ2 ?_
              rw [hst, h0, Nat.add_zero]; exact hc2
            refine t_247n_28 hG ⟨fun _ => ?_, fun e => ?_⟩
            · rw [zN_andn, isO_z (by omega) (by omega), fr_bit, shl_z t (by omega), zN_or, zN_1]
              refine ⟨fun e => ?_, fun e => hkeep (by rw [hgt, if_neg (fun q => by rw [e] at q; exact absurd q.1 (by decide))])⟩
              have hor := sub_or hbp2 e
              have horS : c ||| 2 ^ t ≤ S := by rw [← hor]; exact Nat.and_le_right
              have hj := hJ2 (c ||| 2 ^ t) hor (hprev _ hor (or_gt e))
              have hwl := WY_le (ft := ftB K n ml wd ln yr li se S) (S := S) (p := c ||| 2 ^ t) h10'
              rw [zI_clamp (n := c ||| 2 ^ t) (by omega), hj, lz_pos (by omega)]
              refine ⟨zN_in (by omega) (by decide), fun e2 => m_246 hG hT hW hM hl hs hS hbp2 hl1 hse e ht (k_247n_72 hG ?_), fun e2 => hkeep (by rw [hgt]; split <;> omega)⟩
              rw [shl_z t (by omega), zN_or, zI_clamp (n := c ||| 2 ^ t) (by omega), zI_clamp (n := c) (by omega), zN_1]
              refine ⟨fun e3 => hkeep ?_, fun e3 => ⟨zN_in (by omega) (by decide), zN_in (by omega) (by decide), ?_⟩⟩
              · rw [hgt, if_neg]
                rintro ⟨-, h2⟩
                rw [h2] at e3; exact absurd e3 (by decide)
              · have hft : ftB K n ml wd ln yr li se S c t = true := by
                  cases hb : ftB K n ml wd ln yr li se S c t
                  · rw [hb] at e3; exact absurd rfl e3
                  · rfl
                rw [if_pos ⟨e, hft⟩] at hgt
                rw [hj, hc2, lz_add (by omega), ← hgt, ← hst]
                refine ih2 _ (fun i hi => by rw [wJ_row hi]; exact hJy i hi) (fun s hs hle => ?_) ?_
                · rw [wJ_at, if_neg (fun q => by omega)]; exact hJ2 s hs hle
                · rw [wJ_at, if_pos ⟨rfl, rfl⟩]
            · rw [hT.2.2.1, zN_lt (by omega) (by omega)] at e; omega
          · rw [wJ_at, if_neg (fun q => by omega)]; exact hJ s hs hle
          · rw [wJ_at, if_pos ⟨rfl, rfl⟩]; rfl
  refine loop S S (Nat.le_refl _) (Nat.le_refl _) (Nat.and_self S) _ _ (fun i hi => wJ_row hi) (fun s hs hle => ?_)
  have : s ≤ S := by rw [← hs]; exact Nat.and_le_right
  have hsS : s = S := by omega
  rw [hsS, wJ_at, if_pos ⟨rfl, rfl⟩, WY_self]; rfl
theorem m_251 (hG : Geo G SL p q) (hT : MTn F A K n) (hW : MTw F A n h ord ml wd ln yr) (hl : F 68 39 = zI (li : Int)) (hs : li ≠ 0 → F 68 40 = zI (se : Int)) (hS : S < 2 ^ n) (hl1 : li < 1024) (hse : se ≤ 10) (hQ : ∀ A' J', (∀ i, i ≠ 91 → J' i = J i) → (∀ i, i ≠ 89 → i ≠ 90 → A' i = A i) → Q (.inl (some (.long (lz (WY (ftB K n ml wd ln yr li se S) n S 0))))) (F, A', J', G)) : X (d + 4) 251 0 [.ref 68, .int (zI (S : Int))] [] (F, A, J, G) Q := by
  have h10' := hT.1.1
  have hn2 : 2 ^ n ≤ 1024 := Nat.pow_le_pow_right (n := 2) (by decide) h10'
  refine t_251_0 hG (m_244 hG hT hW (fun A1 hA1 hM => k_251_4 hG ?_))
  rw [zI_eq0 (by omega)]
  refine ⟨fun e => ?_, fun e => ?_⟩
  · have h0 : S = 0 := by omega
    have hq := hQ A1 J (fun _ _ => rfl) hA1
    rw [h0, WY_self] at hq
    exact hq
  · have hT1 : MTn F A1 K n := MTn_A (fun i hi => hA1 i (by omega) (by omega)) hT
    have hW1 : MTw F A1 n h ord ml wd ln yr := MTw_fr rfl rfl (fun i h1 h2 => hA1 i (by omega) (by omega)) hW
    refine m_247 hG hT1 hW1 hM hl hs hS hl1 hse (fun J2 hJx hJ2 => k_251_15 hG ?_)
    rw [hJ2 0 (Nat.zero_and S)]
    exact hQ A1 J2 hJx hA1
theorem m_252 (hG : Geo G SL p q) (hT : MTn F A K n) (hW : MTw F A n h ord ml wd ln yr) (hQ : ∀ F' A' J', (∀ i, i ≠ 91 → J' i = J i) → MScr F A F' A' → F' 68 3 = 0 → Q (.inl (some (.long (lz (WY (ftB K n ml wd ln yr 0 0 (bst ord h)) n (bst ord h) 0))))) (F', A', J', G)) : X (d + 5) 252 0 [.ref 68] [] (F, A, J, G) Q := by
  have h10' := hT.1.1
  have h10 : h ≤ 10 := Nat.le_trans hW.1.1 hT.1.1
  have hbs : bst ord h < 2 ^ n := bst_lt ord n h hW.1.2.1
  have hW0 : MTw (wF (wF F 68 3 0) 68 39 0) A n h ord ml wd ln yr := MTw_fr (by rw [wF_cell (by decide), wF_cell (by decide)]) (by rw [wF_cell (by decide), wF_cell (by decide)]) (fun _ _ _ => rfl) hW
  have hs : MScr F A (wF (wF F 68 3 0) 68 39 0) A := (MScr_code 0).tr ⟨fun i h => wF_row h, fun k h => wF_cell (by omega) _, fun _ _ _ _ => rfl, fun _ _ _ _ _ => rfl⟩
  refine t_252_0 hG ?_
  rw [hW0.2.1, bits_z h10 hW.2.2.2.1 (fun l hl => by have := hW.1.2.1 l hl; omega)]
  refine ⟨hB_z h10, m_251 (li := 0) (se := 0) hG hT hW0 (wF_same _ _ _ _) (fun q => absurd rfl q) hbs (by decide) (by decide) (fun A1 J1 hJx hA1 => k_252_18 hG (hQ _ _ _ hJx (hs.tr ⟨fun _ _ => rfl, fun _ _ => rfl, fun i h1 h2 h3 => hA1 i (by omega) (by omega), fun i h1 h2 j hj => by rw [hA1 i (by omega) (by omega)]⟩) ?_))⟩
  rw [wF_cell (by decide), wF_same]
theorem m_253 (hG : Geo G SL p q) (hT : MTn F A K n) (hW : MTw F A n h ord ml wd ln yr) (hz : -2147483648 ≤ z ∧ z < 2147483648) (hy : -2147483648 ≤ y ∧ y < 2147483648)
    (hb1 : ¬ ((0 ≤ z ∧ z < (2 ^ n : Nat)) ∧ (0 ≤ y ∧ y ≤ 10)) → ∀ r, Q (.inl (some (.long r))) (wF F 68 3 1, A, J, G))
    (hok : ∀ li se : Nat, z = li → y = se → li < 2 ^ n → se ≤ 10 → ∀ F' A' J', (∀ i, i ≠ 91 → J' i = J i) → MScr F A F' A' → F' 68 3 = 0 → Q (.inl (some (.long (lz (WY (ftB K n ml wd ln yr li se (bst ord h)) n (bst ord h) 0))))) (F', A', J', G)) : X (d + 5) 253 0 [.ref 68, .int (zI z), .int (zI y), .null, .null] [] (F, A, J, G) Q := by
  have h10' := hT.1.1
  have h10 : h ≤ 10 := Nat.le_trans hW.1.1 hT.1.1
  have hn2 : 2 ^ n ≤ 1024 := Nat.pow_le_pow_right (n := 2) (by decide) h10'
  have hn1 : 0 < 2 ^ n := Nat.two_pow_pos n
  have hbs : bst ord h < 2 ^ n := bst_lt ord n h hW.1.2.1
  have hW0 : ∀ u v, MTw (wF (wF (wF F 68 3 0) 68 39 u) 68 40 v) A n h ord ml wd ln yr := fun u v => MTw_fr (by rw [wF_cell (by decide), wF_cell (by decide), wF_cell (by decide)]) (by rw [wF_cell (by decide), wF_cell (by decide), wF_cell (by decide)]) (fun _ _ _ => rfl) hW
  refine t_253_0 hG ?_
  have f28 : ∀ u v, wF (wF (wF F 68 3 0) 68 39 u) 68 40 v 68 28 = zI (h : Int) := fun u v => (hW0 u v).2.1
  rw [hT.2.2.1, shl_z n (by omega), zZ_s1, inL_z (x := 0) (a := 0) (b := ((2 ^ n : Nat) : Int) - 1) rfl rfl hz (by decide) (by omega), inL_z (x := 0) (y := 10) (a := 0) (b := 10) rfl rfl hy (by decide) (by decide), wF_wF, f28, bits_z h10 hW.2.2.2.1 (fun l hl => by have := hW.1.2.1 l hl; omega)]
  simp only [decide_eq_true_eq, decide_eq_false_iff_not]
  refine ⟨fun e1 => ⟨fun e2 => ⟨hB_z h10, ?_⟩, fun e2 => hb1 (by omega) _⟩, fun e1 => hb1 (by omega) _⟩
  obtain ⟨li, rfl⟩ : ∃ i : Nat, z = i := ⟨z.toNat, by omega⟩
  obtain ⟨se, rfl⟩ : ∃ i : Nat, y = i := ⟨y.toNat, by omega⟩
  refine m_251 (li := li) (se := se) hG hT (hW0 _ _) (by rw [wF_cell (by decide), wF_same]) (fun _ => wF_same _ _ _ _) hbs (by omega) (by omega) (fun A1 J1 hJx hA1 => k_253_62 hG (hok li se rfl rfl (by omega) (by omega) _ _ _ hJx ?_ ?_))
  · refine (MScr_code (F := F) (A := A) 0).tr ⟨fun i h => by rw [wF_row h, wF_row h, wF_row h], fun k h => by rw [wF_cell (by omega), wF_cell (by omega), wF_cell (by omega)], fun i h1 h2 h3 => hA1 i (by omega) (by omega), fun i h1 h2 j hj => by rw [hA1 i (by omega) (by omega)]⟩
  · rw [wF_cell (by decide), wF_cell (by decide), wF_cell (by decide), wF_same]
end MOrdersZ
