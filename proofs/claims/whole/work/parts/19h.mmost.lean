section MMostZ
variable {d : Nat} {F A F' A' : Nat → Nat → Int32} {J : Nat → Nat → Int64} {G : pG} {Q : pR → pM → Prop} {SL p q : Nat} {K : Nat → Nat → Int} {n h S b t : Nat} {ord : Nat → Nat} {ml wd ln : Nat → Int} {yr z y : Int} {od : Nat → Nat}
/-- what the class keeps of it -/
def CMs (F A : Nat → Nat → Int32) (K : Nat → Nat → Int) (n : Nat) (ml wd ln : Nat → Int) (yr : Int) : Prop := F 21 6 = 0 → ∃ M, IsMs (odZ K n ml wd ln yr) (2 ^ n) M ∧ F 61 2 = zI (M : Int) ∧ ∀ l, l < pcn M → A 62 l = zI ((rwT K n ml wd ln yr M (rwP K n ml wd ln yr M l) : Nat) : Int)
theorem c_18 (hG : Geo G SL p q) (hT : CTn F A K n) (hW : CTw 27 F A n h ord ml wd ln yr) (h63 : A 63 0 = 0) (h64 : A 64 0 = 0) (hC : CMs F A K n ml wd ln yr) (hQ : ∀ F' A' M, IsMs (odZ K n ml wd ln yr) (2 ^ n) M → F' 61 2 = zI (M : Int) → (∀ l, l < pcn M → A' 62 l = zI ((rwT K n ml wd ln yr M (rwP K n ml wd ln yr M l) : Nat) : Int)) → F' 21 6 = 0 → (∀ i, i ≠ 21 → i ≠ 61 → F' i = F i) → (∀ k, k ≠ 6 → F' 21 k = F 21 k) → (∀ i, (i < 62 ∨ 65 < i) → A' i = A i) → A' 63 0 = 0 → A' 64 0 = 0 → Q (.inl none) (F', A', J, G)) : X (d + 6) 18 0 [.ref 61] [] (F, A, J, G) Q := by
  have h10' := hT.1.1
  refine t_18_0 hG ⟨fun e => ?_, fun e => ?_⟩
  · obtain ⟨M, m1, m2, m3⟩ := hC e
    exact hQ F A M m1 m2 m3 e (fun _ _ _ => rfl) (fun _ _ => rfl) (fun _ _ => rfl) h63 h64
  · have hF0 : ∀ i, i ≠ 21 → wF F 21 6 0 i = F i := fun i hi => wF_row hi
    have hT0 : CTn (wF F 21 6 0) A K n := by unfold CTn at hT ⊢; rw [hF0 12 (by decide)]; exact hT
    have hW0 : CTw 27 (wF F 21 6 0) A n h ord ml wd ln yr := by unfold CTw at hW ⊢; rw [hF0 27 (by decide)]; exact hW
    refine c_22 hG hT0 hW0 h63 h64 (fun A1 hA1 hM => k_18_23 hG ?_)
    have hT1 : CTn (wF F 21 6 0) A1 K n := by
      unfold CTn at hT0 ⊢
      rw [hA1 13 (by decide) (by decide), hA1 14 (by decide) (by decide), hA1 15 (by decide) (by decide), hA1 17 (by decide) (by decide)]; exact hT0
    have hW1 : CTw 27 (wF F 21 6 0) A1 n h ord ml wd ln yr := by
      unfold CTw at hW0 ⊢
      rw [hA1 (27 + 1) (by decide) (by decide), hA1 (27 + 2) (by decide) (by decide), hA1 (27 + 3) (by decide) (by decide), hA1 (27 + 4) (by decide) (by decide)]; exact hW0
    refine c_20 hG hT1 hW1 hM (fun F2 A2 M hMs g1 g2 g3 => k_18_28 hG ?_)
    have hF2 : ∀ i, i ≠ 61 → wF F2 61 2 (zI (M : Int)) i = wF F 21 6 0 i := fun i hi => by rw [wF_row hi]; exact g1 i hi
    have hT2 : CTn (wF F2 61 2 (zI (M : Int))) A2 K n := by
      unfold CTn at hT1 ⊢
      rw [hF2 12 (by decide), g3 13 (by decide), g3 14 (by decide), g3 15 (by decide), g3 17 (by decide)]; exact hT1
    have hW2 : CTw 27 (wF F2 61 2 (zI (M : Int))) A2 n h ord ml wd ln yr := by
      unfold CTw at hW1 ⊢
      rw [hF2 27 (by decide), g3 (27 + 1) (by decide), g3 (27 + 2) (by decide), g3 (27 + 3) (by decide), g3 (27 + 4) (by decide)]; exact hW1
    have hM2 : Sms A2 63 K n ml wd ln := by
      unfold Sms at hM ⊢
      rw [g3 63 (by decide), g3 (63 + 1) (by decide)]; exact hM
    refine c_23 (li := 0) (se := 0) hG hT2 hW2 hM2 hMs.2.1 (by decide) (by decide) (fun F3 A3 e1 e2 e3 e4 e5 => k_18_41 hG ?_)
    have hT3 : CTn F3 A3 K n := by
      unfold CTn at hT2 ⊢
      rw [e1 12 (by decide), e4 13 (by decide), e4 14 (by decide), e4 15 (by decide), e4 17 (by decide)]; exact hT2
    have hW3 : CTw 27 F3 A3 n h ord ml wd ln yr := by
      unfold CTw at hW2 ⊢
      rw [e1 27 (by decide), e4 (27 + 1) (by decide), e4 (27 + 2) (by decide), e4 (27 + 3) (by decide), e4 (27 + 4) (by decide)]; exact hW2
    have hM3 : Sms A3 63 K n ml wd ln := by
      unfold Sms at hM2 ⊢
      rw [e4 63 (by decide), e4 (63 + 1) (by decide)]; exact hM2
    refine c_21 hG hT3 hW3 hM3 e3 hMs.2.1 hMs.1 (e5 hMs.1) (fun A4 f1 f2 => k_18_46 hG (hQ F3 A4 M hMs ?_ f2 ?_ (fun i h1 h2 => ?_) (fun k hk => ?_) (fun i hi => ?_) ?_ ?_))
    · rw [e2 2 (by decide), wF_same]
    · rw [e1 21 (by decide), hF2 21 (by decide), wF_same]
    · rw [e1 i h2, hF2 i h2]; exact hF0 i h1
    · rw [e1 21 (by decide), hF2 21 (by decide), wF_cell hk]
    · rw [f1 i (by omega), e4 i (by omega), g3 i (by omega)]; exact hA1 i (by omega) (by omega)
    · rw [f1 63 (by decide), hM3.1 0 (Nat.two_pow_pos n), smS_0]; rfl
    · have a64 : A3 64 0 = zI (smS (trnZ K ln wd) 0 n) := hM3.2 0 (Nat.two_pow_pos n)
      rw [f1 64 (by decide), a64, smS_0]; rfl
theorem m_248 (hG : Geo G SL p q) (hT : MTn F A K n) (hW : MTw F A n h ord ml wd ln yr) (hQ : ∀ A' J' M, (∀ i, i ≠ 91 → J' i = J i) → IsMs (odZ K n ml wd ln yr) (2 ^ n) M → (∀ i, i ≠ 89 → i ≠ 90 → A' i = A i) → Sms A' 89 K n ml wd ln → Q (.inl (some (.int (zI (M : Int))))) (wF F 68 39 0, A', J', G)) : X (d + 4) 248 0 [.ref 68, .null, .null] [] (F, A, J, G) Q := by
  have h10' := hT.1.1
  have hn2 : 2 ^ n ≤ 1024 := Nat.pow_le_pow_right (n := 2) (by decide) h10'
  have hn1 : 0 < 2 ^ n := Nat.two_pow_pos n
  have hW0 : MTw (wF F 68 39 0) A n h ord ml wd ln yr := MTw_fr (by rw [wF_cell (by decide)]) (by rw [wF_cell (by decide)]) (fun _ _ _ => rfl) hW
  have hT0 : MTn (wF F 68 39 0) A K n := hT
  refine t_248_0 hG (m_244 hG hT0 hW0 (fun A1 hA1 hM => k_248_9 hG ?_))
  have hT1 : MTn (wF F 68 39 0) A1 K n := MTn_A (fun i hi => hA1 i (by omega) (by omega)) hT
  have hW1 : MTw (wF F 68 39 0) A1 n h ord ml wd ln yr := MTw_fr rfl rfl (fun i h1 h2 => hA1 i (by omega) (by omega)) hW0
  refine up_indF (a := 1) (h := 2 ^ n) (P := fun e => ∀ J1 M, (∀ i, i ≠ 91 → J1 i = J i) → IsMs (odZ K n ml wd ln yr) e M → X (d + 4) 248 13 [.ref 68, .int (zI (M : Int)), .int (zI (e : Int))] [] (wF F 68 39 0, A1, J1, G) Q) (by omega) ?_ ?_ J 0 (fun _ _ => rfl) ⟨by rw [od_0]; decide, by decide, fun e he _ => ?_⟩
  · intro J1 M hJx hMs
    refine t_248_13 hG ⟨fun e => ?_, fun _ => hQ A1 J1 M hJx hMs hA1 hM⟩
    rw [hT1.2.2.1, shl_z n (by omega), zN_lt (by omega) (by omega)] at e; omega
  · intro e he1 he ih J1 M hJx hMs
    have hMe := hMs.2.1
    have keep : (pcn M < pcn e → odZ K n ml wd ln yr e = 0) → IsMs (odZ K n ml wd ln yr) (e + 1) M := fun hk => ⟨hMs.1, by omega, fun e' he' ho' => by
      by_cases ee : e' = e
      · subst ee
        have : ¬ pcn M < pcn e' := fun q => by have := hk q; omega
        exact ⟨by omega, fun _ => by omega⟩
      · exact hMs.2.2 e' (by omega) ho'⟩
    refine t_248_13 hG ⟨fun _ => ?_, fun e' => ?_⟩
    · rw [zI_clamp (n := e) (by omega), zI_clamp (n := M) (by omega), nI_pcn (by omega) (by omega), zN_1]
      refine ⟨zN_in (by omega) (by decide), zN_in (by omega) (by decide), fun e1 => m_247 (li := 0) (se := 0) hG hT1 hW1 hM (wF_same _ _ _ _) (fun q => absurd rfl q) he (by decide) (by decide) (fun J2 hJy hJ2 => k_248_44 hG ?_), fun e1 => ih J1 M hJx (keep (fun q => absurd q e1))⟩
      have hol : odZ K n ml wd ln yr e ≤ 3628800 := WY_le h10'
      have hj0 : J2 91 0 = lz (odZ K n ml wd ln yr e) := hJ2 0 (Nat.zero_and e)
      rw [hj0, lz_pos (by omega), zN_1]
      have hJz : ∀ i, i ≠ 91 → J2 i = J i := fun i hi => (hJy i hi).trans (hJx i hi)
      refine ⟨fun e2 => ih J2 e hJz ⟨e2, by omega, fun e' he' ho' => ?_⟩, fun e2 => ih J2 M hJz (keep (fun _ => by omega))⟩
      by_cases ee : e' = e
      · subst ee; exact ⟨Nat.le_refl _, fun _ => Nat.le_refl _⟩
      · have := (hMs.2.2 e' (by omega) ho').1
        exact ⟨by omega, fun q => by omega⟩
    · rw [hT1.2.2.1, shl_z n (by omega), zN_lt (by omega) (by omega)] at e'; omega
  · have : e = 0 := by omega
    subst this
    exact ⟨Nat.le_refl _, fun _ => Nat.le_refl _⟩
theorem ms_scr {A1 : Nat → Nat → Int32} (hA : ∀ i, i ≠ 89 → i ≠ 90 → A1 i = A i) (v : Int32) : MScr F A (wF (wF F 68 3 v) 68 39 0) A1 := (MScr_code (F := F) (A := A) v).tr ⟨fun i h => wF_row h, fun k h => wF_cell (by omega) _, fun i h1 h2 h3 => hA i (by omega) (by omega), fun i h1 h2 j hj => by rw [hA i (by omega) (by omega)]⟩
theorem m_249 (hG : Geo G SL p q) (hT : MTn F A K n) (hW : MTw F A n h ord ml wd ln yr) (hz : -2147483648 ≤ z ∧ z < 2147483648) (hb1 : ¬ (z = 0 ∨ z = 1) → ∀ r, Q (.inl (some (.int r))) (wF F 68 3 1, A, J, G))
    (hok : ∀ M, (z = 0 ∨ z = 1) → IsMs (odZ K n ml wd ln yr) (2 ^ n) M → ∀ F' A' J', (∀ i, i ≠ 91 → J' i = J i) → MScr F A F' A' → F' 68 3 = 0 → Q (.inl (some (.int (zI (if z = 0 then (pcn M : Int) else (M : Int)))))) (F', A', J', G)) : X (d + 5) 249 0 [.ref 68, .int (zI z), .null] [] (F, A, J, G) Q := by
  have h10' := hT.1.1
  have hn2 : 2 ^ n ≤ 1024 := Nat.pow_le_pow_right (n := 2) (by decide) h10'
  have hW0 : MTw (wF F 68 3 0) A n h ord ml wd ln yr := by rw [MTw_code]; exact hW
  have hT0 : MTn (wF F 68 3 0) A K n := hT
  refine t_249_0 hG ?_
  rw [zI_lt0 hz, zI_1lt hz, wF_wF]
  refine ⟨fun e => hb1 (by omega) _, fun e => ⟨fun e2 => hb1 (by omega) _, fun e2 => m_248 hG hT0 hW0 (fun A1 J1 M hJx hMs hA1 _ => k_249_24 hG ?_)⟩⟩
  have hq := hok M (by omega) hMs _ A1 J1 hJx (ms_scr hA1 0) (by rw [wF_cell (by decide), wF_same])
  have hM := hMs.2.1
  rw [zI_eq0 hz, zI_clamp (n := M) (by omega)]
  refine ⟨fun e3 => ⟨zN_in (by omega) (by decide), ?_⟩, fun e3 => ?_⟩
  · rw [if_pos e3] at hq; rw [zI_nI]; exact hq
  · rw [if_neg e3] at hq; exact hq
theorem m_250 (hG : Geo G SL p q) (hT : MTn F A K n) (hW : MTw F A n h ord ml wd ln yr) (hz : -2147483648 ≤ z ∧ z < 2147483648) (hb1 : ∀ M, IsMs (odZ K n ml wd ln yr) (2 ^ n) M → ¬ (0 ≤ z ∧ z < pcn M) → ∀ F' A' J' r, (∀ i, i ≠ 91 → J' i = J i) → MScr F A F' A' → F' 68 3 = 1 → Q (.inl (some (.int r))) (F', A', J', G))
    (hok : ∀ M (i : Nat), z = i → i < pcn M → IsMs (odZ K n ml wd ln yr) (2 ^ n) M → ∀ F' A' J', (∀ i, i ≠ 91 → J' i = J i) → MScr F A F' A' → F' 68 3 = 0 → Q (.inl (some (.int (zI ((rwT K n ml wd ln yr M (rwP K n ml wd ln yr M i) : Nat) : Int))))) (F', A', J', G)) : X (d + 5) 250 0 [.ref 68, .int (zI z), .null, .null, .null, .null, .null] [] (F, A, J, G) Q := by
  have h10' := hT.1.1
  have hn2 : 2 ^ n ≤ 1024 := Nat.pow_le_pow_right (n := 2) (by decide) h10'
  have hW0 : MTw (wF F 68 3 0) A n h ord ml wd ln yr := by rw [MTw_code]; exact hW
  have hT0 : MTn (wF F 68 3 0) A K n := hT
  refine t_250n_0 hG (m_248 hG hT0 hW0 (fun A1 J1 M hJx hMs hA1 hM => k_250n_9 hG ?_))
  have hMn := hMs.2.1
  have hpM : pcn M ≤ 10 := pcn_le
  have hT1 : MTn (wF (wF F 68 3 0) 68 39 0) A1 K n := MTn_A (fun i hi => hA1 i (by omega) (by omega)) hT
  have hW1 : MTw (wF (wF F 68 3 0) 68 39 0) A1 n h ord ml wd ln yr := MTw_fr (by rw [wF_cell (by decide), wF_cell (by decide)]) (by rw [wF_cell (by decide), wF_cell (by decide)]) (fun i h1 h2 => hA1 i (by omega) (by omega)) hW
  rw [zI_clamp (n := M) (by omega), zI_nI, zZ_s1, inL_z (x := 0) (a := 0) (b := (pcn M : Int) - 1) rfl rfl hz (by decide) (by omega)]
  simp only [decide_eq_true_eq, decide_eq_false_iff_not]
  refine ⟨zN_in (by omega) (by decide), fun e => ?_, fun e => hb1 M hMs (by omega) _ A1 J1 _ hJx ?_ (wF_same _ _ _ _)⟩
  · obtain ⟨i, rfl⟩ : ∃ i : Nat, z = i := ⟨z.toNat, by omega⟩
    have hi : i < pcn M := by omega
    refine m_247 (li := 0) (se := 0) hG hT1 hW1 hM (wF_same _ _ _ _) (fun q => absurd rfl q) hMn (by decide) (by decide) (fun J2 hJy hJ2 => k_250n_37 hG ?_)
    have hq := hok M i rfl hi hMs _ A1 J2 (fun i hi => (hJy i hi).trans (hJx i hi)) (ms_scr hA1 0) (by rw [wF_cell (by decide), wF_same])
    have main : ∀ l, l ≤ i + 1 → ∀ (x4 : Int32) v6, (l = i + 1 → x4 = zI ((rwT K n ml wd ln yr M (rwP K n ml wd ln yr M i) : Nat) : Int)) → X (d + 5) 250 45 [.ref 68, .int (zI (i : Int)), .int (zI (M : Int)), .int (zI ((rwP K n ml wd ln yr M l : Nat) : Int)), .int x4, .int (zI (l : Int)), v6] [] (wF (wF F 68 3 0) 68 39 0, A1, J2, G) Q := by
      intro l hl
      refine up_indF (a := l) (h := i + 1) (P := fun l => ∀ (x4 : Int32) v6, (l = i + 1 → x4 = zI ((rwT K n ml wd ln yr M (rwP K n ml wd ln yr M i) : Nat) : Int)) → X (d + 5) 250 45 [.ref 68, .int (zI (i : Int)), .int (zI (M : Int)), .int (zI ((rwP K n ml wd ln yr M l : Nat) : Int)), .int x4, .int (zI (l : Int)), v6] [] (wF (wF F 68 3 0) 68 39 0, A1, J2, G) Q) hl ?_ ?_
      · intro x4 v6 hx
        refine t_250n_45 hG ⟨fun _ => ?_, fun e => ?_⟩
        · rw [hx rfl]; exact hq
        · rw [zN_lt (by omega) (by omega)] at e; omega
      · intro l _ hli ih x4 v6 hx
        obtain ⟨i1, i2, i3⟩ := rw_inv h10' hMn hMs.1 l (by omega)
        have hne := rw_ne h10' hMn hMs.1 (show l < pcn M by omega)
        obtain ⟨n1, n2, n3, n4⟩ := rw_next hMn i1 hne i3
        have hbS : rwP K n ml wd ln yr M l ≤ M := by rw [← i1]; exact Nat.and_le_right
        have ih' := fun x4 v6 => ih x4 v6
        simp only [rwP] at ih'
        have hil : l = i → rwT K n ml wd ln yr M (rwP K n ml wd ln yr M l) = rwT K n ml wd ln yr M (rwP K n ml wd ln yr M i) := fun q => by rw [q]
        generalize hb : rwP K n ml wd ln yr M l = b at i1 i3 hne n1 n2 n3 n4 hbS ih' hil
        generalize hrt : rwT K n ml wd ln yr M b = T at n1 n2 n3 n4 ih' hil
        refine t_250n_45 hG ⟨fun e => ?_, fun _ => ?_⟩
        · rw [zN_lt (by omega) (by omega)] at e; omega
        · have hxl : M ^^^ (M &&& b) ≤ M := rmv_le' M _
          -- behind the find
          have hfound : ∀ x6 : Int32, X (d + 5) 250 57 [.ref 68, .int (zI (i : Int)), .int (zI (M : Int)), .int (zI (b : Int)), .int (zI (T : Int)), .int (zI (l : Int)), .int x6] [] (wF (wF F 68 3 0) 68 39 0, A1, J2, G) Q := by
            intro x6
            have hgo : ∀ v6, X (d + 5) 250 45 [.ref 68, .int (zI (i : Int)), .int (zI (M : Int)), .int (zI (b : Int) ||| ((1 : Int32) <<< (zI (T : Int) &&& 31))), .int (zI (T : Int)), .int (zI (l : Int) + 1), v6] [] (wF (wF F 68 3 0) 68 39 0, A1, J2, G) Q := by
              intro v6
              rw [shl_z T (by omega), zN_or, zN_1]
              exact ih' _ v6 (fun q => by rw [hil (by omega)])
            refine t_250n_57 hG ⟨fun _ => ⟨fun e => ?_, fun _ => hgo _⟩, fun _ => hgo _⟩
            rw [zI_eqm (by omega)] at e; omega
          refine up_ind (h := T) (P := fun t => X (d + 5) 250 57 [.ref 68, .int (zI (i : Int)), .int (zI (M : Int)), .int (zI (b : Int)), .int (-1), .int (zI (l : Int)), .int (zI (t : Int))] [] (wF (wF F 68 3 0) 68 39 0, A1, J2, G) Q) ?_ ?_
          · -- at T
            have hp := n3
            unfold rwP1 at hp
            rw [Bool.and_eq_true, Bool.and_eq_true, decide_eq_true_eq] at hp
            have hor := sub_or i1 hp.1
            have horS : b ||| 2 ^ T ≤ M := by rw [← hor]; exact Nat.and_le_right
            have hwl := WY_le (ft := ftB K n ml wd ln yr 0 0 M) (S := M) (p := b ||| 2 ^ T) h10'
            refine t_250n_57 hG ⟨fun _ => ⟨fun _ => ?_, fun e => absurd rfl e⟩, fun e => ?_⟩
            · rw [zN_andn, isO_z (by omega) (by omega), fr_bit, shl_z T (by omega), zN_or, zI_clamp (n := b ||| 2 ^ T) (by omega), hJ2 _ hor, lz_pos (by omega), zN_1]
              refine ⟨fun _ => ⟨zN_in (by omega) (by decide), fun _ => m_246 (li := 0) (se := 0) hG hT1 hW1 hM (wF_same _ _ _ _) (fun q => absurd rfl q) hMn i1 (by decide) (by decide) hp.1 n2 (k_250n_111 hG ⟨fun e => ?_, fun _ => hfound _⟩), fun e => absurd hp.2.2 e⟩, fun e => ?_⟩
              · rw [hp.2.1] at e; exact absurd e (by decide)
              · rw [hp.1] at e; exact absurd e (by decide)
            · rw [hT1.2.2.1, zN_lt (by omega) (by omega)] at e; omega
          · intro t ht ih3
            have hnp := n4 t ht
            unfold rwP1 at hnp
            refine t_250n_57 hG ⟨fun _ => ⟨fun _ => ?_, fun e => absurd rfl e⟩, fun e => ?_⟩
            · rw [zN_andn, isO_z (by omega) (by omega), fr_bit, shl_z t (by omega), zN_or, zN_1]
              refine ⟨fun e => ?_, fun _ => ih3⟩
              have hor := sub_or i1 e
              have horS : b ||| 2 ^ t ≤ M := by rw [← hor]; exact Nat.and_le_right
              have hwl := WY_le (ft := ftB K n ml wd ln yr 0 0 M) (S := M) (p := b ||| 2 ^ t) h10'
              rw [zI_clamp (n := b ||| 2 ^ t) (by omega), hJ2 _ hor, lz_pos (by omega)]
              refine ⟨zN_in (by omega) (by decide), fun e2 => m_246 (li := 0) (se := 0) hG hT1 hW1 hM (wF_same _ _ _ _) (fun q => absurd rfl q) hMn i1 (by decide) (by decide) e (by omega) (k_250n_111 hG ⟨fun _ => by rw [zN_1]; exact ih3, fun e3 => ?_⟩), fun _ => ih3⟩
              rw [e, decide_eq_true e2, Bool.true_and, Bool.and_true] at hnp
              rw [hnp] at e3
              exact absurd rfl e3
            · rw [hT1.2.2.1, zN_lt (by omega) (by omega)] at e; omega
    exact main 0 (Nat.zero_le _) _ _ (fun q => by omega)
  · refine (ms_scr hA1 0).tr ?_
    exact MScr_code 1
end MMostZ
