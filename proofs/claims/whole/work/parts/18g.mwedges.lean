section MWedgesZ
variable {d : Nat} {F A F' A' F'' A'' : Nat → Nat → Int32} {J : Nat → Nat → Int64} {G : pG} {Q : pR → pM → Prop} {SL p q t a na b i l f : Nat} {K : Nat → Nat → Int} {n h : Nat} {ord ord' : Nat → Nat} {ml wd ln ml' wd' ln' : Nat → Int} {yr z y v τ x fd B : Int} {c : Nat → Int}
theorem m_254 (hG : Geo G SL p q) (hT : MTn F A K n) (hW : MTw F A n h ord ml wd ln yr) (hi : i < n) (hc : ∀ k, -1 ≤ c k ∧ c k ≤ 90) (hp : ∀ k, k < 81 → A 92 k = zI (eb 100000 (c k))) (hQ : ∀ A', (∀ j, j ≠ 92 → j ≠ 93 → A' j = A j) → (∀ k, k < 81 → A' 92 k = zI (eb 100000 (nxR K ln i c (19 * 81) k))) → Q (.inl none) (F, A', J, G)) : X d 254 0 [.ref 68, .int (zI (i : Int)), .null, .null, .null, .null] [] (F, A, J, G) Q := by
  have h10' := hT.1.1
  have hlb := (hW.1.2.2.2.1 i hi).2.2
  have hk0 := (hT.1.2.1 i hi).1
  have h40 := hT.1.2.2.1
  have z80 : (80 : Int32) = zI 80 := rfl
  have L4 : ∀ A1 v4 v5, (∀ j, j ≠ 93 → A1 j = A j) → (∀ k, k < 81 → A1 93 k = zI (eb 100000 (nxR K ln i c (19 * 81) k))) → X d 254 149 [.ref 68, .int (zI (i : Int)), .int (zI (timZ (K 0 i))), .int 0, v4, v5] [] (F, A1, J, G) Q := by
    intro A1 v4 v5 hA1 h93
    refine up_ind (h := 81) (P := fun k => ∀ A1, (∀ j, j ≠ 92 → j ≠ 93 → A1 j = A j) → (∀ k, k < 81 → A1 93 k = zI (eb 100000 (nxR K ln i c (19 * 81) k))) → (∀ m, m < k → A1 92 m = zI (eb 100000 (nxR K ln i c (19 * 81) m))) → X d 254 149 [.ref 68, .int (zI (i : Int)), .int (zI (timZ (K 0 i))), .int (zI (k : Int)), v4, v5] [] (F, A1, J, G) Q) ?_ ?_ A1 (fun j _ h2 => hA1 j h2) h93 (fun m hm => absurd hm (Nat.not_lt_zero m))
    · intro A1 hA1 h93 h92
      exact t_254_149 hG ⟨fun _ => hQ A1 hA1 h92, fun e => absurd (by decide) e⟩
    · intro k hk ih A1 hA1 h93 h92
      refine t_254_149 hG ⟨fun e => ?_, fun _ => ⟨zN_in hk (by decide), ?_⟩⟩
      · rw [z80, zI_lt (by omega) (by omega) (by omega) (by omega)] at e
        omega
      · rw [zI_clamp (n := k) (by omega), h93 k hk, zN_1]
        refine ih _ (fun j h1 h2 => by rw [wF_row h1]; exact hA1 j h1 h2) (fun m hm => by rw [wF_row (by decide)]; exact h93 m hm) (fun m hm => ?_)
        rw [wF_at]
        by_cases em : m = k
        · rw [if_pos ⟨rfl, em⟩, em]
        · rw [if_neg (fun q => em q.2)]; exact h92 m (by omega)
  have L3 : ∀ A1 v4 v5, (∀ j, j ≠ 93 → A1 j = A j) → (∀ k, k < 81 → A1 93 k = zI 100000) → X d 254 40 [.ref 68, .int (zI (i : Int)), .int (zI (timZ (K 0 i))), .int 0, v4, v5] [] (F, A1, J, G) Q := by
    intro A1 v4 v5 hA1 h93
    refine up_ind (h := 81) (P := fun k => ∀ A1 v4 v5, (∀ j, j ≠ 93 → A1 j = A j) → (∀ m, m < 81 → A1 93 m = zI (eb 100000 (nxR K ln i c (19 * k) m))) → X d 254 40 [.ref 68, .int (zI (i : Int)), .int (zI (timZ (K 0 i))), .int (zI (k : Int)), v4, v5] [] (F, A1, J, G) Q) ?_ ?_ A1 v4 v5 hA1 h93
    · intro A1 v4 v5 hA1 h93
      exact t_254_40 hG ⟨fun _ => L4 A1 _ _ hA1 h93, fun e => absurd (by decide) e⟩
    · intro k hk ih A1 v4 v5 hA1 h93
      have hck := hc k
      refine t_254_40 hG ⟨fun e => ?_, fun _ => ?_⟩
      · rw [z80, zI_lt (by omega) (by omega) (by omega) (by omega)] at e
        omega
      · refine up_ind (h := 19) (P := fun w => ∀ A1 v5, (∀ j, j ≠ 93 → A1 j = A j) → (∀ m, m < 81 → A1 93 m = zI (eb 100000 (nxR K ln i c (19 * k + w) m))) → X d 254 50 [.ref 68, .int (zI (i : Int)), .int (zI (timZ (K 0 i))), .int (zI (k : Int)), .int (zI ((w : Int) - 9)), v5] [] (F, A1, J, G) Q) ?_ ?_ A1 v5 hA1 h93
        · intro A1 v5 hA1 h93
          refine t_254_50 hG ⟨fun _ => ?_, fun e => absurd (show (9 : Int32) < zI (((19 : Nat) : Int) - 9) by decide) e⟩
          rw [zN_1]; exact ih A1 _ _ hA1 h93
        · intro w hw ih2 A1 v5 hA1 h93
          have htb := to_b (K := K) (ln := ln) (i := i) hk hw hlb
          have hta := to_at (K := K) (ln := ln) (i := i) (k := k) hw
          have a84 : A1 84 i = zI (ln i) := by rw [hA1 84 (by decide)]; exact hW.2.2.2.2.2.2 i hi
          have apk : A1 92 k = zI (eb 100000 (c k)) := by rw [hA1 92 (by decide)]; exact hp k hk
          have a721 : A1 72 1 = zI (K 4 0) := by rw [hA1 72 (by decide)]; exact hT.2.2.2.1
          have hnb := nx_b (K := K) (ln := ln) (i := i) (c := c) (m := 90) (by decide) hc (19 * k + w)
          refine t_254_50 hG ⟨fun e => ?_, fun _ => ⟨zN_in hk (by decide), ?_⟩⟩
          · rw [show (9 : Int32) = zI 9 from rfl, zI_lt (by omega) (by omega) (by omega) (by omega)] at e
            omega
          · rw [zI_clamp (n := k) (by omega), zI_clamp (n := i) (by omega), apk, a84, a721, show (40 : Int32) = zI 40 from rfl, zI_sub, zI_add, zI_mul, zI_add, zI_add, zZ_1, show (w : Int) - 9 + 1 = ((w + 1 : Nat) : Int) - 9 by omega, zI_jabs (a := (k : Int) - 40 + timZ (K 0 i) * (ln i + ((w : Int) - 9))) (by omega) (by omega), zI_jabs (a := (w : Int) - 9) (by omega) (by omega), zI_add, zN_1, show (100000 : Int32) = zI 100000 from rfl]
            have i2 := ih2
            rw [show 19 * k + (w + 1) = (19 * k + w) + 1 by omega, nxR, hta, (e_div (l := k) hw).1, (e_div (l := k) hw).2] at i2
            generalize hto : (k : Int) - 40 + timZ (K 0 i) * (ln i + ((w : Int) - 9)) = T at htb i2
            rw [zI_lt (a := K 4 0) (by omega) (by omega) (by omega) (by omega)]
            refine ⟨fun e => ⟨zN_in (by omega) (by decide), fun e2 => ?_, fun e2 => ?_⟩, fun e => ?_⟩
            · rw [if_neg (fun q => by omega)] at i2
              exact i2 _ _ hA1 h93
            · have hc0 : 0 ≤ c k := by
                by_cases h0 : c k < 0
                · unfold eb at e; rw [if_pos h0, zI_lt (by decide) (by decide) (by decide) (by decide)] at e; omega
                · omega
              rw [if_pos ⟨hc0, by omega⟩] at i2
              have hebc : eb 100000 (c k) = c k := if_neg (by omega)
              have hTn : (T + 40).toNat < 81 := by omega
              rw [zI_inB (by omega) (by omega), zI_clampZ (a := T + 40) (by omega) (by omega), h93 _ hTn, hebc]
              refine ⟨by omega, i2 _ _ (fun j hj => by rw [wF_row hj]; exact hA1 j hj) (fun m hm => ?_)⟩
              have hnT := hnb (T + 40).toNat
              rw [wF_at]
              unfold upZ
              by_cases em : m = (T + 40).toNat
              · rw [if_pos ⟨rfl, em⟩, if_pos em, eb_mo (by omega) (by omega) (by omega) (by omega), show eb 100000 (c k + ((((w : Int) - 9).natAbs : Nat) : Int)) = c k + ((((w : Int) - 9).natAbs : Nat) : Int) from if_neg (by omega), zI_jmin (by unfold eb; split <;> omega) (by unfold eb; split <;> omega) (by omega) (by omega)]
              · rw [if_neg (fun q => em q.2), if_neg em]; exact h93 m hm
            · have hc0 : c k < 0 := by
                by_cases h0 : c k < 0
                · exact h0
                · unfold eb at e; rw [if_neg h0, zI_lt (by omega) (by omega) (by decide) (by decide)] at e; omega
              refine ih A1 _ _ hA1 ?_
              have hs1 := nx_skip (K := K) (ln := ln) (i := i) hc0 w (by omega)
              have hs2 := nx_skip (K := K) (ln := ln) (i := i) hc0 19 (by omega)
              rw [show 19 * (k + 1) = 19 * k + 19 by omega, hs2, ← hs1]
              exact h93
  have L2 : X d 254 18 [.ref 68, .int (zI (i : Int)), .int (zI (timZ (K 0 i))), .int 0, .null, .null] [] (F, A, J, G) Q := by
    refine up_ind (h := 81) (P := fun k => ∀ A1, (∀ j, j ≠ 93 → A1 j = A j) → (∀ m, m < k → A1 93 m = zI 100000) → X d 254 18 [.ref 68, .int (zI (i : Int)), .int (zI (timZ (K 0 i))), .int (zI (k : Int)), .null, .null] [] (F, A1, J, G) Q) ?_ ?_ A (fun _ _ => rfl) (fun m hm => absurd hm (Nat.not_lt_zero m))
    · intro A1 hA1 h93
      exact t_254_18 hG ⟨fun _ => L3 A1 _ _ hA1 h93, fun e => absurd (by decide) e⟩
    · intro k hk ih A1 hA1 h93
      refine t_254_18 hG ⟨fun e => ?_, fun _ => ⟨zN_in hk (by decide), ?_⟩⟩
      · rw [z80, zI_lt (by omega) (by omega) (by omega) (by omega)] at e
        omega
      · rw [zI_clamp (n := k) (by omega), zN_1]
        refine ih _ (fun j hj => by rw [wF_row hj]; exact hA1 j hj) (fun m hm => ?_)
        rw [wF_at]
        by_cases em : m = k
        · rw [if_pos ⟨rfl, em⟩]; rfl
        · rw [if_neg (fun q => em q.2)]; exact h93 m (by omega)
  refine t_254_0 hG ?_
  rw [zI_clamp (n := i) (by omega), hT.2.2.2.2.2.1 i hi, show (3 : Int32) = zI 3 from rfl, zI_eq (by omega) (by omega) (by omega) (by omega)]
  unfold timZ at L2
  refine ⟨zN_in (by omega) (by decide), fun e => ?_, fun e => ?_⟩
  · rw [if_pos e] at L2; exact L2
  · rw [if_neg e] at L2; exact L2
theorem m_255 (hG : Geo G SL p q) (hT : MTn F A K n) (hW : MTw F A n h ord ml wd ln yr) (hQ : ∀ A', MScr F A (wF F 68 3 0) A' → Q (.inl (some (.int (zI (mnR (wdR K ord ln h) 81))))) (wF F 68 3 0, A', J, G)) : X (d + 1) 255 0 [.ref 68, .null, .null] [] (F, A, J, G) Q := by
  have h10' := hT.1.1
  have h10 : h ≤ 10 := Nat.le_trans hW.1.1 hT.1.1
  have z80 : (80 : Int32) = zI 80 := rfl
  have hsc : ∀ A1, (∀ j, j ≠ 92 → j ≠ 93 → A1 j = A j) → MScr F A (wF F 68 3 0) A1 := fun A1 hA1 => (MScr_code 0).tr ⟨fun _ _ => rfl, fun _ _ => rfl, fun i h1 h2 h3 => hA1 i (by omega) (by omega), fun i h1 h2 j hj => by rw [hA1 i (by omega) (by omega)]⟩
  have hW0 : MTw (wF F 68 3 0) A n h ord ml wd ln yr := by rw [MTw_code]; exact hW
  have L3 : ∀ A1, (∀ j, j ≠ 92 → j ≠ 93 → A1 j = A j) → (∀ k, k < 81 → A1 92 k = zI (eb 100000 (wdR K ord ln h k))) → X (d + 1) 255 66 [.ref 68, .int 100000, .int 0] [] (wF F 68 3 0, A1, J, G) Q := by
    intro A1 hA1 hp1
    have hwb : ∀ k, -1 ≤ wdR K ord ln h k ∧ wdR K ord ln h k ≤ 90 := fun k => by have := wd_b (K := K) (ord := ord) (ln := ln) h k; omega
    have hmb := fun k => mnR_b (c := wdR K ord ln h) (m := 90) (by decide) hwb k
    refine up_ind (h := 81) (P := fun k => X (d + 1) 255 66 [.ref 68, .int (zI (eb 100000 (mnR (wdR K ord ln h) k))), .int (zI (k : Int))] [] (wF F 68 3 0, A1, J, G) Q) ?_ ?_
    · have hm := hmb 81
      have hq := hQ A1 (hsc A1 hA1)
      refine t_255_66 hG ⟨fun _ => ?_, fun e => absurd (by decide) e⟩
      rw [show (100000 : Int32) = zI 100000 from rfl]
      by_cases h0 : mnR (wdR K ord ln h) 81 < 0
      · have he : eb 100000 (mnR (wdR K ord ln h) 81) = 100000 := if_pos h0
        rw [he]
        rw [show mnR (wdR K ord ln h) 81 = -1 by omega] at hq
        exact ⟨fun _ => hq, fun e => absurd rfl e⟩
      · have he : eb 100000 (mnR (wdR K ord ln h) 81) = mnR (wdR K ord ln h) 81 := if_neg h0
        rw [he, zI_eq (by omega) (by omega) (by omega) (by omega)]
        exact ⟨fun e => by omega, fun _ => hq⟩
    · intro k hk ih
      have hm := hmb k
      have hw := hwb k
      refine t_255_66 hG ⟨fun e => ?_, fun _ => ⟨zN_in hk (by decide), ?_⟩⟩
      · rw [z80, zI_lt (by omega) (by omega) (by omega) (by omega)] at e
        omega
      · rw [zI_clamp (n := k) (by omega), hp1 k hk, zN_1, zI_jmin (by unfold eb; split <;> omega) (by unfold eb; split <;> omega) (by unfold eb; split <;> omega) (by unfold eb; split <;> omega), ← eb_mo (by omega) (by omega) (by omega) (by omega)]
        exact ih
  have L2 : ∀ A1, (∀ j, j ≠ 92 → j ≠ 93 → A1 j = A j) → (∀ k, k < 81 → A1 92 k = zI (eb 100000 (wdR K ord ln 0 k))) → X (d + 1) 255 37 [.ref 68, .int 0, .null] [] (wF F 68 3 0, A1, J, G) Q := by
    intro A1 hA1 hp1
    refine up_ind (h := h) (P := fun l => ∀ A1, (∀ j, j ≠ 92 → j ≠ 93 → A1 j = A j) → (∀ k, k < 81 → A1 92 k = zI (eb 100000 (wdR K ord ln l k))) → X (d + 1) 255 37 [.ref 68, .int (zI (l : Int)), .null] [] (wF F 68 3 0, A1, J, G) Q) ?_ ?_ A1 hA1 hp1
    · intro A1 hA1 hp1
      refine t_255_37 hG ⟨fun e => ?_, fun _ => L3 A1 hA1 hp1⟩
      rw [hW0.2.1, zN_lt (by omega) (by omega)] at e
      omega
    · intro l hl ih A1 hA1 hp1
      have hW1 : MTw (wF F 68 3 0) A1 n h ord ml wd ln yr := MTw_fr rfl rfl (fun i h1 h2 => hA1 i (by omega) (by omega)) hW0
      have hT1 : MTn (wF F 68 3 0) A1 K n := MTn_A (fun i hi => hA1 i (by omega) (by omega)) hT
      refine t_255_37 hG ⟨fun _ => ?_, fun e => ?_⟩
      · rw [zI_clamp (n := l) (by omega), hW1.2.2.2.1 l hl]
        refine ⟨zN_in (by omega) (by decide), m_254 hG hT1 hW1 (hW.1.2.1 l hl) (fun k => by have := wd_b (K := K) (ord := ord) (ln := ln) l k; omega) hp1 (fun A2 hA2 hq2 => k_255_55 hG ?_)⟩
        rw [zN_1]
        exact ih A2 (fun j h1 h2 => by rw [hA2 j h1 h2]; exact hA1 j h1 h2) hq2
      · rw [hW0.2.1, zN_lt (by omega) (by omega)] at e
        omega
  refine t_255_0 hG ?_
  refine up_ind (h := 81) (P := fun k => ∀ A1, (∀ j, j ≠ 92 → j ≠ 93 → A1 j = A j) → (∀ m, m < k → A1 92 m = zI 100000) → X (d + 1) 255 7 [.ref 68, .int (zI (k : Int)), .null] [] (wF F 68 3 0, A1, J, G) Q) ?_ ?_ A (fun _ _ _ => rfl) (fun m hm => absurd hm (Nat.not_lt_zero m))
  · intro A1 hA1 hp1
    refine t_255_7 hG ⟨fun _ => L2 _ (fun j h1 h2 => by rw [wF_row h1]; exact hA1 j h1 h2) (fun k hk => ?_), fun e => absurd (by decide) e⟩
    rw [wF_at]
    show _ = zI (eb 100000 (if k = 40 then 0 else -1))
    by_cases ek : k = 40
    · rw [if_pos ⟨rfl, ek⟩, if_pos ek]; rfl
    · rw [if_neg (fun q => ek q.2), if_neg ek]; exact hp1 k hk
  · intro k hk ih A1 hA1 hp1
    refine t_255_7 hG ⟨fun e => ?_, fun _ => ⟨zN_in hk (by decide), ?_⟩⟩
    · rw [z80, zI_lt (by omega) (by omega) (by omega) (by omega)] at e
      omega
    · rw [zI_clamp (n := k) (by omega), zN_1]
      refine ih _ (fun j h1 h2 => by rw [wF_row h1]; exact hA1 j h1 h2) (fun m hm => ?_)
      rw [wF_at]
      by_cases em : m = k
      · rw [if_pos ⟨rfl, em⟩]; rfl
      · rw [if_neg (fun q => em q.2)]; exact hp1 m (by omega)
end MWedgesZ
