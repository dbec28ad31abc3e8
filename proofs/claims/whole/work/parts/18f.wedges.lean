/-! the fewest wedges -/
section WedgesZ
variable {d : Nat} {F A F' A' F'' A'' : Nat → Nat → Int32} {J : Nat → Nat → Int64} {G : pG} {Q : pR → pM → Prop} {SL p q t a na b i l f : Nat} {K : Nat → Nat → Int} {n h : Nat} {ord ord' : Nat → Nat} {ml wd ln ml' wd' ln' : Nat → Int} {yr z y v τ x fd B : Int} {c : Nat → Int}
def eb (B x : Int) : Int := if x < 0 then B else x
def mo (a b : Int) : Int := if a < 0 then b else if b < 0 then a else min a b
theorem eb_mo {a b : Int} (ha : a < B) (hb : b < B) (ha1 : -1 ≤ a) (hb1 : -1 ≤ b) : eb B (mo a b) = min (eb B a) (eb B b) := by
  unfold eb mo
  by_cases h1 : a < 0
  · rw [if_pos h1, if_pos h1]
    by_cases h2 : b < 0
    · rw [if_pos h2]; omega
    · rw [if_neg h2]; omega
  · rw [if_neg h1, if_neg h1]
    by_cases h2 : b < 0
    · rw [if_pos h2, if_pos h2, if_neg h1]; omega
    · rw [if_neg h2, if_neg h2, if_neg (by omega)]
/-- one table's wedges, cell by cell -/
def toZ (K : Nat → Nat → Int) (ln : Nat → Int) (i e : Nat) : Int := ((e / 19 : Nat) : Int) - 40 + timZ (K 0 i) * (ln i + (((e % 19 : Nat) : Int) - 9))
def nxR (K : Nat → Nat → Int) (ln : Nat → Int) (i : Nat) (c : Nat → Int) : Nat → Nat → Int
  | 0 => fun _ => -1
  | e + 1 => if 0 ≤ c (e / 19) ∧ ((toZ K ln i e).natAbs : Int) ≤ K 4 0 then upZ (nxR K ln i c e) (toZ K ln i e + 40).toNat (mo (nxR K ln i c e (toZ K ln i e + 40).toNat) (c (e / 19) + ((((e % 19 : Nat) : Int) - 9).natAbs : Int))) else nxR K ln i c e
def wdR (K : Nat → Nat → Int) (ord : Nat → Nat) (ln : Nat → Int) : Nat → Nat → Int
  | 0 => fun k => if k = 40 then 0 else -1
  | l + 1 => nxR K ln (ord l) (wdR K ord ln l) (19 * 81)
def mnR (c : Nat → Int) : Nat → Int
  | 0 => -1
  | k + 1 => mo (mnR c k) (c k)
theorem mo_b {a b m : Int} (ha : -1 ≤ a ∧ a ≤ m) (hb : -1 ≤ b ∧ b ≤ m) : -1 ≤ mo a b ∧ mo a b ≤ m := by
  unfold mo; split
  · exact hb
  · split
    · exact ha
    · omega
theorem nx_b {m : Int} (hm : 0 ≤ m) (hc : ∀ k, -1 ≤ c k ∧ c k ≤ m) : ∀ e k, -1 ≤ nxR K ln i c e k ∧ nxR K ln i c e k ≤ m + 9
  | 0, k => by show -1 ≤ (-1 : Int) ∧ (-1 : Int) ≤ m + 9; omega
  | e + 1, k => by
    have h1 := nx_b hm hc e
    have h2 := hc (e / 19)
    rw [nxR]
    split
    · unfold upZ
      split
      · exact mo_b (h1 _) (by omega)
      · exact h1 k
    · exact h1 k
theorem wd_b : ∀ l k, -1 ≤ wdR K ord ln l k ∧ wdR K ord ln l k ≤ 9 * l
  | 0, k => by
    show -1 ≤ (if k = 40 then (0 : Int) else -1) ∧ (if k = 40 then (0 : Int) else -1) ≤ 9 * ((0 : Nat) : Int)
    split <;> omega
  | l + 1, k => by
    have h1 := nx_b (K := K) (ln := ln) (i := ord l) (c := wdR K ord ln l) (m := 9 * l) (by omega) (wd_b l) (19 * 81) k
    rw [wdR]
    omega
theorem mnR_b {m : Int} (hm : 0 ≤ m) (hc : ∀ k, -1 ≤ c k ∧ c k ≤ m) : ∀ k, -1 ≤ mnR c k ∧ mnR c k ≤ m
  | 0 => by show -1 ≤ (-1 : Int) ∧ (-1 : Int) ≤ m; omega
  | k + 1 => mo_b (mnR_b hm hc k) (hc k)
theorem nx_skip {k : Nat} (hc : c k < 0) : ∀ w, w ≤ 19 → nxR K ln i c (19 * k + w) = nxR K ln i c (19 * k)
  | 0, _ => rfl
  | w + 1, hw => by
    rw [show 19 * k + (w + 1) = (19 * k + w) + 1 by omega, nxR, nx_skip hc w (by omega), if_neg]
    rintro ⟨h1, -⟩
    rw [show (19 * k + w) / 19 = k by omega] at h1
    omega
theorem to_at {k w : Nat} (hw : w < 19) : toZ K ln i (19 * k + w) = (k : Int) - 40 + timZ (K 0 i) * (ln i + ((w : Int) - 9)) := by
  unfold toZ
  rw [(e_div (l := k) hw).1, (e_div (l := k) hw).2]
theorem Geo_swap (hG : Geo G SL p q) : Geo (gSetR (gSetR G 49 9 (q + 1)) 49 10 (p + 1)) SL q p := by
  obtain ⟨g1, g2, g3, g4, g5, g6, g7, g8, g9⟩ := hG
  have hd : ∀ e ∈ gRl, ¬ (e.1 = 49 ∧ (e.2.1 = 9 ∨ e.2.1 = 10)) := by decide +kernel
  refine ⟨g1, g2, g3, fun e he => ?_, g5, g6, ?_, ?_, g9.elim (fun h => Or.inr ⟨h.2, h.1⟩) (fun h => Or.inl ⟨h.2, h.1⟩)⟩
  · have h1 := hd e he
    rw [← g4 e he]
    show va_up (va_up (gR G) 49 (va_up (gR G 49) 9 (q + 1))) 49 (va_up (va_up (gR G) 49 (va_up (gR G 49) 9 (q + 1)) 49) 10 (p + 1)) e.1 e.2.1 = _
    by_cases e1 : e.1 = 49
    · rw [e1]
      simp only [va_up, if_true]
      rw [if_neg (fun q => h1 ⟨e1, Or.inr q⟩), if_neg (fun q => h1 ⟨e1, Or.inl q⟩)]
    · simp only [va_up, if_neg e1]
  · show va_up (va_up (gR G) 49 (va_up (gR G 49) 9 (q + 1))) 49 (va_up (va_up (gR G) 49 (va_up (gR G 49) 9 (q + 1)) 49) 10 (p + 1)) 49 9 = _
    simp [va_up]
  · show va_up (va_up (gR G) 49 (va_up (gR G 49) 9 (q + 1))) 49 (va_up (va_up (gR G) 49 (va_up (gR G 49) 9 (q + 1)) 49) 10 (p + 1)) 49 10 = _
    simp [va_up]
theorem pq_ne (hG : Geo G SL p q) : p ≠ q ∧ (p = 50 ∨ p = 51) ∧ (q = 50 ∨ q = 51) := by
  rcases hG.2.2.2.2.2.2.2.2 with ⟨rfl, rfl⟩ | ⟨rfl, rfl⟩ <;> decide
theorem tim_b (k : Int) : 1 ≤ timZ k ∧ timZ k ≤ 2 := by unfold timZ; split <;> omega
theorem to_b {k w : Nat} (hk : k < 81) (hw : w < 19) (hl : -9 ≤ ln i ∧ ln i ≤ 9) : -100 ≤ (k : Int) - 40 + timZ (K 0 i) * (ln i + ((w : Int) - 9)) ∧ (k : Int) - 40 + timZ (K 0 i) * (ln i + ((w : Int) - 9)) ≤ 100 := by
  unfold timZ; split <;> omega
theorem c_117 (hG : Geo G SL p q) (hT : CTn F A K n) (hW : CTw 27 F A n h ord ml wd ln yr) (hi : i < n) (hc : ∀ k, -1 ≤ c k ∧ c k ≤ 90) (hp : ∀ k, k < 81 → A p k = zI (eb 1000000 (c k))) (hQ : ∀ A', (∀ j, j ≠ q → A' j = A j) → (∀ k, k < 81 → A' q k = zI (eb 1000000 (nxR K ln i c (19 * 81) k))) → Q (.inl none) (F, A', J, gSetR (gSetR G 49 9 (q + 1)) 49 10 (p + 1))) : X (d + 1) 117 0 [.ref 49, .int (zI (i : Int)), .null, .null, .null, .null] [] (F, A, J, G) Q := by
  have h10' := hT.1.1
  obtain ⟨hpq, hp5, hq5⟩ := pq_ne hG
  have hlb := (hW.1.2.2.2.1 i hi).2.2
  have hk0 := (hT.1.2.1 i hi).1
  have h40 := hT.1.2.2.1
  have z81 : (81 : Int32) = zI ((81 : Nat) : Int) := rfl
  refine t_117_0 hG ?_
  -- the next row cleared
  have L1 : ∀ A1, (∀ j, j ≠ q → A1 j = A j) → (∀ k, k < 81 → A1 q k = zI 1000000) → X (d + 1) 117 24 [.ref 49, .int (zI (i : Int)), .int 0, .null, .null, .null] [] (F, A1, J, G) Q := by
    intro A1 hA1 hq1
    refine up_ind (h := 81) (P := fun k => ∀ A1 v3 v4 v5, (∀ j, j ≠ q → A1 j = A j) → (∀ m, m < 81 → A1 q m = zI (eb 1000000 (nxR K ln i c (19 * k) m))) → X (d + 1) 117 24 [.ref 49, .int (zI (i : Int)), .int (zI (k : Int)), v3, v4, v5] [] (F, A1, J, G) Q) ?_ ?_ A1 .null .null .null hA1 hq1
    · intro A1 v3 v4 v5 hA1 hq1
      refine t_117_24 hG ⟨fun e => ?_, fun _ => hQ A1 hA1 hq1⟩
      exact absurd e (by decide)
    · intro k hk ih A1 v3 v4 v5 hA1 hq1
      have hck := hc k
      refine t_117_24 hG ⟨fun _ => ?_, fun e => ?_⟩
      · refine up_ind (h := 19) (P := fun w => ∀ A1 v4 v5, (∀ j, j ≠ q → A1 j = A j) → (∀ m, m < 81 → A1 q m = zI (eb 1000000 (nxR K ln i c (19 * k + w) m))) → X (d + 1) 117 33 [.ref 49, .int (zI (i : Int)), .int (zI (k : Int)), .int (zI ((w : Int) - 9)), v4, v5] [] (F, A1, J, G) Q) ?_ ?_ A1 v4 v5 hA1 hq1
        · intro A1 v4 v5 hA1 hq1
          refine t_117_33 hG ⟨fun _ => ?_, fun e => absurd (show (9 : Int32) < zI (((19 : Nat) : Int) - 9) by decide) e⟩
          rw [zN_1]; exact ih A1 _ _ _ hA1 hq1
        · intro w hw ih2 A1 v4 v5 hA1 hq1
          have htb := to_b (K := K) (ln := ln) (i := i) hk hw hlb
          have hta := to_at (K := K) (ln := ln) (i := i) (k := k) hw
          have a13 : A1 13 i = zI (K 0 i) := by rw [hA1 13 (by omega)]; exact hT.2.2.2.2.1 i hi
          have a31 : A1 31 i = zI (ln i) := by rw [hA1 31 (by omega)]; exact hW.2.2.2.2.2.2 i hi
          have apk : A1 p k = zI (eb 1000000 (c k)) := by rw [hA1 p hpq]; exact hp k hk
          have hnb := nx_b (K := K) (ln := ln) (i := i) (c := c) (m := 90) (by decide) hc (19 * k + w)
          refine t_117_33 hG ⟨fun e => ?_, fun _ => ⟨zN_in hk (by decide), ?_⟩⟩
          · rw [show (9 : Int32) = zI 9 from rfl, zI_lt (by omega) (by omega) (by omega) (by omega)] at e
            omega
          · rw [zI_clamp (n := k) (by omega), zI_clamp (n := i) (by omega), apk, a13, a31, hT.2.2.1, ltm_z hk0.1 hk0.2, show (40 : Int32) = zI 40 from rfl, zI_sub, zI_add, zI_mul, zI_add, zI_add, zZ_1, show (w : Int) - 9 + 1 = ((w + 1 : Nat) : Int) - 9 by omega, lim_z (by omega) (by omega) (by omega) (by omega), zI_jabs (by omega) (by omega), zI_add, zN_1, show (1000000 : Int32) = zI 1000000 from rfl]
            have i2 := ih2
            rw [show 19 * k + (w + 1) = (19 * k + w) + 1 by omega, nxR, hta, (e_div (l := k) hw).1, (e_div (l := k) hw).2] at i2
            generalize hto : (k : Int) - 40 + timZ (K 0 i) * (ln i + ((w : Int) - 9)) = T at htb i2
            refine ⟨fun e => ⟨zN_in (by omega) (by decide), fun e2 => ?_, fun e2 => ?_⟩, fun e => ?_⟩
            · rw [decide_eq_true_eq] at e2
              have hc0 : 0 ≤ c k := by
                by_cases h0 : c k < 0
                · unfold eb at e; rw [if_pos h0, zI_lt (by decide) (by decide) (by decide) (by decide)] at e; omega
                · omega
              rw [if_pos ⟨hc0, e2⟩] at i2
              have hebc : eb 1000000 (c k) = c k := if_neg (by omega)
              have hTn : (T + 40).toNat < 81 := by omega
              rw [zI_inB (by omega) (by omega), zI_clampZ (a := T + 40) (by omega) (by omega), hq1 _ hTn, hebc]
              refine ⟨by omega, i2 _ _ _ (fun j hj => by rw [wF_row hj]; exact hA1 j hj) (fun m hm => ?_)⟩
              have hnT := hnb (T + 40).toNat
              rw [wF_at]
              unfold upZ
              by_cases em : m = (T + 40).toNat
              · rw [if_pos ⟨rfl, em⟩, if_pos em, eb_mo (by omega) (by omega) (by omega) (by omega), show eb 1000000 (c k + ((((w : Int) - 9).natAbs : Nat) : Int)) = c k + ((((w : Int) - 9).natAbs : Nat) : Int) from if_neg (by omega), zI_jmin (by unfold eb; split <;> omega) (by unfold eb; split <;> omega) (by omega) (by omega)]
              · rw [if_neg (fun q => em q.2), if_neg em]; exact hq1 m hm
            · rw [decide_eq_false_iff_not] at e2
              rw [if_neg (fun q => e2 q.2)] at i2
              exact i2 _ _ _ hA1 hq1
            · have hc0 : c k < 0 := by
                by_cases h0 : c k < 0
                · exact h0
                · unfold eb at e; rw [if_neg h0, zI_lt (by omega) (by omega) (by decide) (by decide)] at e; omega
              refine ih A1 _ _ _ hA1 ?_
              have hs1 := nx_skip (K := K) (ln := ln) (i := i) hc0 w (by omega)
              have hs2 := nx_skip (K := K) (ln := ln) (i := i) hc0 19 (by omega)
              rw [show 19 * (k + 1) = 19 * k + 19 by omega, hs2, ← hs1]
              exact hq1
      · rw [z81, zN_lt (by omega) (by omega)] at e
        omega
  refine up_ind (h := 81) (P := fun k => ∀ A1, (∀ j, j ≠ q → A1 j = A j) → (∀ m, m < k → A1 q m = zI 1000000) → X (d + 1) 117 2 [.ref 49, .int (zI (i : Int)), .int (zI (k : Int)), .null, .null, .null] [] (F, A1, J, G) Q) ?_ ?_ A (fun _ _ => rfl) (fun m hm => absurd hm (Nat.not_lt_zero m))
  · intro A1 hA1 hq1
    exact t_117_2 hG ⟨fun e => absurd e (by decide), fun _ => L1 A1 hA1 hq1⟩
  · intro k hk ih A1 hA1 hq1
    refine t_117_2 hG ⟨fun _ => ⟨zN_in hk (by decide), ?_⟩, fun e => ?_⟩
    · rw [zI_clamp (n := k) (by omega), zN_1]
      refine ih _ (fun j hj => by rw [wF_row hj]; exact hA1 j hj) (fun m hm => ?_)
      rw [wF_at]
      by_cases em : m = k
      · rw [if_pos ⟨rfl, em⟩]; rfl
      · rw [if_neg (fun q => em q.2)]; exact hq1 m (by omega)
    · rw [z81, zN_lt (by omega) (by omega)] at e
      omega
theorem c_116 (hG : Geo G SL p q) (hT : CTn F A K n) (hW : CTw 27 F A n h ord ml wd ln yr) (hQ : ∀ F' A' G' p' q', CScr F A F' A' → Geo G' SL p' q' → gC G' = gC G → gS G' = gS G → Q (.inl (some (.int (zI (mnR (wdR K ord ln h) 81))))) (F', A', J, G')) : X (d + 2) 116 0 [.ref 49, .null, .null] [] (F, A, J, G) Q := by
  have h10' := hT.1.1
  have h10 : h ≤ 10 := Nat.le_trans hW.1.1 hT.1.1
  have z81 : (81 : Int32) = zI ((81 : Nat) : Int) := rfl
  -- the last loop
  have L3 : ∀ A1 G1 p1 q1, CScr F A F A1 → Geo G1 SL p1 q1 → gC G1 = gC G → gS G1 = gS G → (∀ k, k < 81 → A1 p1 k = zI (eb 1000000 (wdR K ord ln h k))) → X (d + 2) 116 69 [.ref 49, .int 1000000, .int 0] [] (F, A1, J, G1) Q := by
    intro A1 G1 p1 q1 hs1 hG1 c1 c2 hp1
    have hwb : ∀ k, -1 ≤ wdR K ord ln h k ∧ wdR K ord ln h k ≤ 90 := fun k => by have := wd_b (K := K) (ord := ord) (ln := ln) h k; omega
    have hmb := fun k => mnR_b (c := wdR K ord ln h) (m := 90) (by decide) hwb k
    refine up_ind (h := 81) (P := fun k => X (d + 2) 116 69 [.ref 49, .int (zI (eb 1000000 (mnR (wdR K ord ln h) k))), .int (zI (k : Int))] [] (F, A1, J, G1) Q) ?_ ?_
    · have hm := hmb 81
      have hq := hQ F A1 G1 p1 q1 hs1 hG1 c1 c2
      refine t_116_69 hG1 ⟨fun e => absurd e (by decide), fun _ => ?_⟩
      rw [show (1000000 : Int32) = zI 1000000 from rfl]
      by_cases h0 : mnR (wdR K ord ln h) 81 < 0
      · have he : eb 1000000 (mnR (wdR K ord ln h) 81) = 1000000 := if_pos h0
        rw [he]
        rw [show mnR (wdR K ord ln h) 81 = -1 by omega] at hq
        exact ⟨fun e => absurd e (by decide), fun _ => hq⟩
      · have he : eb 1000000 (mnR (wdR K ord ln h) 81) = mnR (wdR K ord ln h) 81 := if_neg h0
        rw [he, zI_lt (by omega) (by omega) (by omega) (by omega)]
        exact ⟨fun _ => hq, fun e => by omega⟩
    · intro k hk ih
      have hm := hmb k
      have hw := hwb k
      refine t_116_69 hG1 ⟨fun _ => ⟨zN_in hk (by decide), ?_⟩, fun e => ?_⟩
      · rw [zI_clamp (n := k) (by omega), hp1 k hk, zN_1, zI_jmin (by unfold eb; split <;> omega) (by unfold eb; split <;> omega) (by unfold eb; split <;> omega) (by unfold eb; split <;> omega), ← eb_mo (by omega) (by omega) (by omega) (by omega)]
        exact ih
      · rw [z81, zN_lt (by omega) (by omega)] at e
        omega
  have L2 : ∀ A1, CScr F A F A1 → (∀ k, k < 81 → A1 p k = zI (eb 1000000 (wdR K ord ln 0 k))) → X (d + 2) 116 34 [.ref 49, .int 0, .null] [] (F, A1, J, G) Q := by
    intro A1 hs1 hp1
    refine up_ind (h := h) (P := fun l => ∀ A1 G1 p1 q1, CScr F A F A1 → Geo G1 SL p1 q1 → gC G1 = gC G → gS G1 = gS G → (∀ k, k < 81 → A1 p1 k = zI (eb 1000000 (wdR K ord ln l k))) → X (d + 2) 116 34 [.ref 49, .int (zI (l : Int)), .null] [] (F, A1, J, G1) Q) ?_ ?_ A1 G p q hs1 hG rfl rfl hp1
    · intro A1 G1 p1 q1 hs1 hG1 c1 c2 hp1
      refine t_116_34 hG1 ⟨fun e => ?_, fun _ => L3 A1 G1 p1 q1 hs1 hG1 c1 c2 hp1⟩
      rw [hW.2.1, zN_lt (by omega) (by omega)] at e
      omega
    · intro l hl ih A1 G1 p1 q1 hs1 hG1 c1 c2 hp1
      have hW1 := CTw_scr hs1 hW
      have a28 : A1 28 l = zI (ord l : Int) := hW1.2.2.2.1 l hl
      have hq5 := (pq_ne hG1).2.2
      refine t_116_34 hG1 ⟨fun _ => ?_, fun e => ?_⟩
      · rw [zI_clamp (n := l) (by omega), a28]
        refine ⟨zN_in (by omega) (by decide), c_117 hG1 (CTn_scr hs1 hT) hW1 (hW.1.2.1 l hl) (fun k => by have := wd_b (K := K) (ord := ord) (ln := ln) l k; omega) hp1 (fun A2 hA2 hq2 => k_116_58 (Geo_swap hG1) ?_)⟩
        rw [zN_1]
        exact ih A2 _ q1 p1 (hs1.tr ⟨fun _ _ _ => rfl, rfl, fun i _ _ h3 => hA2 i (by omega)⟩) (Geo_swap hG1) c1 c2 hq2
      · rw [hW.2.1, zN_lt (by omega) (by omega)] at e
        omega
  have hp5 := (pq_ne hG).2.1
  refine t_116_0 hG ?_
  refine up_ind (h := 81) (P := fun k => ∀ A1, CScr F A F A1 → (∀ m, m < k → A1 p m = zI (eb 1000000 (wdR K ord ln 0 m))) → X (d + 2) 116 2 [.ref 49, .int (zI (k : Int)), .null] [] (F, A1, J, G) Q) ?_ ?_ A CScr.rfl (fun m hm => absurd hm (Nat.not_lt_zero m))
  · intro A1 hs1 hp1
    exact t_116_2 hG ⟨fun e => absurd e (by decide), fun _ => L2 A1 hs1 hp1⟩
  · intro k hk ih A1 hs1 hp1
    have hfin : ∀ v, v = zI (eb 1000000 (wdR K ord ln 0 k)) → X (d + 2) 116 2 [.ref 49, .int (zI ((k + 1 : Nat) : Int)), .null] [] (F, wF A1 p k v, J, G) Q := by
      intro v hv
      refine ih _ (hs1.tr ⟨fun _ _ _ => rfl, rfl, fun i _ _ h3 => wF_row (by omega)⟩) (fun m hm => ?_)
      rw [wF_at]
      by_cases em : m = k
      · rw [if_pos ⟨rfl, em⟩, em]; exact hv
      · rw [if_neg (fun q => em q.2)]; exact hp1 m (by omega)
    refine t_116_2 hG ⟨fun _ => ?_, fun e => ?_⟩
    · rw [zI_clamp (n := k) (by omega), zN_1, show (40 : Int32) = zI ((40 : Nat) : Int) from rfl, zN_eq (by omega) (by omega)]
      refine ⟨fun e => ⟨zN_in hk (by decide), hfin _ ?_⟩, fun e => ⟨zN_in hk (by decide), hfin _ ?_⟩⟩
      · show (0 : Int32) = zI (eb 1000000 (if k = 40 then 0 else -1)); rw [if_pos e]; rfl
      · show (1000000 : Int32) = zI (eb 1000000 (if k = 40 then 0 else -1)); rw [if_neg e]; rfl
    · rw [z81, zN_lt (by omega) (by omega)] at e
      omega
end WedgesZ
