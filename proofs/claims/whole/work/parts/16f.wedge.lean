/-! one wedge -/
section OneWedge
variable {d : Nat} {F A F' A' F'' A'' : Nat → Nat → Int32} {J : Nat → Nat → Int64} {G : pG} {Q : pR → pM → Prop} {SL p q t a na b i l : Nat} {K : Nat → Nat → Int} {n h : Nat} {ord ord' : Nat → Nat} {ml wd ln ml' wd' ln' : Nat → Int} {yr z y : Int}
def owP (K : Nat → Nat → Int) (h : Nat) (ord : Nat → Nat) (ml wd ln : Nat → Int) (yr : Int) (e : Nat) : Bool := decide (¬ ((e % 19 : Nat) : Int) - 9 = wd (ord (e / 19))) && stdB K h ord ml (upZ wd (ord (e / 19)) (((e % 19 : Nat) : Int) - 9)) ln yr
def owA (ord : Nat → Nat) (r : Int) : Int := if r < 0 then -1 else 100 * (ord (r.toNat / 19) : Int) + (((r.toNat % 19 : Nat) : Int) - 9) + 50
def oneZ (K : Nat → Nat → Int) (h : Nat) (ord : Nat → Nat) (ml wd ln : Nat → Int) (yr : Int) : Int := if brkZ K h ord ml wd ln yr = -1 then -1 else owA ord (fsB (owP K h ord ml wd ln yr) (19 * h) 0)
theorem owA_n (e : Nat) : owA ord (e : Int) = 100 * (ord (e / 19) : Int) + (((e % 19 : Nat) : Int) - 9) + 50 := by
  unfold owA
  rw [if_neg (by omega), Int.toNat_natCast]
theorem e_div {k : Nat} (hk : k < 19) : (19 * l + k) / 19 = l ∧ (19 * l + k) % 19 = k := by omega
theorem owP_at {k : Nat} (hk : k < 19) : owP K h ord ml wd ln yr (19 * l + k) = (decide (¬ (k : Int) - 9 = wd (ord l)) && stdB K h ord ml (upZ wd (ord l) ((k : Int) - 9)) ln yr) := by
  unfold owP
  rw [(e_div (l := l) hk).1, (e_div (l := l) hk).2]
theorem c_115 (hG : Geo G SL p q) (hT : CTn F A K n) (hW : CTw 27 F A n h ord ml wd ln yr) (hQ : ∀ F' A', CScr F A F' A' → Q (.inl (some (.int (zI (oneZ K h ord ml wd ln yr))))) (F', A', J, G)) : X (d + 5) 115 0 [.ref 49, .null, .null, .null] [] (F, A, J, G) Q := by
  have h10' := hT.1.1
  have h10 : h ≤ 10 := Nat.le_trans hW.1.1 hT.1.1
  refine t_115_0 hG (c_88 hG tw27 hT hW (fun A0 hf0 hg0 => k_115_7 hG ⟨fun e => ?_, fun e => ?_⟩))
  · have hnb : ¬ brkZ K h ord ml wd ln yr = -1 := by
      intro hb
      rw [show stdB K h ord ml wd ln yr = true from stdB_iff.mpr hb] at e
      exact absurd e (by decide)
    have hQ' : ∀ F' A', CScr F A F' A' → Q (.inl (some (.int (zI (owA ord (fsB (owP K h ord ml wd ln yr) (19 * h) (19 * 0))))))) (F', A', J, G) := by
      intro F' A' hs
      have := hQ F' A' hs
      unfold oneZ at this
      rw [if_neg hnb] at this
      exact this
    have hs0 : CScr F A F A0 := FrT_scr27 hf0
    have hW0 := CTw_scr hs0 hW
    have hs1 := hs0.tr (bec_scr (F := F) (A := A0))
    have hW1 := bec_tw h10' hW0
    have outer : ∀ m l, l + m = h → (∀ F' A', CScr F A F' A' → Q (.inl (some (.int (zI (owA ord (fsB (owP K h ord ml wd ln yr) (19 * m) (19 * l))))))) (F', A', J, G)) → ∀ F1 A1 v2 v3, CScr F A F1 A1 → CTw 53 F1 A1 n h ord ml wd ln yr → X (d + 5) 115 25 [.ref 49, .int (zI (l : Int)), v2, v3] [] (F1, A1, J, G) Q := by
      intro m
      induction m with
      | zero =>
        intro l hl hq F1 A1 v2 v3 hs hW53
        have hW27 := CTw_scr hs hW
        refine t_115_25 hG ⟨fun e => ?_, fun _ => hq F1 A1 hs⟩
        rw [hW27.2.1, zN_lt (by omega) (by omega)] at e
        omega
      | succ m ih =>
        intro l hl hq F1 A1 v2 v3 hs hW53
        have hW27 := CTw_scr hs hW
        have hol := hW.1.2.1 l (by omega)
        refine t_115_25 hG ⟨fun _ => ?_, fun e => ?_⟩
        · rw [zI_clamp (by omega), hW27.2.2.2.1 l (by omega)]
          refine ⟨zN_in (by omega) (by decide), ?_⟩
          have inner : ∀ k' k, k + k' = 19 → (∀ F' A', CScr F A F' A' → Q (.inl (some (.int (zI (owA ord (fsB (owP K h ord ml wd ln yr) (k' + 19 * m) (19 * l + k))))))) (F', A', J, G)) → ∀ A2 u, CScr F A F1 A2 → CTw 53 F1 A2 n h ord ml (upZ wd (ord l) u) ln yr → X (d + 5) 115 49 [.ref 49, .int (zI (l : Int)), .int (zI (ord l : Int)), .int (zI ((k : Int) - 9))] [] (F1, A2, J, G) Q := by
            intro k'
            induction k' with
            | zero =>
              intro k hk hq A2 u hs2 hW2
              have hW27' := CTw_scr hs2 hW
              refine t_115_49 hG ⟨fun _ => ?_, fun e => ?_⟩
              · rw [zI_clamp (by omega), hW27'.2.2.2.2.2.1 _ hol, zN_1]
                refine ⟨zN_in (by omega) (by decide), ih (l + 1) (by omega) ?_ F1 _ _ _ ?_ ?_⟩
                · intro F' A' hs'
                  have := hq F' A' hs'
                  rw [Nat.zero_add, show 19 * l + k = 19 * (l + 1) by omega] at this
                  exact this
                · exact hs2.tr ⟨fun i _ _ => rfl, rfl, fun i _ _ h3 => wF_row (by omega)⟩
                · have := CTw_wdg (i := ord l) (v := wd (ord l)) (by have := (hW.1.2.2.2.1 _ hol).2.1; omega) hW2
                  rw [upZ_up, upZ_id] at this
                  exact this
              · rw [show (9 : Int32) = zI 9 from rfl, zI_lt (by omega) (by omega) (by omega) (by omega)] at e
                omega
            | succ k' ih2 =>
              intro k hk hq A2 u hs2 hW2
              have hW27' := CTw_scr hs2 hW
              have hwb := (hW.1.2.2.2.1 _ hol).2.1
              rw [show k' + 1 + 19 * m = (k' + 19 * m) + 1 by omega] at hq
              have hs3 : CScr F A F1 (wF A2 56 (ord l) (zI ((k : Int) - 9))) := hs2.tr ⟨fun i _ _ => rfl, rfl, fun i _ _ h3 => wF_row (by omega)⟩
              have hW3 := CTw_wdg (i := ord l) (v := (k : Int) - 9) (by omega) hW2
              rw [upZ_up] at hW3
              have hpe := owP_at (K := K) (h := h) (ord := ord) (ml := ml) (wd := wd) (ln := ln) (yr := yr) (l := l) (k := k) (by omega)
              have hnext : owP K h ord ml wd ln yr (19 * l + k) = false → ∀ A4, CScr F A F1 A4 → CTw 53 F1 A4 n h ord ml (upZ wd (ord l) ((k : Int) - 9)) ln yr → X (d + 5) 115 49 [.ref 49, .int (zI (l : Int)), .int (zI (ord l : Int)), .int (zI (((k + 1 : Nat) : Int) - 9))] [] (F1, A4, J, G) Q := by
                intro hp A4 hs4 hW4
                refine ih2 (k + 1) (by omega) ?_ A4 _ hs4 hW4
                intro F' A' hs'
                have := hq F' A' hs'
                rw [fsB, hp, if_neg (by decide)] at this
                exact this
              refine t_115_49 hG ⟨fun e => ?_, fun _ => ?_⟩
              · rw [show (9 : Int32) = zI 9 from rfl, zI_lt (by omega) (by omega) (by omega) (by omega)] at e
                omega
              · rw [zI_clamp (by omega), hW27'.2.2.2.2.2.1 _ hol, zI_eq (by omega) (by omega) (by omega) (by omega), zZ_1, show (k : Int) - 9 + 1 = ((k + 1 : Nat) : Int) - 9 by omega]
                refine ⟨zN_in (by omega) (by decide), fun e => ?_, fun e => ?_⟩
                · exact hnext (by rw [hpe, decide_eq_false (fun q => q e)]; rfl) _ hs3 hW3
                · refine c_88 hG tw53 (CTn_scr hs3 hT) hW3 (fun A4 hf4 hg4 => k_115_85 hG ⟨fun e4 => ?_, fun e4 => ?_⟩)
                  · rw [zZ_1, show (k : Int) - 9 + 1 = ((k + 1 : Nat) : Int) - 9 by omega]
                    have hsf : stdB K h ord ml (upZ wd (ord l) ((k : Int) - 9)) ln yr = false := by
                      cases hb : stdB K h ord ml (upZ wd (ord l) ((k : Int) - 9)) ln yr
                      · rfl
                      · rw [hb] at e4; exact absurd e4 (by decide)
                    refine hnext (by rw [hpe, hsf, Bool.and_false]) A4 (hs3.tr (FrT_scr53 hf4)) ?_
                    obtain ⟨hw, f1, f2, b0, b1, b2, b3⟩ := hW3
                    exact ⟨hw, f1, f2, by rw [hf4 _ (by omega)]; exact b0, by rw [hf4 _ (by omega)]; exact b1, by rw [hf4 _ (by omega)]; exact b2, by rw [hf4 _ (by omega)]; exact b3⟩
                  · have hst : stdB K h ord ml (upZ wd (ord l) ((k : Int) - 9)) ln yr = true := by
                      cases hb : stdB K h ord ml (upZ wd (ord l) ((k : Int) - 9)) ln yr
                      · rw [hb] at e4; exact absurd rfl e4
                      · rfl
                    have := hq F1 A4 (hs3.tr (FrT_scr53 hf4))
                    rw [fsB, hpe, hst, decide_eq_true e, Bool.and_self, if_pos rfl, owA_n, (e_div (l := l) (k := k) (by omega)).1, (e_div (l := l) (k := k) (by omega)).2] at this
                    rw [show (100 : Int32) = zI 100 from rfl, show (50 : Int32) = zI 50 from rfl, zI_mul, zI_add, zI_add]
                    exact this
          refine inner 19 0 rfl ?_ A1 (wd (ord l)) hs (by rw [upZ_id]; exact hW53)
          intro F' A' hs'
          have := hq F' A' hs'
          rw [show 19 * (m + 1) = 19 + 19 * m by omega] at this
          exact this
        · rw [hW27.2.1, zN_lt (by omega) (by omega)] at e
          omega
    exact outer h 0 (by omega) hQ' _ _ _ _ hs1 hW1
  · have hb : brkZ K h ord ml wd ln yr = -1 := by
      rw [← stdB_iff]
      cases hb : stdB K h ord ml wd ln yr
      · rw [hb] at e; exact absurd rfl e
      · rfl
    have := hQ F A0 (FrT_scr27 hf0)
    unfold oneZ at this
    rw [if_pos hb] at this
    exact this
theorem m_269 (hG : Geo G SL p q) (hT : MTn F A K n) (hW : MTw F A n h ord ml wd ln yr) (hQ : Q (.inl (some (.int (zI (oneZ K h ord ml wd ln yr))))) (wF F 68 3 0, A, J, G)) : X (d + 6) 269 0 [.ref 68, .null, .null, .null, .null, .null] [] (F, A, J, G) Q := by
  have h10' := hT.1.1
  have h10 : h ≤ 10 := Nat.le_trans hW.1.1 hT.1.1
  have hW0 : MTw (wF F 68 3 0) A n h ord ml wd ln yr := by rw [MTw_code]; exact hW
  have hT0 : MTn (wF F 68 3 0) A K n := hT
  refine t_269_0 hG (m_218 hG hT0 hW0 (k_269_9 hG ⟨fun e => ?_, fun e => ?_⟩))
  · have hnb : ¬ brkZ K h ord ml wd ln yr = -1 := by
      intro hb
      rw [show stdB K h ord ml wd ln yr = true from stdB_iff.mpr hb] at e
      exact absurd e (by decide)
    unfold oneZ at hQ
    rw [if_neg hnb] at hQ
    have outer : ∀ m l, l + m = h → Q (.inl (some (.int (zI (owA ord (fsB (owP K h ord ml wd ln yr) (19 * m) (19 * l))))))) (wF F 68 3 0, A, J, G) → ∀ v2 v3 v4, X (d + 6) 269 18 [.ref 68, .int (-1), .int (zI (l : Int)), v2, v3, v4] [] (wF F 68 3 0, A, J, G) Q := by
      intro m
      induction m with
      | zero =>
        intro l hl hq v2 v3 v4
        refine t_269_18 hG ⟨fun e => ?_, fun _ => hq⟩
        rw [hW0.2.1, zN_lt (by omega) (by omega)] at e
        omega
      | succ m ih =>
        intro l hl hq v2 v3 v4
        have hol := hW.1.2.1 l (by omega)
        have hwb := (hW.1.2.2.2.1 _ hol).2.1
        refine t_269_18 hG ⟨fun _ => ⟨fun _ => ?_, fun e => absurd rfl e⟩, fun e => ?_⟩
        · rw [zI_clamp (by omega), hW.2.2.2.1 l (by omega), zI_clamp (by omega), hW.2.2.2.2.2.1 _ hol]
          refine ⟨zN_in (by omega) (by decide), zN_in (by omega) (by decide), ?_⟩
          have inner : ∀ k' k, k + k' = 19 → Q (.inl (some (.int (zI (owA ord (fsB (owP K h ord ml wd ln yr) (k' + 19 * m) (19 * l + k))))))) (wF F 68 3 0, A, J, G) → ∀ w, X (d + 6) 269 50 [.ref 68, .int (-1), .int (zI (l : Int)), .int (zI (ord l : Int)), .int (zI (wd (ord l))), .int (zI ((k : Int) - 9))] [] (wF F 68 3 0, wF A 83 (ord l) w, J, G) Q := by
            intro k'
            induction k' with
            | zero =>
              intro k hk hq w
              refine t_269_50 hG ⟨fun _ => ?_, fun e => ?_⟩
              · rw [zI_clamp (by omega), zN_1, wF_wF, wF_id (hW.2.2.2.2.2.1 _ hol)]
                refine ⟨zN_in (by omega) (by decide), ih (l + 1) (by omega) ?_ _ _ _⟩
                rw [Nat.zero_add, show 19 * l + k = 19 * (l + 1) by omega] at hq
                exact hq
              · rw [show (9 : Int32) = zI 9 from rfl, zI_lt (by omega) (by omega) (by omega) (by omega)] at e
                omega
            | succ k' ih2 =>
              intro k hk hq w
              rw [show k' + 1 + 19 * m = (k' + 19 * m) + 1 by omega] at hq
              have hpe := owP_at (K := K) (h := h) (ord := ord) (ml := ml) (wd := wd) (ln := ln) (yr := yr) (l := l) (k := k) (by omega)
              have hnext : owP K h ord ml wd ln yr (19 * l + k) = false → ∀ w, X (d + 6) 269 50 [.ref 68, .int (-1), .int (zI (l : Int)), .int (zI (ord l : Int)), .int (zI (wd (ord l))), .int (zI (((k + 1 : Nat) : Int) - 9))] [] (wF F 68 3 0, wF A 83 (ord l) w, J, G) Q := by
                intro hp w
                refine ih2 (k + 1) (by omega) ?_ w
                rw [fsB, hp, if_neg (by decide)] at hq
                exact hq
              refine t_269_50 hG ⟨fun e => ?_, fun _ => ⟨fun _ => ?_, fun e => absurd rfl e⟩⟩
              · rw [show (9 : Int32) = zI 9 from rfl, zI_lt (by omega) (by omega) (by omega) (by omega)] at e
                omega
              · rw [zI_clamp (by omega), zI_eq (by omega) (by omega) (by omega) (by omega), zZ_1, show (k : Int) - 9 + 1 = ((k + 1 : Nat) : Int) - 9 by omega, wF_wF]
                refine ⟨zN_in (by omega) (by decide), fun e => ?_, fun e => ?_⟩
                · exact hnext (by rw [hpe, decide_eq_false (fun q => q e)]; rfl) _
                · have hW3 := MTw_wdg (i := ord l) (v := (k : Int) - 9) (by omega) hW0
                  have hT3 : MTn (wF F 68 3 0) (wF A 83 (ord l) (zI ((k : Int) - 9))) K n := MTn_A (fun i hi => wF_row (by omega)) hT
                  refine m_218 hG hT3 hW3 (k_269_81 hG ⟨fun e4 => ?_, fun e4 => ?_⟩)
                  · rw [zZ_1, show (k : Int) - 9 + 1 = ((k + 1 : Nat) : Int) - 9 by omega]
                    have hsf : stdB K h ord ml (upZ wd (ord l) ((k : Int) - 9)) ln yr = false := by
                      cases hb : stdB K h ord ml (upZ wd (ord l) ((k : Int) - 9)) ln yr
                      · rfl
                      · rw [hb] at e4; exact absurd e4 (by decide)
                    exact hnext (by rw [hpe, hsf, Bool.and_false]) _
                  · have hst : stdB K h ord ml (upZ wd (ord l) ((k : Int) - 9)) ln yr = true := by
                      cases hb : stdB K h ord ml (upZ wd (ord l) ((k : Int) - 9)) ln yr
                      · rw [hb] at e4; exact absurd rfl e4
                      · rfl
                    rw [fsB, hpe, hst, decide_eq_true e, Bool.and_self, if_pos rfl, owA_n, (e_div (l := l) (k := k) (by omega)).1, (e_div (l := l) (k := k) (by omega)).2] at hq
                    rw [show (100 : Int32) = zI 100 from rfl, show (50 : Int32) = zI 50 from rfl, zI_mul, zI_add, zI_add]
                    have hout : ∀ v2 v3 v4, X (d + 6) 269 18 [.ref 68, .int (zI (100 * (ord l : Int) + ((k : Int) - 9) + 50)), .int (zI ((l + 1 : Nat) : Int)), v2, v3, v4] [] (wF F 68 3 0, A, J, G) Q := by
                      intro v2 v3 v4
                      refine t_269_18 hG ⟨fun _ => ⟨fun e => ?_, fun _ => hq⟩, fun _ => hq⟩
                      rw [zm1, zI_eq (by omega) (by omega) (by omega) (by omega)] at e
                      omega
                    refine t_269_50 hG ⟨fun _ => ?_, fun _ => ⟨fun e => ?_, fun _ => ?_⟩⟩
                    · rw [zI_clamp (by omega), wF_wF, wF_id (hW.2.2.2.2.2.1 _ hol), zN_1]
                      exact ⟨zN_in (by omega) (by decide), hout _ _ _⟩
                    · rw [zm1, zI_eq (by omega) (by omega) (by omega) (by omega)] at e
                      omega
                    · rw [zI_clamp (by omega), wF_wF, wF_id (hW.2.2.2.2.2.1 _ hol), zN_1]
                      exact ⟨zN_in (by omega) (by decide), hout _ _ _⟩
          have hi := inner 19 0 rfl (by rw [show 19 * (m + 1) = 19 + 19 * m by omega] at hq; exact hq) (zI (wd (ord l)))
          rw [wF_id (hW.2.2.2.2.2.1 _ hol)] at hi
          exact hi
        · rw [hW0.2.1, zN_lt (by omega) (by omega)] at e
          omega
    exact outer h 0 (by omega) hQ _ _ _
  · have hb : brkZ K h ord ml wd ln yr = -1 := by
      rw [← stdB_iff]
      cases hb : stdB K h ord ml wd ln yr
      · rw [hb] at e; exact absurd rfl e
      · rfl
    unfold oneZ at hQ
    rw [if_pos hb] at hQ
    exact hQ
end OneWedge
