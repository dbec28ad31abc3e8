/-! the reference: which leg, look next -/
section MSeenZ
variable {d : Nat} {F A F' A' F'' A'' : Nat → Nat → Int32} {J : Nat → Nat → Int64} {G : pG} {Q : pR → pM → Prop} {SL p q t a na b i l f : Nat} {K : Nat → Nat → Int} {n h : Nat} {ord ord' : Nat → Nat} {ml wd ln ml' wd' ln' : Nat → Int} {yr z y v τ : Int} {s : Nat} {sl : Nat → Nat} {st : Nat → Int}
theorem MTw_fr (h1 : F' 68 28 = F 68 28) (h2 : F' 68 29 = F 68 29) (hA : ∀ i, 81 ≤ i → i ≤ 84 → A' i = A i) (hW : MTw F A n h ord ml wd ln yr) : MTw F' A' n h ord ml wd ln yr := by
  unfold MTw at hW ⊢
  rw [h1, h2, hA 81 (by decide) (by decide), hA 82 (by decide) (by decide), hA 83 (by decide) (by decide), hA 84 (by decide) (by decide)]
  exact hW
theorem MSn_fr (h1 : F' 68 32 = F 68 32) (h2 : A' 94 = A 94) (h3 : A' 95 = A 95) (hS : MSn F A s sl st) : MSn F' A' s sl st := by
  unfold MSn at hS ⊢
  rw [h1, h2, h3]
  exact hS
theorem m_274 (hG : Geo G SL p q) (hT : MTn F A K n) (hW : MTw F A n h ord ml wd ln yr) (hS : MSn F A s sl st) (hQ : Q (.inl (some (.int (bI (asB K h ord wd ln s sl st))))) (F, A, J, G)) : X (d + 2) 274 0 [.ref 68, .null] [] (F, A, J, G) Q := by
  have h10' := hT.1.1
  have h10 : h ≤ 10 := Nat.le_trans hW.1.1 hT.1.1
  have h8 := hS.1.1
  refine t_274_0 hG ?_
  unfold asB at hQ
  refine fs_ind (p := fun k => !(decide (sl k < h) && decide (tltZ K ord wd ln (sl k) = st k))) (h := s) (P := fun r => Q (.inl (some (.int (bI (decide (r = -1)))))) (F, A, J, G)) (R := fun j => X (d + 2) 274 2 [.ref 68, .int (zI (j : Int))] [] (F, A, J, G) Q) hQ (fun hq => ?_) (fun j hj hp hn => ?_)
  · refine t_274_2 hG ⟨fun e => ?_, fun _ => hq⟩
    rw [hS.2.1, zN_lt (by omega) (by omega)] at e
    omega
  · have hsl := hS.1.2.1 j hj
    have hst := hS.1.2.2 j hj
    have hp' : (!(decide (sl j < h) && decide (tltZ K ord wd ln (sl j) = st j))) = true → Q (.inl (some (.int 0))) (F, A, J, G) := fun e => by
      have := hp e
      rw [decide_eq_false (by omega)] at this
      exact this
    refine t_274_2 hG ⟨fun _ => ?_, fun e => ?_⟩
    · rw [zI_clamp (n := j) (by omega), hS.2.2.1 j hj, hW.2.1, inR_z (by omega) (by omega)]
      refine ⟨zN_in (by omega) (by decide), hB_z h10, fun e1 => ?_, fun e1 => ?_⟩
      · rw [decide_eq_true_eq] at e1
        have e2 : sl j < h := by omega
        have htb := tlt_b hT.1 hW.1 e2
        refine m_215 hG hT hW e2 (k_274_33 hG ?_)
        rw [zI_clamp (n := j) (by omega), hS.2.2.2 j hj, zI_eq (by omega) (by omega) (by omega) (by omega), zN_1]
        exact ⟨zN_in (by omega) (by decide), fun e3 => hn (by rw [decide_eq_true e2, decide_eq_true e3]; rfl), fun e3 => hp' (by rw [decide_eq_true e2, decide_eq_false e3]; rfl)⟩
      · rw [decide_eq_false_iff_not] at e1
        exact hp' (by rw [decide_eq_false (show ¬ sl j < h by omega)]; rfl)
    · rw [hS.2.1, zN_lt (by omega) (by omega)] at e
      omega
/-- the fits are told -/
def Fit (F A : Nat → Nat → Int32) (ord : Nat → Nat) (L : List Nat) : Prop := F 68 47 = zI (L.length : Int) ∧ (∀ j, j < L.length → A 96 j = zI (ord (L.getD j 0 / 19) : Int)) ∧ (∀ j, j < L.length → A 97 j = zI (((L.getD j 0 % 19 : Nat) : Int) - 9))
theorem m_275 (hG : Geo G SL p q) (hT : MTn F A K n) (hW : MTw F A n h ord ml wd ln yr) (hS : MSn F A s sl st) (hQ : ∀ F' A', (∀ i, i ≠ 68 → F' i = F i) → (∀ k, k ≠ 47 → F' 68 k = F 68 k) → (∀ i, i ≠ 96 → i ≠ 97 → A' i = A i) → Fit F' A' ord (flt id (mbB K h ord wd ln s sl st) (19 * h)) → Q (.inl none) (F', A', J, G)) : X (d + 3) 275 0 [.ref 68, .null, .null, .null, .null] [] (F, A, J, G) Q := by
  have h10' := hT.1.1
  have h10 : h ≤ 10 := Nat.le_trans hW.1.1 hT.1.1
  refine t_275_0 hG ?_
  generalize hpe : mbB K h ord wd ln s sl st = P at hQ
  refine up_ind (h := h) (P := fun l => ∀ F1 A1 v2 v3 v4, (∀ i, i ≠ 68 → F1 i = F i) → (∀ k, k ≠ 47 → F1 68 k = F 68 k) → (∀ i, i ≠ 96 → i ≠ 97 → A1 i = A i) → Fit F1 A1 ord (flt id P (19 * l)) → X (d + 3) 275 7 [.ref 68, .int (zI (l : Int)), v2, v3, v4] [] (F1, A1, J, G) Q) ?_ ?_ _ A .null .null .null (fun i hi => wF_row hi) (fun k hk => wF_cell hk _) (fun _ _ _ => rfl) ⟨by rw [wF_same]; rfl, fun j hj => absurd hj (Nat.not_lt_zero j), fun j hj => absurd hj (Nat.not_lt_zero j)⟩
  · intro F1 A1 v2 v3 v4 hF hF2 hA hft
    refine t_275_7 hG ⟨fun e => ?_, fun _ => hQ F1 A1 hF hF2 hA hft⟩
    rw [hF2 28 (by decide), hW.2.1, zN_lt (by omega) (by omega)] at e
    omega
  · intro l hl ih F1 A1 v2 v3 v4 hF hF2 hA hft
    have hol := hW.1.2.1 l hl
    have hlb := (hW.1.2.2.2.1 _ hol).2.2
    refine t_275_7 hG ⟨fun _ => ?_, fun e => ?_⟩
    · rw [zI_clamp (n := l) (by omega), hA 81 (by decide) (by decide), hA 84 (by decide) (by decide), hW.2.2.2.1 l hl, zI_clamp (n := ord l) (by omega), hW.2.2.2.2.2.2 _ hol]
      refine ⟨zN_in (by omega) (by decide), zN_in (by omega) (by decide), ?_⟩
      refine up_ind (h := 19) (P := fun k => ∀ F1 A1 w, (∀ i, i ≠ 68 → F1 i = F i) → (∀ k, k ≠ 47 → F1 68 k = F 68 k) → (∀ i, i ≠ 96 → i ≠ 97 → A1 i = wF A 84 (ord l) w i) → Fit F1 A1 ord (flt id P (19 * l + k)) → X (d + 3) 275 33 [.ref 68, .int (zI (l : Int)), .int (zI (ord l : Int)), .int (zI (ln (ord l))), .int (zI ((k : Int) - 9))] [] (F1, A1, J, G) Q) ?_ ?_ F1 A1 (zI (ln (ord l))) hF hF2 (fun i h1 h2 => by rw [wF_id (hW.2.2.2.2.2.2 _ hol)]; exact hA i h1 h2) hft
      · intro F1 A1 w hF hF2 hA hft
        refine t_275_33 hG ⟨fun _ => ?_, fun e => absurd (show (9 : Int32) < zI (((19 : Nat) : Int) - 9) by decide) e⟩
        rw [zI_clamp (n := ord l) (by omega), zN_1]
        refine ⟨zN_in (by omega) (by decide), ih F1 _ _ _ _ hF hF2 (fun i h1 h2 => ?_) ?_⟩
        · funext j
          rw [wF_at, hA i h1 h2, wF_at]
          by_cases e : i = 84 ∧ j = ord l
          · rw [if_pos e, e.1, e.2, hW.2.2.2.2.2.2 _ hol]
          · rw [if_neg e, if_neg e]
        · obtain ⟨g1, g2, g3⟩ := hft
          exact ⟨g1, by rw [wF_row (by decide)]; exact g2, by rw [wF_row (by decide)]; exact g3⟩
      · intro k hk ih2 F1 A1 w hF hF2 hA hft
        have hlen := flt_len (ord := id) (p := P) (19 * l + k)
        have hfl : flt id P (19 * l + (k + 1)) = if P (19 * l + k) = true then flt id P (19 * l + k) ++ [19 * l + k] else flt id P (19 * l + k) := by
          rw [show 19 * l + (k + 1) = (19 * l + k) + 1 by omega, flt]; rfl
        have hA2 : ∀ i, i ≠ 96 → i ≠ 97 → wF A1 84 (ord l) (zI ((k : Int) - 9)) i = wF A 84 (ord l) (zI ((k : Int) - 9)) i := by
          intro i h1 h2
          funext j
          rw [wF_at, wF_at, hA i h1 h2, wF_at]
          by_cases e : i = 84 ∧ j = ord l
          · rw [if_pos e, if_pos e]
          · rw [if_neg e, if_neg e, if_neg e]
        have hft2 : Fit F1 (wF A1 84 (ord l) (zI ((k : Int) - 9))) ord (flt id P (19 * l + k)) := by
          obtain ⟨g1, g2, g3⟩ := hft
          exact ⟨g1, by rw [wF_row (by decide)]; exact g2, by rw [wF_row (by decide)]; exact g3⟩
        have hpa : P (19 * l + k) = (decide (¬ (k : Int) - 9 = ln (ord l)) && asB K h ord wd (upZ ln (ord l) ((k : Int) - 9)) s sl st) := by rw [← hpe]; exact mbB_at hk
        refine t_275_33 hG ⟨fun e => ?_, fun _ => ?_⟩
        · rw [show (9 : Int32) = zI 9 from rfl, zI_lt (by omega) (by omega) (by omega) (by omega)] at e
          omega
        · rw [zI_clamp (n := ord l) (by omega), zI_eq (by omega) (by omega) (by omega) (by omega), zZ_1, show (k : Int) - 9 + 1 = ((k + 1 : Nat) : Int) - 9 by omega]
          refine ⟨zN_in (by omega) (by decide), fun e => ?_, fun e => ?_⟩
          · refine ih2 F1 _ _ hF hF2 hA2 ?_
            rw [hfl, if_neg (by rw [hpa, decide_eq_false (fun q => q e), Bool.false_and]; decide)]
            exact hft2
          · have hW3 := MTw_lean (i := ord l) (v := (k : Int) - 9) (by omega) hW
            have hW4 : MTw F1 (wF A1 84 (ord l) (zI ((k : Int) - 9))) n h ord ml wd (upZ ln (ord l) ((k : Int) - 9)) yr := MTw_fr (hF2 28 (by decide)) (hF2 29 (by decide)) (fun i h1 h2 => hA2 i (by omega) (by omega)) hW3
            have hT4 : MTn F1 (wF A1 84 (ord l) (zI ((k : Int) - 9))) K n := MTn_A (fun i hi => by rw [hA2 i (by omega) (by omega), wF_row (by omega)]) hT
            have hS4 : MSn F1 (wF A1 84 (ord l) (zI ((k : Int) - 9))) s sl st := MSn_fr (hF2 32 (by decide)) (by rw [hA2 94 (by decide) (by decide), wF_row (by decide)]) (by rw [hA2 95 (by decide) (by decide), wF_row (by decide)]) hS
            refine m_274 hG hT4 hW4 hS4 (k_275_58 hG ?_)
            rw [zZ_1, show (k : Int) - 9 + 1 = ((k + 1 : Nat) : Int) - 9 by omega]
            refine ⟨fun e4 => ?_, fun e4 => ?_⟩
            · refine ih2 F1 _ _ hF hF2 hA2 ?_
              rw [hfl, if_neg]
              · exact hft2
              · rw [hpa]
                cases hb : asB K h ord wd (upZ ln (ord l) ((k : Int) - 9)) s sl st
                · rw [Bool.and_false]; decide
                · rw [hb] at e4; exact absurd e4 (by decide)
            · have hb : asB K h ord wd (upZ ln (ord l) ((k : Int) - 9)) s sl st = true := by
                cases hb : asB K h ord wd (upZ ln (ord l) ((k : Int) - 9)) s sl st
                · rw [hb] at e4; exact absurd rfl e4
                · rfl
              obtain ⟨g1, g2, g3⟩ := hft2
              rw [g1, zN_1, zI_clamp (by omega)]
              refine ⟨zN_in (by omega) (by decide), ih2 _ _ _ (fun i hi => by rw [wF_row hi]; exact hF i hi) (fun k hk => by rw [wF_cell hk]; exact hF2 k hk) (fun i h1 h2 => by rw [wF_row h2, wF_row h1]; exact hA2 i h1 h2) ?_⟩
              rw [hfl, if_pos (by rw [hpa, decide_eq_true e, hb]; rfl)]
              refine ⟨by rw [wF_same, List.length_append]; rfl, fun j hj => ?_, fun j hj => ?_⟩
              · rw [List.length_append] at hj
                rw [wF_row (by decide), wF_at, List.getD_eq_getElem?_getD]
                by_cases ej : j = (flt id P (19 * l + k)).length
                · rw [if_pos ⟨rfl, ej⟩, ej, List.getElem?_append_right (Nat.le_refl _)]
                  simp only [Nat.sub_self, List.getElem?_cons_zero, Option.getD_some, (e_div (l := l) hk).1]
                · have hj' : j < (flt id P (19 * l + k)).length := by simp at hj; omega
                  rw [if_neg (fun q => ej q.2), List.getElem?_append_left hj', ← List.getD_eq_getElem?_getD]; exact g2 j hj'
              · rw [List.length_append] at hj
                rw [wF_at, List.getD_eq_getElem?_getD]
                by_cases ej : j = (flt id P (19 * l + k)).length
                · rw [if_pos ⟨rfl, ej⟩, ej, List.getElem?_append_right (Nat.le_refl _)]
                  simp only [Nat.sub_self, List.getElem?_cons_zero, Option.getD_some, (e_div (l := l) hk).2]
                · have hj' : j < (flt id P (19 * l + k)).length := by simp at hj; omega
                  rw [if_neg (fun q => ej q.2), wF_row (by decide), List.getElem?_append_left hj', ← List.getD_eq_getElem?_getD]; exact g3 j hj'
    · rw [hF2 28 (by decide), hW.2.1, zN_lt (by omega) (by omega)] at e
      omega
def unL (g : Nat → Int) : Nat → Nat
  | 0 => 0
  | k + 1 => if fsB (fun q => decide (g q = g k)) k 0 = -1 then unL g k + 1 else unL g k
theorem unL_le (g : Nat → Int) : ∀ k, unL g k ≤ k
  | 0 => Nat.le_refl _
  | k + 1 => by
    have := unL_le g k
    rw [unL]
    split <;> omega
theorem unL_congr {g g' : Nat → Int} : ∀ k, (∀ i j, i < k → j < k → (g i = g j ↔ g' i = g' j)) → unL g k = unL g' k
  | 0, _ => rfl
  | k + 1, h => by
    rw [unL, unL, unL_congr k (fun i j hi hj => h i j (by omega) (by omega)), fsB_congr (q := fun q => decide (g' q = g' k)) k 0 (fun i _ hi => decide_eq_decide.mpr (h i k (by omega) (by omega)))]
theorem unZ_unL {P : Nat → Bool} {g : Nat → Int} : ∀ e, unZ P g e = unL (fun j => g ((flt id P e).getD j 0)) (flt id P e).length
  | 0 => rfl
  | e + 1 => by
    have ih := unZ_unL (P := P) (g := g) e
    rw [unZ, flt]
    by_cases hp : P e = true
    · have hpi : P (id e) = true := hp
      have hpre : ∀ j, j < (flt id P e).length → (flt id P e ++ [id e]).getD j 0 = (flt id P e).getD j 0 := fun j hj => by
        rw [List.getD_eq_getElem?_getD, List.getElem?_append_left hj, ← List.getD_eq_getElem?_getD]
      have hlast : (flt id P e ++ [id e]).getD (flt id P e).length 0 = e := by
        rw [List.getD_eq_getElem?_getD, List.getElem?_append_right (Nat.le_refl _)]; simp
      rw [if_pos hpi, List.length_append]
      show _ = unL _ ((flt id P e).length + 1)
      rw [unL, hlast]
      have h1 : unL (fun j => g ((flt id P e ++ [id e]).getD j 0)) (flt id P e).length = unZ P g e := by
        rw [ih]
        exact unL_congr _ (fun i j hi hj => by rw [hpre i hi, hpre j hj])
      have h2 : fsB (fun q => decide (g ((flt id P e ++ [id e]).getD q 0) = g e)) (flt id P e).length 0 = -1 ↔ fsB (fun e' => P e' && decide (g e' = g e)) e 0 = -1 := by
        rw [fsB_none, fsB_none]
        constructor
        · intro h3 e' _ he'
          cases hpe : P e'
          · rfl
          · rw [Bool.true_and]
            obtain ⟨j, hj, hje⟩ := mem_at ((flt_mem (ord := id) (p := P) (x := e') e).mpr ⟨e', by omega, rfl, hpe⟩)
            have := h3 j (by omega) (by omega)
            rw [hpre j hj, hje] at this
            exact this
        · intro h3 j _ hj
          rw [hpre j (by omega)]
          obtain ⟨e', h4, h5, h6⟩ := (flt_mem (ord := id) (p := P) e).mp (getD_mem (show j < (flt id P e).length by omega))
          have h5' : e' = (flt id P e).getD j 0 := h5
          rw [← h5'] at h6 ⊢
          have := h3 e' (by omega) (by omega)
          rw [h6, Bool.true_and] at this
          exact this
      rw [h1]
      by_cases hc : fsB (fun e' => P e' && decide (g e' = g e)) e 0 = -1
      · rw [if_pos ⟨hp, hc⟩, if_pos (h2.mpr hc)]
      · rw [if_neg (fun q => hc q.2), if_neg (fun q => hc (h2.mp q))]
    · have hpi : ¬ P (id e) = true := hp
      rw [if_neg (fun q => hp q.1), if_neg hpi]
      exact ih
theorem flt_first {P : Nat → Bool} : ∀ e, fsB P e 0 = if (flt id P e).length = 0 then -1 else ((flt id P e).getD 0 0 : Int)
  | 0 => rfl
  | e + 1 => by
    have ih := flt_first (P := P) e
    have hl : fsB P (e + 1) 0 = if fsB P e 0 = -1 then (if P e = true then (e : Int) else -1) else fsB P e 0 := by
      have h0 := fsB_ge P e 0
      by_cases hc : fsB P e 0 = -1
      · rw [if_pos hc]
        rw [fsB_none] at hc
        split
        · rename_i hp
          exact (fsB_some (e + 1) 0 e).mpr ⟨by omega, by omega, hp, fun i h1 h2 => hc i h1 (by omega)⟩
        · rename_i hp
          refine (fsB_none (e + 1) 0).mpr (fun i h1 h2 => ?_)
          by_cases ei : i = e
          · subst ei; simpa using hp
          · exact hc i h1 (by omega)
      · rw [if_neg hc]
        obtain ⟨r, hr⟩ : ∃ r : Nat, fsB P e 0 = (r : Int) := ⟨(fsB P e 0).toNat, by omega⟩
        rw [hr]
        obtain ⟨h1, h2, h3, h4⟩ := (fsB_some e 0 r).mp hr
        exact (fsB_some (e + 1) 0 r).mpr ⟨h1, by omega, h3, h4⟩
    rw [hl, ih, flt]
    by_cases hlen : (flt id P e).length = 0
    · rw [if_pos hlen, if_pos rfl]
      have hnil : flt id P e = [] := List.eq_nil_of_length_eq_zero hlen
      by_cases hp : P e = true
      · rw [if_pos hp, if_pos (show P (id e) = true from hp), hnil]; rfl
      · rw [if_neg hp, if_neg (show ¬ P (id e) = true from hp), if_pos hlen]
    · rw [if_neg hlen, if_neg (show ¬ (((flt id P e).getD 0 0 : Nat) : Int) = -1 by omega)]
      by_cases hp : P e = true
      · rw [if_pos (show P (id e) = true from hp), if_neg (by rw [List.length_append]; omega), List.getD_eq_getElem?_getD, List.getD_eq_getElem?_getD, List.getElem?_append_left (by omega)]
      · rw [if_neg (show ¬ P (id e) = true from hp), if_neg hlen]
end MSeenZ
