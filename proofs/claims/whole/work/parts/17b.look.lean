/-! look next -/
section LookZ
variable {d : Nat} {F A F' A' F'' A'' : Nat → Nat → Int32} {J : Nat → Nat → Int64} {G : pG} {Q : pR → pM → Prop} {SL p q t a na b i l f : Nat} {K : Nat → Nat → Int} {n h : Nat} {ord ord' : Nat → Nat} {ml wd ln ml' wd' ln' : Nat → Int} {yr z y v τ : Int} {s : Nat} {sl : Nat → Nat} {st : Nat → Int}
def unZ (p : Nat → Bool) (g : Nat → Int) : Nat → Nat
  | 0 => 0
  | e + 1 => if p e = true ∧ fsB (fun e' => p e' && decide (g e' = g e)) e 0 = -1 then unZ p g e + 1 else unZ p g e
theorem unZ_le (p : Nat → Bool) (g : Nat → Int) : ∀ e, unZ p g e ≤ e
  | 0 => Nat.le_refl _
  | e + 1 => by
    have := unZ_le p g e
    rw [unZ]
    split <;> omega
theorem unZ_congr {p : Nat → Bool} {g g' : Nat → Int} : ∀ e, (∀ i j, i < e → j < e → p i = true → p j = true → (g i = g j ↔ g' i = g' j)) → unZ p g e = unZ p g' e
  | 0, _ => rfl
  | e + 1, h => by
    rw [unZ, unZ, unZ_congr e (fun i j hi hj => h i j (by omega) (by omega))]
    by_cases hp : p e = true
    · have : fsB (fun e' => p e' && decide (g e' = g e)) e 0 = fsB (fun e' => p e' && decide (g' e' = g' e)) e 0 := fsB_congr e 0 (fun i _ hi => by
        cases hpi : p i
        · rfl
        · rw [Bool.true_and, Bool.true_and]
          exact decide_eq_decide.mpr (h i e (by omega) (by omega) hpi hp))
      rw [this]
    · rw [if_neg (fun q => hp q.1), if_neg (fun q => hp q.1)]
def gLk (K : Nat → Nat → Int) (ord : Nat → Nat) (ln : Nat → Int) (f : Nat) (e : Nat) : Int := if e / 19 ≤ f then shZ K ord ln (e / 19) (((e % 19 : Nat) : Int) - 9) else 0
def CTu (F A : Nat → Nat → Int32) (τ : Int) : Prop := 0 ≤ τ ∧ F 66 3 = zI τ ∧ ∀ j, j < 73 → ∃ c : Int, 0 ≤ c ∧ c ≤ τ ∧ A 67 j = zI c
theorem mark_lem {gv : Int} {Y : Int32} (hY : Y = zI (gv + 36)) (hb : -36 ≤ gv ∧ gv ≤ 36) {X0 : Prop} (X1 : Nat → Prop) (h0 : A 67 (gv + 36).toNat = F 66 3 → X0) (h1 : ¬ A 67 (gv + 36).toNat = F 66 3 → X1 (gv + 36).toNat) : ((Y < 0 → X0) ∧ (¬ Y < 0 → ((Y < 73 → inB Y 73 = true ∧ ((A 67 Y.toNatClampNeg = F 66 3 → X0) ∧ (¬ A 67 Y.toNatClampNeg = F 66 3 → X1 Y.toNatClampNeg))) ∧ (¬ Y < 73 → X0)))) := by
  subst hY
  rw [zI_clampZ (by omega) (by omega), zI_lt0 (by omega), show (73 : Int32) = zI 73 from rfl, zI_lt (by omega) (by omega) (by omega) (by omega), zI_inB (by omega) (by omega)]
  exact ⟨fun e => by omega, fun _ => ⟨fun _ => ⟨by omega, h0, h1⟩, fun e => by omega⟩⟩
theorem c_12 (hG : Geo G SL p q) (hT : CTn F A K n) (hW : CTw 27 F A n h ord ml wd ln yr) (hS : CSn F A s sl st) (hg : Wgd 27 A K h ord ml wd ln yr) (hU : CTu F A τ) (hτ : τ < 1000000) (hf : f < h) (hQ : ∀ F' A', (∀ i, i ≠ 66 → F' i = F i) → (∀ i, i ≠ 67 → A' i = A i) → CTu F' A' (τ + 1) → Q (.inl (some (.int (zI ((unZ (mbB K h ord wd ln s sl st) (gLk K ord ln f) (19 * h) : Nat) : Int))))) (F', A', J, G)) : X (d + 3) 12 0 [.ref 66, .int (zI (f : Int)), .null, .null, .null] [] (F, A, J, G) Q := by
  have h10' := hT.1.1
  have h10 : h ≤ 10 := Nat.le_trans hW.1.1 hT.1.1
  obtain ⟨u0, u1, u2⟩ := hU
  refine t_12_0 hG ?_
  rw [u1, zZ_1]
  have hF1 : ∀ i, i ≠ 66 → wF F 66 3 (zI (τ + 1)) i = F i := fun i hi => wF_row hi
  generalize hFe : wF F 66 3 (zI (τ + 1)) = F1 at hF1
  have f66 : F1 66 3 = zI (τ + 1) := by rw [← hFe, wF_same]
  have hT1 : ∀ A1, (∀ i, i ≠ 67 → A1 i = A i) → CTn F1 A1 K n ∧ CTw 27 F1 A1 n h ord ml wd ln yr ∧ CSn F1 A1 s sl st ∧ Wgd 27 A1 K h ord ml wd ln yr := by
    intro A1 hA
    refine ⟨?_, ?_, ?_, ?_⟩
    · unfold CTn at hT ⊢
      rw [hF1 12 (by decide), hA 13 (by decide), hA 14 (by decide), hA 15 (by decide), hA 17 (by decide)]; exact hT
    · unfold CTw at hW ⊢
      rw [hF1 27 (by decide), hA (27 + 1) (by decide), hA (27 + 2) (by decide), hA (27 + 3) (by decide), hA (27 + 4) (by decide)]; exact hW
    · unfold CSn at hS ⊢
      rw [hF1 21 (by decide), hA 24 (by decide), hA 25 (by decide)]; exact hS
    · unfold Wgd at hg ⊢
      rw [hA (27 + 5) (by decide), hA (27 + 6) (by decide), hA (27 + 7) (by decide)]; exact hg
  generalize hpe : mbB K h ord wd ln s sl st = P at hQ
  have hgb : ∀ e, e < 19 * h → -36 ≤ gLk K ord ln f e ∧ gLk K ord ln f e ≤ 36 := by
    intro e he
    unfold gLk
    split
    · exact sh_b hT.1 hW.1 (by omega) (by omega)
    · omega
  -- how the marks stand
  have Mk : ∀ (A1 : Nat → Nat → Int32) (e : Nat), (∀ j : Nat, j < 73 → (A1 67 j = zI (τ + 1) ↔ ∃ e', e' < e ∧ P e' = true ∧ gLk K ord ln f e' + 36 = j)) → e < 19 * h → P e = true → (A1 67 (gLk K ord ln f e + 36).toNat = zI (τ + 1) ↔ ¬ fsB (fun e' => P e' && decide (gLk K ord ln f e' = gLk K ord ln f e)) e 0 = -1) := by
    intro A1 e hm he hp
    have hb := hgb e he
    rw [hm _ (by omega), fsB_none]
    constructor
    · rintro ⟨e', h1, h2, h3⟩ h4
      have := h4 e' (by omega) (by omega)
      rw [h2, Bool.true_and, decide_eq_false_iff_not] at this
      exact this (by omega)
    · intro h4
      refine Classical.byContradiction (fun h5 => h4 (fun i _ hi => ?_))
      cases hpi : P i
      · rfl
      · rw [Bool.true_and, decide_eq_false_iff_not]
        intro h6
        exact h5 ⟨i, by omega, hpi, by omega⟩
  refine up_ind (h := h) (P := fun l => ∀ A1 v, (∀ i, i ≠ 67 → A1 i = A i) → (∀ j : Nat, j < 73 → (A1 67 j = zI (τ + 1) ↔ ∃ e', e' < 19 * l ∧ P e' = true ∧ gLk K ord ln f e' + 36 = j)) → (∀ j : Nat, j < 73 → ∃ c : Int, 0 ≤ c ∧ c ≤ τ + 1 ∧ A1 67 j = zI c) → X (d + 3) 12 14 [.ref 66, .int (zI (f : Int)), .int (zI ((unZ P (gLk K ord ln f) (19 * l) : Nat) : Int)), .int (zI (l : Int)), v] [] (F1, A1, J, G) Q) ?_ ?_ A .null (fun _ _ => rfl) (fun j hj => ?_) (fun j hj => ?_)
  · intro A1 v hA hm hc
    have hW1 := (hT1 A1 hA).2.1
    refine t_12_14 hG ⟨fun e => ?_, fun _ => hQ F1 A1 hF1 hA ⟨by omega, f66, hc⟩⟩
    rw [hW1.2.1, zN_lt (by omega) (by omega)] at e
    omega
  · intro l hl ih A1 v hA hm hc
    have hW1 := (hT1 A1 hA).2.1
    refine t_12_14 hG ⟨fun _ => ?_, fun e => ?_⟩
    · refine up_ind (h := 19) (P := fun k => ∀ A1, (∀ i, i ≠ 67 → A1 i = A i) → (∀ j : Nat, j < 73 → (A1 67 j = zI (τ + 1) ↔ ∃ e', e' < 19 * l + k ∧ P e' = true ∧ gLk K ord ln f e' + 36 = j)) → (∀ j : Nat, j < 73 → ∃ c : Int, 0 ≤ c ∧ c ≤ τ + 1 ∧ A1 67 j = zI c) → X (d + 3) 12 32 [.ref 66, .int (zI (f : Int)), .int (zI ((unZ P (gLk K ord ln f) (19 * l + k) : Nat) : Int)), .int (zI (l : Int)), .int (zI ((k : Int) - 9))] [] (F1, A1, J, G) Q) ?_ ?_ A1 hA hm hc
      · intro A1 hA hm hc
        refine t_12_32 hG ⟨fun _ => ?_, fun e => absurd (show (9 : Int32) < zI (((19 : Nat) : Int) - 9) by decide) e⟩
        rw [zN_1]; exact ih A1 _ hA hm hc
      · intro k hk ih2 A1 hA hm hc
        obtain ⟨hTa, hWa, hSa, hga⟩ := hT1 A1 hA
        have he : 19 * l + k < 19 * h := by omega
        have hb := hgb _ he
        have hol := hW.1.2.1 l hl
        have hk0 := (hT.1.2.1 _ hol).1
        have hun := unZ_le P (gLk K ord ln f) (19 * l + k)
        have a28 : A1 28 l = zI (ord l : Int) := hWa.2.2.2.1 l hl
        have a31 : A1 31 (ord l) = zI (ln (ord l)) := hWa.2.2.2.2.2.2 _ hol
        refine t_12_32 hG ⟨fun e => ?_, fun _ => c_14 hG hTa hWa hSa hga hl hk (k_12_46 hG ?_)⟩
        · rw [show (9 : Int32) = zI 9 from rfl, zI_lt (by omega) (by omega) (by omega) (by omega)] at e
          omega
        · rw [hpe, zZ_1, show (k : Int) - 9 + 1 = ((k + 1 : Nat) : Int) - 9 by omega, zN_1, zN_lt (by omega) (by omega)]
          rw [show 19 * l + (k + 1) = (19 * l + k) + 1 by omega, unZ] at ih2
          -- not one of them
          have hno : (P (19 * l + k) = true → ¬ fsB (fun e' => P e' && decide (gLk K ord ln f e' = gLk K ord ln f (19 * l + k))) (19 * l + k) 0 = -1) → X (d + 3) 12 32 [.ref 66, .int (zI (f : Int)), .int (zI ((unZ P (gLk K ord ln f) (19 * l + k) : Nat) : Int)), .int (zI (l : Int)), .int (zI (((k + 1 : Nat) : Int) - 9))] [] (F1, A1, J, G) Q := by
            intro hn
            rw [if_neg (fun q => hn q.1 q.2)] at ih2
            refine ih2 A1 hA (fun j hj => ?_) hc
            rw [hm j hj]
            constructor
            · rintro ⟨e', h1, h2, h3⟩; exact ⟨e', by omega, h2, h3⟩
            · rintro ⟨e', h1, h2, h3⟩
              by_cases e2 : e' = 19 * l + k
              · subst e2
                have h4 := hn h2
                rw [fsB_none] at h4
                refine Classical.byContradiction (fun h5 => h4 (fun i _ hi => ?_))
                cases hpi : P i
                · rfl
                · rw [Bool.true_and, decide_eq_false_iff_not]
                  intro h6
                  exact h5 ⟨i, by omega, hpi, by omega⟩
              · exact ⟨e', by omega, h2, h3⟩
          refine ⟨fun e => ?_, fun e => ?_⟩
          · refine hno (fun q => ?_)
            rw [q] at e; exact absurd e (by decide)
          · have hp : P (19 * l + k) = true := by
              cases hb : P (19 * l + k)
              · rw [hb] at e; exact absurd rfl e
              · rfl
            have hmk := Mk A1 _ hm he hp
            have e0 : zI ((unZ P (gLk K ord ln f) (19 * l + k) : Nat) : Int) + 0 = zI ((unZ P (gLk K ord ln f) (19 * l + k) : Nat) : Int) := Int32.add_zero _
            have hX0 : A1 67 (gLk K ord ln f (19 * l + k) + 36).toNat = F1 66 3 → X (d + 3) 12 32 [.ref 66, .int (zI (f : Int)), .int (zI ((unZ P (gLk K ord ln f) (19 * l + k) : Nat) : Int) + 0), .int (zI (l : Int)), .int (zI (((k + 1 : Nat) : Int) - 9))] [] (F1, A1, J, G) Q := by
              intro h1
              rw [e0]
              rw [f66] at h1
              exact hno (fun _ => hmk.mp h1)
            have hX1 : ¬ A1 67 (gLk K ord ln f (19 * l + k) + 36).toNat = F1 66 3 → X (d + 3) 12 32 [.ref 66, .int (zI (f : Int)), .int (zI ((unZ P (gLk K ord ln f) (19 * l + k) + 1 : Nat) : Int)), .int (zI (l : Int)), .int (zI (((k + 1 : Nat) : Int) - 9))] [] (F1, wF A1 67 (gLk K ord ln f (19 * l + k) + 36).toNat (F1 66 3), J, G) Q := by
              intro h1
              rw [f66] at h1 ⊢
              have h2 : fsB (fun e' => P e' && decide (gLk K ord ln f e' = gLk K ord ln f (19 * l + k))) (19 * l + k) 0 = -1 := Classical.byContradiction (fun q => h1 (hmk.mpr q))
              rw [if_pos ⟨hp, h2⟩] at ih2
              refine ih2 _ (fun i hi => by rw [wF_row hi]; exact hA i hi) (fun j hj => ?_) (fun j hj => ?_)
              · rw [wF_at]
                by_cases ej : j = (gLk K ord ln f (19 * l + k) + 36).toNat
                · rw [if_pos ⟨rfl, ej⟩]
                  exact ⟨fun _ => ⟨19 * l + k, by omega, hp, by omega⟩, fun _ => rfl⟩
                · rw [if_neg (fun q => ej q.2), hm j hj]
                  constructor
                  · rintro ⟨e', h3, h4, h5⟩; exact ⟨e', by omega, h4, h5⟩
                  · rintro ⟨e', h3, h4, h5⟩
                    refine ⟨e', ?_, h4, h5⟩
                    by_cases e2 : e' = 19 * l + k
                    · subst e2; omega
                    · omega
              · rw [wF_at]
                by_cases ej : j = (gLk K ord ln f (19 * l + k) + 36).toNat
                · rw [if_pos ⟨rfl, ej⟩]; exact ⟨τ + 1, by omega, by omega, rfl⟩
                · rw [if_neg (fun q => ej q.2)]; exact hc j hj
            refine ⟨fun e1 => ?_, fun e1 => ?_⟩
            · have hgv : gLk K ord ln f (19 * l + k) = 0 := by
                unfold gLk
                rw [(e_div (l := l) hk).1, if_neg (by omega)]
              rw [hgv] at hX0 hX1
              exact mark_lem (gv := 0) rfl (by decide) (fun m => X (d + 3) 12 32 [.ref 66, .int (zI (f : Int)), .int (zI ((unZ P (gLk K ord ln f) (19 * l + k) + 1 : Nat) : Int)), .int (zI (l : Int)), .int (zI (((k + 1 : Nat) : Int) - 9))] [] (F1, wF A1 67 m (F1 66 3), J, G) Q) hX0 hX1
            · have hgv : gLk K ord ln f (19 * l + k) = timZ (K 0 (ord l)) * ((k : Int) - 9 - ln (ord l)) := by
                unfold gLk
                rw [(e_div (l := l) hk).1, (e_div (l := l) hk).2, if_pos (by omega)]
                rfl
              rw [zI_clamp (n := l) (by omega), a28, zI_clamp (n := ord l) (by omega), a31, hTa.2.2.2.2.1 _ hol, ltm_z hk0.1 hk0.2, zI_sub, zI_mul, ← hgv]
              refine ⟨zN_in (by omega) (by decide), zN_in (by omega) (by decide), ?_⟩
              exact mark_lem (gv := gLk K ord ln f (19 * l + k)) (by rw [show (36 : Int32) = zI 36 from rfl, zI_add]) hb (fun m => X (d + 3) 12 32 [.ref 66, .int (zI (f : Int)), .int (zI ((unZ P (gLk K ord ln f) (19 * l + k) + 1 : Nat) : Int)), .int (zI (l : Int)), .int (zI (((k + 1 : Nat) : Int) - 9))] [] (F1, wF A1 67 m (F1 66 3), J, G) Q) hX0 hX1
    · rw [hW1.2.1, zN_lt (by omega) (by omega)] at e
      omega
  · obtain ⟨c, c1, c2, c3⟩ := u2 j hj
    constructor
    · intro q
      rw [c3, zI_eq (by omega) (by omega) (by omega) (by omega)] at q
      omega
    · rintro ⟨e', h1, -⟩; omega
  · obtain ⟨c, c1, c2, c3⟩ := u2 j hj
    exact ⟨c, c1, by omega, c3⟩
def lkM (K : Nat → Nat → Int) (h : Nat) (ord : Nat → Nat) (wd ln : Nat → Int) (s : Nat) (sl : Nat → Nat) (st : Nat → Int) : Nat → Int × Int := amx (fun _ => true) (fun l => ((unZ (mbB K h ord wd ln s sl st) (gLk K ord ln l) (19 * h) : Nat) : Int)) 0
theorem lkM_step : lkM K h ord wd ln s sl st (l + 1) = if (lkM K h ord wd ln s sl st l).2 < ((unZ (mbB K h ord wd ln s sl st) (gLk K ord ln l) (19 * h) : Nat) : Int) then ((l : Int), ((unZ (mbB K h ord wd ln s sl st) (gLk K ord ln l) (19 * h) : Nat) : Int)) else lkM K h ord wd ln s sl st l := by
  show amx _ _ _ (l + 1) = _
  rw [amx]
  simp only [true_and]
  rfl
theorem c_11 (hG : Geo G SL p q) (hT : CTn F A K n) (hW : CTw 27 F A n h ord ml wd ln yr) (hS : CSn F A s sl st) (hU : CTu F A τ) (hτ : τ < 900000) (hQ : ∀ F' A', (∀ i, i ≠ 66 → F' i = F i) → (∀ i, (i < 32 ∨ 34 < i) → i ≠ 67 → A' i = A i) → CTu F' A' (τ + h) → Q (.inl (some (.int (zI (lkM K h ord wd ln s sl st h).1)))) (F', A', J, G)) : X (d + 4) 11 0 [.ref 66, .null, .null, .null, .null] [] (F, A, J, G) Q := by
  have h10' := hT.1.1
  have h10 : h ≤ 10 := Nat.le_trans hW.1.1 hT.1.1
  refine t_11_0 hG (c_84 hG tw27 hT hW (fun A1 hf hg => k_11_10 hG ?_))
  refine up_ind (h := h) (P := fun l => ∀ F2 A2 v, (∀ i, i ≠ 66 → F2 i = F i) → (∀ i, i ≠ 67 → A2 i = A1 i) → CTu F2 A2 (τ + l) → X (d + 4) 11 16 [.ref 66, .int (zI (lkM K h ord wd ln s sl st l).1), .int (zI (lkM K h ord wd ln s sl st l).2), .int (zI (l : Int)), v] [] (F2, A2, J, G) Q) ?_ ?_ F A1 .null (fun _ _ => rfl) (fun _ _ => rfl) ?_
  · intro F2 A2 v hF hA hU2
    refine t_11_16 hG ⟨fun e => ?_, fun _ => hQ F2 A2 hF (fun i h1 h2 => by rw [hA i h2]; exact hf i (by omega)) hU2⟩
    rw [hF 27 (by decide), hW.2.1, zN_lt (by omega) (by omega)] at e
    omega
  · intro l hl ih F2 A2 v hF hA hU2
    have hA' : ∀ i, (i < 32 ∨ 34 < i) → i ≠ 67 → A2 i = A i := fun i h1 h2 => by rw [hA i h2]; exact hf i (by omega)
    have hT2 : CTn F2 A2 K n := by
      unfold CTn at hT ⊢
      rw [hF 12 (by decide), hA' 13 (by decide) (by decide), hA' 14 (by decide) (by decide), hA' 15 (by decide) (by decide), hA' 17 (by decide) (by decide)]; exact hT
    have hW2 : CTw 27 F2 A2 n h ord ml wd ln yr := by
      unfold CTw at hW ⊢
      rw [hF 27 (by decide), hA' (27 + 1) (by decide) (by decide), hA' (27 + 2) (by decide) (by decide), hA' (27 + 3) (by decide) (by decide), hA' (27 + 4) (by decide) (by decide)]; exact hW
    have hS2 : CSn F2 A2 s sl st := by
      unfold CSn at hS ⊢
      rw [hF 21 (by decide), hA' 24 (by decide) (by decide), hA' 25 (by decide) (by decide)]; exact hS
    have hg2 : Wgd 27 A2 K h ord ml wd ln yr := by
      unfold Wgd at hg ⊢
      rw [hA (27 + 5) (by decide), hA (27 + 6) (by decide), hA (27 + 7) (by decide)]; exact hg
    have hub := fun l => unZ_le (mbB K h ord wd ln s sl st) (gLk K ord ln l) (19 * h)
    have hmb : 0 ≤ (lkM K h ord wd ln s sl st l).2 ∧ (lkM K h ord wd ln s sl st l).2 ≤ 200 := amx_b2 (by decide) l (fun i _ _ => by have := hub i; omega)
    have hb := hub l
    refine t_11_16 hG ⟨fun _ => c_12 hG hT2 hW2 hS2 hg2 hU2 (by omega) hl (fun F3 A3 hF3 hA3 hU3 => k_11_35 hG ?_), fun e => ?_⟩
    · rw [zI_lt (by omega) (by omega) (by omega) (by omega), zN_1]
      have hi := fun v => ih F3 A3 v (fun i hi => by rw [hF3 i hi]; exact hF i hi) (fun i hi => by rw [hA3 i hi]; exact hA i hi) (by rw [show τ + ((l + 1 : Nat) : Int) = τ + l + 1 by omega]; exact hU3)
      rw [lkM_step] at hi
      refine ⟨fun e => ?_, fun e => ?_⟩
      · have := hi (.int (zI ((unZ (mbB K h ord wd ln s sl st) (gLk K ord ln l) (19 * h) : Nat) : Int)))
        rw [if_pos e] at this
        exact this
      · have := hi (.int (zI ((unZ (mbB K h ord wd ln s sl st) (gLk K ord ln l) (19 * h) : Nat) : Int)))
        rw [if_neg e] at this
        exact this
    · rw [hF 27 (by decide), hW.2.1, zN_lt (by omega) (by omega)] at e
      omega
  · obtain ⟨u0, u1, u2⟩ := hU
    refine ⟨by omega, by rw [u1]; congr 1; omega, fun j hj => ?_⟩
    rw [hf 67 (by omega)]
    obtain ⟨c, c1, c2, c3⟩ := u2 j hj
    exact ⟨c, c1, by omega, c3⟩
end LookZ
