/-! the law comes to its end -/
section End26
variable {SL : Nat} {xs : Nat → Int32}
theorem pl_M0 : plM SL xs Mc0 = pM0 SL xs := rfl
theorem all_rg {n : Nat} {P : Nat → Prop} [DecidablePred P] (h : (List.range n).all (fun i => decide (P i)) = true) : ∀ i, i < n → P i := fun i hi => of_decide_eq_true (List.all_eq_true.mp h i (List.mem_range.mpr hi))
theorem ckG_ok {M : pM} (h : ckG M.2.2.2 = true) : Geo (plM SL xs M).2.2.2 SL 50 51 ∧ gC M.2.2.2 ≤ 105 ∧ gS M.2.2.2 ≤ 20000 := by
  unfold ckG at h
  simp only [Bool.and_eq_true, decide_eq_true_eq] at h
  obtain ⟨⟨⟨⟨⟨⟨⟨h1, h2⟩, h3⟩, h4⟩, h5⟩, h6⟩, h7⟩, h8⟩ := h
  have h2' : ∀ i, i < 105 → gK M.2.2.2 i = gKl.getD i 0 := all_rg h2
  have h3' : ∀ i, i < 105 → gL M.2.2.2 i = gLl.getD i 0 := all_rg h3
  exact ⟨⟨h1, fun i hi => (plK (by omega)).trans (h2' i hi), fun i hi => (plL (by omega)).trans (h3' i hi), fun e he => of_decide_eq_true (List.all_eq_true.mp h4 e he), rfl, rfl, h5, h6, Or.inl ⟨rfl, rfl⟩⟩, h7, h8⟩
def K0 : Nat → Nat → Int := fun a _ => if a = 4 then 9 else if a = 5 then 100 else 0
def B0 (u : Nat → Int32) : BsT := (0, fun _ => begS 0 (fun _ => 0), 0, fun _ => 0, fun _ => 0, u)
theorem tn_0 : TnOk K0 0 := ⟨by decide, fun i hi => absurd hi (by omega), by decide, by decide⟩
theorem tw_0 : TwOk 0 0 (fun j => j) (fun _ => 0) (fun _ => 0) (fun _ => 0) 0 := ⟨by decide, fun i hi => absurd hi (by omega), fun i _ hi => absurd hi (by omega), fun i hi => absurd hi (by omega), by decide⟩
theorem so_0 : SOk 0 (begS 0 (fun _ => 0)) := ⟨tw_0, fun i hi => absurd hi (by omega), by decide⟩
theorem wf_0 : WfC (fun _ => 0) 0 := ⟨fun i hi => absurd hi (by omega), fun hi => absurd hi (by omega)⟩
theorem sn_0 : SnOk 0 (fun _ => 0) (fun _ => 0) := ⟨by decide, fun i hi => absurd hi (by omega), fun i hi => absurd hi (by omega)⟩
theorem ci_0 {F A : Nat → Nat → Int32} (h : ckC F A = true) : CI 0 F A K0 0 (fun _ => 0) 0 0 (fun _ => 0) (-1) false (B0 (A 26)) (B0 (A 26)) := by
  unfold ckC at h
  simp only [Bool.and_eq_true, decide_eq_true_eq] at h
  obtain ⟨⟨⟨⟨⟨⟨⟨⟨⟨⟨⟨⟨⟨⟨⟨⟨h1, h2⟩, h3⟩, h4⟩, h5⟩, h6⟩, h7⟩, h8⟩, h9⟩, h10⟩, h11⟩, h12⟩, h13⟩, h14⟩, h15⟩, h16⟩, h17⟩ := h
  have h15' : ∀ j, j < 73 → A 67 j = 0 := all_rg h15
  have nn : ∀ {P : Nat → Prop} (i : Nat), i < 0 → P i := fun i hi => absurd hi (by omega)
  refine ⟨⟨tn_0, h1, h2, h3, nn, nn, nn, nn⟩, ⟨by decide, wf_0, h4, nn⟩, ⟨h5, nn⟩, ⟨⟨Nat.zero_le 40, h8, fun _ _ => so_0, nn⟩, ⟨⟨tw_0, h9, h10, nn, nn, nn, nn⟩, h11⟩, sn_0, h12, nn, nn, fun _ _ => rfl⟩, ⟨0, ⟨by decide, h14, fun j hj => ⟨0, by decide, by decide, h15' j hj⟩⟩, by decide⟩, fun e => ?_, ⟨h16, h17⟩, h6, h7, fun e => by cases e⟩
  rw [h13] at e; exact absurd e (by decide)
theorem mi_0 {F A : Nat → Nat → Int32} (h : ckM F A = true) : MI F A K0 0 (fun _ => 0) 0 0 (fun _ => 0) (-1) false (B0 (A 26)) (B0 (A 26)) := by
  unfold ckM at h
  simp only [Bool.and_eq_true, decide_eq_true_eq] at h
  obtain ⟨⟨⟨⟨⟨⟨⟨⟨⟨⟨⟨⟨⟨⟨⟨⟨h1, h2⟩, h3⟩, h4⟩, h5⟩, h6⟩, h7⟩, h8⟩, h9⟩, h10⟩, h11⟩, h12⟩, h13⟩, h14⟩, h15⟩, h16⟩, h17⟩ := h
  have h17' : ∀ j, j < 3 → A 79 j = A 26 j := all_rg h17
  have nn : ∀ {P : Nat → Prop} (i : Nat), i < 0 → P i := fun i hi => absurd hi (by omega)
  exact ⟨⟨tn_0, ⟨h1, h2, h3, h4⟩, h5, h6, h7, nn, nn, nn, nn⟩, ⟨by decide, wf_0, h8, nn⟩, ⟨h9, nn⟩, ⟨h14, ⟨Nat.zero_le 40, fun _ _ => so_0, nn⟩, ⟨⟨tw_0, h11, h12, nn, nn, nn, nn⟩, h13⟩, ⟨sn_0, h15, nn, nn⟩, h17'⟩, h10, h16, fun e => by cases e⟩
theorem rs_0 {M : pM} (hg : ckG M.2.2.2 = true) (hc : ckC M.1 M.2.1 = true) (hm : ckM M.1 M.2.1 = true) : RS 0 SL xs (plM SL xs M) := by
  obtain ⟨g1, g2, g3⟩ := ckG_ok (SL := SL) (xs := xs) hg
  have hF : (plM SL xs M).1 = M.1 := rfl
  have hA : ∀ i, i < 2000 → (plM SL xs M).2.1 i = M.2.1 i := fun i hi => plA (by omega)
  refine ⟨50, 51, g1, ⟨K0, 0, fun _ => 0, 0, 0, fun _ => 0, -1, false, B0 (M.2.1 26), B0 (M.2.1 26), CI_hi (Nat.le_refl _) (fun _ _ => rfl) (fun i hi => hA i (by omega)) (ci_0 hc), MI_lo rfl (fun i _ hi => hA i (by omega)) (mi_0 hm), by decide, fun j hj => absurd hj (by omega)⟩, ?_, by show gC M.2.2.2 ≤ _; omega, by show gS M.2.2.2 ≤ _; omega⟩
  show va_up M.2.1 2000 xs 2000 = xs
  rw [vup_at, if_pos rfl]
theorem ckL_ok {L st : List Value} (h : ckL L st = true) : st = [] ∧ L = [.ref 2000, .ref 0, .ref 68, .ref 104, .int 0, .null, .null, .null] := by
  unfold ckL at h
  split at h
  · split at h
    · simp only [Bool.and_eq_true, decide_eq_true_eq] at h
      obtain ⟨⟨⟨⟨h1, h2⟩, h3⟩, h4⟩, h5⟩ := h
      subst h1 h2 h3 h4 h5
      exact ⟨rfl, rfl⟩
    · cases h
  · cases h
theorem law_ok (L : Nat) (xs : Nat → Int32) (hL : L ≤ 3072) : ∃ n M', exN n 1000 312 0 (entL [.ref 2000] 8) [] (pM0 L xs) = some (.inl (some (.int 1)), M') ∧ gC M'.2.2.2 ≤ 601024 ∧ gS M'.2.2.2 ≤ 7293034 := by
  have hck := ckW_ok
  unfold ckW at hck
  split at hck
  · rename_i q hq
    obtain ⟨L1, st1, M1⟩ := q
    simp only [Bool.and_eq_true] at hck
    obtain ⟨hl, hg, hc, hm⟩ := hck
    obtain ⟨rfl, rfl⟩ := ckL_ok hl
    have hR := rs_0 (SL := L) (xs := xs) hg hc hm
    have hX := law_loop (d := 991) (by decide) hL 512 0 .null .null _ hR (by omega) (by decide)
    have hY : X (999 + 1) 312 0 (entL [.ref 2000] 8) [] (plM L xs Mc0) Qf := exW_ok (SL := L) (xs := xs) 4000 0 _ _ _ _ _ _ hq rfl hX
    obtain ⟨n, r, M', e1, e2, e3, e4⟩ := hY
    subst e2
    exact ⟨n, M', e1, e3, e4⟩
  · cases hck
end End26
