/-! the class's tower -/
section CTower
theorem fs_ind {p : Nat → Bool} {h : Nat} {P : Int → Prop} {R : Nat → Prop} (hP : P (fsB p h 0)) (hend : P (-1) → R h) (hs : ∀ j, j < h → (p j = true → P (j : Int)) → (p j = false → R (j + 1)) → R j) : R 0 := by
  have : ∀ k j, j + k = h → P (fsB p k j) → R j := by
    intro k
    induction k with
    | zero => intro j hj hp; rw [show j = h by omega]; exact hend hp
    | succ k ih =>
      intro j hj hp
      rw [fsB] at hp
      refine hs j (by omega) (fun e => ?_) (fun e => ?_)
      · rw [if_pos e] at hp; exact hp
      · rw [e, if_neg (by decide)] at hp; exact ih (j + 1) (by omega) hp
  exact this h 0 (by omega) hP
theorem mnZ_last (f : Nat → Int) : ∀ k j acc, mnZ f (k + 1) j acc = min (mnZ f k j acc) (f (j + k))
  | 0, j, acc => rfl
  | k + 1, j, acc => by
    rw [mnZ, mnZ_last f k (j + 1), mnZ, show j + 1 + k = j + (k + 1) by omega]
def FrT (t : Nat) (A A' : Nat → Nat → Int32) : Prop := ∀ i, (i < t + 5 ∨ t + 7 < i) → A' i = A i
def Wgd (t : Nat) (A : Nat → Nat → Int32) (K : Nat → Nat → Int) (h : Nat) (ord : Nat → Nat) (ml wd ln : Nat → Int) (yr : Int) : Prop := (∀ l, l < h → A (t + 5) l = zI (loadZ K h ord ml l)) ∧ (∀ l, l < h → A (t + 6) l = zI (carZ K yr (ord l) (topB h l))) ∧ (∀ l, l < h → A (t + 7) l = zI (tltZ K ord wd ln l))
variable {d : Nat} {F A : Nat → Nat → Int32} {J : Nat → Nat → Int64} {G : pG} {Q : pR → pM → Prop} {SL p q t : Nat} {K : Nat → Nat → Int} {n h : Nat} {ord : Nat → Nat} {ml wd ln : Nat → Int} {yr : Int}
theorem c_84 (hG : Geo G SL p q) (ht : Tw t) (hT : CTn F A K n) (hW : CTw t F A n h ord ml wd ln yr) (hQ : ∀ A', FrT t A A' → Wgd t A' K h ord ml wd ln yr → Q (.inl none) (F, A', J, G)) : X (d + 2) 84 0 [.ref t, .null, .null, .null] [] (F, A, J, G) Q := by
  have hT0 := ht
  unfold Tw at hT0
  obtain ⟨hK, e0, e1, e2, a0, a1, a2, a3⟩ := hT
  obtain ⟨hw, f1, f2, b0, b1, b2, b3⟩ := hW
  have h10 : h ≤ 10 := Nat.le_trans hw.1 hK.1
  have h10' := hK.1
  have L2 : ∀ A1, FrT t A A1 → (∀ l, l < h → A1 (t + 5) l = zI (loadZ K h ord ml l)) → (∀ l, l < h → A1 (t + 6) l = zI (carZ K yr (ord l) (topB h l))) → ∀ x, X (d + 2) 84 89 [.ref t, .int x, .int 0, .int 0] [] (F, A1, J, G) Q := by
    intro A1 hf1 h5 h6 x
    refine up_ind (h := h) (P := fun j => ∀ A1, FrT t A A1 → (∀ l, l < h → A1 (t + 5) l = zI (loadZ K h ord ml l)) → (∀ l, l < h → A1 (t + 6) l = zI (carZ K yr (ord l) (topB h l))) → (∀ l, l < j → A1 (t + 7) l = zI (tltZ K ord wd ln l)) → X (d + 2) 84 89 [.ref t, .int x, .int (zI (sm (fun k => trnZ K ln wd (ord k)) 0 j)), .int (zI (j : Int))] [] (F, A1, J, G) Q) ?_ ?_ A1 hf1 h5 h6 (fun l hl => absurd hl (Nat.not_lt_zero l))
    · intro A1 hf1 h5 h6 h7
      refine t_84_89 hG ht ⟨fun e => ?_, fun _ => hQ A1 hf1 ⟨h5, h6, h7⟩⟩
      rw [f1, zN_lt (by omega) (by omega)] at e
      omega
    · intro j hj ih A1 hf1 h5 h6 h7
      have hoj := hw.2.1 j hj
      have c0 := hf1 13 (by omega)
      have c1 := hf1 (t + 1) (by omega)
      have c3 := hf1 (t + 3) (by omega)
      have c4 := hf1 (t + 4) (by omega)
      refine t_84_89 hG ht ⟨fun _ => ?_, fun e => ?_⟩
      · rw [zI_clamp (by omega), c0, c1, c3, c4, b0 j hj, zI_clamp (by omega), a0 _ hoj, b2 _ hoj, b3 _ hoj, trn_z hK hoj, zI_add, zN_1]
        refine ⟨zN_in (by omega) (by decide), zN_in (by omega) (by decide), ?_⟩
        have e7 : sm (fun k => trnZ K ln wd (ord k)) 0 j + trnZ K ln wd (ord j) = sm (fun k => trnZ K ln wd (ord k)) 0 (j + 1) := by
          rw [sm_last, Nat.zero_add]
        rw [e7]
        refine ih _ ?_ ?_ ?_ ?_
        · intro i hi; rw [wF_row (by omega)]; exact hf1 i hi
        · intro l hl; rw [wF_row (by omega)]; exact h5 l hl
        · intro l hl; rw [wF_row (by omega)]; exact h6 l hl
        · intro l hl
          rw [wF_at]
          by_cases hlj : l = j
          · subst hlj; rw [if_pos ⟨rfl, rfl⟩]; rfl
          · rw [if_neg (fun q => hlj q.2)]; exact h7 l (by omega)
      · rw [f1, zN_lt (by omega) (by omega)] at e
        omega
  refine t_84_0 hG ht ?_
  have L1 := dn_ind (h := h) (P := fun j => ∀ A1 v, FrT t A A1 → (∀ l, j ≤ l → l < h → A1 (t + 5) l = zI (loadZ K h ord ml l)) → (∀ l, j ≤ l → l < h → A1 (t + 6) l = zI (carZ K yr (ord l) (topB h l))) → X (d + 2) 84 9 [.ref t, .int (zI (sm (fun k => K 1 (ord k) + ml (ord k)) j (h - j))), .int (zI ((j : Int) - 1)), v] [] (F, A1, J, G) Q) ?_ ?_ A .null (fun _ _ => rfl) (fun l h1 h2 => absurd h2 (by omega)) (fun l h1 h2 => absurd h2 (by omega))
  · rw [Nat.sub_self] at L1
    rw [f1, zZ_s1]
    exact L1
  · intro A1 v hf1 h5 h6
    refine t_84_9 hG ht ⟨fun _ => L2 A1 hf1 (fun l hl => h5 l (Nat.zero_le _) hl) (fun l hl => h6 l (Nat.zero_le _) hl) _, fun e => ?_⟩
    exact absurd (show zI ((0 : Nat) - 1 : Int) < 0 by decide) e
  · intro j hj ih A1 v hf1 h5 h6
    have hoj := hw.2.1 j hj
    have hmj := (hw.2.2.2.1 _ hoj).1
    have c0 := hf1 13 (by omega)
    have c1 := hf1 14 (by omega)
    have c2 := hf1 15 (by omega)
    have d1 := hf1 (t + 1) (by omega)
    have d2 := hf1 (t + 2) (by omega)
    have ex : zI (((j + 1 : Nat) : Int) - 1) = zI (j : Int) := by congr 1; omega
    have hfin : ∀ (b : Bool), b = topB h j → X (d + 2) 84 9 [.ref t, .int (zI (sm (fun k => K 1 (ord k) + ml (ord k)) j (h - j))), .int (zI ((j : Int) - 1)), .int (zI (ord j : Int))] [] (F, wF (wF A1 (t + 5) j (zI (loadZ K h ord ml j))) (t + 6) j (zI (carZ K yr (ord j) b)), J, G) Q := by
      intro b hb
      refine ih _ _ ?_ ?_ ?_
      · intro i hi; rw [wF_row (by omega), wF_row (by omega)]; exact hf1 i hi
      · intro l h1 h2
        rw [wF_row (by omega), wF_at]
        by_cases hlj : l = j
        · subst hlj; rw [if_pos ⟨rfl, rfl⟩]
        · rw [if_neg (fun q => hlj q.2)]; exact h5 l (by omega) h2
      · intro l h1 h2
        rw [wF_at]
        by_cases hlj : l = j
        · subst hlj; rw [if_pos ⟨rfl, rfl⟩, hb]
        · rw [if_neg (fun q => hlj q.2), wF_row (by omega)]; exact h6 l (by omega) h2
    have eL : sm (fun k => K 1 (ord k) + ml (ord k)) (j + 1) (h - (j + 1)) + ml (ord j) = loadZ K h ord ml j := by unfold loadZ; omega
    have eS : sm (fun k => K 1 (ord k) + ml (ord k)) (j + 1) (h - (j + 1)) + (K 1 (ord j) + ml (ord j)) = sm (fun k => K 1 (ord k) + ml (ord k)) j (h - j) := by rw [load_step hj]; omega
    rw [ex]
    refine t_84_9 hG ht ⟨fun e => ?_, fun _ => ?_⟩
    · rw [show (0 : Int32) = zI 0 from rfl, zI_lt (by omega) (by omega) (by omega) (by omega)] at e
      omega
    · rw [zI_clamp (by omega), c0, c1, c2, d1, d2, b0 j hj, zI_clamp (by omega), a0 _ hoj, a1 _ hoj, a2 _ hoj, b1 _ hoj, f2, f1, car_z1 hK hoj hw.2.2.2.2, car_z0 hK hoj hw.2.2.2.2, zI_add, zI_add, zI_add, zZ_m1, zZ_s1, eL, eS]
      refine ⟨zN_in (by omega) (by decide), zN_in (by omega) (by decide), fun e => ?_, fun e => ?_⟩
      · rw [zI_eq (by omega) (by omega) (by omega) (by omega)] at e
        exact hfin true (by unfold topB; exact (decide_eq_true (by omega)).symm)
      · rw [zI_eq (by omega) (by omega) (by omega) (by omega)] at e
        exact hfin false (by unfold topB; exact (decide_eq_false (by omega)).symm)
theorem hld_iff (l : Nat) : hldZ K h ord ml wd ln yr l = true ↔ (0 ≤ slkZ K h ord ml yr l ∧ ((tltZ K ord wd ln l).natAbs : Int) ≤ K 4 0) := by
  unfold hldZ slkZ
  rw [Bool.and_eq_true, decide_eq_true_eq, decide_eq_true_eq]
  constructor <;> intro q <;> exact ⟨by omega, q.2⟩
theorem c_87 (hG : Geo G SL p q) (ht : Tw t) (hT : CTn F A K n) (hW : CTw t F A n h ord ml wd ln yr) (hQ : ∀ A', FrT t A A' → Wgd t A' K h ord ml wd ln yr → Q (.inl (some (.int (zI (brkZ K h ord ml wd ln yr))))) (F, A', J, G)) : X (d + 3) 87 0 [.ref t, .null] [] (F, A, J, G) Q := by
  refine t_87_0 hG ht (c_84 hG ht hT hW (fun A' hf hg => k_87_4 hG ht ?_))
  obtain ⟨hK, e0, e1, e2, a0, a1, a2, a3⟩ := hT
  obtain ⟨hw, f1, f2, b0, b1, b2, b3⟩ := hW
  have h10 : h ≤ 10 := Nat.le_trans hw.1 hK.1
  have h40 := hK.2.2.1
  obtain ⟨g5, g6, g7⟩ := id hg
  refine fs_ind (p := fun l => !hldZ K h ord ml wd ln yr l) (h := h) (P := fun r => Q (.inl (some (.int (zI r)))) (F, A', J, G)) (R := fun j => X (d + 3) 87 6 [.ref t, .int (zI (j : Int))] [] (F, A', J, G) Q) (hQ A' hf hg) (fun hq => ?_) (fun j hj hp hr => ?_)
  · refine t_87_6 hG ht ⟨fun e => ?_, fun _ => hq⟩
    rw [f1, zN_lt (by omega) (by omega)] at e
    omega
  · have hs := slk_b hK hw hj
    have htl := tlt_b (l := j) hK hw hj
    have hi := hld_iff (K := K) (h := h) (ord := ord) (ml := ml) (wd := wd) (ln := ln) (yr := yr) j
    have es : carZ K yr (ord j) (topB h j) - loadZ K h ord ml j = slkZ K h ord ml yr j := rfl
    refine t_87_6 hG ht ⟨fun _ => ?_, fun e => ?_⟩
    · rw [zI_clamp (by omega), g5 j hj, g6 j hj, g7 j hj, e1, zI_sub, es, lim_z (by omega) (by omega) (by omega) (by omega), show (0 : Int32) = zI 0 from rfl, zI_lt (by omega) (by omega) (by omega) (by omega), zN_1]
      refine ⟨zN_in (by omega) (by decide), fun e => ?_, fun e => ⟨fun e' => ?_, fun e' => ?_⟩⟩
      · exact hp (by simp only [Bool.not_eq_true']; rw [← Bool.not_eq_true, hi]; omega)
      · exact hr (by simp only [Bool.not_eq_false']; rw [hi]; rw [decide_eq_true_eq] at e'; exact ⟨by omega, e'⟩)
      · exact hp (by simp only [Bool.not_eq_true']; rw [← Bool.not_eq_true, hi]; rw [decide_eq_false_iff_not] at e'; exact fun q => e' q.2)
    · rw [f1, zN_lt (by omega) (by omega)] at e
      omega
theorem zm1 : (-1 : Int32) = zI (-1) := rfl
theorem z0 : (0 : Int32) = zI 0 := rfl
theorem z1 : (1 : Int32) = zI 1 := rfl
def stdB (K : Nat → Nat → Int) (h : Nat) (ord : Nat → Nat) (ml wd ln : Nat → Int) (yr : Int) : Bool := decide (brkZ K h ord ml wd ln yr = -1)
theorem c_88 (hG : Geo G SL p q) (ht : Tw t) (hT : CTn F A K n) (hW : CTw t F A n h ord ml wd ln yr) (hQ : ∀ A', FrT t A A' → Wgd t A' K h ord ml wd ln yr → Q (.inl (some (.int (bI (stdB K h ord ml wd ln yr))))) (F, A', J, G)) : X (d + 4) 88 0 [.ref t] [] (F, A, J, G) Q := by
  have h10 : h ≤ 10 := Nat.le_trans hW.1.1 hT.1.1
  have hb := brk_b (K := K) (h := h) (ord := ord) (ml := ml) (wd := wd) (ln := ln) (yr := yr)
  refine t_88_0 hG ht (c_87 hG ht hT hW (fun A' hf hg => k_88_4 hG ht ⟨fun e => ?_, fun e => ?_⟩))
  · rw [zm1, zI_eq (by omega) (by omega) (by omega) (by omega)] at e
    have := hQ A' hf hg
    rw [show stdB K h ord ml wd ln yr = true from decide_eq_true e] at this
    exact this
  · rw [zm1, zI_eq (by omega) (by omega) (by omega) (by omega)] at e
    have := hQ A' hf hg
    rw [show stdB K h ord ml wd ln yr = false from decide_eq_false e] at this
    exact this
theorem c_89 (hG : Geo G SL p q) (ht : Tw t) (hT : CTn F A K n) (hW : CTw t F A n h ord ml wd ln yr) (hQ : ∀ A', FrT t A A' → Wgd t A' K h ord ml wd ln yr → Q (.inl (some (.int (zI (morZ K h ord ml wd ln yr))))) (F, A', J, G)) : X (d + 4) 89 0 [.ref t, .null, .null] [] (F, A, J, G) Q := by
  have hK := hT.1
  have hw := hW.1
  have h10 : h ≤ 10 := Nat.le_trans hW.1.1 hT.1.1
  have f1 := hW.2.1
  have hb := brk_b (K := K) (h := h) (ord := ord) (ml := ml) (wd := wd) (ln := ln) (yr := yr)
  refine t_89_0 hG ht (c_87 hG ht hT hW (fun A' hf hg => k_89_4 hG ht ⟨fun e => ?_, fun e => ?_⟩))
  · rw [zm1, zI_eq (by omega) (by omega) (by omega) (by omega)] at e
    have hq := hQ A' hf hg
    unfold morZ at hq
    rw [if_pos e] at hq
    obtain ⟨g5, g6, g7⟩ := hg
    refine up_ind (h := h) (P := fun j => X (d + 4) 89 16 [.ref t, .int (zI (mnZ (slkZ K h ord ml yr) j 0 9999)), .int (zI (j : Int))] [] (F, A', J, G) Q) ?_ ?_
    · refine t_89_16 hG ht ⟨fun e => ?_, fun _ => hq⟩
      rw [f1, zN_lt (by omega) (by omega)] at e
      omega
    · intro j hj ih
      refine t_89_16 hG ht ⟨fun _ => ⟨zN_in (by omega) (by decide), ?_⟩, fun e => ?_⟩
      · have hs := slk_b hK hw hj
        have h1 := mnZ_le (slkZ K h ord ml yr) j 0 9999
        have h2 := mnZ_ge (slkZ K h ord ml yr) (-70000) j 0 9999 (fun i h1 h2 => (slk_b hK hw (by omega)).1) (by omega)
        have es : carZ K yr (ord j) (topB h j) - loadZ K h ord ml j = slkZ K h ord ml yr j := rfl
        rw [zI_clamp (by omega), g5 j hj, g6 j hj, zI_sub, es, zI_jmin (by omega) (by omega) (by omega) (by omega), zN_1]
        have el := mnZ_last (slkZ K h ord ml yr) j 0 9999
        rw [Nat.zero_add] at el
        rw [← el]
        exact ih
      · rw [f1, zN_lt (by omega) (by omega)] at e
        omega
  · rw [zm1, zI_eq (by omega) (by omega) (by omega) (by omega)] at e
    have hq := hQ A' hf hg
    unfold morZ at hq
    rw [if_neg e] at hq
    exact hq
end CTower
