/-! out with a table -/
section OutZ
variable {d : Nat} {F A F' A' F'' A'' : Nat → Nat → Int32} {J : Nat → Nat → Int64} {G : pG} {Q : pR → pM → Prop} {SL p q t a na b i l : Nat} {K : Nat → Nat → Int} {n h h' : Nat} {ord ord' : Nat → Nat} {ml wd ln ml' wd' ln' : Nat → Int} {yr z y : Int}
theorem nx_zero {a b : Nat} : (a ^^^ b = 0) ↔ a = b := by
  constructor
  · intro h1
    refine Nat.eq_of_testBit_eq (fun i => ?_)
    have h2 : (a ^^^ b).testBit i = false := by rw [h1]; exact Nat.zero_testBit i
    rw [Nat.testBit_xor] at h2
    cases ha : a.testBit i <;> cases hb : b.testBit i <;> simp [ha, hb] at h2 <;> rfl
  · rintro rfl
    exact Nat.xor_self a
def flt (ord : Nat → Nat) (p : Nat → Bool) : Nat → List Nat
  | 0 => []
  | k + 1 => if p (ord k) = true then flt ord p k ++ [ord k] else flt ord p k
theorem flt_mem {p : Nat → Bool} {x : Nat} : ∀ k, x ∈ flt ord p k ↔ ∃ l, l < k ∧ ord l = x ∧ p x = true
  | 0 => by simp [flt]
  | k + 1 => by
    rw [flt]
    constructor
    · intro h1
      split at h1
      · rename_i hp
        rcases List.mem_append.mp h1 with h2 | h2
        · obtain ⟨l, h3, h4, h5⟩ := (flt_mem k).mp h2
          exact ⟨l, by omega, h4, h5⟩
        · have : x = ord k := by simpa using h2
          exact ⟨k, by omega, this.symm, by rw [this]; exact hp⟩
      · obtain ⟨l, h3, h4, h5⟩ := (flt_mem k).mp h1
        exact ⟨l, by omega, h4, h5⟩
    · rintro ⟨l, h3, h4, h5⟩
      by_cases e : l = k
      · subst e
        rw [if_pos (by rw [h4]; exact h5)]
        exact List.mem_append.mpr (Or.inr (by simp [h4]))
      · have := (flt_mem (p := p) k).mpr ⟨l, by omega, h4, h5⟩
        split
        · exact List.mem_append.mpr (Or.inl this)
        · exact this
theorem flt_nd {p : Nat → Bool} : ∀ k, (∀ l l', l < k → l' < k → ord l = ord l' → l = l') → (flt ord p k).Nodup
  | 0, _ => List.nodup_nil
  | k + 1, h => by
    have h1 := flt_nd (p := p) k (fun l l' h1 h2 => h l l' (by omega) (by omega))
    rw [flt]
    split
    · refine List.nodup_append.mpr ⟨h1, by simp, fun a ha b hb => ?_⟩
      obtain ⟨l, h3, h4, -⟩ := (flt_mem k).mp ha
      have hb' : b = ord k := by simpa using hb
      intro e
      have := h l k (by omega) (by omega) (by rw [h4, e, hb'])
      omega
    · exact h1
theorem flt_len {p : Nat → Bool} : ∀ k, (flt ord p k).length ≤ k
  | 0 => Nat.le_refl _
  | k + 1 => by
    have := flt_len (p := p) k
    rw [flt]
    split
    · rw [List.length_append]; simp; omega
    · omega
theorem flt_filter {p r : Nat → Bool} : ∀ k, (flt ord p k).filter r = flt ord (fun x => p x && r x) k
  | 0 => rfl
  | k + 1 => by
    rw [flt, flt]
    by_cases hp : p (ord k) = true
    · rw [if_pos hp, List.filter_append, flt_filter k]
      by_cases hr : r (ord k) = true
      · rw [if_pos (by rw [hp, hr]; rfl)]; simp [hr]
      · rw [if_neg (by rw [hp]; simpa using hr)]; simp [hr]
    · rw [if_neg hp, flt_filter k, if_neg (fun q => hp (by simp only [Bool.and_eq_true] at q; exact q.1))]
theorem flt_congr {p r : Nat → Bool} : ∀ k, (∀ l, l < k → p (ord l) = r (ord l)) → flt ord p k = flt ord r k
  | 0, _ => rfl
  | k + 1, h => by rw [flt, flt, h k (by omega), flt_congr k (fun l hl => h l (by omega))]
theorem flt_all : ∀ k, (flt ord (fun _ => true) k).length = k ∧ ∀ j, j < k → (flt ord (fun _ => true) k).getD j 0 = ord j
  | 0 => ⟨rfl, fun j hj => absurd hj (Nat.not_lt_zero j)⟩
  | k + 1 => by
    have h1 := flt_all k
    rw [flt, if_pos rfl]
    refine ⟨by rw [List.length_append, h1.1]; rfl, fun j hj => ?_⟩
    rw [List.getD_eq_getElem?_getD]
    by_cases e : j = k
    · rw [e, List.getElem?_append_right (by omega), h1.1]; simp
    · rw [List.getElem?_append_left (by omega), ← List.getD_eq_getElem?_getD]; exact h1.2 j (by omega)
theorem rem_filter {t : Nat} : ∀ (L : List Nat) (a : Nat), L.Nodup → a < L.length → L.getD a 0 = t → ∀ j, (L.filter (fun x => !(x == t))).getD j 0 = if j < a then L.getD j 0 else L.getD (j + 1) 0
  | [], a, _, h, _, _ => absurd h (Nat.not_lt_zero a)
  | x :: L, 0, hn, _, ht, j => by
    have hx : x = t := by simpa using ht
    subst hx
    have hni : x ∉ L := (List.nodup_cons.mp hn).1
    have : L.filter (fun y => !(y == x)) = L := List.filter_eq_self.mpr (fun y hy => by
      simp only [Bool.not_eq_true', beq_eq_false_iff_ne, ne_eq]
      intro e; subst e; exact hni hy)
    rw [List.filter_cons_of_neg (by simp), this, if_neg (Nat.not_lt_zero j)]
    simp
  | x :: L, a + 1, hn, hl, ht, j => by
    have hn' := List.nodup_cons.mp hn
    have hl' : a < L.length := by simpa using hl
    have ht' : L.getD a 0 = t := by simpa using ht
    have hxt : ¬ x = t := by
      intro e
      apply hn'.1
      rw [e, ← ht', List.getD_eq_getElem?_getD, List.getElem?_eq_getElem hl']
      exact List.getElem_mem hl'
    rw [List.filter_cons_of_pos (by simpa using hxt)]
    cases j with
    | zero => simp
    | succ j =>
      have := rem_filter L a hn'.2 hl' ht' j
      simp only [List.getD_cons_succ]
      rw [this]
      by_cases e : j < a
      · rw [if_pos e, if_pos (by omega)]
      · rw [if_neg e, if_neg (by omega)]
theorem len_filter {t : Nat} : ∀ (L : List Nat), L.Nodup → t ∈ L → (L.filter (fun x => !(x == t))).length = L.length - 1
  | [], _, h => by simp at h
  | x :: L, hn, h => by
    have hn' := List.nodup_cons.mp hn
    by_cases e : x = t
    · subst e
      have : L.filter (fun y => !(y == x)) = L := List.filter_eq_self.mpr (fun y hy => by
        simp only [Bool.not_eq_true', beq_eq_false_iff_ne, ne_eq]
        intro e; subst e; exact hn'.1 hy)
      rw [List.filter_cons_of_neg (by simp), this]
      simp
    · have ht : t ∈ L := by
        rcases List.mem_cons.mp h with h1 | h1
        · exact absurd h1.symm e
        · exact h1
      rw [List.filter_cons_of_pos (by simpa using e), List.length_cons, len_filter L hn'.2 ht, List.length_cons]
      have : 0 < L.length := List.length_pos_of_mem ht
      omega
theorem getD_mem {L : List Nat} {j : Nat} (hj : j < L.length) : L.getD j 0 ∈ L := by
  rw [List.getD_eq_getElem?_getD, List.getElem?_eq_getElem hj]
  exact List.getElem_mem hj
theorem nd_inj {L : List Nat} (hn : L.Nodup) {i j : Nat} (hi : i < L.length) (hj : j < L.length) (h : L.getD i 0 = L.getD j 0) : i = j := by
  rw [List.getD_eq_getElem?_getD, List.getD_eq_getElem?_getD, List.getElem?_eq_getElem hi, List.getElem?_eq_getElem hj] at h
  exact (List.getElem_inj hn).mp h
theorem mem_at {L : List Nat} {x : Nat} (h : x ∈ L) : ∃ j, j < L.length ∧ L.getD j 0 = x := by
  obtain ⟨j, hj, he⟩ := List.getElem_of_mem h
  exact ⟨j, hj, by rw [List.getD_eq_getElem?_getD, List.getElem?_eq_getElem hj]; exact he⟩
theorem flt_ok {p : Nat → Bool} (hw : TwOk n h ord ml wd ln yr) (hm : ∀ i, i < n → 0 ≤ ml' i ∧ ml' i ≤ 6000) : TwOk n (flt ord p h).length (fun j => (flt ord p h).getD j 0) ml' wd ln yr := by
  refine ⟨Nat.le_trans (flt_len h) hw.1, fun l hl => ?_, fun l l' hl hl' he => nd_inj (flt_nd h hw.2.2.1) hl hl' he, fun i hi => ⟨hm i hi, (hw.2.2.2.1 i hi).2⟩, hw.2.2.2.2⟩
  obtain ⟨k, h1, h2, -⟩ := (flt_mem h).mp (getD_mem hl)
  show (flt ord p h).getD l 0 < n
  rw [← h2]
  exact hw.2.1 k h1
/-- whether it stands without a set -/
def osB (K : Nat → Nat → Int) (h : Nat) (ord : Nat → Nat) (ml wd ln : Nat → Int) (yr : Int) (s : Nat) : Bool := stdB K (flt ord (fun x => !s.testBit x) h).length (fun j => (flt ord (fun x => !s.testBit x) h).getD j 0) ml wd ln yr
def ouF (K : Nat → Nat → Int) (h : Nat) (ord : Nat → Nat) (ml wd ln : Nat → Int) (yr : Int) (ot i : Nat) : Nat → Nat
  | 0 => ot
  | e + 1 => if e &&& ot = e ∧ pcn e < pcn (ouF K h ord ml wd ln yr ot i e) ∧ osB K h ord ml wd ln yr (e ||| 2 ^ i) = true then e else ouF K h ord ml wd ln yr ot i e
theorem ouF_b (ot i : Nat) : ∀ e, ouF K h ord ml wd ln yr ot i e = ot ∨ ouF K h ord ml wd ln yr ot i e < e
  | 0 => Or.inl rfl
  | e + 1 => by
    have := ouF_b ot i e
    rw [ouF]
    split <;> omega
theorem c_108 {s : Nat} (hG : Geo G SL p q) (hT : CTn F A K n) (hW : CTw 27 F A n h ord ml wd ln yr) (hW3 : CTw 53 F A n h' ord' ml wd ln yr) (hs : s < 1024) (hQ : ∀ F' A', CScr F A F' A' → CTw 53 F' A' n (flt ord (fun x => !s.testBit x) h).length (fun j => (flt ord (fun x => !s.testBit x) h).getD j 0) ml wd ln yr → Q (.inl (some (.int (bI (osB K h ord ml wd ln yr s))))) (F', A', J, G)) : X (d + 5) 108 0 [.ref 49, .int (zI (s : Int)), .null, .null] [] (F, A, J, G) Q := by
  have h10' := hT.1.1
  have h10 : h ≤ 10 := Nat.le_trans hW.1.1 hT.1.1
  refine t_108_0 hG ?_
  refine up_ind (h := h) (P := fun j => ∀ F1 A1 v, CScr F A F1 A1 → (∀ i, i ≠ 53 → F1 i = F i) → F1 53 1 = zI ((flt ord (fun x => !s.testBit x) j).length : Int) → F1 53 2 = zI yr → (∀ i, i ≠ 54 → A1 i = A i) → (∀ k, k < (flt ord (fun x => !s.testBit x) j).length → A1 54 k = zI ((flt ord (fun x => !s.testBit x) j).getD k 0 : Int)) → X (d + 5) 108 10 [.ref 49, .int (zI (s : Int)), .int (zI (j : Int)), v] [] (F1, A1, J, G) Q) ?_ ?_ _ A .null ⟨fun i _ h1 => wF_row (by omega), by rw [wF_row (by decide)], fun _ _ _ _ => rfl⟩ (fun i hi => wF_row hi) (by rw [wF_same]; rfl) (by rw [wF_cell (by decide)]; exact hW3.2.2.1) (fun _ _ => rfl) (fun k hk => absurd hk (Nat.not_lt_zero k))
  · intro F1 A1 v hs1 hF f1 f2 hA ha
    have hW27 := CTw_scr hs1 hW
    have hWf : CTw 53 F1 A1 n (flt ord (fun x => !s.testBit x) h).length (fun j => (flt ord (fun x => !s.testBit x) h).getD j 0) ml wd ln yr := ⟨flt_ok hW.1 (fun i hi => (hW.1.2.2.2.1 i hi).1), f1, f2, ha, by rw [hA _ (by decide)]; exact hW3.2.2.2.2.1, by rw [hA _ (by decide)]; exact hW3.2.2.2.2.2.1, by rw [hA _ (by decide)]; exact hW3.2.2.2.2.2.2⟩
    refine t_108_10 hG ⟨fun e => ?_, fun _ => c_88 hG tw53 (CTn_scr hs1 hT) hWf (fun A2 hf2 hg2 => k_108_81 hG ⟨bI_01 _, hQ _ _ (hs1.tr (FrT_scr53 hf2)) (CTw_frT hf2 hWf)⟩)⟩
    rw [hW27.2.1, zN_lt (by omega) (by omega)] at e
    omega
  · intro j hj ih F1 A1 v hs1 hF f1 f2 hA ha
    have hW27 := CTw_scr hs1 hW
    have hoj := hW.1.2.1 j hj
    have hlen := flt_len (ord := ord) (p := fun x => !s.testBit x) j
    refine t_108_10 hG ⟨fun _ => ?_, fun e => ?_⟩
    · rw [zI_clamp (n := j) (by omega), hW27.2.2.2.1 j hj, shr_0 hs (by omega), f1, zN_1, zI_clamp (n := (flt ord (fun x => !s.testBit x) j).length) (by omega), zN_1]
      refine ⟨zN_in (by omega) (by decide), fun e => ⟨zN_in (by omega) (by decide), ?_⟩, fun e => ?_⟩
      · have hfl : flt ord (fun x => !s.testBit x) (j + 1) = flt ord (fun x => !s.testBit x) j ++ [ord j] := by rw [flt, if_pos (by rw [e]; rfl)]
        refine ih _ _ _ (hs1.tr ⟨fun i _ h1 => wF_row (by omega), by rw [wF_row (by decide)], fun i _ _ h1 => wF_row (by omega)⟩) (fun i hi => by rw [wF_row hi]; exact hF i hi) ?_ ?_ (fun i hi => by rw [wF_row hi]; exact hA i hi) (fun k hk => ?_)
        · rw [wF_same, hfl, List.length_append]; rfl
        · rw [wF_cell (by decide)]; exact f2
        · rw [hfl] at hk ⊢
          rw [List.length_append] at hk
          rw [wF_at, List.getD_eq_getElem?_getD]
          by_cases e2 : k = (flt ord (fun x => !s.testBit x) j).length
          · rw [if_pos ⟨rfl, e2⟩, e2, List.getElem?_append_right (Nat.le_refl _)]; simp
          · have hk' : k < (flt ord (fun x => !s.testBit x) j).length := by simp at hk; omega
            rw [if_neg (fun q => e2 q.2), List.getElem?_append_left hk', ← List.getD_eq_getElem?_getD]; exact ha k hk'
      · have hfl : flt ord (fun x => !s.testBit x) (j + 1) = flt ord (fun x => !s.testBit x) j := by rw [flt, if_neg (by simpa using e)]
        refine ih _ _ _ hs1 hF ?_ f2 hA ?_
        · rw [hfl]; exact f1
        · rw [hfl]; exact ha
    · rw [hW27.2.1, zN_lt (by omega) (by omega)] at e
      omega
theorem zI_and0 {a b : Nat} (ha : a < 1024) : (zI (a : Int) &&& (zI (b : Int) ^^^ (-1)) = 0) = (a &&& b = a) := by
  have : a ^^^ (a &&& b) < 1024 := Nat.xor_lt_two_pow (n := 10) ha (Nat.lt_of_le_of_lt Nat.and_le_left ha)
  rw [zN_andn, zI_eq0 (by omega)]
  refine propext ⟨fun q => (nx_zero.mp (by omega)).symm, fun q => ?_⟩
  rw [q, Nat.xor_self]
  rfl
theorem nI_pcn {a b : Nat} (ha : a < 1024) (hb : b < 1024) : (nI (pcn a) < nI (pcn b)) = (pcn a < pcn b) := by
  have h1 : pcn a ≤ 10 := by unfold pcn; omega
  have h2 : pcn b ≤ 10 := by unfold pcn; omega
  exact propext (nI_ltI (by omega) (by omega))
theorem c_107 (hG : Geo G SL p q) (hT : CTn F A K n) (hW : CTw 27 F A n h ord ml wd ln yr) (hi : i < n) (hQ : ∀ F' A', CScr F A F' A' → Q (.inl (some (.int (zI (ouF K h ord ml wd ln yr (bst ord h ^^^ (bst ord h &&& 2 ^ i)) i (bst ord h ^^^ (bst ord h &&& 2 ^ i)) : Int))))) (F', A', J, G)) : X (d + 6) 107 0 [.ref 49, .int (zI (i : Int)), .null, .null, .null, .null] [] (F, A, J, G) Q := by
  have h10' := hT.1.1
  have h10 : h ≤ 10 := Nat.le_trans hW.1.1 hT.1.1
  have hbs : bst ord h < 1024 := bst_lt ord 10 h (fun l hl => by have := hW.1.2.1 l hl; omega)
  have hp2 : 2 ^ i < 1024 := Nat.pow_lt_pow_right (by decide) (show i < 10 by omega)
  generalize hot : bst ord h ^^^ (bst ord h &&& 2 ^ i) = ot at hQ
  have ho : ot < 1024 := by rw [← hot]; exact Nat.xor_lt_two_pow (n := 10) hbs (Nat.lt_of_le_of_lt Nat.and_le_left hbs)
  refine t_107_0 hG ?_
  rw [hW.2.1, bits_z h10 hW.2.2.2.1 (fun l hl => by have := hW.1.2.1 l hl; omega), shl_z i (by omega), zN_andn, hot]
  refine ⟨hB_z h10, ?_⟩
  have hfb : ∀ e, e ≤ ot → ouF K h ord ml wd ln yr ot i e < 1024 := fun e he => by
    have := ouF_b (K := K) (h := h) (ord := ord) (ml := ml) (wd := wd) (ln := ln) (yr := yr) ot i e
    omega
  refine up_ind (h := ot) (P := fun e => ∀ F1 A1 v h1 o1, CScr F A F1 A1 → CTw 53 F1 A1 n h1 o1 ml wd ln yr → X (d + 6) 107 30 [.ref 49, .int (zI (i : Int)), .int (zI (ot : Int)), .int (zI ((ouF K h ord ml wd ln yr ot i e : Nat) : Int)), .int (zI (e : Int)), v] [] (F1, A1, J, G) Q) ?_ ?_ _ _ _ h ord bec_scr (bec_tw h10' hW)
  · intro F1 A1 v h1 o1 hs hW3
    refine t_107_30 hG ⟨fun e => ?_, fun _ => hQ F1 A1 hs⟩
    rw [zN_lt (by omega) (by omega)] at e
    omega
  · intro e he ih F1 A1 v h1 o1 hs hW3
    have hf := hfb e (by omega)
    rw [ouF] at ih
    refine t_107_30 hG ⟨fun _ => ?_, fun e' => ?_⟩
    · rw [zI_clamp (n := e) (by omega), zI_clamp (n := ouF K h ord ml wd ln yr ot i e) (by omega), nI_pcn (by omega) hf, zI_and0 (by omega), shl_z i (by omega), zN_or, zN_1]
      refine ⟨zN_in (by omega) (by decide), zN_in (by omega) (by decide), fun e1 => ⟨fun e2 => ?_, fun e2 => ?_⟩, fun e1 => ⟨fun e2 => ?_, fun e2 => ?_⟩⟩
      · have hor : e ||| 2 ^ i < 1024 := Nat.or_lt_two_pow (n := 10) (by omega) hp2
        refine c_108 hG (CTn_scr hs hT) (CTw_scr hs hW) hW3 hor (fun F2 A2 hs2 hW4 => k_107_79 hG ?_)
        rw [zN_1]
        refine ⟨fun e3 => ?_, fun e3 => ?_⟩
        · have hb : osB K h ord ml wd ln yr (e ||| 2 ^ i) = false := by
            cases hb : osB K h ord ml wd ln yr (e ||| 2 ^ i)
            · rfl
            · rw [hb] at e3; exact absurd e3 (by decide)
          rw [if_neg (fun q => by rw [hb] at q; exact absurd q.2.2 (by decide))] at ih
          exact ih _ _ _ _ _ (hs.tr hs2) hW4
        · have hb : osB K h ord ml wd ln yr (e ||| 2 ^ i) = true := by
            cases hb : osB K h ord ml wd ln yr (e ||| 2 ^ i)
            · rw [hb] at e3; exact absurd rfl e3
            · rfl
          rw [if_pos ⟨e2, e1, hb⟩] at ih
          exact ih _ _ _ _ _ (hs.tr hs2) hW4
      · rw [if_neg (fun q => e2 q.1)] at ih
        exact ih _ _ _ _ _ hs hW3
      · rw [if_neg (fun q => e1 q.2.1)] at ih
        exact ih _ _ _ _ _ hs hW3
      · rw [if_neg (fun q => e1 q.2.1)] at ih
        exact ih _ _ _ _ _ hs hW3
    · rw [zN_lt (by omega) (by omega)] at e'
      omega
end OutZ
