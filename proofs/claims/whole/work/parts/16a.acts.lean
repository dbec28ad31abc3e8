/-! the class: rows of tables changed; what is tried on another tower -/
section CTrialA
/-- only what is free to change has changed -/
def CScr (F A F' A' : Nat → Nat → Int32) : Prop := (∀ i, i ≠ 18 → (i < 49 ∨ 60 < i) → F' i = F i) ∧ F' 18 1 = F 18 1 ∧ (∀ i, i ≠ 20 → (i < 32 ∨ 34 < i) → (i < 50 ∨ 60 < i) → A' i = A i)
def remO (ord : Nat → Nat) (a : Nat) : Nat → Nat := fun j => if j < a then ord j else ord (j + 1)
def insO (ord : Nat → Nat) (i a : Nat) : Nat → Nat := fun j => if j < a then ord j else if j = a then i else ord (j - 1)
def swpO (ord : Nat → Nat) (a b : Nat) : Nat → Nat := fun j => if j = b then ord a else if j = a then ord b else ord j
variable {d : Nat} {F A F' A' F'' A'' : Nat → Nat → Int32} {J : Nat → Nat → Int64} {G : pG} {Q : pR → pM → Prop} {SL p q t a b : Nat} {K : Nat → Nat → Int} {n h : Nat} {ord : Nat → Nat} {ml wd ln : Nat → Int} {yr : Int}
theorem CScr.rfl : CScr F A F A := ⟨fun _ _ _ => Eq.refl _, Eq.refl _, fun _ _ _ _ => Eq.refl _⟩
theorem CScr.tr (h1 : CScr F A F' A') (h2 : CScr F' A' F'' A'') : CScr F A F'' A'' := ⟨fun i h3 h4 => (h2.1 i h3 h4).trans (h1.1 i h3 h4), h2.2.1.trans h1.2.1, fun i h3 h4 h5 => (h2.2.2 i h3 h4 h5).trans (h1.2.2 i h3 h4 h5)⟩
theorem CTn_scr (hs : CScr F A F' A') (hT : CTn F A K n) : CTn F' A' K n := by
  unfold CTn at hT ⊢
  rw [hs.1 12 (by decide) (by decide), hs.2.2 13 (by decide) (by decide) (by decide), hs.2.2 14 (by decide) (by decide) (by decide), hs.2.2 15 (by decide) (by decide) (by decide), hs.2.2 17 (by decide) (by decide) (by decide)]
  exact hT
theorem CTw_scr (hs : CScr F A F' A') (hW : CTw 27 F A n h ord ml wd ln yr) : CTw 27 F' A' n h ord ml wd ln yr := by
  unfold CTw at hW ⊢
  rw [hs.1 27 (by decide) (by decide), hs.2.2 (27 + 1) (by decide) (by decide) (by decide), hs.2.2 (27 + 2) (by decide) (by decide) (by decide), hs.2.2 (27 + 3) (by decide) (by decide) (by decide), hs.2.2 (27 + 4) (by decide) (by decide) (by decide)]
  exact hW
theorem FrT_scr27 (hf : FrT 27 A A') : CScr F A F A' := ⟨fun _ _ _ => Eq.refl _, Eq.refl _, fun i _ h1 _ => hf i (by omega)⟩
theorem FrT_scr53 (hf : FrT 53 A A') : CScr F A F A' := ⟨fun _ _ _ => Eq.refl _, Eq.refl _, fun i _ _ h1 => hf i (by omega)⟩
theorem bA_at (i : Nat) : bA A 53 27 i = if i = 54 then va_cpy (A 28) (A 54) 0 0 10 else if i = 55 then va_cpy (A 29) (A 55) 0 0 10 else if i = 56 then va_cpy (A 30) (A 56) 0 0 10 else if i = 57 then va_cpy (A 31) (A 57) 0 0 10 else A i := by
  unfold bA cpR va_up
  by_cases h1 : i = 54
  · subst h1; simp
  · by_cases h2 : i = 55
    · subst h2; simp
    · by_cases h3 : i = 56
      · subst h3; simp
      · by_cases h4 : i = 57
        · subst h4; simp
        · simp [h1, h2, h3, h4]
theorem bF_at (i k : Nat) : bF F 53 27 i k = if i = 53 ∧ (k = 1 ∨ k = 2 ∨ k = 3) then F 27 k else F i k := by
  unfold bF
  rw [wF_at, wF_at, wF_at]
  by_cases h1 : i = 53
  · subst h1
    by_cases h3 : k = 3
    · subst h3; simp
    · by_cases h2 : k = 2
      · subst h2; simp
      · by_cases h0 : k = 1
        · subst h0; simp
        · simp [h0, h2, h3]
  · simp [h1]
theorem bec_scr : CScr F A (bF F 53 27) (bA A 53 27) := by
  refine ⟨fun i h1 h2 => funext fun k => ?_, ?_, fun i h1 h2 h3 => ?_⟩
  · rw [bF_at, if_neg (by omega)]
  · rw [bF_at, if_neg (by omega)]
  · rw [bA_at, if_neg (by omega), if_neg (by omega), if_neg (by omega), if_neg (by omega)]
theorem cpy10 (f g : Nat → Int32) {j : Nat} (h : j < 10) : va_cpy f g 0 0 10 j = f j := by
  unfold va_cpy
  rw [if_pos ⟨by omega, by omega⟩]
  congr 1
  omega
theorem bec_tw (h10 : n ≤ 10) (hW : CTw 27 F A n h ord ml wd ln yr) : CTw 53 (bF F 53 27) (bA A 53 27) n h ord ml wd ln yr := by
  obtain ⟨hw, f1, f2, b0, b1, b2, b3⟩ := hW
  have := hw.1
  refine ⟨hw, ?_, ?_, fun l hl => ?_, fun i hi => ?_, fun i hi => ?_, fun i hi => ?_⟩
  · rw [bF_at, if_pos (by decide)]; exact f1
  · rw [bF_at, if_pos (by decide)]; exact f2
  · rw [bA_at, if_pos (by decide), cpy10 _ _ (by omega)]; exact b0 l hl
  · rw [bA_at, if_neg (by decide), if_pos (by decide), cpy10 _ _ (by omega)]; exact b1 i hi
  · rw [bA_at, if_neg (by decide), if_neg (by decide), if_pos (by decide), cpy10 _ _ (by omega)]; exact b2 i hi
  · rw [bA_at, if_neg (by decide), if_neg (by decide), if_neg (by decide), if_pos (by decide), cpy10 _ _ (by omega)]; exact b3 i hi
theorem rem_ok (ha : a < h) (hw : TwOk n h ord ml wd ln yr) : TwOk n (h - 1) (remO ord a) ml wd ln yr := by
  obtain ⟨h1, h2, h3, h4, h5⟩ := hw
  refine ⟨by omega, fun l hl => ?_, fun l l' hl hl' he => ?_, h4, h5⟩
  · unfold remO; split
    · exact h2 l (by omega)
    · exact h2 (l + 1) (by omega)
  · unfold remO at he
    split at he <;> split at he
    · exact h3 l l' (by omega) (by omega) he
    · have := h3 l (l' + 1) (by omega) (by omega) he; omega
    · have := h3 (l + 1) l' (by omega) (by omega) he; omega
    · have := h3 (l + 1) (l' + 1) (by omega) (by omega) he; omega
theorem ins_ok {i : Nat} (ha : a ≤ h) (hi : i < n) (hh : h + 1 ≤ n) (hn : ∀ l, l < h → ord l ≠ i) (hw : TwOk n h ord ml wd ln yr) : TwOk n (h + 1) (insO ord i a) ml wd ln yr := by
  obtain ⟨h1, h2, h3, h4, h5⟩ := hw
  refine ⟨hh, fun l hl => ?_, fun l l' hl hl' he => ?_, h4, h5⟩
  · unfold insO; split
    · exact h2 l (by omega)
    · split
      · exact hi
      · exact h2 (l - 1) (by omega)
  · unfold insO at he
    by_cases e1 : l < a
    · rw [if_pos e1] at he
      by_cases e2 : l' < a
      · rw [if_pos e2] at he; exact h3 l l' (by omega) (by omega) he
      · rw [if_neg e2] at he
        by_cases e3 : l' = a
        · rw [if_pos e3] at he; exact absurd he (hn l (by omega))
        · rw [if_neg e3] at he; have := h3 l (l' - 1) (by omega) (by omega) he; omega
    · rw [if_neg e1] at he
      by_cases e4 : l = a
      · rw [if_pos e4] at he
        by_cases e2 : l' < a
        · rw [if_pos e2] at he; exact absurd he.symm (hn l' (by omega))
        · rw [if_neg e2] at he
          by_cases e3 : l' = a
          · omega
          · rw [if_neg e3] at he; exact absurd he.symm (hn (l' - 1) (by omega))
      · rw [if_neg e4] at he
        by_cases e2 : l' < a
        · rw [if_pos e2] at he; have := h3 (l - 1) l' (by omega) (by omega) he; omega
        · rw [if_neg e2] at he
          by_cases e3 : l' = a
          · rw [if_pos e3] at he; exact absurd he (hn (l - 1) (by omega))
          · rw [if_neg e3] at he; have := h3 (l - 1) (l' - 1) (by omega) (by omega) he; omega
theorem swp_ok (ha : a < h) (hb : b < h) (hw : TwOk n h ord ml wd ln yr) : TwOk n h (swpO ord a b) ml wd ln yr := by
  obtain ⟨h1, h2, h3, h4, h5⟩ := hw
  have hs : ∀ l, swpO ord a b l = ord (if l = b then a else if l = a then b else l) := fun l => by
    unfold swpO
    by_cases e1 : l = b
    · rw [if_pos e1, if_pos e1]
    · by_cases e2 : l = a
      · rw [if_neg e1, if_neg e1, if_pos e2, if_pos e2]
      · rw [if_neg e1, if_neg e1, if_neg e2, if_neg e2]
  refine ⟨h1, fun l hl => ?_, fun l l' hl hl' he => ?_, h4, h5⟩
  · rw [hs]; exact h2 _ (by split; exact ha; split; exact hb; exact hl)
  · rw [hs, hs] at he
    have := h3 _ _ (by split; exact ha; split; exact hb; exact hl) (by split; exact ha; split; exact hb; exact hl') he
    split at this <;> split at this <;> (try split at this) <;> (try split at this) <;> omega
/-- a table is taken off -/
theorem c_80 (hG : Geo G SL p q) (ht : Tw t) (h10 : h ≤ 10) (f1 : F t 1 = zI (h : Int)) (b0 : ∀ l, l < h → A (t + 1) l = zI (ord l : Int)) (ha : a < h) (hQ : ∀ A', (∀ i, i ≠ t + 1 → A' i = A i) → (∀ l, l < h - 1 → A' (t + 1) l = zI (remO ord a l : Int)) → Q (.inl none) (wF F t 1 (zI ((h - 1 : Nat) : Int)), A', J, G)) : X d 80 0 [.ref t, .int (zI (a : Int)), .null] [] (F, A, J, G) Q := by
  refine t_80_0 hG ht ⟨fun e => ?_, fun _ => ⟨fun _ => ?_, fun e => ?_⟩⟩
  · rw [z0, zI_lt (by omega) (by omega) (by omega) (by omega)] at e
    omega
  · refine up_indF (a := a) (h := h - 1) (P := fun j => ∀ A1, (∀ i, i ≠ t + 1 → A1 i = A i) → (∀ l, l < j → A1 (t + 1) l = zI (remO ord a l : Int)) → (∀ l, j ≤ l → l < h → A1 (t + 1) l = zI (ord l : Int)) → X d 80 15 [.ref t, .int (zI (a : Int)), .int (zI (j : Int))] [] (F, A1, J, G) Q) (by omega) ?_ ?_ A (fun _ _ => Eq.refl _) (fun l hl => ?_) (fun l _ hl => b0 l hl)
    · intro A1 h1 h2 h3
      refine t_80_15 hG ht ⟨fun e => ?_, fun _ => ?_⟩
      · rw [f1, zZ_s1, zI_lt (by omega) (by omega) (by omega) (by omega)] at e
        omega
      · rw [f1, zZ_s1]
        have := hQ A1 h1 h2
        rw [show ((h - 1 : Nat) : Int) = (h : Int) - 1 by omega] at this
        exact this
    · intro j haj hj ih A1 h1 h2 h3
      refine t_80_15 hG ht ⟨fun _ => ?_, fun e => ?_⟩
      · rw [zN_1, zI_clamp (by omega), zI_clamp (by omega)]
        refine ⟨zN_in (by omega) (by decide), zN_in (by omega) (by decide), ih _ (fun i hi => ?_) (fun l hl => ?_) (fun l h4 h5 => ?_)⟩
        · rw [wF_row hi]; exact h1 i hi
        · rw [wF_at]
          by_cases e : l = j
          · rw [if_pos ⟨Eq.refl _, e⟩, h3 (j + 1) (by omega) (by omega)]
            unfold remO
            rw [if_neg (by omega), e]
          · rw [if_neg (fun q => e q.2)]; exact h2 l (by omega)
        · rw [wF_at, if_neg (fun q => by omega)]; exact h3 l (by omega) h5
      · rw [f1, zZ_s1, zI_lt (by omega) (by omega) (by omega) (by omega)] at e
        omega
    · rw [b0 l (by omega)]
      unfold remO
      rw [if_pos hl]
  · rw [f1, zN_lt (by omega) (by omega)] at e
    omega
/-- a table is put on -/
theorem c_79 {x : Int32} (hG : Geo G SL p q) (ht : Tw t) (h10 : h < 10) (f1 : F t 1 = zI (h : Int)) (ha : a ≤ h) (hQ : ∀ A', (∀ i, i ≠ t + 1 → A' i = A i) → (∀ l, l < h + 1 → A' (t + 1) l = if l < a then A (t + 1) l else if l = a then x else A (t + 1) (l - 1)) → Q (.inl none) (wF F t 1 (zI ((h + 1 : Nat) : Int)), A', J, G)) : X d 79 0 [.ref t, .int x, .int (zI (a : Int)), .null] [] (F, A, J, G) Q := by
  refine t_79_0 hG ht ?_
  rw [f1, show (10 : Int32) = zI ((10 : Nat) : Int) from Eq.refl _, zN_lt (by omega) (by omega), z0, zI_lt (by omega) (by omega) (by omega) (by omega), zN_lt (by omega) (by omega)]
  refine ⟨fun _ => ⟨fun e => absurd e (by omega), fun _ => ⟨fun e => absurd e (by omega), fun _ => ?_⟩⟩, fun e => absurd e (by omega)⟩
  have := dn_ind (h := h - a) (P := fun j => ∀ A1, (∀ i, i ≠ t + 1 → A1 i = A i) → (∀ l, l ≤ a + j → A1 (t + 1) l = A (t + 1) l) → (∀ l, a + j < l → l < h + 1 → A1 (t + 1) l = A (t + 1) (l - 1)) → X d 79 27 [.ref t, .int x, .int (zI (a : Int)), .int (zI ((a + j : Nat) : Int))] [] (F, A1, J, G) Q) ?_ ?_ A (fun _ _ => Eq.refl _) (fun _ _ => Eq.refl _) (fun l h1 h2 => by omega)
  · rw [show a + (h - a) = h by omega] at this
    exact this
  · intro A1 h1 h2 h3
    refine t_79_27 hG ht ⟨fun e => ?_, fun _ => ?_⟩
    · rw [zN_lt (by omega) (by omega)] at e
      omega
    · rw [f1, zN_1, zI_clamp (by omega)]
      refine ⟨zN_in (by omega) (by decide), hQ _ (fun i hi => ?_) (fun l hl => ?_)⟩
      · rw [wF_row hi]; exact h1 i hi
      · rw [wF_at]
        by_cases e : l = a
        · rw [if_pos ⟨Eq.refl _, e⟩, if_neg (by omega), if_pos e]
        · rw [if_neg (fun q => e q.2)]
          by_cases e2 : l < a
          · rw [if_pos e2]; exact h2 l (by omega)
          · rw [if_neg e2, if_neg e]; exact h3 l (by omega) hl
  · intro j hj ih A1 h1 h2 h3
    refine t_79_27 hG ht ⟨fun _ => ?_, fun e => ?_⟩
    · rw [zZ_s1, zZ_m1, show ((a + (j + 1) : Nat) : Int) - 1 = ((a + j : Nat) : Int) by omega, zI_clamp (by omega), zI_clamp (by omega)]
      refine ⟨zN_in (by omega) (by decide), zN_in (by omega) (by decide), ih _ (fun i hi => ?_) (fun l hl => ?_) (fun l h4 h5 => ?_)⟩
      · rw [wF_row hi]; exact h1 i hi
      · rw [wF_at, if_neg (fun q => by omega)]; exact h2 l (by omega)
      · rw [wF_at]
        by_cases e : l = a + (j + 1)
        · rw [if_pos ⟨Eq.refl _, e⟩, e, h2 _ (by omega), show a + (j + 1) - 1 = a + j by omega]
        · rw [if_neg (fun q => e q.2)]; exact h3 l (by omega) h5
    · rw [zN_lt (by omega) (by omega)] at e
      omega
end CTrialA
