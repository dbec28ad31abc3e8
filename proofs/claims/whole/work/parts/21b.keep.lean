/-! the class keeps an act -/
section HistB
def kN (k : Nat) : Nat := if k < 40 then k + 1 else 40
def puH (k : Nat) (hs : Nat → Sn) (s' : Sn) : Nat → Sn := fun j => if k < 40 then (if j ≤ k then hs j else s') else (if j < 40 then hs (j + 1) else s')
def KpA (A A' : Nat → Nat → Int32) (k : Nat) (x1 x2 x3 x4 : Int32) : Prop := (∀ i, i ≠ 23 → A' i = A i) ∧ (∀ c, c < 14 * (kN k - 1) → A' 23 c = if k < 40 then A 23 c else A 23 (c + 14)) ∧ A' 23 (14 * (kN k - 1)) = x1 ∧ A' 23 (14 * (kN k - 1) + 1) = x2 ∧ A' 23 (14 * (kN k - 1) + 2) = x3 ∧ A' 23 (14 * (kN k - 1) + 3) = x4
variable {d : Nat} {F A F' A' F'' A'' : Nat → Nat → Int32} {J : Nat → Nat → Int64} {G : pG} {Q : pR → pM → Prop} {SL p q t k n h i : Nat} {s s' u : Sn} {hs : Nat → Sn} {r : Nat → Int} {x1 x2 x3 x4 : Int32} {ord : Nat → Nat}
theorem inj_le : ∀ (n h : Nat) (ord : Nat → Nat), (∀ l, l < h → ord l < n) → (∀ l l', l < h → l' < h → ord l = ord l' → l = l') → h ≤ n
  | 0, h, ord, h1, _ => by
    cases h with
    | zero => exact Nat.le_refl _
    | succ h => exact absurd (h1 0 (by omega)) (by omega)
  | n + 1, h, ord, h1, h2 => by
    by_cases e : ∃ l0, l0 < h ∧ ord l0 = n
    · obtain ⟨l0, g1, g2⟩ := e
      have h3 := inj_le n (h - 1) (remO ord l0) (fun l hl => by
        unfold remO
        split
        · have := h1 l (by omega)
          have : ord l ≠ n := fun q => by have := h2 l l0 (by omega) g1 (q.trans g2.symm); omega
          omega
        · have := h1 (l + 1) (by omega)
          have : ord (l + 1) ≠ n := fun q => by have := h2 (l + 1) l0 (by omega) g1 (q.trans g2.symm); omega
          omega) (fun l l' hl hl' he => by
        unfold remO at he
        split at he <;> split at he
        · exact h2 l l' (by omega) (by omega) he
        · have := h2 l (l' + 1) (by omega) (by omega) he; omega
        · have := h2 (l + 1) l' (by omega) (by omega) he; omega
        · have := h2 (l + 1) (l' + 1) (by omega) (by omega) he; omega)
      omega
    · have := inj_le n h ord (fun l hl => by
        have := h1 l hl
        have : ord l ≠ n := fun q => e ⟨l, hl, q⟩
        omega) h2
      omega
theorem inj_lt (h1 : ∀ l, l < h → ord l < n) (h2 : ∀ l l', l < h → l' < h → ord l = ord l' → l = l') (hi : i < n) (hn : ∀ l, l < h → ord l ≠ i) : h < n := by
  have := inj_le n (h + 1) (fun l => if l = h then i else ord l) (fun l hl => by
    show (if l = h then i else ord l) < n
    split
    · exact hi
    · exact h1 l (by omega)) (fun l l' hl hl' he => by
    have he : (if l = h then i else ord l) = (if l' = h then i else ord l') := he
    split at he <;> split at he
    · omega
    · exact absurd he.symm (hn l' (by omega))
    · exact absurd he (hn l (by omega))
    · exact h2 l l' (by omega) (by omega) he)
  omega
theorem puH_top : puH k hs s' (kN k) = s' := by
  unfold puH kN
  by_cases e : k < 40
  · rw [if_pos e, if_pos e, if_neg (by omega)]
  · rw [if_neg e, if_neg e, if_neg (by omega)]
theorem row_of {a0 a1 a2 a3 : Int} (h : KpA A A' k (zI a0) (zI a1) (zI a2) (zI a3)) : ∃ r : Nat → Int, r 0 = a0 ∧ r 1 = a1 ∧ r 2 = a2 ∧ r 3 = a3 ∧ ∀ c, c < 14 → A' 23 (14 * (kN k - 1) + c) = zI (r c) := by
  refine ⟨fun c => if c = 0 then a0 else if c = 1 then a1 else if c = 2 then a2 else if c = 3 then a3 else (A' 23 (14 * (kN k - 1) + c)).toInt, rfl, rfl, rfl, rfl, fun c hc => ?_⟩
  obtain ⟨_, _, g1, g2, g3, g4⟩ := h
  show _ = zI (if c = 0 then a0 else if c = 1 then a1 else if c = 2 then a2 else if c = 3 then a3 else (A' 23 (14 * (kN k - 1) + c)).toInt)
  by_cases e0 : c = 0
  · subst e0; rw [if_pos rfl]; exact g1
  · rw [if_neg e0]
    by_cases e1 : c = 1
    · subst e1; rw [if_pos rfl]; exact g2
    · rw [if_neg e1]
      by_cases e2 : c = 2
      · subst e2; rw [if_pos rfl]; exact g3
      · rw [if_neg e2]
        by_cases e3 : c = 3
        · subst e3; rw [if_pos rfl]; exact g4
        · rw [if_neg e3]; exact (Int32.ofInt_toInt _).symm
theorem CHs_push (hH : CHs 22 F A n k hs) (hok : SOk n s') (f : F' 22 0 = zI (kN k : Int)) (hold : ∀ c, c < 14 * (kN k - 1) → A' 23 c = if k < 40 then A 23 c else A 23 (c + 14)) (hr : ∀ c, c < 14 → A' 23 (14 * (kN k - 1) + c) = zI (r c)) (hu : UOk n r s') (he : SEq n (hs k) (unS r s')) : CHs 22 F' A' n (kN k) (puH k hs s') := by
  obtain ⟨h1, h2, h3, h4⟩ := hH
  have hkN : kN k ≤ 40 := by unfold kN; split <;> omega
  refine ⟨hkN, f, fun j hj => ?_, fun j hj => ?_⟩
  · unfold puH
    by_cases e : k < 40
    · rw [if_pos e]
      split
      · exact h3 j (by omega)
      · exact hok
    · rw [if_neg e]
      split
      · exact h3 (j + 1) (by omega)
      · exact hok
  · by_cases e : k < 40
    · have ek : kN k = k + 1 := by unfold kN; rw [if_pos e]
      rw [ek] at hj hr hold
      by_cases ej : j = k
      · subst ej
        refine ⟨r, hr, ?_, ?_⟩
        · unfold puH; rw [if_pos e, if_neg (by omega)]; exact hu
        · unfold puH; rw [if_pos e, if_pos (Nat.le_refl _), if_pos e, if_neg (by omega)]; exact he
      · obtain ⟨r', g1, g2, g3⟩ := h4 j (by omega)
        refine ⟨r', fun c hc => ?_, ?_, ?_⟩
        · have := hold (14 * j + c) (by omega)
          rw [if_pos e] at this
          exact this.trans (g1 c hc)
        · unfold puH; rw [if_pos e, if_pos (by omega)]; exact g2
        · unfold puH; rw [if_pos e, if_pos (by omega), if_pos e, if_pos (by omega)]; exact g3
    · have ek : kN k = 40 := by unfold kN; rw [if_neg e]
      have e40 : k = 40 := by omega
      rw [ek] at hj hr hold
      by_cases ej : j = 39
      · subst ej
        refine ⟨r, hr, ?_, ?_⟩
        · unfold puH; rw [if_neg e, if_neg (by omega)]; exact hu
        · unfold puH; rw [if_neg e, if_pos (by omega), if_neg e, if_neg (by omega)]; rw [e40] at he; exact he
      · obtain ⟨r', g1, g2, g3⟩ := h4 (j + 1) (by omega)
        refine ⟨r', fun c hc => ?_, ?_, ?_⟩
        · have := hold (14 * j + c) (by omega)
          rw [if_neg e, show 14 * j + c + 14 = 14 * (j + 1) + c by omega] at this
          exact this.trans (g1 c hc)
        · unfold puH; rw [if_neg e, if_pos (by omega)]; exact g2
        · unfold puH; rw [if_neg e, if_pos (by omega), if_neg e, if_pos (by omega)]; exact g3
theorem CHs_fr (hF : F' 22 0 = F 22 0) (hA : A' 23 = A 23) (hH : CHs 22 F A n k hs) : CHs 22 F' A' n k hs := by
  unfold CHs at hH ⊢
  rw [hF, show A' (22 + 1) = A (22 + 1) from hA]
  exact hH
theorem kp_lt (hk : k < 40) : KpA A (wF (wF (wF (wF A 23 (14 * k) x1) 23 (14 * k + 1) x2) 23 (14 * k + 2) x3) 23 (14 * k + 3) x4) k x1 x2 x3 x4 := by
  have ek : kN k - 1 = k := by unfold kN; rw [if_pos hk]; omega
  unfold KpA
  rw [ek]
  refine ⟨fun i hi => ?_, fun c hc => ?_, ?_, ?_, ?_, ?_⟩
  · rw [wF_row hi, wF_row hi, wF_row hi, wF_row hi]
  · rw [wF_cell (by omega), wF_cell (by omega), wF_cell (by omega), wF_cell (by omega), if_pos hk]
  · rw [wF_cell (by omega), wF_cell (by omega), wF_cell (by omega), wF_same]
  · rw [wF_cell (by omega), wF_cell (by omega), wF_same]
  · rw [wF_cell (by omega), wF_same]
  · rw [wF_same]
theorem kp_ge (hk : ¬ k < 40) : KpA A (wF (wF (wF (wF (cpR A 23 23 14 0 546) 23 546 x1) 23 (546 + 1) x2) 23 (546 + 2) x3) 23 (546 + 3) x4) k x1 x2 x3 x4 := by
  have ek : kN k - 1 = 39 := by unfold kN; rw [if_neg hk]
  unfold KpA
  rw [ek]
  refine ⟨fun i hi => ?_, fun c hc => ?_, ?_, ?_, ?_, ?_⟩
  · rw [wF_row hi, wF_row hi, wF_row hi, wF_row hi]
    unfold cpR va_up
    rw [if_neg hi]
  · rw [wF_cell (by omega), wF_cell (by omega), wF_cell (by omega), wF_cell (by omega), if_neg hk]
    unfold cpR va_up va_cpy
    rw [if_pos rfl, if_pos ⟨by omega, by omega⟩]
    congr 1
    omega
  · rw [wF_cell (by omega), wF_cell (by omega), wF_cell (by omega), wF_same]
  · rw [wF_cell (by omega), wF_cell (by omega), wF_same]
  · rw [wF_cell (by omega), wF_same]
  · rw [wF_same]
theorem ad14 (hk : k ≤ 40) (h2 : F 22 0 = zI (k : Int)) : F 22 0 * 14 = zI ((14 * k : Nat) : Int) ∧ F 22 0 * 14 + 1 = zI ((14 * k + 1 : Nat) : Int) ∧ F 22 0 * 14 + 2 = zI ((14 * k + 2 : Nat) : Int) ∧ F 22 0 * 14 + 3 = zI ((14 * k + 3 : Nat) : Int) ∧ (F 22 0 < 40 ↔ k < 40) ∧ F 22 0 + 1 = zI ((k + 1 : Nat) : Int) := by
  have e : F 22 0 * 14 = zI ((14 * k : Nat) : Int) := by rw [h2, show (14 : Int32) = zI 14 from rfl, zI_mul, show (k : Int) * 14 = ((14 * k : Nat) : Int) by omega]
  refine ⟨e, ?_, ?_, ?_, ?_, ?_⟩
  · rw [e, zN_1]
  · rw [e, show (2 : Int32) = zI ((2 : Nat) : Int) from rfl, zN_add]
  · rw [e, show (3 : Int32) = zI ((3 : Nat) : Int) from rfl, zN_add]
  · rw [h2, show (40 : Int32) = zI ((40 : Nat) : Int) from rfl, zI_lt (by omega) (by omega) (by omega) (by omega)]; omega
  · rw [h2, zN_1]
theorem c_73 (hG : Geo G SL p q) (hk : k ≤ 40) (h2 : F 22 0 = zI (k : Int)) (hQ : ∀ F' A', (∀ i, i ≠ 21 → i ≠ 22 → F' i = F i) → (∀ c, c ≠ 6 → F' 21 c = F 21 c) → F' 21 6 = 1 → F' 22 0 = zI (kN k : Int) → KpA A A' k x1 x2 x3 x4 → Q (.inl none) (F', A', J, G)) : X (d + 1) 73 0 [.ref 21, .int x1, .int x2, .int x3, .int x4] [] (F, A, J, G) Q := by
  obtain ⟨a0, a1, a2, a3, a4, a5⟩ := ad14 hk h2
  refine t_73_0 hG ⟨fun e => ?_, fun e => ?_⟩
  · rw [a1, a2, a3, a0, zI_clamp (n := 14 * k) (by omega), zI_clamp (n := 14 * k + 1) (by omega), zI_clamp (n := 14 * k + 2) (by omega), zI_clamp (n := 14 * k + 3) (by omega)]
    rw [a4] at e
    refine ⟨zN_in (by omega) (by decide), zN_in (by omega) (by decide), zN_in (by omega) (by decide), zN_in (by omega) (by decide), hQ _ _ (fun i i1 i2 => ?_) (fun c hc => ?_) (wF_same _ _ _ _) ?_ (kp_lt e)⟩
    · rw [wF_row i1, wF_row i2]
    · rw [wF_cell hc, wF_row (by decide)]
    · rw [wF_row (by decide), wF_same, a5]; unfold kN; rw [if_pos e]
  · rw [a4] at e
    refine ⟨by decide, by decide, by decide, by decide, by decide, hQ _ _ (fun i i1 i2 => ?_) (fun c hc => ?_) (wF_same _ _ _ _) ?_ (kp_ge e)⟩
    · rw [wF_row i1, wF_row i2, wF_row i2]
    · rw [wF_cell hc, wF_row (by decide), wF_row (by decide)]
    · rw [wF_row (by decide), wF_same]; unfold kN; rw [if_neg e]; rfl
theorem c_2 (hG : Geo G SL p q) (hk : k ≤ 40) (h2 : F 22 0 = zI (k : Int)) (hQ : ∀ F' A', (∀ i, i ≠ 22 → F' i = F i) → F' 22 0 = zI (kN k : Int) → KpA A A' k x1 x2 x3 x4 → Q (.inl none) (F', A', J, G)) : X d 2 0 [.ref 22, .int x1, .int x2, .int x3, .int x4, .null] [] (F, A, J, G) Q := by
  obtain ⟨a0, a1, a2, a3, a4, a5⟩ := ad14 hk h2
  refine t_2_0 hG ⟨fun e => ?_, fun e => ?_⟩
  · rw [a1, a2, a3, a0, zI_clamp (n := 14 * k) (by omega), zI_clamp (n := 14 * k + 1) (by omega), zI_clamp (n := 14 * k + 2) (by omega), zI_clamp (n := 14 * k + 3) (by omega)]
    rw [a4] at e
    refine ⟨zN_in (by omega) (by decide), zN_in (by omega) (by decide), zN_in (by omega) (by decide), zN_in (by omega) (by decide), hQ _ _ (fun i i2 => wF_row i2) ?_ (kp_lt e)⟩
    rw [wF_same, a5]; unfold kN; rw [if_pos e]
  · rw [a4] at e
    refine ⟨by decide, by decide, by decide, by decide, by decide, hQ _ _ (fun i i2 => ?_) ?_ (kp_ge e)⟩
    · rw [wF_row i2, wF_row i2]
    · rw [wF_same]; unfold kN; rw [if_neg e]; rfl
end HistB
