/-! whole numbers as ints -/
section ZInt
def zI (z : Int) : Int32 := Int32.ofInt z
theorem zI_add (a b : Int) : zI a + zI b = zI (a + b) := (Int32.ofInt_add a b).symm
theorem zI_sub (a b : Int) : zI a - zI b = zI (a - b) := (Int32.ofInt_sub a b).symm
theorem zI_mul (a b : Int) : zI a * zI b = zI (a * b) := (Int32.ofInt_mul a b).symm
theorem zI_neg (a : Int) : - zI a = zI (-a) := (Int32.ofInt_neg a).symm
theorem zI_nI (n : Nat) : nI n = zI (n : Int) := Int32.ofInt_eq_ofNat.symm
theorem zI_lit (n : Nat) : (OfNat.ofNat n : Int32) = zI (OfNat.ofNat n : Int) := Int32.ofInt_eq_ofNat.symm
theorem zI_toInt {a : Int} (h1 : -2147483648 ≤ a) (h2 : a < 2147483648) : (zI a).toInt = a := Int32.toInt_ofInt_of_le (by omega) (by omega)
theorem zI_lt {a b : Int} (h1 : -2147483648 ≤ a) (h2 : a < 2147483648) (h3 : -2147483648 ≤ b) (h4 : b < 2147483648) : (zI a < zI b) = (a < b) := by
  rw [Int32.lt_iff_toInt_lt, zI_toInt h1 h2, zI_toInt h3 h4]
theorem zI_le {a b : Int} (h1 : -2147483648 ≤ a) (h2 : a < 2147483648) (h3 : -2147483648 ≤ b) (h4 : b < 2147483648) : (zI a ≤ zI b) = (a ≤ b) := by
  rw [Int32.le_iff_toInt_le, zI_toInt h1 h2, zI_toInt h3 h4]
theorem zI_eq {a b : Int} (h1 : -2147483648 ≤ a) (h2 : a < 2147483648) (h3 : -2147483648 ≤ b) (h4 : b < 2147483648) : (zI a = zI b) = (a = b) := by
  rw [← Int32.toInt_inj, zI_toInt h1 h2, zI_toInt h3 h4]
theorem zI_clampZ {a : Int} (h1 : 0 ≤ a) (h2 : a < 2147483648) : (zI a).toNatClampNeg = a.toNat := Int32.toNatClampNeg_ofInt_of_le (by omega) (by omega)
theorem zI_clamp {n : Nat} (h : n < 2147483648) : (zI (n : Int)).toNatClampNeg = n := by rw [zI_clampZ (by omega) (by omega)]; omega
theorem zI_inB {a : Int} {n : Nat} (h1 : -2147483648 ≤ a) (h2 : a < 2147483648) : (inB (zI a) n = true) = (0 ≤ a ∧ a < n) := by
  have h0 : (0 : Int32) = zI 0 := rfl
  simp only [inB, Bool.and_eq_true, Bool.not_eq_true', decide_eq_false_iff_not, decide_eq_true_eq, h0, zI_lt h1 h2 (show (-2147483648 : Int) ≤ 0 by decide) (show (0 : Int) < 2147483648 by decide)]
  by_cases h : 0 ≤ a
  · rw [zI_clampZ h h2]
    exact propext ⟨fun q => ⟨h, by omega⟩, fun q => ⟨by omega, by omega⟩⟩
  · exact propext ⟨fun q => absurd q.1 (by omega), fun q => absurd q.1 h⟩
theorem zI_of (x : Int32) : ∃ z : Int, -2147483648 ≤ z ∧ z < 2147483648 ∧ x = zI z := ⟨x.toInt, by have := x.le_toInt; omega, by have := x.toInt_lt; omega, (Int32.ofInt_toInt x).symm⟩
theorem zI_jmax {a b : Int} (h1 : -2147483648 ≤ a) (h2 : a < 2147483648) (h3 : -2147483648 ≤ b) (h4 : b < 2147483648) : jmax (zI a) (zI b) = zI (max a b) := by
  unfold jmax
  simp only [zI_lt h1 h2 h3 h4]
  split <;> congr 1 <;> omega
theorem zI_jmin {a b : Int} (h1 : -2147483648 ≤ a) (h2 : a < 2147483648) (h3 : -2147483648 ≤ b) (h4 : b < 2147483648) : jmin (zI a) (zI b) = zI (min a b) := by
  unfold jmin
  simp only [zI_lt h3 h4 h1 h2]
  split <;> congr 1 <;> omega
theorem zI_jabs {a : Int} (h1 : -2147483648 ≤ a) (h2 : a < 2147483648) : jabs (zI a) = zI (a.natAbs : Int) := by
  have h0 : (0 : Int32) = zI 0 := rfl
  unfold jabs
  simp only [h0, zI_le (show (-2147483648 : Int) ≤ 0 by decide) (show (0 : Int) < 2147483648 by decide) h1 h2, zI_sub]
  split <;> congr 1 <;> omega
theorem zI_half {a : Int} (h1 : 0 ≤ a) (h2 : a < 2147483648) : zI a / 2 = zI (a / 2) := by
  have h0 : (2 : Int32) = Int32.ofInt 2 := rfl
  unfold zI
  rw [h0, ← Int32.toInt_inj, Int32.toInt_div, Int32.toInt_ofInt_of_le (by omega) (by omega), Int32.toInt_ofInt_of_le (by omega) (by omega), Int32.toInt_ofInt_of_le (by omega) (by omega), Int.tdiv_eq_ediv_of_nonneg h1, Int.bmod_eq_of_le (by omega) (by omega)]
theorem bI_true : bI true = 1 := rfl
theorem bI_false : bI false = 0 := rfl
theorem bI_z (b : Bool) : bI b = zI (if b = true then 1 else 0) := by cases b <;> rfl
/-- backwards through a loop that counts up -/
theorem up_ind {P : Nat → Prop} {h : Nat} (h0 : P h) (hs : ∀ j, j < h → P (j + 1) → P j) : P 0 := by
  have : ∀ k, k ≤ h → P (h - k) := by
    intro k
    induction k with
    | zero => intro _; exact h0
    | succ k ih =>
      intro hk
      refine hs _ (by omega) ?_
      rw [show h - (k + 1) + 1 = h - k by omega]
      exact ih (by omega)
  have h1 := this h (Nat.le_refl _)
  rwa [Nat.sub_self] at h1
theorem up_indF {P : Nat → Prop} {a h : Nat} (hah : a ≤ h) (h0 : P h) (hs : ∀ j, a ≤ j → j < h → P (j + 1) → P j) : P a := by
  have := up_ind (P := fun j => P (a + j)) (h := h - a) (by rw [show a + (h - a) = h by omega]; exact h0) (fun j hj hp => hs (a + j) (by omega) (by omega) hp)
  exact this
theorem dn_ind {P : Nat → Prop} {h : Nat} (h0 : P 0) (hs : ∀ j, j < h → P j → P (j + 1)) : P h := by
  have : ∀ k, k ≤ h → P k := by
    intro k
    induction k with
    | zero => intro _; exact h0
    | succ k ih => intro hk; exact hs k (by omega) (ih (by omega))
  exact this h (Nat.le_refl _)
/-- writes of rows -/
theorem wF_same (A : Nat → Nat → Int32) (o k : Nat) (v : Int32) : wF A o k v o k = v := by simp [wF, va_up]
theorem wF_row {A : Nat → Nat → Int32} {o k o' : Nat} {v : Int32} (h : o' ≠ o) : wF A o k v o' = A o' := by simp [wF, va_up, h]
theorem wF_cell {A : Nat → Nat → Int32} {o k k' : Nat} {v : Int32} (h : k' ≠ k) (o' : Nat) : wF A o k v o' k' = A o' k' := by
  by_cases ho : o' = o
  · subst ho; simp [wF, va_up, h]
  · simp [wF, va_up, ho]
theorem wF_at (A : Nat → Nat → Int32) (o k o' k' : Nat) (v : Int32) : wF A o k v o' k' = if o' = o ∧ k' = k then v else A o' k' := by
  by_cases ho : o' = o
  · subst ho
    by_cases hk : k' = k <;> simp [wF, va_up, hk]
  · simp [wF, va_up, ho]
end ZInt
