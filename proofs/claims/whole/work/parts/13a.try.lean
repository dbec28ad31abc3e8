section Try
theorem isLg_i (x : Int32) : isLg (.int x) = false := rfl
theorem isLg_r (x : Nat) : isLg (.ref x) = false := rfl
theorem isLg_n : isLg .null = false := rfl
theorem nI_lt_iff {a b : Nat} (ha : a < 2 ^ 31) (hb : b < 2 ^ 31) : nI a < nI b ↔ a < b := nI_ltI ha hb
theorem inB_nI {j n : Nat} (h : j < n) (hn : n < 2 ^ 31) : inB (nI j) n = true := by
  have := vp_in_nI h hn
  have h2 := nI_clamp (n := j) (by omega)
  simp only [inB, Bool.and_eq_true, Bool.not_eq_true', decide_eq_false_iff_not, decide_eq_true_eq]
  exact ⟨nI_pos (by omega), by rw [h2]; exact h⟩
/-- the first place from j on (k places are left) that holds t; -1 -/
def fstS (a : Nat → Int32) (t : Int32) : Nat → Nat → Int32
  | 0, _ => -1
  | k + 1, j => if a j = t then nI j else fstS a t k (j + 1)
theorem lvl_loop {d mo ta h : Nat} {F A : Nat → Nat → Int32} {J : Nat → Nat → Int64} {G : pG} {Q : pR → pM → Prop} {t : Int32} (hK0 : gK G mo = 10) (hR : gR G mo 23 = ta + 1) (hKa : gK G ta = 20) (hL : gL G ta = 10) (hh : h ≤ 10) (hF : F mo 28 = nI h) :
    ∀ k j, h - j = k → j ≤ h → X d 209 2 [.ref mo, .int t, .int (nI j)] [] (F, A, J, G) Q = Q (.inl (some (.int (fstS (A ta) t k j)))) (F, A, J, G) := by
  intro k
  induction k with
  | zero =>
    intro j hk hj
    have : j = h := by omega
    subst this
    simp only [hK0, hKa, sx_209_2, sx_209_3, sx_209_4, hF, sx_209_7, Int32.le_refl, if_true, sx_209_28, sx_209_29, fstS]
  | succ k ih =>
    intro j hk hj
    have h1 : ¬ nI h ≤ nI j := nI_ge (by omega) (by omega)
    have h2 : inB (nI j) (gL G ta) = true := by rw [hL]; exact inB_nI (by omega) (by omega)
    have h3 : (nI j).toNatClampNeg = j := nI_clamp (by omega)
    simp only [hK0, hKa, sx_209_2, sx_209_3, sx_209_4, hF, sx_209_7, h1, if_false, h2, sx_209_10, sx_209_11, hR, pRv, sx_209_14, sx_209_15, h3, sx_209_16, sx_209_17, fstS]
    by_cases hc : A ta j = t
    · simp only [hc, not_true_eq_false, if_false, if_true, sx_209_20, sx_209_21]
    · simp only [hc, not_false_eq_true, if_true, if_false, sx_209_22i, sx_209_25, nI_1]
      exact ih (j + 1) (by omega) (by omega)
theorem c_levelOf {d mo ta h : Nat} {F A : Nat → Nat → Int32} {J : Nat → Nat → Int64} {G : pG} {Q : pR → pM → Prop} {t : Int32} {x : Value} (hK0 : gK G mo = 10) (hR : gR G mo 23 = ta + 1) (hKa : gK G ta = 20) (hL : gL G ta = 10) (hh : h ≤ 10) (hF : F mo 28 = nI h) :
    X d 209 0 [.ref mo, .int t, x] [] (F, A, J, G) Q = Q (.inl (some (.int (fstS (A ta) t h 0)))) (F, A, J, G) := by
  simp only [sx_209_0, sx_209_1i]
  show X d 209 2 [.ref mo, .int t, .int (nI 0)] [] (F, A, J, G) Q = _
  exact lvl_loop hK0 hR hKa hL hh hF h 0 rfl (Nat.zero_le _)
end Try
