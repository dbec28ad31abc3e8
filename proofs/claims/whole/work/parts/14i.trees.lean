section Tr14i
/- 284 Model.aYear()V -/
theorem t_284_0 {d : Nat} {F A : Nat → Nat → Int32} {J : Nat → Nat → Int64} {G : pG} {Q : pR → pM → Prop} {SL p q : Nat} (hG : Geo G SL p q) (h : (((A 72 0) = 0 → Q (.inl none) ((wF F 68 29 ((F 68 29) + 1)), A, J, G)) ∧ (¬ (A 72 0) = 0 → X d 283 0 [.ref 68, .int (A 72 0)] [] ((wF F 68 29 ((F 68 29) + 1)), A, J, G) (KK (d + 1) 284 30 [.ref 68, .null, .null] [] Q)))) : X (d + 1) 284 0 [.ref 68, .null, .null] [] (F, A, J, G) Q := by
  refine Y_al0 i_284_0 ?_
  refine Y_dup i_284_1 rfl ?_
  refine Y_gI (v := (F 68 29)) i_284_2 ow_284 lf_10_282 (by decide) (k_68 hG) rfl ?_
  refine Y_iconst (v := 1) i_284_5 (by decide) ?_
  refine Y_iadd i_284_6 ?_
  refine Y_pI i_284_7 ow_284 lf_10_282 (k_68 hG) ?_
  refine Y_al0 i_284_10 ?_
  refine Y_gR i_284_11 ow_284 lf_10_42 (k_68 hG) (r_68_4 hG) ?_
  refine Y_iconst (v := 0) i_284_14 (by decide) ?_
  refine Y_iaload (k := 0) (v := (A 72 0)) i_284_15 (k_72 hG) (l_72 hG) (by decide) (by decide) rfl ?_
  refine Y_zne i_284_16 (fun e1 => ?_) (fun e1 => ?_)
  · replace h := h.1 e1
    exact Y_vret i_284_19 rt_284 h
  · replace h := h.2 e1
    refine Y_al0 i_284_20 ?_
    refine Y_al0 i_284_21 ?_
    refine Y_gR i_284_22 ow_284 lf_10_42 (k_68 hG) (r_68_4 hG) ?_
    refine Y_iconst (v := 0) i_284_25 (by decide) ?_
    refine Y_iaload (k := 0) (v := (A 72 0)) i_284_26 (k_72 hG) (l_72 hG) (by decide) (by decide) rfl ?_
    exact Y_iv1 (L0 := [.ref 68, .int (A 72 0)]) i_284_27 ow_284 lm_10_466 ((k_68 hG).trans ow_283.symm) rfl mx_283 rfl rfl hd_284 h
theorem k_284_30 {d : Nat} {F A : Nat → Nat → Int32} {J : Nat → Nat → Int64} {G : pG} {Q : pR → pM → Prop} {SL p q : Nat} {r : Int32} (hG : Geo G SL p q) (h : X d 283 0 [.ref 68, .int 5] [] (F, A, J, G) (KK (d + 1) 284 36 [.ref 68, .int r, .null] [] Q)) : KK (d + 1) 284 30 [.ref 68, .null, .null] [] Q (.inl (some (.int r))) (F, A, J, G) := by
  refine KKi ?_
  refine Y_is1 i_284_30 rfl ?_
  refine Y_al0 i_284_31 ?_
  refine Y_iconst (v := 5) i_284_32 (by decide) ?_
  exact Y_iv1 (L0 := [.ref 68, .int 5]) i_284_33 ow_284 lm_10_466 ((k_68 hG).trans ow_283.symm) rfl mx_283 rfl rfl hd_284 h
theorem k_284_36 {d : Nat} {F A : Nat → Nat → Int32} {J : Nat → Nat → Int64} {G : pG} {Q : pR → pM → Prop} {SL p q : Nat} {x1 r : Int32} (hG : Geo G SL p q) (h : ((r = 0 → inB x1 10 = true ∧ ((r = 1 → ((r = 2 → hB (F 68 28) = true ∧ (((lvI (A 81) (F 68 28) x1) = (-1) → Q (.inl none) (F, (wF (wF A 84 x1.toNatClampNeg (jmin 9 ((A 84 x1.toNatClampNeg) + 1))) 84 x1.toNatClampNeg (jmax (-9) (((wF A 84 x1.toNatClampNeg (jmin 9 ((A 84 x1.toNatClampNeg) + 1))) 84 x1.toNatClampNeg) - 1))), J, G)) ∧ (¬ (lvI (A 81) (F 68 28) x1) = (-1) → inB x1 20 = true ∧ (Q (.inl none) (F, (wF (wF (wF A 84 x1.toNatClampNeg (jmin 9 ((A 84 x1.toNatClampNeg) + 1))) 84 x1.toNatClampNeg (jmax (-9) (((wF A 84 x1.toNatClampNeg (jmin 9 ((A 84 x1.toNatClampNeg) + 1))) 84 x1.toNatClampNeg) - 1))) 82 x1.toNatClampNeg ((A 82 x1.toNatClampNeg) + (A 77 x1.toNatClampNeg))), J, G))))) ∧ (¬ r = 2 → Q (.inl none) (F, (wF (wF A 84 x1.toNatClampNeg (jmin 9 ((A 84 x1.toNatClampNeg) + 1))) 84 x1.toNatClampNeg (jmax (-9) (((wF A 84 x1.toNatClampNeg (jmin 9 ((A 84 x1.toNatClampNeg) + 1))) 84 x1.toNatClampNeg) - 1))), J, G)))) ∧ (¬ r = 1 → ((r = 2 → hB (F 68 28) = true ∧ (((lvI (A 81) (F 68 28) x1) = (-1) → Q (.inl none) (F, (wF A 84 x1.toNatClampNeg (jmin 9 ((A 84 x1.toNatClampNeg) + 1))), J, G)) ∧ (¬ (lvI (A 81) (F 68 28) x1) = (-1) → inB x1 20 = true ∧ (Q (.inl none) (F, (wF (wF A 84 x1.toNatClampNeg (jmin 9 ((A 84 x1.toNatClampNeg) + 1))) 82 x1.toNatClampNeg ((A 82 x1.toNatClampNeg) + (A 77 x1.toNatClampNeg))), J, G))))) ∧ (¬ r = 2 → Q (.inl none) (F, (wF A 84 x1.toNatClampNeg (jmin 9 ((A 84 x1.toNatClampNeg) + 1))), J, G)))))) ∧ (¬ r = 0 → ((r = 1 → inB x1 10 = true ∧ ((r = 2 → hB (F 68 28) = true ∧ (((lvI (A 81) (F 68 28) x1) = (-1) → Q (.inl none) (F, (wF A 84 x1.toNatClampNeg (jmax (-9) ((A 84 x1.toNatClampNeg) - 1))), J, G)) ∧ (¬ (lvI (A 81) (F 68 28) x1) = (-1) → inB x1 20 = true ∧ (Q (.inl none) (F, (wF (wF A 84 x1.toNatClampNeg (jmax (-9) ((A 84 x1.toNatClampNeg) - 1))) 82 x1.toNatClampNeg ((A 82 x1.toNatClampNeg) + (A 77 x1.toNatClampNeg))), J, G))))) ∧ (¬ r = 2 → Q (.inl none) (F, (wF A 84 x1.toNatClampNeg (jmax (-9) ((A 84 x1.toNatClampNeg) - 1))), J, G)))) ∧ (¬ r = 1 → ((r = 2 → hB (F 68 28) = true ∧ (((lvI (A 81) (F 68 28) x1) = (-1) → Q (.inl none) (F, A, J, G)) ∧ (¬ (lvI (A 81) (F 68 28) x1) = (-1) → inB x1 10 = true ∧ inB x1 20 = true ∧ (Q (.inl none) (F, (wF A 82 x1.toNatClampNeg ((A 82 x1.toNatClampNeg) + (A 77 x1.toNatClampNeg))), J, G))))) ∧ (¬ r = 2 → Q (.inl none) (F, A, J, G)))))))) : KK (d + 1) 284 36 [.ref 68, .int x1, .null] [] Q (.inl (some (.int r))) (F, A, J, G) := by
  refine KKi ?_
  refine Y_is2 i_284_36 rfl ?_
  refine Y_il2 i_284_37 ?_
  refine Y_zne i_284_38 (fun e1 => ?_) (fun e1 => ?_)
  · replace h := h.1 e1
    refine Y_al0 i_284_41 ?_
    refine Y_gR i_284_42 ow_284 lf_10_79 (k_68 hG) (r_68_26 hG) ?_
    refine Y_il1 i_284_45 ?_
    refine Y_bipush (v := 9) i_284_46 (by decide) ?_
    refine Y_al0 i_284_48 ?_
    refine Y_gR i_284_49 ow_284 lf_10_79 (k_68 hG) (r_68_26 hG) ?_
    refine Y_il1 i_284_52 ?_
    have o2 := h.1
    replace h := h.2
    refine Y_iaload (k := x1.toNatClampNeg) (v := (A 84 x1.toNatClampNeg)) i_284_53 (k_84 hG) (l_84 hG) o2 rfl rfl ?_
    refine Y_iconst (v := 1) i_284_54 (by decide) ?_
    refine Y_iadd i_284_55 ?_
    refine Y_min i_284_56 ow_284 lm_10_183 rfl ?_
    refine Y_iast i_284_59 (k_84 hG) (l_84 hG) o2 rfl ?_
    refine Y_il2 i_284_60 ?_
    refine Y_iconst (v := 1) i_284_61 (by decide) ?_
    refine Y_cne i_284_62 (fun e3 => ?_) (fun e3 => ?_)
    · replace h := h.1 e3
      refine Y_al0 i_284_65 ?_
      refine Y_gR i_284_66 ow_284 lf_10_79 (k_68 hG) (r_68_26 hG) ?_
      refine Y_il1 i_284_69 ?_
      refine Y_bipush (v := (-9)) i_284_70 (by decide) ?_
      refine Y_al0 i_284_72 ?_
      refine Y_gR i_284_73 ow_284 lf_10_79 (k_68 hG) (r_68_26 hG) ?_
      refine Y_il1 i_284_76 ?_
      refine Y_iaload (k := x1.toNatClampNeg) (v := ((wF A 84 x1.toNatClampNeg (jmin 9 ((A 84 x1.toNatClampNeg) + 1))) 84 x1.toNatClampNeg)) i_284_77 (k_84 hG) (l_84 hG) o2 rfl rfl ?_
      refine Y_iconst (v := 1) i_284_78 (by decide) ?_
      refine Y_isub i_284_79 ?_
      refine Y_max i_284_80 ow_284 lm_10_298 rfl ?_
      refine Y_iast i_284_83 (k_84 hG) (l_84 hG) o2 rfl ?_
      refine Y_il2 i_284_84 ?_
      refine Y_iconst (v := 2) i_284_85 (by decide) ?_
      refine Y_cne i_284_86 (fun e4 => ?_) (fun e4 => ?_)
      · replace h := h.1 e4
        refine Y_al0 i_284_89 ?_
        refine Y_il1 i_284_90 ?_
        have o5 := h.1
        replace h := h.2
        refine Y_iv1 (L0 := [.ref 68, .int x1, .null]) i_284_91 ow_284 lm_10_336 ((k_68 hG).trans ow_209.symm) rfl mx_209 rfl rfl hd_284 ?_
        refine c_209 hG o5 (KKi' (v' := (lvI (A 81) (F 68 28) x1)) (by simp [wF, wJ, va_up, cpR, bF, bA]) ?_)
        refine Y_iconst (v := (-1)) i_284_94 (by decide) ?_
        refine Y_ceq i_284_95 (fun e6 => ?_) (fun e6 => ?_)
        · replace h := h.1 e6
          exact Y_vret i_284_113 rt_284 h
        · replace h := h.2 e6
          refine Y_al0 i_284_98 ?_
          refine Y_gR i_284_99 ow_284 lf_10_73 (k_68 hG) (r_68_24 hG) ?_
          refine Y_il1 i_284_102 ?_
          refine Y_dup2 i_284_103 rfl rfl ?_
          refine Y_iaload (k := x1.toNatClampNeg) (v := (A 82 x1.toNatClampNeg)) i_284_104 (k_82 hG) (l_82 hG) o2 rfl (by simp [wF, wJ, va_up, cpR, bF, bA]) ?_
          refine Y_al0 i_284_105 ?_
          refine Y_gR i_284_106 ow_284 lf_10_55 (k_68 hG) (r_68_9 hG) ?_
          refine Y_il1 i_284_109 ?_
          have o7 := h.1
          replace h := h.2
          refine Y_iaload (k := x1.toNatClampNeg) (v := (A 77 x1.toNatClampNeg)) i_284_110 (k_77 hG) (l_77 hG) o7 rfl (by simp [wF, wJ, va_up, cpR, bF, bA]) ?_
          refine Y_iadd i_284_111 ?_
          refine Y_iast i_284_112 (k_82 hG) (l_82 hG) o2 rfl ?_
          exact Y_vret i_284_113 rt_284 h
      · replace h := h.2 e4
        exact Y_vret i_284_113 rt_284 h
    · replace h := h.2 e3
      refine Y_il2 i_284_84 ?_
      refine Y_iconst (v := 2) i_284_85 (by decide) ?_
      refine Y_cne i_284_86 (fun e8 => ?_) (fun e8 => ?_)
      · replace h := h.1 e8
        refine Y_al0 i_284_89 ?_
        refine Y_il1 i_284_90 ?_
        have o9 := h.1
        replace h := h.2
        refine Y_iv1 (L0 := [.ref 68, .int x1, .null]) i_284_91 ow_284 lm_10_336 ((k_68 hG).trans ow_209.symm) rfl mx_209 rfl rfl hd_284 ?_
        refine c_209 hG o9 (KKi' (v' := (lvI (A 81) (F 68 28) x1)) (by simp [wF, wJ, va_up, cpR, bF, bA]) ?_)
        refine Y_iconst (v := (-1)) i_284_94 (by decide) ?_
        refine Y_ceq i_284_95 (fun e10 => ?_) (fun e10 => ?_)
        · replace h := h.1 e10
          exact Y_vret i_284_113 rt_284 h
        · replace h := h.2 e10
          refine Y_al0 i_284_98 ?_
          refine Y_gR i_284_99 ow_284 lf_10_73 (k_68 hG) (r_68_24 hG) ?_
          refine Y_il1 i_284_102 ?_
          refine Y_dup2 i_284_103 rfl rfl ?_
          refine Y_iaload (k := x1.toNatClampNeg) (v := (A 82 x1.toNatClampNeg)) i_284_104 (k_82 hG) (l_82 hG) o2 rfl (by simp [wF, wJ, va_up, cpR, bF, bA]) ?_
          refine Y_al0 i_284_105 ?_
          refine Y_gR i_284_106 ow_284 lf_10_55 (k_68 hG) (r_68_9 hG) ?_
          refine Y_il1 i_284_109 ?_
          have o11 := h.1
          replace h := h.2
          refine Y_iaload (k := x1.toNatClampNeg) (v := (A 77 x1.toNatClampNeg)) i_284_110 (k_77 hG) (l_77 hG) o11 rfl (by simp [wF, wJ, va_up, cpR, bF, bA]) ?_
          refine Y_iadd i_284_111 ?_
          refine Y_iast i_284_112 (k_82 hG) (l_82 hG) o2 rfl ?_
          exact Y_vret i_284_113 rt_284 h
      · replace h := h.2 e8
        exact Y_vret i_284_113 rt_284 h
  · replace h := h.2 e1
    refine Y_il2 i_284_60 ?_
    refine Y_iconst (v := 1) i_284_61 (by decide) ?_
    refine Y_cne i_284_62 (fun e12 => ?_) (fun e12 => ?_)
    · replace h := h.1 e12
      refine Y_al0 i_284_65 ?_
      refine Y_gR i_284_66 ow_284 lf_10_79 (k_68 hG) (r_68_26 hG) ?_
      refine Y_il1 i_284_69 ?_
      refine Y_bipush (v := (-9)) i_284_70 (by decide) ?_
      refine Y_al0 i_284_72 ?_
      refine Y_gR i_284_73 ow_284 lf_10_79 (k_68 hG) (r_68_26 hG) ?_
      refine Y_il1 i_284_76 ?_
      have o13 := h.1
      replace h := h.2
      refine Y_iaload (k := x1.toNatClampNeg) (v := (A 84 x1.toNatClampNeg)) i_284_77 (k_84 hG) (l_84 hG) o13 rfl rfl ?_
      refine Y_iconst (v := 1) i_284_78 (by decide) ?_
      refine Y_isub i_284_79 ?_
      refine Y_max i_284_80 ow_284 lm_10_298 rfl ?_
      refine Y_iast i_284_83 (k_84 hG) (l_84 hG) o13 rfl ?_
      refine Y_il2 i_284_84 ?_
      refine Y_iconst (v := 2) i_284_85 (by decide) ?_
      refine Y_cne i_284_86 (fun e14 => ?_) (fun e14 => ?_)
      · replace h := h.1 e14
        refine Y_al0 i_284_89 ?_
        refine Y_il1 i_284_90 ?_
        have o15 := h.1
        replace h := h.2
        refine Y_iv1 (L0 := [.ref 68, .int x1, .null]) i_284_91 ow_284 lm_10_336 ((k_68 hG).trans ow_209.symm) rfl mx_209 rfl rfl hd_284 ?_
        refine c_209 hG o15 (KKi' (v' := (lvI (A 81) (F 68 28) x1)) (by simp [wF, wJ, va_up, cpR, bF, bA]) ?_)
        refine Y_iconst (v := (-1)) i_284_94 (by decide) ?_
        refine Y_ceq i_284_95 (fun e16 => ?_) (fun e16 => ?_)
        · replace h := h.1 e16
          exact Y_vret i_284_113 rt_284 h
        · replace h := h.2 e16
          refine Y_al0 i_284_98 ?_
          refine Y_gR i_284_99 ow_284 lf_10_73 (k_68 hG) (r_68_24 hG) ?_
          refine Y_il1 i_284_102 ?_
          refine Y_dup2 i_284_103 rfl rfl ?_
          refine Y_iaload (k := x1.toNatClampNeg) (v := (A 82 x1.toNatClampNeg)) i_284_104 (k_82 hG) (l_82 hG) o13 rfl (by simp [wF, wJ, va_up, cpR, bF, bA]) ?_
          refine Y_al0 i_284_105 ?_
          refine Y_gR i_284_106 ow_284 lf_10_55 (k_68 hG) (r_68_9 hG) ?_
          refine Y_il1 i_284_109 ?_
          have o17 := h.1
          replace h := h.2
          refine Y_iaload (k := x1.toNatClampNeg) (v := (A 77 x1.toNatClampNeg)) i_284_110 (k_77 hG) (l_77 hG) o17 rfl (by simp [wF, wJ, va_up, cpR, bF, bA]) ?_
          refine Y_iadd i_284_111 ?_
          refine Y_iast i_284_112 (k_82 hG) (l_82 hG) o13 rfl ?_
          exact Y_vret i_284_113 rt_284 h
      · replace h := h.2 e14
        exact Y_vret i_284_113 rt_284 h
    · replace h := h.2 e12
      refine Y_il2 i_284_84 ?_
      refine Y_iconst (v := 2) i_284_85 (by decide) ?_
      refine Y_cne i_284_86 (fun e18 => ?_) (fun e18 => ?_)
      · replace h := h.1 e18
        refine Y_al0 i_284_89 ?_
        refine Y_il1 i_284_90 ?_
        have o19 := h.1
        replace h := h.2
        refine Y_iv1 (L0 := [.ref 68, .int x1, .null]) i_284_91 ow_284 lm_10_336 ((k_68 hG).trans ow_209.symm) rfl mx_209 rfl rfl hd_284 ?_
        refine c_209 hG o19 (KKi ?_)
        refine Y_iconst (v := (-1)) i_284_94 (by decide) ?_
        refine Y_ceq i_284_95 (fun e20 => ?_) (fun e20 => ?_)
        · replace h := h.1 e20
          exact Y_vret i_284_113 rt_284 h
        · replace h := h.2 e20
          refine Y_al0 i_284_98 ?_
          refine Y_gR i_284_99 ow_284 lf_10_73 (k_68 hG) (r_68_24 hG) ?_
          refine Y_il1 i_284_102 ?_
          refine Y_dup2 i_284_103 rfl rfl ?_
          have o21 := h.1
          replace h := h.2
          refine Y_iaload (k := x1.toNatClampNeg) (v := (A 82 x1.toNatClampNeg)) i_284_104 (k_82 hG) (l_82 hG) o21 rfl rfl ?_
          refine Y_al0 i_284_105 ?_
          refine Y_gR i_284_106 ow_284 lf_10_55 (k_68 hG) (r_68_9 hG) ?_
          refine Y_il1 i_284_109 ?_
          have o22 := h.1
          replace h := h.2
          refine Y_iaload (k := x1.toNatClampNeg) (v := (A 77 x1.toNatClampNeg)) i_284_110 (k_77 hG) (l_77 hG) o22 rfl rfl ?_
          refine Y_iadd i_284_111 ?_
          refine Y_iast i_284_112 (k_82 hG) (l_82 hG) o21 rfl ?_
          exact Y_vret i_284_113 rt_284 h
      · replace h := h.2 e18
        exact Y_vret i_284_113 rt_284 h
/- 285 Model.decades(III)I -/
theorem t_285_0 {d : Nat} {F A : Nat → Nat → Int32} {J : Nat → Nat → Int64} {G : pG} {Q : pR → pM → Prop} {SL p q : Nat} {x1 x2 x3 : Int32} (hG : Geo G SL p q) (h : (((inL x3.toInt64 0 2) = true → (((inL x2.toInt64 0 40) = true → X (d + 5) 207 0 [.ref 68, .ref 88, .int 0, .null] [] ((wF F 68 3 0), A, J, G) (KK (d + 6) 285 50 [.ref 68, .int x1, .int x2, .int x3, .null, .null, .null] [] Q)) ∧ ((inL x2.toInt64 0 40) = false → Q (.inl (some (.int 0))) ((wF (wF F 68 3 0) 68 3 2), A, J, G)))) ∧ ((inL x3.toInt64 0 2) = false → Q (.inl (some (.int 0))) ((wF (wF F 68 3 0) 68 3 1), A, J, G)))) : X (d + 6) 285 0 [.ref 68, .int x1, .int x2, .int x3, .null, .null, .null] [] (F, A, J, G) Q := by
  refine Y_al0 i_285_0 ?_
  refine Y_iconst (v := 0) i_285_1 (by decide) ?_
  refine Y_pI i_285_2 ow_285 lf_10_143 (k_68 hG) ?_
  refine Y_il3 i_285_5 ?_
  refine Y_i2l i_285_6 ?_
  refine Y_lconst (v := 0) i_285_7 (by decide) ?_
  refine Y_ldcL i_285_8 ow_285 lj_10_448 ?_
  refine Y_is_3 (L0 := [.long x3.toInt64, .null, .long 0, .null, .long 2, .null]) i_285_11 ow_285 lm_10_146 rfl mx_178 rfl rfl hd_285 ?_
  refine c_178 hG (KKi ?_)
  refine Y_bne i_285_14 (fun e1 => ?_) (fun e1 => ?_)
  · replace h := h.1 e1
    refine Y_il2 i_285_23 ?_
    refine Y_i2l i_285_24 ?_
    refine Y_lconst (v := 0) i_285_25 (by decide) ?_
    refine Y_ldcL i_285_26 ow_285 lj_10_469 ?_
    refine Y_is_3 (L0 := [.long x2.toInt64, .null, .long 0, .null, .long 40, .null]) i_285_29 ow_285 lm_10_146 rfl mx_178 rfl rfl hd_285 ?_
    refine c_178 hG (KKi ?_)
    refine Y_bne i_285_32 (fun e2 => ?_) (fun e2 => ?_)
    · replace h := h.1 e2
      refine Y_al0 i_285_41 ?_
      refine Y_al0 i_285_42 ?_
      refine Y_gR i_285_43 ow_285 lf_10_94 (k_68 hG) (r_68_35 hG) ?_
      refine Y_iconst (v := 0) i_285_46 (by decide) ?_
      exact Y_iv2 (L0 := [.ref 68, .ref 88, .int 0, .null]) i_285_47 ow_285 lm_10_347 ((k_68 hG).trans ow_207.symm) rfl mx_207 rfl rfl hd_285 h
    · replace h := h.2 e2
      refine Y_al0 i_285_35 ?_
      refine Y_iconst (v := 2) i_285_36 (by decide) ?_
      refine Y_iv1 (L0 := [.ref 68, .int 2]) i_285_37 ow_285 lm_10_269 ((k_68 hG).trans ow_176.symm) rfl mx_176 rfl rfl hd_285 ?_
      refine Y_al0 i_176_0 ?_
      refine Y_il1 i_176_1 ?_
      refine Y_pI i_176_2 ow_176 lf_10_143 (k_68 hG) ?_
      refine Y_iconst (v := 0) i_176_5 (by decide) ?_
      refine Y_iret i_176_6 rt_176 (KKi ?_)
      exact Y_iret i_285_40 rt_285 h
  · replace h := h.2 e1
    refine Y_al0 i_285_17 ?_
    refine Y_iconst (v := 1) i_285_18 (by decide) ?_
    refine Y_iv1 (L0 := [.ref 68, .int 1]) i_285_19 ow_285 lm_10_269 ((k_68 hG).trans ow_176.symm) rfl mx_176 rfl rfl hd_285 ?_
    refine Y_al0 i_176_0 ?_
    refine Y_il1 i_176_1 ?_
    refine Y_pI i_176_2 ow_176 lf_10_143 (k_68 hG) ?_
    refine Y_iconst (v := 0) i_176_5 (by decide) ?_
    refine Y_iret i_176_6 rt_176 (KKi ?_)
    exact Y_iret i_285_22 rt_285 h
theorem k_285_50 {d : Nat} {F A : Nat → Nat → Int32} {J : Nat → Nat → Int64} {G : pG} {Q : pR → pM → Prop} {SL p q : Nat} {x1 x2 x3 : Int32} (hG : Geo G SL p q) (h : X (d + 6) 285 64 [.ref 68, .int x1, .int x2, .int x3, .int 0, .int (-1), .int 0] [] ((wF F 68 49 x1), A, J, G) Q) : KK (d + 6) 285 50 [.ref 68, .int x1, .int x2, .int x3, .null, .null, .null] [] Q (.inl none) (F, A, J, G) := by
  refine KKv ?_
  refine Y_al0 i_285_50 ?_
  refine Y_il1 i_285_51 ?_
  refine Y_pI i_285_52 ow_285 lf_10_462 (k_68 hG) ?_
  refine Y_iconst (v := 0) i_285_55 (by decide) ?_
  refine Y_is4 i_285_56 rfl ?_
  refine Y_iconst (v := (-1)) i_285_58 (by decide) ?_
  refine Y_is5 i_285_59 rfl ?_
  refine Y_iconst (v := 0) i_285_61 (by decide) ?_
  refine Y_is6 i_285_62 rfl ?_
  exact h
theorem t_285_64 {d : Nat} {F A : Nat → Nat → Int32} {J : Nat → Nat → Int64} {G : pG} {Q : pR → pM → Prop} {SL p q : Nat} {x1 x2 x3 x4 x5 x6 : Int32} (hG : Geo G SL p q) (h : ((x6 < x2 → X (d + 5) 284 0 [.ref 68, .null, .null] [] (F, A, J, G) (KK (d + 6) 285 74 [.ref 68, .int x1, .int x2, .int x3, .int x4, .int x5, .int x6] [] Q)) ∧ (¬ x6 < x2 → (((F 68 28) = 0 → X (d + 5) 208 0 [.ref 68, .ref 88, .int 0, .null] [] (F, A, J, G) (KK (d + 6) 285 137 [.ref 68, .int x1, .int x2, .int x3, .int x4, .int x5, .int 0] [] Q)) ∧ (¬ (F 68 28) = 0 → X (d + 5) 213 0 [.ref 68, .int 0, .null, .null] [] (F, A, J, G) (KK (d + 6) 285 126 [.ref 68, .int x1, .int x2, .int x3, .int x4, .int x5, .int x6] [] Q)))))) : X (d + 6) 285 64 [.ref 68, .int x1, .int x2, .int x3, .int x4, .int x5, .int x6] [] (F, A, J, G) Q := by
  refine Y_il6 i_285_64 ?_
  refine Y_il2 i_285_66 ?_
  refine Y_cge i_285_67 (fun e1 => ?_) (fun e1 => ?_)
  · replace h := h.1 e1
    refine Y_al0 i_285_70 ?_
    exact Y_iv0 (L0 := [.ref 68, .null, .null]) i_285_71 ow_285 lm_10_471 ((k_68 hG).trans ow_284.symm) rfl mx_284 rfl rfl hd_285 h
  · replace h := h.2 e1
    refine Y_al0 i_285_110 ?_
    refine Y_gI (v := (F 68 28)) i_285_111 ow_285 lf_10_150 (by decide) (k_68 hG) rfl ?_
    refine Y_zne i_285_114 (fun e2 => ?_) (fun e2 => ?_)
    · replace h := h.1 e2
      refine Y_iconst (v := 0) i_285_117 (by decide) ?_
      refine Y_goto i_285_118 ?_
      refine Y_is6 i_285_126 rfl ?_
      refine Y_al0 i_285_128 ?_
      refine Y_al0 i_285_129 ?_
      refine Y_gR i_285_130 ow_285 lf_10_94 (k_68 hG) (r_68_35 hG) ?_
      refine Y_iconst (v := 0) i_285_133 (by decide) ?_
      exact Y_iv2 (L0 := [.ref 68, .ref 88, .int 0, .null]) i_285_134 ow_285 lm_10_386 ((k_68 hG).trans ow_208.symm) rfl mx_208 rfl rfl hd_285 h
    · replace h := h.2 e2
      refine Y_al0 i_285_121 ?_
      refine Y_iconst (v := 0) i_285_122 (by decide) ?_
      exact Y_iv1 (L0 := [.ref 68, .int 0, .null, .null]) i_285_123 ow_285 lm_10_308 ((k_68 hG).trans ow_213.symm) rfl mx_213 rfl rfl hd_285 h
theorem k_285_74 {d : Nat} {F A : Nat → Nat → Int32} {J : Nat → Nat → Int64} {G : pG} {Q : pR → pM → Prop} {SL p q : Nat} {x1 x2 x3 x4 x5 x6 : Int32} (hG : Geo G SL p q) (h : X (d + 5) 218 0 [.ref 68] [] (F, A, J, G) (KK (d + 6) 285 78 [.ref 68, .int x1, .int x2, .int x3, .int x4, .int x5, .int x6] [] Q)) : KK (d + 6) 285 74 [.ref 68, .int x1, .int x2, .int x3, .int x4, .int x5, .int x6] [] Q (.inl none) (F, A, J, G) := by
  refine KKv ?_
  refine Y_al0 i_285_74 ?_
  exact Y_iv0 (L0 := [.ref 68]) i_285_75 ow_285 lm_10_326 ((k_68 hG).trans ow_218.symm) rfl mx_218 rfl rfl hd_285 h
theorem k_285_78 {d : Nat} {F A : Nat → Nat → Int32} {J : Nat → Nat → Int64} {G : pG} {Q : pR → pM → Prop} {SL p q : Nat} {x1 x2 x3 x4 x5 x6 r : Int32} (hG : Geo G SL p q) (h : ((r = 0 → ((x5 = (-1) → X (d + 6) 285 64 [.ref 68, .int x1, .int x2, .int x3, .int x4, .int (x6 + 1), .int (x6 + 1)] [] (F, A, J, G) Q) ∧ (¬ x5 = (-1) → X (d + 6) 285 64 [.ref 68, .int x1, .int x2, .int x3, .int x4, .int x5, .int (x6 + 1)] [] (F, A, J, G) Q))) ∧ (¬ r = 0 → X (d + 6) 285 64 [.ref 68, .int x1, .int x2, .int x3, .int (x4 + 1), .int x5, .int (x6 + 1)] [] (F, A, J, G) Q))) : KK (d + 6) 285 78 [.ref 68, .int x1, .int x2, .int x3, .int x4, .int x5, .int x6] [] Q (.inl (some (.int r))) (F, A, J, G) := by
  refine KKi ?_
  refine Y_zeq i_285_78 (fun e1 => ?_) (fun e1 => ?_)
  · replace h := h.1 e1
    refine Y_il5 i_285_87 ?_
    refine Y_iconst (v := (-1)) i_285_89 (by decide) ?_
    refine Y_cne i_285_90 (fun e2 => ?_) (fun e2 => ?_)
    · replace h := h.1 e2
      refine Y_il6 i_285_93 ?_
      refine Y_iconst (v := 1) i_285_95 (by decide) ?_
      refine Y_iadd i_285_96 ?_
      refine Y_goto i_285_97 ?_
      refine Y_is5 i_285_102 rfl ?_
      refine Y_ii6 (v := 1) i_285_104 (by decide) rfl ?_
      refine Y_goto i_285_107 ?_
      exact h
    · replace h := h.2 e2
      refine Y_il5 i_285_100 ?_
      refine Y_is5 i_285_102 rfl ?_
      refine Y_ii6 (v := 1) i_285_104 (by decide) rfl ?_
      refine Y_goto i_285_107 ?_
      exact h
  · replace h := h.2 e1
    refine Y_ii4 (v := 1) i_285_81 (by decide) rfl ?_
    refine Y_goto i_285_84 ?_
    refine Y_ii6 (v := 1) i_285_104 (by decide) rfl ?_
    refine Y_goto i_285_107 ?_
    exact h
theorem k_285_126 {d : Nat} {F A : Nat → Nat → Int32} {J : Nat → Nat → Int64} {G : pG} {Q : pR → pM → Prop} {SL p q : Nat} {x1 x2 x3 x4 x5 x6 r : Int32} (hG : Geo G SL p q) (h : X (d + 5) 208 0 [.ref 68, .ref 88, .int 0, .null] [] (F, A, J, G) (KK (d + 6) 285 137 [.ref 68, .int x1, .int x2, .int x3, .int x4, .int x5, .int r] [] Q)) : KK (d + 6) 285 126 [.ref 68, .int x1, .int x2, .int x3, .int x4, .int x5, .int x6] [] Q (.inl (some (.int r))) (F, A, J, G) := by
  refine KKi ?_
  refine Y_is6 i_285_126 rfl ?_
  refine Y_al0 i_285_128 ?_
  refine Y_al0 i_285_129 ?_
  refine Y_gR i_285_130 ow_285 lf_10_94 (k_68 hG) (r_68_35 hG) ?_
  refine Y_iconst (v := 0) i_285_133 (by decide) ?_
  exact Y_iv2 (L0 := [.ref 68, .ref 88, .int 0, .null]) i_285_134 ow_285 lm_10_386 ((k_68 hG).trans ow_208.symm) rfl mx_208 rfl rfl hd_285 h
theorem k_285_137 {d : Nat} {F A : Nat → Nat → Int32} {J : Nat → Nat → Int64} {G : pG} {Q : pR → pM → Prop} {SL p q : Nat} {x1 x2 x3 x4 x5 x6 : Int32} (hG : Geo G SL p q) (h : ((x3 = 0 → Q (.inl (some (.int x4))) (F, A, J, G)) ∧ (¬ x3 = 0 → ((x3 = 1 → Q (.inl (some (.int x5))) (F, A, J, G)) ∧ (¬ x3 = 1 → Q (.inl (some (.int x6))) (F, A, J, G)))))) : KK (d + 6) 285 137 [.ref 68, .int x1, .int x2, .int x3, .int x4, .int x5, .int x6] [] Q (.inl none) (F, A, J, G) := by
  refine KKv ?_
  refine Y_il3 i_285_137 ?_
  refine Y_zne i_285_138 (fun e1 => ?_) (fun e1 => ?_)
  · replace h := h.1 e1
    refine Y_il4 i_285_141 ?_
    refine Y_goto i_285_143 ?_
    exact Y_iret i_285_158 rt_285 h
  · replace h := h.2 e1
    refine Y_il3 i_285_146 ?_
    refine Y_iconst (v := 1) i_285_147 (by decide) ?_
    refine Y_cne i_285_148 (fun e2 => ?_) (fun e2 => ?_)
    · replace h := h.1 e2
      refine Y_il5 i_285_151 ?_
      refine Y_goto i_285_153 ?_
      exact Y_iret i_285_158 rt_285 h
    · replace h := h.2 e2
      refine Y_il6 i_285_156 ?_
      exact Y_iret i_285_158 rt_285 h
/- 286 Model.be([I[I)V -/
theorem t_286_0 {d : Nat} {F A : Nat → Nat → Int32} {J : Nat → Nat → Int64} {G : pG} {Q : pR → pM → Prop} {SL p q : Nat} {a na : Nat} {b nb : Nat} (hG : Geo G SL p q) (hka : gK G a = 20) (hla : gL G a = na) (hkb : gK G b = 20) (hlb : gL G b = nb) (h : X d 286 2 [.ref a, .ref b, .int 0] [] (F, A, J, G) Q) : X d 286 0 [.ref a, .ref b, .null] [] (F, A, J, G) Q := by
  refine Y_iconst (v := 0) i_286_0 (by decide) ?_
  refine Y_is2 i_286_1 rfl ?_
  exact h
theorem t_286_2 {d : Nat} {F A : Nat → Nat → Int32} {J : Nat → Nat → Int64} {G : pG} {Q : pR → pM → Prop} {SL p q : Nat} {a na : Nat} {b nb : Nat} {x2 : Int32} (hG : Geo G SL p q) (hka : gK G a = 20) (hla : gL G a = na) (hkb : gK G b = 20) (hlb : gL G b = nb) (h : ((x2 < (nI na) → inB x2 nb = true ∧ inB x2 na = true ∧ (X d 286 2 [.ref a, .ref b, .int (x2 + 1)] [] (F, (wF A a x2.toNatClampNeg (A b x2.toNatClampNeg)), J, G) Q)) ∧ (¬ x2 < (nI na) → Q (.inl none) (F, A, J, G)))) : X d 286 2 [.ref a, .ref b, .int x2] [] (F, A, J, G) Q := by
  refine Y_il2 i_286_2 ?_
  refine Y_al0 i_286_3 ?_
  refine Y_alen (v := nI na) i_286_4 (Or.inl hka) hla rfl ?_
  refine Y_cge i_286_5 (fun e1 => ?_) (fun e1 => ?_)
  · replace h := h.1 e1
    refine Y_al0 i_286_8 ?_
    refine Y_il2 i_286_9 ?_
    refine Y_al1 i_286_10 ?_
    refine Y_il2 i_286_11 ?_
    have o2 := h.1
    replace h := h.2
    refine Y_iaload (k := x2.toNatClampNeg) (v := (A b x2.toNatClampNeg)) i_286_12 hkb hlb o2 rfl rfl ?_
    have o3 := h.1
    replace h := h.2
    refine Y_iast i_286_13 hka hla o3 rfl ?_
    refine Y_ii2 (v := 1) i_286_14 (by decide) rfl ?_
    refine Y_goto i_286_17 ?_
    exact h
  · replace h := h.2 e1
    exact Y_vret i_286_20 rt_286 h
/- 287 Model.image()V -/
theorem t_287_0 {d : Nat} {F A : Nat → Nat → Int32} {J : Nat → Nat → Int64} {G : pG} {Q : pR → pM → Prop} {SL p q : Nat} (hG : Geo G SL p q) (h : X d 207 0 [.ref 68, .ref 99, .int 0, .null] [] ((wF (wF (wF (wF F 68 3 0) 68 50 1) 68 51 (F 68 31)) 68 52 (F 68 32)), A, J, G) (KK (d + 1) 287 35 [.ref 68] [] Q)) : X (d + 1) 287 0 [.ref 68] [] (F, A, J, G) Q := by
  refine Y_al0 i_287_0 ?_
  refine Y_iconst (v := 0) i_287_1 (by decide) ?_
  refine Y_pI i_287_2 ow_287 lf_10_143 (k_68 hG) ?_
  refine Y_al0 i_287_5 ?_
  refine Y_iconst (v := 1) i_287_6 (by decide) ?_
  refine Y_pB i_287_7 ow_287 lf_10_291 (k_68 hG) (by decide) ?_
  refine Y_al0 i_287_10 ?_
  refine Y_al0 i_287_11 ?_
  refine Y_gI (v := (F 68 31)) i_287_12 ow_287 lf_10_285 (by decide) (k_68 hG) (by simp [wF, wJ, va_up, cpR, bF, bA]) ?_
  refine Y_pI i_287_15 ow_287 lf_10_474 (k_68 hG) ?_
  refine Y_al0 i_287_18 ?_
  refine Y_al0 i_287_19 ?_
  refine Y_gI (v := (F 68 32)) i_287_20 ow_287 lf_10_288 (by decide) (k_68 hG) (by simp [wF, wJ, va_up, cpR, bF, bA]) ?_
  refine Y_pI i_287_23 ow_287 lf_10_477 (k_68 hG) ?_
  refine Y_al0 i_287_26 ?_
  refine Y_al0 i_287_27 ?_
  refine Y_gR i_287_28 ow_287 lf_10_128 (k_68 hG) (r_68_53 hG) ?_
  refine Y_iconst (v := 0) i_287_31 (by decide) ?_
  exact Y_iv2 (L0 := [.ref 68, .ref 99, .int 0, .null]) i_287_32 ow_287 lm_10_347 ((k_68 hG).trans ow_207.symm) rfl mx_207 rfl rfl hd_287 h
theorem k_287_35 {d : Nat} {F A : Nat → Nat → Int32} {J : Nat → Nat → Int64} {G : pG} {Q : pR → pM → Prop} {SL p q : Nat} (hG : Geo G SL p q) (h : X d 286 0 [.ref 100, .ref 85, .null] [] (F, A, J, G) (KK (d + 1) 287 46 [.ref 68] [] Q)) : KK (d + 1) 287 35 [.ref 68] [] Q (.inl none) (F, A, J, G) := by
  refine KKv ?_
  refine Y_al0 i_287_35 ?_
  refine Y_gR i_287_36 ow_287 lf_10_131 (k_68 hG) (r_68_54 hG) ?_
  refine Y_al0 i_287_39 ?_
  refine Y_gR i_287_40 ow_287 lf_10_82 (k_68 hG) (r_68_27 hG) ?_
  exact Y_is_2 (L0 := [.ref 100, .ref 85, .null]) i_287_43 ow_287 lm_10_480 rfl mx_286 rfl rfl hd_287 h
theorem k_287_46 {d : Nat} {F A : Nat → Nat → Int32} {J : Nat → Nat → Int64} {G : pG} {Q : pR → pM → Prop} {SL p q : Nat} (hG : Geo G SL p q) (h : X d 286 0 [.ref 101, .ref 94, .null] [] (F, A, J, G) (KK (d + 1) 287 57 [.ref 68] [] Q)) : KK (d + 1) 287 46 [.ref 68] [] Q (.inl none) (F, A, J, G) := by
  refine KKv ?_
  refine Y_al0 i_287_46 ?_
  refine Y_gR i_287_47 ow_287 lf_10_134 (k_68 hG) (r_68_55 hG) ?_
  refine Y_al0 i_287_50 ?_
  refine Y_gR i_287_51 ow_287 lf_10_113 (k_68 hG) (r_68_43 hG) ?_
  exact Y_is_2 (L0 := [.ref 101, .ref 94, .null]) i_287_54 ow_287 lm_10_480 rfl mx_286 rfl rfl hd_287 h
theorem k_287_57 {d : Nat} {F A : Nat → Nat → Int32} {J : Nat → Nat → Int64} {G : pG} {Q : pR → pM → Prop} {SL p q : Nat} (hG : Geo G SL p q) (h : X d 286 0 [.ref 102, .ref 95, .null] [] (F, A, J, G) (KK (d + 1) 287 68 [.ref 68] [] Q)) : KK (d + 1) 287 57 [.ref 68] [] Q (.inl none) (F, A, J, G) := by
  refine KKv ?_
  refine Y_al0 i_287_57 ?_
  refine Y_gR i_287_58 ow_287 lf_10_137 (k_68 hG) (r_68_56 hG) ?_
  refine Y_al0 i_287_61 ?_
  refine Y_gR i_287_62 ow_287 lf_10_116 (k_68 hG) (r_68_44 hG) ?_
  exact Y_is_2 (L0 := [.ref 102, .ref 95, .null]) i_287_65 ow_287 lm_10_480 rfl mx_286 rfl rfl hd_287 h
theorem k_287_68 {d : Nat} {F A : Nat → Nat → Int32} {J : Nat → Nat → Int64} {G : pG} {Q : pR → pM → Prop} {SL p q : Nat} (hG : Geo G SL p q) (h : X d 286 0 [.ref 103, .ref 79, .null] [] (F, A, J, G) (KK (d + 1) 287 79 [.ref 68] [] Q)) : KK (d + 1) 287 68 [.ref 68] [] Q (.inl none) (F, A, J, G) := by
  refine KKv ?_
  refine Y_al0 i_287_68 ?_
  refine Y_gR i_287_69 ow_287 lf_10_140 (k_68 hG) (r_68_57 hG) ?_
  refine Y_al0 i_287_72 ?_
  refine Y_gR i_287_73 ow_287 lf_10_60 (k_68 hG) (r_68_11 hG) ?_
  exact Y_is_2 (L0 := [.ref 103, .ref 79, .null]) i_287_76 ow_287 lm_10_480 rfl mx_286 rfl rfl hd_287 h
theorem k_287_79 {d : Nat} {F A : Nat → Nat → Int32} {J : Nat → Nat → Int64} {G : pG} {Q : pR → pM → Prop} {SL p q : Nat} (hG : Geo G SL p q) (h : Q (.inl none) (F, A, J, G)) : KK (d + 1) 287 79 [.ref 68] [] Q (.inl none) (F, A, J, G) := by
  refine KKv ?_
  exact Y_vret i_287_79 rt_287 h
/- 288 Model.restore()Z -/
theorem t_288_0 {d : Nat} {F A : Nat → Nat → Int32} {J : Nat → Nat → Int64} {G : pG} {Q : pR → pM → Prop} {SL p q : Nat} (hG : Geo G SL p q) (h : (((F 68 50) = 0 → Q (.inl (some (.int 0))) ((wF F 68 3 0), A, J, G)) ∧ (¬ (F 68 50) = 0 → X d 208 0 [.ref 68, .ref 99, .int 0, .null] [] ((wF (wF (wF F 68 3 0) 68 31 (F 68 51)) 68 32 (F 68 52)), A, J, G) (KK (d + 1) 288 39 [.ref 68] [] Q)))) : X (d + 1) 288 0 [.ref 68] [] (F, A, J, G) Q := by
  refine Y_al0 i_288_0 ?_
  refine Y_iconst (v := 0) i_288_1 (by decide) ?_
  refine Y_pI i_288_2 ow_288 lf_10_143 (k_68 hG) ?_
  refine Y_al0 i_288_5 ?_
  refine Y_gI (v := (F 68 50)) i_288_6 ow_288 lf_10_291 (by decide) (k_68 hG) (by simp [wF, wJ, va_up, cpR, bF, bA]) ?_
  refine Y_zne i_288_9 (fun e1 => ?_) (fun e1 => ?_)
  · replace h := h.1 e1
    refine Y_iconst (v := 0) i_288_12 (by decide) ?_
    exact Y_bret i_288_13 rt_288 (by decide) h
  · replace h := h.2 e1
    refine Y_al0 i_288_14 ?_
    refine Y_al0 i_288_15 ?_
    refine Y_gI (v := (F 68 51)) i_288_16 ow_288 lf_10_474 (by decide) (k_68 hG) (by simp [wF, wJ, va_up, cpR, bF, bA]) ?_
    refine Y_pI i_288_19 ow_288 lf_10_285 (k_68 hG) ?_
    refine Y_al0 i_288_22 ?_
    refine Y_al0 i_288_23 ?_
    refine Y_gI (v := (F 68 52)) i_288_24 ow_288 lf_10_477 (by decide) (k_68 hG) (by simp [wF, wJ, va_up, cpR, bF, bA]) ?_
    refine Y_pI i_288_27 ow_288 lf_10_288 (k_68 hG) ?_
    refine Y_al0 i_288_30 ?_
    refine Y_al0 i_288_31 ?_
    refine Y_gR i_288_32 ow_288 lf_10_128 (k_68 hG) (r_68_53 hG) ?_
    refine Y_iconst (v := 0) i_288_35 (by decide) ?_
    exact Y_iv2 (L0 := [.ref 68, .ref 99, .int 0, .null]) i_288_36 ow_288 lm_10_386 ((k_68 hG).trans ow_208.symm) rfl mx_208 rfl rfl hd_288 h
theorem k_288_39 {d : Nat} {F A : Nat → Nat → Int32} {J : Nat → Nat → Int64} {G : pG} {Q : pR → pM → Prop} {SL p q : Nat} (hG : Geo G SL p q) (h : X d 286 0 [.ref 85, .ref 100, .null] [] (F, A, J, G) (KK (d + 1) 288 50 [.ref 68] [] Q)) : KK (d + 1) 288 39 [.ref 68] [] Q (.inl none) (F, A, J, G) := by
  refine KKv ?_
  refine Y_al0 i_288_39 ?_
  refine Y_gR i_288_40 ow_288 lf_10_82 (k_68 hG) (r_68_27 hG) ?_
  refine Y_al0 i_288_43 ?_
  refine Y_gR i_288_44 ow_288 lf_10_131 (k_68 hG) (r_68_54 hG) ?_
  exact Y_is_2 (L0 := [.ref 85, .ref 100, .null]) i_288_47 ow_288 lm_10_480 rfl mx_286 rfl rfl hd_288 h
theorem k_288_50 {d : Nat} {F A : Nat → Nat → Int32} {J : Nat → Nat → Int64} {G : pG} {Q : pR → pM → Prop} {SL p q : Nat} (hG : Geo G SL p q) (h : X d 286 0 [.ref 94, .ref 101, .null] [] (F, A, J, G) (KK (d + 1) 288 61 [.ref 68] [] Q)) : KK (d + 1) 288 50 [.ref 68] [] Q (.inl none) (F, A, J, G) := by
  refine KKv ?_
  refine Y_al0 i_288_50 ?_
  refine Y_gR i_288_51 ow_288 lf_10_113 (k_68 hG) (r_68_43 hG) ?_
  refine Y_al0 i_288_54 ?_
  refine Y_gR i_288_55 ow_288 lf_10_134 (k_68 hG) (r_68_55 hG) ?_
  exact Y_is_2 (L0 := [.ref 94, .ref 101, .null]) i_288_58 ow_288 lm_10_480 rfl mx_286 rfl rfl hd_288 h
theorem k_288_61 {d : Nat} {F A : Nat → Nat → Int32} {J : Nat → Nat → Int64} {G : pG} {Q : pR → pM → Prop} {SL p q : Nat} (hG : Geo G SL p q) (h : X d 286 0 [.ref 95, .ref 102, .null] [] (F, A, J, G) (KK (d + 1) 288 72 [.ref 68] [] Q)) : KK (d + 1) 288 61 [.ref 68] [] Q (.inl none) (F, A, J, G) := by
  refine KKv ?_
  refine Y_al0 i_288_61 ?_
  refine Y_gR i_288_62 ow_288 lf_10_116 (k_68 hG) (r_68_44 hG) ?_
  refine Y_al0 i_288_65 ?_
  refine Y_gR i_288_66 ow_288 lf_10_137 (k_68 hG) (r_68_56 hG) ?_
  exact Y_is_2 (L0 := [.ref 95, .ref 102, .null]) i_288_69 ow_288 lm_10_480 rfl mx_286 rfl rfl hd_288 h
theorem k_288_72 {d : Nat} {F A : Nat → Nat → Int32} {J : Nat → Nat → Int64} {G : pG} {Q : pR → pM → Prop} {SL p q : Nat} (hG : Geo G SL p q) (h : X d 286 0 [.ref 79, .ref 103, .null] [] (F, A, J, G) (KK (d + 1) 288 83 [.ref 68] [] Q)) : KK (d + 1) 288 72 [.ref 68] [] Q (.inl none) (F, A, J, G) := by
  refine KKv ?_
  refine Y_al0 i_288_72 ?_
  refine Y_gR i_288_73 ow_288 lf_10_60 (k_68 hG) (r_68_11 hG) ?_
  refine Y_al0 i_288_76 ?_
  refine Y_gR i_288_77 ow_288 lf_10_140 (k_68 hG) (r_68_57 hG) ?_
  exact Y_is_2 (L0 := [.ref 79, .ref 103, .null]) i_288_80 ow_288 lm_10_480 rfl mx_286 rfl rfl hd_288 h
theorem k_288_83 {d : Nat} {F A : Nat → Nat → Int32} {J : Nat → Nat → Int64} {G : pG} {Q : pR → pM → Prop} {SL p q : Nat} (hG : Geo G SL p q) (h : Q (.inl (some (.int 1))) (F, A, J, G)) : KK (d + 1) 288 83 [.ref 68] [] Q (.inl none) (F, A, J, G) := by
  refine KKv ?_
  refine Y_iconst (v := 1) i_288_83 (by decide) ?_
  exact Y_bret i_288_84 rt_288 (by decide) h
end Tr14i
