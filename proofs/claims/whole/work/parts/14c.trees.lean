section Tr14c
/- 64 State.putOn(II)I -/
theorem t_64_0 {d : Nat} {F A : Nat → Nat → Int32} {J : Nat → Nat → Int64} {G : pG} {Q : pR → pM → Prop} {SL p q : Nat} {x1 x2 : Int32} (hG : Geo G SL p q) (h : hB (F 27 1) = true ∧ (((lvI (A 28) (F 27 1) x1) = (-1) → ((x2 < 0 → Q (.inl (some (.int (-1)))) (F, (wF A 26 1 ((A 26 1) + 1)), J, G)) ∧ (¬ x2 < 0 → (((F 27 1) < x2 → Q (.inl (some (.int (-1)))) (F, (wF A 26 1 ((A 26 1) + 1)), J, G)) ∧ (¬ (F 27 1) < x2 → X (d + 1) 79 0 [.ref 27, .int x1, .int x2, .null] [] (F, A, J, G) (KK (d + 2) 64 42 [.ref 21, .int x1, .int x2] [] Q)))))) ∧ (¬ (lvI (A 28) (F 27 1) x1) = (-1) → Q (.inl (some (.int (-1)))) (F, (wF A 26 1 ((A 26 1) + 1)), J, G)))) : X (d + 2) 64 0 [.ref 21, .int x1, .int x2] [] (F, A, J, G) Q := by
  refine Y_al0 i_64_0 ?_
  refine Y_gR i_64_1 ow_64 lf_5_33 (k_21 hG) (r_21_0 hG) ?_
  refine Y_il1 i_64_4 ?_
  have o1 := h.1
  replace h := h.2
  refine Y_iv1 (L0 := [.ref 27, .int x1, .null]) i_64_5 ow_64 lm_5_64 ((k_27 hG).trans ow_77.symm) rfl mx_77 rfl rfl hd_64 ?_
  refine c_77 hG tw_27 o1 (KKi' (v' := (lvI (A 28) (F 27 1) x1)) (by simp [wF, wJ, va_up, cpR, bF, bA]) ?_)
  refine Y_iconst (v := (-1)) i_64_8 (by decide) ?_
  refine Y_cne i_64_9 (fun e2 => ?_) (fun e2 => ?_)
  · replace h := h.1 e2
    refine Y_il2 i_64_12 ?_
    refine Y_zlt i_64_13 (fun e3 => ?_) (fun e3 => ?_)
    · replace h := h.1 e3
      refine Y_al0 i_64_27 ?_
      refine Y_iconst (v := 1) i_64_28 (by decide) ?_
      refine Y_iv1 (L0 := [.ref 21, .int 1]) i_64_29 ow_64 lm_5_71 ((k_21 hG).trans ow_63.symm) rfl mx_63 rfl rfl hd_64 ?_
      refine Y_al0 i_63_0 ?_
      refine Y_gR i_63_1 ow_63 lf_5_25 (k_21 hG) (r_21_5 hG) ?_
      refine Y_il1 i_63_4 ?_
      refine Y_dup2 i_63_5 rfl rfl ?_
      refine Y_iaload (k := 1) (v := (A 26 1)) i_63_6 (k_26 hG) (l_26 hG) (by decide) (by decide) rfl ?_
      refine Y_iconst (v := 1) i_63_7 (by decide) ?_
      refine Y_iadd i_63_8 ?_
      refine Y_iast (k := 1) i_63_9 (k_26 hG) (l_26 hG) (by decide) (by decide) ?_
      refine Y_iconst (v := (-1)) i_63_10 (by decide) ?_
      refine Y_iret i_63_11 rt_63 (KKi ?_)
      exact Y_iret i_64_32 rt_64 h
    · replace h := h.2 e3
      refine Y_il2 i_64_16 ?_
      refine Y_al0 i_64_17 ?_
      refine Y_gR i_64_18 ow_64 lf_5_33 (k_21 hG) (r_21_0 hG) ?_
      refine Y_gI (v := (F 27 1)) i_64_21 ow_64 lf_5_68 (by decide) (k_27 hG) rfl ?_
      refine Y_cle i_64_24 (fun e4 => ?_) (fun e4 => ?_)
      · replace h := h.1 e4
        refine Y_al0 i_64_27 ?_
        refine Y_iconst (v := 1) i_64_28 (by decide) ?_
        refine Y_iv1 (L0 := [.ref 21, .int 1]) i_64_29 ow_64 lm_5_71 ((k_21 hG).trans ow_63.symm) rfl mx_63 rfl rfl hd_64 ?_
        refine Y_al0 i_63_0 ?_
        refine Y_gR i_63_1 ow_63 lf_5_25 (k_21 hG) (r_21_5 hG) ?_
        refine Y_il1 i_63_4 ?_
        refine Y_dup2 i_63_5 rfl rfl ?_
        refine Y_iaload (k := 1) (v := (A 26 1)) i_63_6 (k_26 hG) (l_26 hG) (by decide) (by decide) rfl ?_
        refine Y_iconst (v := 1) i_63_7 (by decide) ?_
        refine Y_iadd i_63_8 ?_
        refine Y_iast (k := 1) i_63_9 (k_26 hG) (l_26 hG) (by decide) (by decide) ?_
        refine Y_iconst (v := (-1)) i_63_10 (by decide) ?_
        refine Y_iret i_63_11 rt_63 (KKi ?_)
        exact Y_iret i_64_32 rt_64 h
      · replace h := h.2 e4
        refine Y_al0 i_64_33 ?_
        refine Y_gR i_64_34 ow_64 lf_5_33 (k_21 hG) (r_21_0 hG) ?_
        refine Y_il1 i_64_37 ?_
        refine Y_il2 i_64_38 ?_
        exact Y_iv2 (L0 := [.ref 27, .int x1, .int x2, .null]) i_64_39 ow_64 lm_5_74 ((k_27 hG).trans ow_79.symm) rfl mx_79 rfl rfl hd_64 h
  · replace h := h.2 e2
    refine Y_al0 i_64_27 ?_
    refine Y_iconst (v := 1) i_64_28 (by decide) ?_
    refine Y_iv1 (L0 := [.ref 21, .int 1]) i_64_29 ow_64 lm_5_71 ((k_21 hG).trans ow_63.symm) rfl mx_63 rfl rfl hd_64 ?_
    refine Y_al0 i_63_0 ?_
    refine Y_gR i_63_1 ow_63 lf_5_25 (k_21 hG) (r_21_5 hG) ?_
    refine Y_il1 i_63_4 ?_
    refine Y_dup2 i_63_5 rfl rfl ?_
    refine Y_iaload (k := 1) (v := (A 26 1)) i_63_6 (k_26 hG) (l_26 hG) (by decide) (by decide) rfl ?_
    refine Y_iconst (v := 1) i_63_7 (by decide) ?_
    refine Y_iadd i_63_8 ?_
    refine Y_iast (k := 1) i_63_9 (k_26 hG) (l_26 hG) (by decide) (by decide) ?_
    refine Y_iconst (v := (-1)) i_63_10 (by decide) ?_
    refine Y_iret i_63_11 rt_63 (KKi ?_)
    exact Y_iret i_64_32 rt_64 h
theorem k_64_42 {d : Nat} {F A : Nat → Nat → Int32} {J : Nat → Nat → Int64} {G : pG} {Q : pR → pM → Prop} {SL p q : Nat} {x1 x2 : Int32} (hG : Geo G SL p q) (h : (((F 22 0) < 40 → inB ((F 22 0) * 14) 560 = true ∧ inB (((F 22 0) * 14) + 1) 560 = true ∧ inB (((F 22 0) * 14) + 2) 560 = true ∧ inB (((F 22 0) * 14) + 3) 560 = true ∧ (Q (.inl (some (.int (F 27 1)))) ((wF (wF F 22 0 ((F 22 0) + 1)) 21 6 1), (wF (wF (wF (wF A 23 ((F 22 0) * 14).toNatClampNeg 0) 23 (((F 22 0) * 14) + 1).toNatClampNeg x2) 23 (((F 22 0) * 14) + 2).toNatClampNeg 0) 23 (((F 22 0) * 14) + 3).toNatClampNeg 0), J, G))) ∧ (¬ (F 22 0) < 40 → (¬ (14 : Int32) < 0 ∧ ¬ (0 : Int32) < 0 ∧ ¬ ((39 : Int32) * 14) < 0 ∧ (14 : Int32).toNatClampNeg + ((39 : Int32) * 14).toNatClampNeg ≤ 560 ∧ (0 : Int32).toNatClampNeg + ((39 : Int32) * 14).toNatClampNeg ≤ 560) ∧ inB ((39 : Int32) * 14) 560 = true ∧ inB (((39 : Int32) * 14) + 1) 560 = true ∧ inB (((39 : Int32) * 14) + 2) 560 = true ∧ inB (((39 : Int32) * 14) + 3) 560 = true ∧ (Q (.inl (some (.int (F 27 1)))) ((wF (wF (wF F 22 0 39) 22 0 ((39 : Int32) + 1)) 21 6 1), (wF (wF (wF (wF (cpR A 23 23 14 0 ((39 : Int32) * 14).toNatClampNeg) 23 ((39 : Int32) * 14).toNatClampNeg 0) 23 (((39 : Int32) * 14) + 1).toNatClampNeg x2) 23 (((39 : Int32) * 14) + 2).toNatClampNeg 0) 23 (((39 : Int32) * 14) + 3).toNatClampNeg 0), J, G))))) : KK (d + 2) 64 42 [.ref 21, .int x1, .int x2] [] Q (.inl none) (F, A, J, G) := by
  refine KKv ?_
  refine Y_al0 i_64_42 ?_
  refine Y_iconst (v := 0) i_64_43 (by decide) ?_
  refine Y_il2 i_64_44 ?_
  refine Y_iconst (v := 0) i_64_45 (by decide) ?_
  refine Y_iconst (v := 0) i_64_46 (by decide) ?_
  refine Y_iv4 (L0 := [.ref 21, .int 0, .int x2, .int 0, .int 0]) i_64_47 ow_64 lm_5_78 ((k_21 hG).trans ow_73.symm) rfl mx_73 rfl rfl hd_64 ?_
  refine Y_al0 i_73_0 ?_
  refine Y_gR i_73_1 ow_73 lf_5_12 (k_21 hG) (r_21_1 hG) ?_
  refine Y_il1 i_73_4 ?_
  refine Y_il2 i_73_5 ?_
  refine Y_il3 i_73_6 ?_
  refine Y_il4 i_73_7 ?_
  refine Y_iv4 (L0 := [.ref 22, .int 0, .int x2, .int 0, .int 0, .null]) i_73_9 ow_73 lm_5_114 ((k_22 hG).trans ow_2.symm) rfl mx_2 rfl rfl hd_73 ?_
  refine Y_al0 i_2_0 ?_
  refine Y_gI (v := (F 22 0)) i_2_1 ow_2 lf_0_15 (by decide) (k_22 hG) rfl ?_
  refine Y_bipush (v := 40) i_2_4 (by decide) ?_
  refine Y_clt i_2_6 (fun e1 => ?_) (fun e1 => ?_)
  · replace h := h.1 e1
    refine Y_al0 i_2_36 ?_
    refine Y_gI (v := (F 22 0)) i_2_37 ow_2 lf_0_15 (by decide) (k_22 hG) rfl ?_
    refine Y_bipush (v := 14) i_2_40 (by decide) ?_
    refine Y_imul i_2_42 ?_
    refine Y_is5 i_2_43 rfl ?_
    refine Y_al0 i_2_45 ?_
    refine Y_gR i_2_46 ow_2 lf_0_11 (k_22 hG) (r_22_1 hG) ?_
    refine Y_il5 i_2_49 ?_
    refine Y_il1 i_2_51 ?_
    have o2 := h.1
    replace h := h.2
    refine Y_iast i_2_52 (k_23 hG) (l_23 hG) o2 rfl ?_
    refine Y_al0 i_2_53 ?_
    refine Y_gR i_2_54 ow_2 lf_0_11 (k_22 hG) (r_22_1 hG) ?_
    refine Y_il5 i_2_57 ?_
    refine Y_iconst (v := 1) i_2_59 (by decide) ?_
    refine Y_iadd i_2_60 ?_
    refine Y_il2 i_2_61 ?_
    have o3 := h.1
    replace h := h.2
    refine Y_iast i_2_62 (k_23 hG) (l_23 hG) o3 rfl ?_
    refine Y_al0 i_2_63 ?_
    refine Y_gR i_2_64 ow_2 lf_0_11 (k_22 hG) (r_22_1 hG) ?_
    refine Y_il5 i_2_67 ?_
    refine Y_iconst (v := 2) i_2_69 (by decide) ?_
    refine Y_iadd i_2_70 ?_
    refine Y_il3 i_2_71 ?_
    have o4 := h.1
    replace h := h.2
    refine Y_iast i_2_72 (k_23 hG) (l_23 hG) o4 rfl ?_
    refine Y_al0 i_2_73 ?_
    refine Y_gR i_2_74 ow_2 lf_0_11 (k_22 hG) (r_22_1 hG) ?_
    refine Y_il5 i_2_77 ?_
    refine Y_iconst (v := 3) i_2_79 (by decide) ?_
    refine Y_iadd i_2_80 ?_
    refine Y_il4 i_2_81 ?_
    have o5 := h.1
    replace h := h.2
    refine Y_iast i_2_83 (k_23 hG) (l_23 hG) o5 rfl ?_
    refine Y_al0 i_2_84 ?_
    refine Y_dup i_2_85 rfl ?_
    refine Y_gI (v := (F 22 0)) i_2_86 ow_2 lf_0_15 (by decide) (k_22 hG) rfl ?_
    refine Y_iconst (v := 1) i_2_89 (by decide) ?_
    refine Y_iadd i_2_90 ?_
    refine Y_pI i_2_91 ow_2 lf_0_15 (k_22 hG) ?_
    refine Y_vret i_2_94 rt_2 (KKv ?_)
    refine Y_al0 i_73_12 ?_
    refine Y_iconst (v := 1) i_73_13 (by decide) ?_
    refine Y_pB i_73_14 ow_73 lf_5_37 (k_21 hG) (by decide) ?_
    refine Y_vret i_73_17 rt_73 (KKv ?_)
    refine Y_al0 i_64_50 ?_
    refine Y_gR i_64_51 ow_64 lf_5_33 (k_21 hG) (r_21_0 hG) ?_
    refine Y_gI (v := (F 27 1)) i_64_54 ow_64 lf_5_68 (by decide) (k_27 hG) (by simp [wF, wJ, va_up, cpR, bF, bA]) ?_
    exact Y_iret i_64_57 rt_64 h
  · replace h := h.2 e1
    refine Y_al0 i_2_9 ?_
    refine Y_bipush (v := 39) i_2_10 (by decide) ?_
    refine Y_pI i_2_12 ow_2 lf_0_15 (k_22 hG) ?_
    refine Y_al0 i_2_15 ?_
    refine Y_gR i_2_16 ow_2 lf_0_11 (k_22 hG) (r_22_1 hG) ?_
    refine Y_bipush (v := 14) i_2_19 (by decide) ?_
    refine Y_al0 i_2_21 ?_
    refine Y_gR i_2_22 ow_2 lf_0_11 (k_22 hG) (r_22_1 hG) ?_
    refine Y_iconst (v := 0) i_2_25 (by decide) ?_
    refine Y_al0 i_2_26 ?_
    refine Y_gI (v := 39) i_2_27 ow_2 lf_0_15 (by decide) (k_22 hG) (by simp [wF, wJ, va_up, cpR, bF, bA]) ?_
    refine Y_bipush (v := 14) i_2_30 (by decide) ?_
    refine Y_imul i_2_32 ?_
    have o6 := h.1
    replace h := h.2
    refine Y_acp (ksp := 14) (kdp := 0) (kn := ((39 : Int32) * 14).toNatClampNeg) i_2_33 ow_2 lm_0_19 rfl (k_23 hG) (k_23 hG) (l_23 hG) (l_23 hG) o6 (by decide) (by decide) rfl ?_
    refine Y_al0 i_2_36 ?_
    refine Y_gI (v := 39) i_2_37 ow_2 lf_0_15 (by decide) (k_22 hG) (by simp [wF, wJ, va_up, cpR, bF, bA]) ?_
    refine Y_bipush (v := 14) i_2_40 (by decide) ?_
    refine Y_imul i_2_42 ?_
    refine Y_is5 i_2_43 rfl ?_
    refine Y_al0 i_2_45 ?_
    refine Y_gR i_2_46 ow_2 lf_0_11 (k_22 hG) (r_22_1 hG) ?_
    refine Y_il5 i_2_49 ?_
    refine Y_il1 i_2_51 ?_
    have o7 := h.1
    replace h := h.2
    refine Y_iast i_2_52 (k_23 hG) (l_23 hG) o7 rfl ?_
    refine Y_al0 i_2_53 ?_
    refine Y_gR i_2_54 ow_2 lf_0_11 (k_22 hG) (r_22_1 hG) ?_
    refine Y_il5 i_2_57 ?_
    refine Y_iconst (v := 1) i_2_59 (by decide) ?_
    refine Y_iadd i_2_60 ?_
    refine Y_il2 i_2_61 ?_
    have o8 := h.1
    replace h := h.2
    refine Y_iast i_2_62 (k_23 hG) (l_23 hG) o8 rfl ?_
    refine Y_al0 i_2_63 ?_
    refine Y_gR i_2_64 ow_2 lf_0_11 (k_22 hG) (r_22_1 hG) ?_
    refine Y_il5 i_2_67 ?_
    refine Y_iconst (v := 2) i_2_69 (by decide) ?_
    refine Y_iadd i_2_70 ?_
    refine Y_il3 i_2_71 ?_
    have o9 := h.1
    replace h := h.2
    refine Y_iast i_2_72 (k_23 hG) (l_23 hG) o9 rfl ?_
    refine Y_al0 i_2_73 ?_
    refine Y_gR i_2_74 ow_2 lf_0_11 (k_22 hG) (r_22_1 hG) ?_
    refine Y_il5 i_2_77 ?_
    refine Y_iconst (v := 3) i_2_79 (by decide) ?_
    refine Y_iadd i_2_80 ?_
    refine Y_il4 i_2_81 ?_
    have o10 := h.1
    replace h := h.2
    refine Y_iast i_2_83 (k_23 hG) (l_23 hG) o10 rfl ?_
    refine Y_al0 i_2_84 ?_
    refine Y_dup i_2_85 rfl ?_
    refine Y_gI (v := 39) i_2_86 ow_2 lf_0_15 (by decide) (k_22 hG) (by simp [wF, wJ, va_up, cpR, bF, bA]) ?_
    refine Y_iconst (v := 1) i_2_89 (by decide) ?_
    refine Y_iadd i_2_90 ?_
    refine Y_pI i_2_91 ow_2 lf_0_15 (k_22 hG) ?_
    refine Y_vret i_2_94 rt_2 (KKv ?_)
    refine Y_al0 i_73_12 ?_
    refine Y_iconst (v := 1) i_73_13 (by decide) ?_
    refine Y_pB i_73_14 ow_73 lf_5_37 (k_21 hG) (by decide) ?_
    refine Y_vret i_73_17 rt_73 (KKv ?_)
    refine Y_al0 i_64_50 ?_
    refine Y_gR i_64_51 ow_64 lf_5_33 (k_21 hG) (r_21_0 hG) ?_
    refine Y_gI (v := (F 27 1)) i_64_54 ow_64 lf_5_68 (by decide) (k_27 hG) (by simp [wF, wJ, va_up, cpR, bF, bA]) ?_
    exact Y_iret i_64_57 rt_64 h
/- 65 State.takeOff(I)I -/
theorem t_65_0 {d : Nat} {F A : Nat → Nat → Int32} {J : Nat → Nat → Int64} {G : pG} {Q : pR → pM → Prop} {SL p q : Nat} {x1 : Int32} (hG : Geo G SL p q) (h : hB (F 27 1) = true ∧ (((lvI (A 28) (F 27 1) x1) = (-1) → Q (.inl (some (.int (-1)))) (F, (wF A 26 1 ((A 26 1) + 1)), J, G)) ∧ (¬ (lvI (A 28) (F 27 1) x1) = (-1) → inB x1 10 = true ∧ (((F 22 0) < 40 → inB ((F 22 0) * 14) 560 = true ∧ inB (((F 22 0) * 14) + 1) 560 = true ∧ inB (((F 22 0) * 14) + 2) 560 = true ∧ inB (((F 22 0) * 14) + 3) 560 = true ∧ (X (d + 1) 80 0 [.ref 27, .int (lvI (A 28) (F 27 1) x1), .null] [] ((wF (wF F 22 0 ((F 22 0) + 1)) 21 6 1), (wF (wF (wF (wF A 23 ((F 22 0) * 14).toNatClampNeg 1) 23 (((F 22 0) * 14) + 1).toNatClampNeg x1) 23 (((F 22 0) * 14) + 2).toNatClampNeg (lvI (A 28) (F 27 1) x1)) 23 (((F 22 0) * 14) + 3).toNatClampNeg (A 29 x1.toNatClampNeg)), J, G) (KK (d + 2) 65 44 [.ref 21, .int x1, .int (lvI (A 28) (F 27 1) x1)] [] Q))) ∧ (¬ (F 22 0) < 40 → (¬ (14 : Int32) < 0 ∧ ¬ (0 : Int32) < 0 ∧ ¬ ((39 : Int32) * 14) < 0 ∧ (14 : Int32).toNatClampNeg + ((39 : Int32) * 14).toNatClampNeg ≤ 560 ∧ (0 : Int32).toNatClampNeg + ((39 : Int32) * 14).toNatClampNeg ≤ 560) ∧ inB ((39 : Int32) * 14) 560 = true ∧ inB (((39 : Int32) * 14) + 1) 560 = true ∧ inB (((39 : Int32) * 14) + 2) 560 = true ∧ inB (((39 : Int32) * 14) + 3) 560 = true ∧ (X (d + 1) 80 0 [.ref 27, .int (lvI (A 28) (F 27 1) x1), .null] [] ((wF (wF (wF F 22 0 39) 22 0 ((39 : Int32) + 1)) 21 6 1), (wF (wF (wF (wF (cpR A 23 23 14 0 ((39 : Int32) * 14).toNatClampNeg) 23 ((39 : Int32) * 14).toNatClampNeg 1) 23 (((39 : Int32) * 14) + 1).toNatClampNeg x1) 23 (((39 : Int32) * 14) + 2).toNatClampNeg (lvI (A 28) (F 27 1) x1)) 23 (((39 : Int32) * 14) + 3).toNatClampNeg (A 29 x1.toNatClampNeg)), J, G) (KK (d + 2) 65 44 [.ref 21, .int x1, .int (lvI (A 28) (F 27 1) x1)] [] Q))))))) : X (d + 2) 65 0 [.ref 21, .int x1, .null] [] (F, A, J, G) Q := by
  refine Y_al0 i_65_0 ?_
  refine Y_gR i_65_1 ow_65 lf_5_33 (k_21 hG) (r_21_0 hG) ?_
  refine Y_il1 i_65_4 ?_
  have o1 := h.1
  replace h := h.2
  refine Y_iv1 (L0 := [.ref 27, .int x1, .null]) i_65_5 ow_65 lm_5_64 ((k_27 hG).trans ow_77.symm) rfl mx_77 rfl rfl hd_65 ?_
  refine c_77 hG tw_27 o1 (KKi' (v' := (lvI (A 28) (F 27 1) x1)) (by simp [wF, wJ, va_up, cpR, bF, bA]) ?_)
  refine Y_is2 i_65_8 rfl ?_
  refine Y_il2 i_65_9 ?_
  refine Y_iconst (v := (-1)) i_65_10 (by decide) ?_
  refine Y_cne i_65_11 (fun e2 => ?_) (fun e2 => ?_)
  · replace h := h.1 e2
    refine Y_al0 i_65_14 ?_
    refine Y_iconst (v := 1) i_65_15 (by decide) ?_
    refine Y_iv1 (L0 := [.ref 21, .int 1]) i_65_16 ow_65 lm_5_71 ((k_21 hG).trans ow_63.symm) rfl mx_63 rfl rfl hd_65 ?_
    refine Y_al0 i_63_0 ?_
    refine Y_gR i_63_1 ow_63 lf_5_25 (k_21 hG) (r_21_5 hG) ?_
    refine Y_il1 i_63_4 ?_
    refine Y_dup2 i_63_5 rfl rfl ?_
    refine Y_iaload (k := 1) (v := (A 26 1)) i_63_6 (k_26 hG) (l_26 hG) (by decide) (by decide) rfl ?_
    refine Y_iconst (v := 1) i_63_7 (by decide) ?_
    refine Y_iadd i_63_8 ?_
    refine Y_iast (k := 1) i_63_9 (k_26 hG) (l_26 hG) (by decide) (by decide) ?_
    refine Y_iconst (v := (-1)) i_63_10 (by decide) ?_
    refine Y_iret i_63_11 rt_63 (KKi ?_)
    exact Y_iret i_65_19 rt_65 h
  · replace h := h.2 e2
    refine Y_al0 i_65_20 ?_
    refine Y_iconst (v := 1) i_65_21 (by decide) ?_
    refine Y_il1 i_65_22 ?_
    refine Y_il2 i_65_23 ?_
    refine Y_al0 i_65_24 ?_
    refine Y_gR i_65_25 ow_65 lf_5_33 (k_21 hG) (r_21_0 hG) ?_
    refine Y_gR i_65_28 ow_65 lf_5_82 (k_27 hG) (r_27_5 hG) ?_
    refine Y_il1 i_65_31 ?_
    have o3 := h.1
    replace h := h.2
    refine Y_iaload (k := x1.toNatClampNeg) (v := (A 29 x1.toNatClampNeg)) i_65_32 (k_29 hG) (l_29 hG) o3 rfl rfl ?_
    refine Y_iv4 (L0 := [.ref 21, .int 1, .int x1, .int (lvI (A 28) (F 27 1) x1), .int (A 29 x1.toNatClampNeg)]) i_65_33 ow_65 lm_5_78 ((k_21 hG).trans ow_73.symm) rfl mx_73 rfl rfl hd_65 ?_
    refine Y_al0 i_73_0 ?_
    refine Y_gR i_73_1 ow_73 lf_5_12 (k_21 hG) (r_21_1 hG) ?_
    refine Y_il1 i_73_4 ?_
    refine Y_il2 i_73_5 ?_
    refine Y_il3 i_73_6 ?_
    refine Y_il4 i_73_7 ?_
    refine Y_iv4 (L0 := [.ref 22, .int 1, .int x1, .int (lvI (A 28) (F 27 1) x1), .int (A 29 x1.toNatClampNeg), .null]) i_73_9 ow_73 lm_5_114 ((k_22 hG).trans ow_2.symm) rfl mx_2 rfl rfl hd_73 ?_
    refine Y_al0 i_2_0 ?_
    refine Y_gI (v := (F 22 0)) i_2_1 ow_2 lf_0_15 (by decide) (k_22 hG) rfl ?_
    refine Y_bipush (v := 40) i_2_4 (by decide) ?_
    refine Y_clt i_2_6 (fun e4 => ?_) (fun e4 => ?_)
    · replace h := h.1 e4
      refine Y_al0 i_2_36 ?_
      refine Y_gI (v := (F 22 0)) i_2_37 ow_2 lf_0_15 (by decide) (k_22 hG) rfl ?_
      refine Y_bipush (v := 14) i_2_40 (by decide) ?_
      refine Y_imul i_2_42 ?_
      refine Y_is5 i_2_43 rfl ?_
      refine Y_al0 i_2_45 ?_
      refine Y_gR i_2_46 ow_2 lf_0_11 (k_22 hG) (r_22_1 hG) ?_
      refine Y_il5 i_2_49 ?_
      refine Y_il1 i_2_51 ?_
      have o5 := h.1
      replace h := h.2
      refine Y_iast i_2_52 (k_23 hG) (l_23 hG) o5 rfl ?_
      refine Y_al0 i_2_53 ?_
      refine Y_gR i_2_54 ow_2 lf_0_11 (k_22 hG) (r_22_1 hG) ?_
      refine Y_il5 i_2_57 ?_
      refine Y_iconst (v := 1) i_2_59 (by decide) ?_
      refine Y_iadd i_2_60 ?_
      refine Y_il2 i_2_61 ?_
      have o6 := h.1
      replace h := h.2
      refine Y_iast i_2_62 (k_23 hG) (l_23 hG) o6 rfl ?_
      refine Y_al0 i_2_63 ?_
      refine Y_gR i_2_64 ow_2 lf_0_11 (k_22 hG) (r_22_1 hG) ?_
      refine Y_il5 i_2_67 ?_
      refine Y_iconst (v := 2) i_2_69 (by decide) ?_
      refine Y_iadd i_2_70 ?_
      refine Y_il3 i_2_71 ?_
      have o7 := h.1
      replace h := h.2
      refine Y_iast i_2_72 (k_23 hG) (l_23 hG) o7 rfl ?_
      refine Y_al0 i_2_73 ?_
      refine Y_gR i_2_74 ow_2 lf_0_11 (k_22 hG) (r_22_1 hG) ?_
      refine Y_il5 i_2_77 ?_
      refine Y_iconst (v := 3) i_2_79 (by decide) ?_
      refine Y_iadd i_2_80 ?_
      refine Y_il4 i_2_81 ?_
      have o8 := h.1
      replace h := h.2
      refine Y_iast i_2_83 (k_23 hG) (l_23 hG) o8 rfl ?_
      refine Y_al0 i_2_84 ?_
      refine Y_dup i_2_85 rfl ?_
      refine Y_gI (v := (F 22 0)) i_2_86 ow_2 lf_0_15 (by decide) (k_22 hG) rfl ?_
      refine Y_iconst (v := 1) i_2_89 (by decide) ?_
      refine Y_iadd i_2_90 ?_
      refine Y_pI i_2_91 ow_2 lf_0_15 (k_22 hG) ?_
      refine Y_vret i_2_94 rt_2 (KKv ?_)
      refine Y_al0 i_73_12 ?_
      refine Y_iconst (v := 1) i_73_13 (by decide) ?_
      refine Y_pB i_73_14 ow_73 lf_5_37 (k_21 hG) (by decide) ?_
      refine Y_vret i_73_17 rt_73 (KKv ?_)
      refine Y_al0 i_65_36 ?_
      refine Y_gR i_65_37 ow_65 lf_5_33 (k_21 hG) (r_21_0 hG) ?_
      refine Y_il2 i_65_40 ?_
      exact Y_iv1 (L0 := [.ref 27, .int (lvI (A 28) (F 27 1) x1), .null]) i_65_41 ow_65 lm_5_85 ((k_27 hG).trans ow_80.symm) rfl mx_80 rfl rfl hd_65 h
    · replace h := h.2 e4
      refine Y_al0 i_2_9 ?_
      refine Y_bipush (v := 39) i_2_10 (by decide) ?_
      refine Y_pI i_2_12 ow_2 lf_0_15 (k_22 hG) ?_
      refine Y_al0 i_2_15 ?_
      refine Y_gR i_2_16 ow_2 lf_0_11 (k_22 hG) (r_22_1 hG) ?_
      refine Y_bipush (v := 14) i_2_19 (by decide) ?_
      refine Y_al0 i_2_21 ?_
      refine Y_gR i_2_22 ow_2 lf_0_11 (k_22 hG) (r_22_1 hG) ?_
      refine Y_iconst (v := 0) i_2_25 (by decide) ?_
      refine Y_al0 i_2_26 ?_
      refine Y_gI (v := 39) i_2_27 ow_2 lf_0_15 (by decide) (k_22 hG) (by simp [wF, wJ, va_up, cpR, bF, bA]) ?_
      refine Y_bipush (v := 14) i_2_30 (by decide) ?_
      refine Y_imul i_2_32 ?_
      have o9 := h.1
      replace h := h.2
      refine Y_acp (ksp := 14) (kdp := 0) (kn := ((39 : Int32) * 14).toNatClampNeg) i_2_33 ow_2 lm_0_19 rfl (k_23 hG) (k_23 hG) (l_23 hG) (l_23 hG) o9 (by decide) (by decide) rfl ?_
      refine Y_al0 i_2_36 ?_
      refine Y_gI (v := 39) i_2_37 ow_2 lf_0_15 (by decide) (k_22 hG) (by simp [wF, wJ, va_up, cpR, bF, bA]) ?_
      refine Y_bipush (v := 14) i_2_40 (by decide) ?_
      refine Y_imul i_2_42 ?_
      refine Y_is5 i_2_43 rfl ?_
      refine Y_al0 i_2_45 ?_
      refine Y_gR i_2_46 ow_2 lf_0_11 (k_22 hG) (r_22_1 hG) ?_
      refine Y_il5 i_2_49 ?_
      refine Y_il1 i_2_51 ?_
      have o10 := h.1
      replace h := h.2
      refine Y_iast i_2_52 (k_23 hG) (l_23 hG) o10 rfl ?_
      refine Y_al0 i_2_53 ?_
      refine Y_gR i_2_54 ow_2 lf_0_11 (k_22 hG) (r_22_1 hG) ?_
      refine Y_il5 i_2_57 ?_
      refine Y_iconst (v := 1) i_2_59 (by decide) ?_
      refine Y_iadd i_2_60 ?_
      refine Y_il2 i_2_61 ?_
      have o11 := h.1
      replace h := h.2
      refine Y_iast i_2_62 (k_23 hG) (l_23 hG) o11 rfl ?_
      refine Y_al0 i_2_63 ?_
      refine Y_gR i_2_64 ow_2 lf_0_11 (k_22 hG) (r_22_1 hG) ?_
      refine Y_il5 i_2_67 ?_
      refine Y_iconst (v := 2) i_2_69 (by decide) ?_
      refine Y_iadd i_2_70 ?_
      refine Y_il3 i_2_71 ?_
      have o12 := h.1
      replace h := h.2
      refine Y_iast i_2_72 (k_23 hG) (l_23 hG) o12 rfl ?_
      refine Y_al0 i_2_73 ?_
      refine Y_gR i_2_74 ow_2 lf_0_11 (k_22 hG) (r_22_1 hG) ?_
      refine Y_il5 i_2_77 ?_
      refine Y_iconst (v := 3) i_2_79 (by decide) ?_
      refine Y_iadd i_2_80 ?_
      refine Y_il4 i_2_81 ?_
      have o13 := h.1
      replace h := h.2
      refine Y_iast i_2_83 (k_23 hG) (l_23 hG) o13 rfl ?_
      refine Y_al0 i_2_84 ?_
      refine Y_dup i_2_85 rfl ?_
      refine Y_gI (v := 39) i_2_86 ow_2 lf_0_15 (by decide) (k_22 hG) (by simp [wF, wJ, va_up, cpR, bF, bA]) ?_
      refine Y_iconst (v := 1) i_2_89 (by decide) ?_
      refine Y_iadd i_2_90 ?_
      refine Y_pI i_2_91 ow_2 lf_0_15 (k_22 hG) ?_
      refine Y_vret i_2_94 rt_2 (KKv ?_)
      refine Y_al0 i_73_12 ?_
      refine Y_iconst (v := 1) i_73_13 (by decide) ?_
      refine Y_pB i_73_14 ow_73 lf_5_37 (k_21 hG) (by decide) ?_
      refine Y_vret i_73_17 rt_73 (KKv ?_)
      refine Y_al0 i_65_36 ?_
      refine Y_gR i_65_37 ow_65 lf_5_33 (k_21 hG) (r_21_0 hG) ?_
      refine Y_il2 i_65_40 ?_
      exact Y_iv1 (L0 := [.ref 27, .int (lvI (A 28) (F 27 1) x1), .null]) i_65_41 ow_65 lm_5_85 ((k_27 hG).trans ow_80.symm) rfl mx_80 rfl rfl hd_65 h
theorem k_65_44 {d : Nat} {F A : Nat → Nat → Int32} {J : Nat → Nat → Int64} {G : pG} {Q : pR → pM → Prop} {SL p q : Nat} {x1 x2 : Int32} (hG : Geo G SL p q) (h : inB x1 10 = true ∧ (Q (.inl (some (.int x2))) (F, (wF A 29 x1.toNatClampNeg 0), J, G))) : KK (d + 2) 65 44 [.ref 21, .int x1, .int x2] [] Q (.inl none) (F, A, J, G) := by
  refine KKv ?_
  refine Y_al0 i_65_44 ?_
  refine Y_gR i_65_45 ow_65 lf_5_33 (k_21 hG) (r_21_0 hG) ?_
  refine Y_gR i_65_48 ow_65 lf_5_82 (k_27 hG) (r_27_5 hG) ?_
  refine Y_il1 i_65_51 ?_
  refine Y_iconst (v := 0) i_65_52 (by decide) ?_
  have o1 := h.1
  replace h := h.2
  refine Y_iast i_65_53 (k_29 hG) (l_29 hG) o1 rfl ?_
  refine Y_il2 i_65_54 ?_
  exact Y_iret i_65_55 rt_65 h
/- 66 State.changeLevels(II)Z -/
theorem t_66_0 {d : Nat} {F A : Nat → Nat → Int32} {J : Nat → Nat → Int64} {G : pG} {Q : pR → pM → Prop} {SL p q : Nat} {x1 x2 : Int32} (hG : Geo G SL p q) (h : ((x1 = x2 → Q (.inl (some (.int 0))) (F, (wF A 26 1 ((A 26 1) + 1)), J, G)) ∧ (¬ x1 = x2 → inB x1 10 = true ∧ inB x2 10 = true ∧ (((F 22 0) < 40 → inB ((F 22 0) * 14) 560 = true ∧ inB (((F 22 0) * 14) + 1) 560 = true ∧ inB (((F 22 0) * 14) + 2) 560 = true ∧ inB (((F 22 0) * 14) + 3) 560 = true ∧ (Q (.inl (some (.int 1))) ((wF (wF F 22 0 ((F 22 0) + 1)) 21 6 1), (wF (wF (wF (wF (wF (wF A 28 x1.toNatClampNeg (A 28 x2.toNatClampNeg)) 28 x2.toNatClampNeg (A 28 x1.toNatClampNeg)) 23 ((F 22 0) * 14).toNatClampNeg 2) 23 (((F 22 0) * 14) + 1).toNatClampNeg x1) 23 (((F 22 0) * 14) + 2).toNatClampNeg x2) 23 (((F 22 0) * 14) + 3).toNatClampNeg 0), J, G))) ∧ (¬ (F 22 0) < 40 → (¬ (14 : Int32) < 0 ∧ ¬ (0 : Int32) < 0 ∧ ¬ ((39 : Int32) * 14) < 0 ∧ (14 : Int32).toNatClampNeg + ((39 : Int32) * 14).toNatClampNeg ≤ 560 ∧ (0 : Int32).toNatClampNeg + ((39 : Int32) * 14).toNatClampNeg ≤ 560) ∧ inB ((39 : Int32) * 14) 560 = true ∧ inB (((39 : Int32) * 14) + 1) 560 = true ∧ inB (((39 : Int32) * 14) + 2) 560 = true ∧ inB (((39 : Int32) * 14) + 3) 560 = true ∧ (Q (.inl (some (.int 1))) ((wF (wF (wF F 22 0 39) 22 0 ((39 : Int32) + 1)) 21 6 1), (wF (wF (wF (wF (cpR (wF (wF A 28 x1.toNatClampNeg (A 28 x2.toNatClampNeg)) 28 x2.toNatClampNeg (A 28 x1.toNatClampNeg)) 23 23 14 0 ((39 : Int32) * 14).toNatClampNeg) 23 ((39 : Int32) * 14).toNatClampNeg 2) 23 (((39 : Int32) * 14) + 1).toNatClampNeg x1) 23 (((39 : Int32) * 14) + 2).toNatClampNeg x2) 23 (((39 : Int32) * 14) + 3).toNatClampNeg 0), J, G))))))) : X (d + 2) 66 0 [.ref 21, .int x1, .int x2] [] (F, A, J, G) Q := by
  refine Y_il1 i_66_0 ?_
  refine Y_il2 i_66_1 ?_
  refine Y_cne i_66_2 (fun e1 => ?_) (fun e1 => ?_)
  · replace h := h.1 e1
    refine Y_al0 i_66_5 ?_
    refine Y_iconst (v := 1) i_66_6 (by decide) ?_
    refine Y_iv1 (L0 := [.ref 21, .int 1]) i_66_7 ow_66 lm_5_71 ((k_21 hG).trans ow_63.symm) rfl mx_63 rfl rfl hd_66 ?_
    refine Y_al0 i_63_0 ?_
    refine Y_gR i_63_1 ow_63 lf_5_25 (k_21 hG) (r_21_5 hG) ?_
    refine Y_il1 i_63_4 ?_
    refine Y_dup2 i_63_5 rfl rfl ?_
    refine Y_iaload (k := 1) (v := (A 26 1)) i_63_6 (k_26 hG) (l_26 hG) (by decide) (by decide) rfl ?_
    refine Y_iconst (v := 1) i_63_7 (by decide) ?_
    refine Y_iadd i_63_8 ?_
    refine Y_iast (k := 1) i_63_9 (k_26 hG) (l_26 hG) (by decide) (by decide) ?_
    refine Y_iconst (v := (-1)) i_63_10 (by decide) ?_
    refine Y_iret i_63_11 rt_63 (KKi ?_)
    refine Y_pop i_66_10 rfl ?_
    refine Y_iconst (v := 0) i_66_11 (by decide) ?_
    exact Y_bret i_66_12 rt_66 (by decide) h
  · replace h := h.2 e1
    refine Y_al0 i_66_13 ?_
    refine Y_gR i_66_14 ow_66 lf_5_33 (k_21 hG) (r_21_0 hG) ?_
    refine Y_il1 i_66_17 ?_
    refine Y_il2 i_66_18 ?_
    refine Y_iv2 (L0 := [.ref 27, .int x1, .int x2, .null]) i_66_19 ow_66 lm_5_89 ((k_27 hG).trans ow_81.symm) rfl mx_81 rfl rfl hd_66 ?_
    refine Y_al0 i_81_0 ?_
    refine Y_gR i_81_1 ow_81 lf_6_9 (k_27 hG) (r_27_4 hG) ?_
    refine Y_il1 i_81_4 ?_
    have o2 := h.1
    replace h := h.2
    refine Y_iaload (k := x1.toNatClampNeg) (v := (A 28 x1.toNatClampNeg)) i_81_5 (k_28 hG) (l_28 hG) o2 rfl rfl ?_
    refine Y_is3 i_81_6 rfl ?_
    refine Y_al0 i_81_7 ?_
    refine Y_gR i_81_8 ow_81 lf_6_9 (k_27 hG) (r_27_4 hG) ?_
    refine Y_il1 i_81_11 ?_
    refine Y_al0 i_81_12 ?_
    refine Y_gR i_81_13 ow_81 lf_6_9 (k_27 hG) (r_27_4 hG) ?_
    refine Y_il2 i_81_16 ?_
    have o3 := h.1
    replace h := h.2
    refine Y_iaload (k := x2.toNatClampNeg) (v := (A 28 x2.toNatClampNeg)) i_81_17 (k_28 hG) (l_28 hG) o3 rfl rfl ?_
    refine Y_iast i_81_18 (k_28 hG) (l_28 hG) o2 rfl ?_
    refine Y_al0 i_81_19 ?_
    refine Y_gR i_81_20 ow_81 lf_6_9 (k_27 hG) (r_27_4 hG) ?_
    refine Y_il2 i_81_23 ?_
    refine Y_il3 i_81_24 ?_
    refine Y_iast i_81_25 (k_28 hG) (l_28 hG) o3 rfl ?_
    refine Y_vret i_81_26 rt_81 (KKv ?_)
    refine Y_al0 i_66_22 ?_
    refine Y_iconst (v := 2) i_66_23 (by decide) ?_
    refine Y_il1 i_66_24 ?_
    refine Y_il2 i_66_25 ?_
    refine Y_iconst (v := 0) i_66_26 (by decide) ?_
    refine Y_iv4 (L0 := [.ref 21, .int 2, .int x1, .int x2, .int 0]) i_66_27 ow_66 lm_5_78 ((k_21 hG).trans ow_73.symm) rfl mx_73 rfl rfl hd_66 ?_
    refine Y_al0 i_73_0 ?_
    refine Y_gR i_73_1 ow_73 lf_5_12 (k_21 hG) (r_21_1 hG) ?_
    refine Y_il1 i_73_4 ?_
    refine Y_il2 i_73_5 ?_
    refine Y_il3 i_73_6 ?_
    refine Y_il4 i_73_7 ?_
    refine Y_iv4 (L0 := [.ref 22, .int 2, .int x1, .int x2, .int 0, .null]) i_73_9 ow_73 lm_5_114 ((k_22 hG).trans ow_2.symm) rfl mx_2 rfl rfl hd_73 ?_
    refine Y_al0 i_2_0 ?_
    refine Y_gI (v := (F 22 0)) i_2_1 ow_2 lf_0_15 (by decide) (k_22 hG) rfl ?_
    refine Y_bipush (v := 40) i_2_4 (by decide) ?_
    refine Y_clt i_2_6 (fun e4 => ?_) (fun e4 => ?_)
    · replace h := h.1 e4
      refine Y_al0 i_2_36 ?_
      refine Y_gI (v := (F 22 0)) i_2_37 ow_2 lf_0_15 (by decide) (k_22 hG) rfl ?_
      refine Y_bipush (v := 14) i_2_40 (by decide) ?_
      refine Y_imul i_2_42 ?_
      refine Y_is5 i_2_43 rfl ?_
      refine Y_al0 i_2_45 ?_
      refine Y_gR i_2_46 ow_2 lf_0_11 (k_22 hG) (r_22_1 hG) ?_
      refine Y_il5 i_2_49 ?_
      refine Y_il1 i_2_51 ?_
      have o5 := h.1
      replace h := h.2
      refine Y_iast i_2_52 (k_23 hG) (l_23 hG) o5 rfl ?_
      refine Y_al0 i_2_53 ?_
      refine Y_gR i_2_54 ow_2 lf_0_11 (k_22 hG) (r_22_1 hG) ?_
      refine Y_il5 i_2_57 ?_
      refine Y_iconst (v := 1) i_2_59 (by decide) ?_
      refine Y_iadd i_2_60 ?_
      refine Y_il2 i_2_61 ?_
      have o6 := h.1
      replace h := h.2
      refine Y_iast i_2_62 (k_23 hG) (l_23 hG) o6 rfl ?_
      refine Y_al0 i_2_63 ?_
      refine Y_gR i_2_64 ow_2 lf_0_11 (k_22 hG) (r_22_1 hG) ?_
      refine Y_il5 i_2_67 ?_
      refine Y_iconst (v := 2) i_2_69 (by decide) ?_
      refine Y_iadd i_2_70 ?_
      refine Y_il3 i_2_71 ?_
      have o7 := h.1
      replace h := h.2
      refine Y_iast i_2_72 (k_23 hG) (l_23 hG) o7 rfl ?_
      refine Y_al0 i_2_73 ?_
      refine Y_gR i_2_74 ow_2 lf_0_11 (k_22 hG) (r_22_1 hG) ?_
      refine Y_il5 i_2_77 ?_
      refine Y_iconst (v := 3) i_2_79 (by decide) ?_
      refine Y_iadd i_2_80 ?_
      refine Y_il4 i_2_81 ?_
      have o8 := h.1
      replace h := h.2
      refine Y_iast i_2_83 (k_23 hG) (l_23 hG) o8 rfl ?_
      refine Y_al0 i_2_84 ?_
      refine Y_dup i_2_85 rfl ?_
      refine Y_gI (v := (F 22 0)) i_2_86 ow_2 lf_0_15 (by decide) (k_22 hG) rfl ?_
      refine Y_iconst (v := 1) i_2_89 (by decide) ?_
      refine Y_iadd i_2_90 ?_
      refine Y_pI i_2_91 ow_2 lf_0_15 (k_22 hG) ?_
      refine Y_vret i_2_94 rt_2 (KKv ?_)
      refine Y_al0 i_73_12 ?_
      refine Y_iconst (v := 1) i_73_13 (by decide) ?_
      refine Y_pB i_73_14 ow_73 lf_5_37 (k_21 hG) (by decide) ?_
      refine Y_vret i_73_17 rt_73 (KKv ?_)
      refine Y_iconst (v := 1) i_66_30 (by decide) ?_
      exact Y_bret i_66_31 rt_66 (by decide) h
    · replace h := h.2 e4
      refine Y_al0 i_2_9 ?_
      refine Y_bipush (v := 39) i_2_10 (by decide) ?_
      refine Y_pI i_2_12 ow_2 lf_0_15 (k_22 hG) ?_
      refine Y_al0 i_2_15 ?_
      refine Y_gR i_2_16 ow_2 lf_0_11 (k_22 hG) (r_22_1 hG) ?_
      refine Y_bipush (v := 14) i_2_19 (by decide) ?_
      refine Y_al0 i_2_21 ?_
      refine Y_gR i_2_22 ow_2 lf_0_11 (k_22 hG) (r_22_1 hG) ?_
      refine Y_iconst (v := 0) i_2_25 (by decide) ?_
      refine Y_al0 i_2_26 ?_
      refine Y_gI (v := 39) i_2_27 ow_2 lf_0_15 (by decide) (k_22 hG) (by simp [wF, wJ, va_up, cpR, bF, bA]) ?_
      refine Y_bipush (v := 14) i_2_30 (by decide) ?_
      refine Y_imul i_2_32 ?_
      have o9 := h.1
      replace h := h.2
      refine Y_acp (ksp := 14) (kdp := 0) (kn := ((39 : Int32) * 14).toNatClampNeg) i_2_33 ow_2 lm_0_19 rfl (k_23 hG) (k_23 hG) (l_23 hG) (l_23 hG) o9 (by decide) (by decide) rfl ?_
      refine Y_al0 i_2_36 ?_
      refine Y_gI (v := 39) i_2_37 ow_2 lf_0_15 (by decide) (k_22 hG) (by simp [wF, wJ, va_up, cpR, bF, bA]) ?_
      refine Y_bipush (v := 14) i_2_40 (by decide) ?_
      refine Y_imul i_2_42 ?_
      refine Y_is5 i_2_43 rfl ?_
      refine Y_al0 i_2_45 ?_
      refine Y_gR i_2_46 ow_2 lf_0_11 (k_22 hG) (r_22_1 hG) ?_
      refine Y_il5 i_2_49 ?_
      refine Y_il1 i_2_51 ?_
      have o10 := h.1
      replace h := h.2
      refine Y_iast i_2_52 (k_23 hG) (l_23 hG) o10 rfl ?_
      refine Y_al0 i_2_53 ?_
      refine Y_gR i_2_54 ow_2 lf_0_11 (k_22 hG) (r_22_1 hG) ?_
      refine Y_il5 i_2_57 ?_
      refine Y_iconst (v := 1) i_2_59 (by decide) ?_
      refine Y_iadd i_2_60 ?_
      refine Y_il2 i_2_61 ?_
      have o11 := h.1
      replace h := h.2
      refine Y_iast i_2_62 (k_23 hG) (l_23 hG) o11 rfl ?_
      refine Y_al0 i_2_63 ?_
      refine Y_gR i_2_64 ow_2 lf_0_11 (k_22 hG) (r_22_1 hG) ?_
      refine Y_il5 i_2_67 ?_
      refine Y_iconst (v := 2) i_2_69 (by decide) ?_
      refine Y_iadd i_2_70 ?_
      refine Y_il3 i_2_71 ?_
      have o12 := h.1
      replace h := h.2
      refine Y_iast i_2_72 (k_23 hG) (l_23 hG) o12 rfl ?_
      refine Y_al0 i_2_73 ?_
      refine Y_gR i_2_74 ow_2 lf_0_11 (k_22 hG) (r_22_1 hG) ?_
      refine Y_il5 i_2_77 ?_
      refine Y_iconst (v := 3) i_2_79 (by decide) ?_
      refine Y_iadd i_2_80 ?_
      refine Y_il4 i_2_81 ?_
      have o13 := h.1
      replace h := h.2
      refine Y_iast i_2_83 (k_23 hG) (l_23 hG) o13 rfl ?_
      refine Y_al0 i_2_84 ?_
      refine Y_dup i_2_85 rfl ?_
      refine Y_gI (v := 39) i_2_86 ow_2 lf_0_15 (by decide) (k_22 hG) (by simp [wF, wJ, va_up, cpR, bF, bA]) ?_
      refine Y_iconst (v := 1) i_2_89 (by decide) ?_
      refine Y_iadd i_2_90 ?_
      refine Y_pI i_2_91 ow_2 lf_0_15 (k_22 hG) ?_
      refine Y_vret i_2_94 rt_2 (KKv ?_)
      refine Y_al0 i_73_12 ?_
      refine Y_iconst (v := 1) i_73_13 (by decide) ?_
      refine Y_pB i_73_14 ow_73 lf_5_37 (k_21 hG) (by decide) ?_
      refine Y_vret i_73_17 rt_73 (KKv ?_)
      refine Y_iconst (v := 1) i_66_30 (by decide) ?_
      exact Y_bret i_66_31 rt_66 (by decide) h
/- 67 State.setWedge(II)I -/
theorem t_67_0 {d : Nat} {F A : Nat → Nat → Int32} {J : Nat → Nat → Int64} {G : pG} {Q : pR → pM → Prop} {SL p q : Nat} {x1 x2 : Int32} (hG : Geo G SL p q) (h : ((x2 < (-9) → Q (.inl (some (.int (-99)))) (F, (wF A 26 1 ((A 26 1) + 1)), J, G)) ∧ (¬ x2 < (-9) → ((9 < x2 → Q (.inl (some (.int (-99)))) (F, (wF A 26 1 ((A 26 1) + 1)), J, G)) ∧ (¬ 9 < x2 → inB x1 10 = true ∧ (((F 22 0) < 40 → inB ((F 22 0) * 14) 560 = true ∧ inB (((F 22 0) * 14) + 1) 560 = true ∧ inB (((F 22 0) * 14) + 2) 560 = true ∧ inB (((F 22 0) * 14) + 3) 560 = true ∧ (Q (.inl (some (.int (A 30 x1.toNatClampNeg)))) ((wF (wF F 22 0 ((F 22 0) + 1)) 21 6 1), (wF (wF (wF (wF (wF A 30 x1.toNatClampNeg x2) 23 ((F 22 0) * 14).toNatClampNeg 3) 23 (((F 22 0) * 14) + 1).toNatClampNeg x1) 23 (((F 22 0) * 14) + 2).toNatClampNeg (A 30 x1.toNatClampNeg)) 23 (((F 22 0) * 14) + 3).toNatClampNeg 0), J, G))) ∧ (¬ (F 22 0) < 40 → (¬ (14 : Int32) < 0 ∧ ¬ (0 : Int32) < 0 ∧ ¬ ((39 : Int32) * 14) < 0 ∧ (14 : Int32).toNatClampNeg + ((39 : Int32) * 14).toNatClampNeg ≤ 560 ∧ (0 : Int32).toNatClampNeg + ((39 : Int32) * 14).toNatClampNeg ≤ 560) ∧ inB ((39 : Int32) * 14) 560 = true ∧ inB (((39 : Int32) * 14) + 1) 560 = true ∧ inB (((39 : Int32) * 14) + 2) 560 = true ∧ inB (((39 : Int32) * 14) + 3) 560 = true ∧ (Q (.inl (some (.int (A 30 x1.toNatClampNeg)))) ((wF (wF (wF F 22 0 39) 22 0 ((39 : Int32) + 1)) 21 6 1), (wF (wF (wF (wF (cpR (wF A 30 x1.toNatClampNeg x2) 23 23 14 0 ((39 : Int32) * 14).toNatClampNeg) 23 ((39 : Int32) * 14).toNatClampNeg 3) 23 (((39 : Int32) * 14) + 1).toNatClampNeg x1) 23 (((39 : Int32) * 14) + 2).toNatClampNeg (A 30 x1.toNatClampNeg)) 23 (((39 : Int32) * 14) + 3).toNatClampNeg 0), J, G))))))))) : X (d + 2) 67 0 [.ref 21, .int x1, .int x2, .null] [] (F, A, J, G) Q := by
  refine Y_il2 i_67_0 ?_
  refine Y_bipush (v := (-9)) i_67_1 (by decide) ?_
  refine Y_clt i_67_3 (fun e1 => ?_) (fun e1 => ?_)
  · replace h := h.1 e1
    refine Y_al0 i_67_12 ?_
    refine Y_iconst (v := 1) i_67_13 (by decide) ?_
    refine Y_iv1 (L0 := [.ref 21, .int 1]) i_67_14 ow_67 lm_5_71 ((k_21 hG).trans ow_63.symm) rfl mx_63 rfl rfl hd_67 ?_
    refine Y_al0 i_63_0 ?_
    refine Y_gR i_63_1 ow_63 lf_5_25 (k_21 hG) (r_21_5 hG) ?_
    refine Y_il1 i_63_4 ?_
    refine Y_dup2 i_63_5 rfl rfl ?_
    refine Y_iaload (k := 1) (v := (A 26 1)) i_63_6 (k_26 hG) (l_26 hG) (by decide) (by decide) rfl ?_
    refine Y_iconst (v := 1) i_63_7 (by decide) ?_
    refine Y_iadd i_63_8 ?_
    refine Y_iast (k := 1) i_63_9 (k_26 hG) (l_26 hG) (by decide) (by decide) ?_
    refine Y_iconst (v := (-1)) i_63_10 (by decide) ?_
    refine Y_iret i_63_11 rt_63 (KKi ?_)
    refine Y_pop i_67_17 rfl ?_
    refine Y_bipush (v := (-99)) i_67_18 (by decide) ?_
    exact Y_iret i_67_20 rt_67 h
  · replace h := h.2 e1
    refine Y_il2 i_67_6 ?_
    refine Y_bipush (v := 9) i_67_7 (by decide) ?_
    refine Y_cle i_67_9 (fun e2 => ?_) (fun e2 => ?_)
    · replace h := h.1 e2
      refine Y_al0 i_67_12 ?_
      refine Y_iconst (v := 1) i_67_13 (by decide) ?_
      refine Y_iv1 (L0 := [.ref 21, .int 1]) i_67_14 ow_67 lm_5_71 ((k_21 hG).trans ow_63.symm) rfl mx_63 rfl rfl hd_67 ?_
      refine Y_al0 i_63_0 ?_
      refine Y_gR i_63_1 ow_63 lf_5_25 (k_21 hG) (r_21_5 hG) ?_
      refine Y_il1 i_63_4 ?_
      refine Y_dup2 i_63_5 rfl rfl ?_
      refine Y_iaload (k := 1) (v := (A 26 1)) i_63_6 (k_26 hG) (l_26 hG) (by decide) (by decide) rfl ?_
      refine Y_iconst (v := 1) i_63_7 (by decide) ?_
      refine Y_iadd i_63_8 ?_
      refine Y_iast (k := 1) i_63_9 (k_26 hG) (l_26 hG) (by decide) (by decide) ?_
      refine Y_iconst (v := (-1)) i_63_10 (by decide) ?_
      refine Y_iret i_63_11 rt_63 (KKi ?_)
      refine Y_pop i_67_17 rfl ?_
      refine Y_bipush (v := (-99)) i_67_18 (by decide) ?_
      exact Y_iret i_67_20 rt_67 h
    · replace h := h.2 e2
      refine Y_al0 i_67_21 ?_
      refine Y_gR i_67_22 ow_67 lf_5_33 (k_21 hG) (r_21_0 hG) ?_
      refine Y_gR i_67_25 ow_67 lf_5_92 (k_27 hG) (r_27_6 hG) ?_
      refine Y_il1 i_67_28 ?_
      have o3 := h.1
      replace h := h.2
      refine Y_iaload (k := x1.toNatClampNeg) (v := (A 30 x1.toNatClampNeg)) i_67_29 (k_30 hG) (l_30 hG) o3 rfl rfl ?_
      refine Y_is3 i_67_30 rfl ?_
      refine Y_al0 i_67_31 ?_
      refine Y_gR i_67_32 ow_67 lf_5_33 (k_21 hG) (r_21_0 hG) ?_
      refine Y_gR i_67_35 ow_67 lf_5_92 (k_27 hG) (r_27_6 hG) ?_
      refine Y_il1 i_67_38 ?_
      refine Y_il2 i_67_39 ?_
      refine Y_iast i_67_40 (k_30 hG) (l_30 hG) o3 rfl ?_
      refine Y_al0 i_67_41 ?_
      refine Y_iconst (v := 3) i_67_42 (by decide) ?_
      refine Y_il1 i_67_43 ?_
      refine Y_il3 i_67_44 ?_
      refine Y_iconst (v := 0) i_67_45 (by decide) ?_
      refine Y_iv4 (L0 := [.ref 21, .int 3, .int x1, .int (A 30 x1.toNatClampNeg), .int 0]) i_67_46 ow_67 lm_5_78 ((k_21 hG).trans ow_73.symm) rfl mx_73 rfl rfl hd_67 ?_
      refine Y_al0 i_73_0 ?_
      refine Y_gR i_73_1 ow_73 lf_5_12 (k_21 hG) (r_21_1 hG) ?_
      refine Y_il1 i_73_4 ?_
      refine Y_il2 i_73_5 ?_
      refine Y_il3 i_73_6 ?_
      refine Y_il4 i_73_7 ?_
      refine Y_iv4 (L0 := [.ref 22, .int 3, .int x1, .int (A 30 x1.toNatClampNeg), .int 0, .null]) i_73_9 ow_73 lm_5_114 ((k_22 hG).trans ow_2.symm) rfl mx_2 rfl rfl hd_73 ?_
      refine Y_al0 i_2_0 ?_
      refine Y_gI (v := (F 22 0)) i_2_1 ow_2 lf_0_15 (by decide) (k_22 hG) rfl ?_
      refine Y_bipush (v := 40) i_2_4 (by decide) ?_
      refine Y_clt i_2_6 (fun e4 => ?_) (fun e4 => ?_)
      · replace h := h.1 e4
        refine Y_al0 i_2_36 ?_
        refine Y_gI (v := (F 22 0)) i_2_37 ow_2 lf_0_15 (by decide) (k_22 hG) rfl ?_
        refine Y_bipush (v := 14) i_2_40 (by decide) ?_
        refine Y_imul i_2_42 ?_
        refine Y_is5 i_2_43 rfl ?_
        refine Y_al0 i_2_45 ?_
        refine Y_gR i_2_46 ow_2 lf_0_11 (k_22 hG) (r_22_1 hG) ?_
        refine Y_il5 i_2_49 ?_
        refine Y_il1 i_2_51 ?_
        have o5 := h.1
        replace h := h.2
        refine Y_iast i_2_52 (k_23 hG) (l_23 hG) o5 rfl ?_
        refine Y_al0 i_2_53 ?_
        refine Y_gR i_2_54 ow_2 lf_0_11 (k_22 hG) (r_22_1 hG) ?_
        refine Y_il5 i_2_57 ?_
        refine Y_iconst (v := 1) i_2_59 (by decide) ?_
        refine Y_iadd i_2_60 ?_
        refine Y_il2 i_2_61 ?_
        have o6 := h.1
        replace h := h.2
        refine Y_iast i_2_62 (k_23 hG) (l_23 hG) o6 rfl ?_
        refine Y_al0 i_2_63 ?_
        refine Y_gR i_2_64 ow_2 lf_0_11 (k_22 hG) (r_22_1 hG) ?_
        refine Y_il5 i_2_67 ?_
        refine Y_iconst (v := 2) i_2_69 (by decide) ?_
        refine Y_iadd i_2_70 ?_
        refine Y_il3 i_2_71 ?_
        have o7 := h.1
        replace h := h.2
        refine Y_iast i_2_72 (k_23 hG) (l_23 hG) o7 rfl ?_
        refine Y_al0 i_2_73 ?_
        refine Y_gR i_2_74 ow_2 lf_0_11 (k_22 hG) (r_22_1 hG) ?_
        refine Y_il5 i_2_77 ?_
        refine Y_iconst (v := 3) i_2_79 (by decide) ?_
        refine Y_iadd i_2_80 ?_
        refine Y_il4 i_2_81 ?_
        have o8 := h.1
        replace h := h.2
        refine Y_iast i_2_83 (k_23 hG) (l_23 hG) o8 rfl ?_
        refine Y_al0 i_2_84 ?_
        refine Y_dup i_2_85 rfl ?_
        refine Y_gI (v := (F 22 0)) i_2_86 ow_2 lf_0_15 (by decide) (k_22 hG) rfl ?_
        refine Y_iconst (v := 1) i_2_89 (by decide) ?_
        refine Y_iadd i_2_90 ?_
        refine Y_pI i_2_91 ow_2 lf_0_15 (k_22 hG) ?_
        refine Y_vret i_2_94 rt_2 (KKv ?_)
        refine Y_al0 i_73_12 ?_
        refine Y_iconst (v := 1) i_73_13 (by decide) ?_
        refine Y_pB i_73_14 ow_73 lf_5_37 (k_21 hG) (by decide) ?_
        refine Y_vret i_73_17 rt_73 (KKv ?_)
        refine Y_il3 i_67_49 ?_
        exact Y_iret i_67_50 rt_67 h
      · replace h := h.2 e4
        refine Y_al0 i_2_9 ?_
        refine Y_bipush (v := 39) i_2_10 (by decide) ?_
        refine Y_pI i_2_12 ow_2 lf_0_15 (k_22 hG) ?_
        refine Y_al0 i_2_15 ?_
        refine Y_gR i_2_16 ow_2 lf_0_11 (k_22 hG) (r_22_1 hG) ?_
        refine Y_bipush (v := 14) i_2_19 (by decide) ?_
        refine Y_al0 i_2_21 ?_
        refine Y_gR i_2_22 ow_2 lf_0_11 (k_22 hG) (r_22_1 hG) ?_
        refine Y_iconst (v := 0) i_2_25 (by decide) ?_
        refine Y_al0 i_2_26 ?_
        refine Y_gI (v := 39) i_2_27 ow_2 lf_0_15 (by decide) (k_22 hG) (by simp [wF, wJ, va_up, cpR, bF, bA]) ?_
        refine Y_bipush (v := 14) i_2_30 (by decide) ?_
        refine Y_imul i_2_32 ?_
        have o9 := h.1
        replace h := h.2
        refine Y_acp (ksp := 14) (kdp := 0) (kn := ((39 : Int32) * 14).toNatClampNeg) i_2_33 ow_2 lm_0_19 rfl (k_23 hG) (k_23 hG) (l_23 hG) (l_23 hG) o9 (by decide) (by decide) rfl ?_
        refine Y_al0 i_2_36 ?_
        refine Y_gI (v := 39) i_2_37 ow_2 lf_0_15 (by decide) (k_22 hG) (by simp [wF, wJ, va_up, cpR, bF, bA]) ?_
        refine Y_bipush (v := 14) i_2_40 (by decide) ?_
        refine Y_imul i_2_42 ?_
        refine Y_is5 i_2_43 rfl ?_
        refine Y_al0 i_2_45 ?_
        refine Y_gR i_2_46 ow_2 lf_0_11 (k_22 hG) (r_22_1 hG) ?_
        refine Y_il5 i_2_49 ?_
        refine Y_il1 i_2_51 ?_
        have o10 := h.1
        replace h := h.2
        refine Y_iast i_2_52 (k_23 hG) (l_23 hG) o10 rfl ?_
        refine Y_al0 i_2_53 ?_
        refine Y_gR i_2_54 ow_2 lf_0_11 (k_22 hG) (r_22_1 hG) ?_
        refine Y_il5 i_2_57 ?_
        refine Y_iconst (v := 1) i_2_59 (by decide) ?_
        refine Y_iadd i_2_60 ?_
        refine Y_il2 i_2_61 ?_
        have o11 := h.1
        replace h := h.2
        refine Y_iast i_2_62 (k_23 hG) (l_23 hG) o11 rfl ?_
        refine Y_al0 i_2_63 ?_
        refine Y_gR i_2_64 ow_2 lf_0_11 (k_22 hG) (r_22_1 hG) ?_
        refine Y_il5 i_2_67 ?_
        refine Y_iconst (v := 2) i_2_69 (by decide) ?_
        refine Y_iadd i_2_70 ?_
        refine Y_il3 i_2_71 ?_
        have o12 := h.1
        replace h := h.2
        refine Y_iast i_2_72 (k_23 hG) (l_23 hG) o12 rfl ?_
        refine Y_al0 i_2_73 ?_
        refine Y_gR i_2_74 ow_2 lf_0_11 (k_22 hG) (r_22_1 hG) ?_
        refine Y_il5 i_2_77 ?_
        refine Y_iconst (v := 3) i_2_79 (by decide) ?_
        refine Y_iadd i_2_80 ?_
        refine Y_il4 i_2_81 ?_
        have o13 := h.1
        replace h := h.2
        refine Y_iast i_2_83 (k_23 hG) (l_23 hG) o13 rfl ?_
        refine Y_al0 i_2_84 ?_
        refine Y_dup i_2_85 rfl ?_
        refine Y_gI (v := 39) i_2_86 ow_2 lf_0_15 (by decide) (k_22 hG) (by simp [wF, wJ, va_up, cpR, bF, bA]) ?_
        refine Y_iconst (v := 1) i_2_89 (by decide) ?_
        refine Y_iadd i_2_90 ?_
        refine Y_pI i_2_91 ow_2 lf_0_15 (k_22 hG) ?_
        refine Y_vret i_2_94 rt_2 (KKv ?_)
        refine Y_al0 i_73_12 ?_
        refine Y_iconst (v := 1) i_73_13 (by decide) ?_
        refine Y_pB i_73_14 ow_73 lf_5_37 (k_21 hG) (by decide) ?_
        refine Y_vret i_73_17 rt_73 (KKv ?_)
        refine Y_il3 i_67_49 ?_
        exact Y_iret i_67_50 rt_67 h
/- 68 State.setLean(II)I -/
theorem t_68_0 {d : Nat} {F A : Nat → Nat → Int32} {J : Nat → Nat → Int64} {G : pG} {Q : pR → pM → Prop} {SL p q : Nat} {x1 x2 : Int32} (hG : Geo G SL p q) (h : ((x2 < (-9) → Q (.inl (some (.int (-99)))) (F, (wF A 26 1 ((A 26 1) + 1)), J, G)) ∧ (¬ x2 < (-9) → ((9 < x2 → Q (.inl (some (.int (-99)))) (F, (wF A 26 1 ((A 26 1) + 1)), J, G)) ∧ (¬ 9 < x2 → inB x1 10 = true ∧ (((F 22 0) < 40 → inB ((F 22 0) * 14) 560 = true ∧ inB (((F 22 0) * 14) + 1) 560 = true ∧ inB (((F 22 0) * 14) + 2) 560 = true ∧ inB (((F 22 0) * 14) + 3) 560 = true ∧ (Q (.inl (some (.int (A 31 x1.toNatClampNeg)))) ((wF (wF F 22 0 ((F 22 0) + 1)) 21 6 1), (wF (wF (wF (wF (wF A 31 x1.toNatClampNeg x2) 23 ((F 22 0) * 14).toNatClampNeg 4) 23 (((F 22 0) * 14) + 1).toNatClampNeg x1) 23 (((F 22 0) * 14) + 2).toNatClampNeg (A 31 x1.toNatClampNeg)) 23 (((F 22 0) * 14) + 3).toNatClampNeg 0), J, G))) ∧ (¬ (F 22 0) < 40 → (¬ (14 : Int32) < 0 ∧ ¬ (0 : Int32) < 0 ∧ ¬ ((39 : Int32) * 14) < 0 ∧ (14 : Int32).toNatClampNeg + ((39 : Int32) * 14).toNatClampNeg ≤ 560 ∧ (0 : Int32).toNatClampNeg + ((39 : Int32) * 14).toNatClampNeg ≤ 560) ∧ inB ((39 : Int32) * 14) 560 = true ∧ inB (((39 : Int32) * 14) + 1) 560 = true ∧ inB (((39 : Int32) * 14) + 2) 560 = true ∧ inB (((39 : Int32) * 14) + 3) 560 = true ∧ (Q (.inl (some (.int (A 31 x1.toNatClampNeg)))) ((wF (wF (wF F 22 0 39) 22 0 ((39 : Int32) + 1)) 21 6 1), (wF (wF (wF (wF (cpR (wF A 31 x1.toNatClampNeg x2) 23 23 14 0 ((39 : Int32) * 14).toNatClampNeg) 23 ((39 : Int32) * 14).toNatClampNeg 4) 23 (((39 : Int32) * 14) + 1).toNatClampNeg x1) 23 (((39 : Int32) * 14) + 2).toNatClampNeg (A 31 x1.toNatClampNeg)) 23 (((39 : Int32) * 14) + 3).toNatClampNeg 0), J, G))))))))) : X (d + 2) 68 0 [.ref 21, .int x1, .int x2, .null] [] (F, A, J, G) Q := by
  refine Y_il2 i_68_0 ?_
  refine Y_bipush (v := (-9)) i_68_1 (by decide) ?_
  refine Y_clt i_68_3 (fun e1 => ?_) (fun e1 => ?_)
  · replace h := h.1 e1
    refine Y_al0 i_68_12 ?_
    refine Y_iconst (v := 1) i_68_13 (by decide) ?_
    refine Y_iv1 (L0 := [.ref 21, .int 1]) i_68_14 ow_68 lm_5_71 ((k_21 hG).trans ow_63.symm) rfl mx_63 rfl rfl hd_68 ?_
    refine Y_al0 i_63_0 ?_
    refine Y_gR i_63_1 ow_63 lf_5_25 (k_21 hG) (r_21_5 hG) ?_
    refine Y_il1 i_63_4 ?_
    refine Y_dup2 i_63_5 rfl rfl ?_
    refine Y_iaload (k := 1) (v := (A 26 1)) i_63_6 (k_26 hG) (l_26 hG) (by decide) (by decide) rfl ?_
    refine Y_iconst (v := 1) i_63_7 (by decide) ?_
    refine Y_iadd i_63_8 ?_
    refine Y_iast (k := 1) i_63_9 (k_26 hG) (l_26 hG) (by decide) (by decide) ?_
    refine Y_iconst (v := (-1)) i_63_10 (by decide) ?_
    refine Y_iret i_63_11 rt_63 (KKi ?_)
    refine Y_pop i_68_17 rfl ?_
    refine Y_bipush (v := (-99)) i_68_18 (by decide) ?_
    exact Y_iret i_68_20 rt_68 h
  · replace h := h.2 e1
    refine Y_il2 i_68_6 ?_
    refine Y_bipush (v := 9) i_68_7 (by decide) ?_
    refine Y_cle i_68_9 (fun e2 => ?_) (fun e2 => ?_)
    · replace h := h.1 e2
      refine Y_al0 i_68_12 ?_
      refine Y_iconst (v := 1) i_68_13 (by decide) ?_
      refine Y_iv1 (L0 := [.ref 21, .int 1]) i_68_14 ow_68 lm_5_71 ((k_21 hG).trans ow_63.symm) rfl mx_63 rfl rfl hd_68 ?_
      refine Y_al0 i_63_0 ?_
      refine Y_gR i_63_1 ow_63 lf_5_25 (k_21 hG) (r_21_5 hG) ?_
      refine Y_il1 i_63_4 ?_
      refine Y_dup2 i_63_5 rfl rfl ?_
      refine Y_iaload (k := 1) (v := (A 26 1)) i_63_6 (k_26 hG) (l_26 hG) (by decide) (by decide) rfl ?_
      refine Y_iconst (v := 1) i_63_7 (by decide) ?_
      refine Y_iadd i_63_8 ?_
      refine Y_iast (k := 1) i_63_9 (k_26 hG) (l_26 hG) (by decide) (by decide) ?_
      refine Y_iconst (v := (-1)) i_63_10 (by decide) ?_
      refine Y_iret i_63_11 rt_63 (KKi ?_)
      refine Y_pop i_68_17 rfl ?_
      refine Y_bipush (v := (-99)) i_68_18 (by decide) ?_
      exact Y_iret i_68_20 rt_68 h
    · replace h := h.2 e2
      refine Y_al0 i_68_21 ?_
      refine Y_gR i_68_22 ow_68 lf_5_33 (k_21 hG) (r_21_0 hG) ?_
      refine Y_gR i_68_25 ow_68 lf_5_95 (k_27 hG) (r_27_7 hG) ?_
      refine Y_il1 i_68_28 ?_
      have o3 := h.1
      replace h := h.2
      refine Y_iaload (k := x1.toNatClampNeg) (v := (A 31 x1.toNatClampNeg)) i_68_29 (k_31 hG) (l_31 hG) o3 rfl rfl ?_
      refine Y_is3 i_68_30 rfl ?_
      refine Y_al0 i_68_31 ?_
      refine Y_gR i_68_32 ow_68 lf_5_33 (k_21 hG) (r_21_0 hG) ?_
      refine Y_gR i_68_35 ow_68 lf_5_95 (k_27 hG) (r_27_7 hG) ?_
      refine Y_il1 i_68_38 ?_
      refine Y_il2 i_68_39 ?_
      refine Y_iast i_68_40 (k_31 hG) (l_31 hG) o3 rfl ?_
      refine Y_al0 i_68_41 ?_
      refine Y_iconst (v := 4) i_68_42 (by decide) ?_
      refine Y_il1 i_68_43 ?_
      refine Y_il3 i_68_44 ?_
      refine Y_iconst (v := 0) i_68_45 (by decide) ?_
      refine Y_iv4 (L0 := [.ref 21, .int 4, .int x1, .int (A 31 x1.toNatClampNeg), .int 0]) i_68_46 ow_68 lm_5_78 ((k_21 hG).trans ow_73.symm) rfl mx_73 rfl rfl hd_68 ?_
      refine Y_al0 i_73_0 ?_
      refine Y_gR i_73_1 ow_73 lf_5_12 (k_21 hG) (r_21_1 hG) ?_
      refine Y_il1 i_73_4 ?_
      refine Y_il2 i_73_5 ?_
      refine Y_il3 i_73_6 ?_
      refine Y_il4 i_73_7 ?_
      refine Y_iv4 (L0 := [.ref 22, .int 4, .int x1, .int (A 31 x1.toNatClampNeg), .int 0, .null]) i_73_9 ow_73 lm_5_114 ((k_22 hG).trans ow_2.symm) rfl mx_2 rfl rfl hd_73 ?_
      refine Y_al0 i_2_0 ?_
      refine Y_gI (v := (F 22 0)) i_2_1 ow_2 lf_0_15 (by decide) (k_22 hG) rfl ?_
      refine Y_bipush (v := 40) i_2_4 (by decide) ?_
      refine Y_clt i_2_6 (fun e4 => ?_) (fun e4 => ?_)
      · replace h := h.1 e4
        refine Y_al0 i_2_36 ?_
        refine Y_gI (v := (F 22 0)) i_2_37 ow_2 lf_0_15 (by decide) (k_22 hG) rfl ?_
        refine Y_bipush (v := 14) i_2_40 (by decide) ?_
        refine Y_imul i_2_42 ?_
        refine Y_is5 i_2_43 rfl ?_
        refine Y_al0 i_2_45 ?_
        refine Y_gR i_2_46 ow_2 lf_0_11 (k_22 hG) (r_22_1 hG) ?_
        refine Y_il5 i_2_49 ?_
        refine Y_il1 i_2_51 ?_
        have o5 := h.1
        replace h := h.2
        refine Y_iast i_2_52 (k_23 hG) (l_23 hG) o5 rfl ?_
        refine Y_al0 i_2_53 ?_
        refine Y_gR i_2_54 ow_2 lf_0_11 (k_22 hG) (r_22_1 hG) ?_
        refine Y_il5 i_2_57 ?_
        refine Y_iconst (v := 1) i_2_59 (by decide) ?_
        refine Y_iadd i_2_60 ?_
        refine Y_il2 i_2_61 ?_
        have o6 := h.1
        replace h := h.2
        refine Y_iast i_2_62 (k_23 hG) (l_23 hG) o6 rfl ?_
        refine Y_al0 i_2_63 ?_
        refine Y_gR i_2_64 ow_2 lf_0_11 (k_22 hG) (r_22_1 hG) ?_
        refine Y_il5 i_2_67 ?_
        refine Y_iconst (v := 2) i_2_69 (by decide) ?_
        refine Y_iadd i_2_70 ?_
        refine Y_il3 i_2_71 ?_
        have o7 := h.1
        replace h := h.2
        refine Y_iast i_2_72 (k_23 hG) (l_23 hG) o7 rfl ?_
        refine Y_al0 i_2_73 ?_
        refine Y_gR i_2_74 ow_2 lf_0_11 (k_22 hG) (r_22_1 hG) ?_
        refine Y_il5 i_2_77 ?_
        refine Y_iconst (v := 3) i_2_79 (by decide) ?_
        refine Y_iadd i_2_80 ?_
        refine Y_il4 i_2_81 ?_
        have o8 := h.1
        replace h := h.2
        refine Y_iast i_2_83 (k_23 hG) (l_23 hG) o8 rfl ?_
        refine Y_al0 i_2_84 ?_
        refine Y_dup i_2_85 rfl ?_
        refine Y_gI (v := (F 22 0)) i_2_86 ow_2 lf_0_15 (by decide) (k_22 hG) rfl ?_
        refine Y_iconst (v := 1) i_2_89 (by decide) ?_
        refine Y_iadd i_2_90 ?_
        refine Y_pI i_2_91 ow_2 lf_0_15 (k_22 hG) ?_
        refine Y_vret i_2_94 rt_2 (KKv ?_)
        refine Y_al0 i_73_12 ?_
        refine Y_iconst (v := 1) i_73_13 (by decide) ?_
        refine Y_pB i_73_14 ow_73 lf_5_37 (k_21 hG) (by decide) ?_
        refine Y_vret i_73_17 rt_73 (KKv ?_)
        refine Y_il3 i_68_49 ?_
        exact Y_iret i_68_50 rt_68 h
      · replace h := h.2 e4
        refine Y_al0 i_2_9 ?_
        refine Y_bipush (v := 39) i_2_10 (by decide) ?_
        refine Y_pI i_2_12 ow_2 lf_0_15 (k_22 hG) ?_
        refine Y_al0 i_2_15 ?_
        refine Y_gR i_2_16 ow_2 lf_0_11 (k_22 hG) (r_22_1 hG) ?_
        refine Y_bipush (v := 14) i_2_19 (by decide) ?_
        refine Y_al0 i_2_21 ?_
        refine Y_gR i_2_22 ow_2 lf_0_11 (k_22 hG) (r_22_1 hG) ?_
        refine Y_iconst (v := 0) i_2_25 (by decide) ?_
        refine Y_al0 i_2_26 ?_
        refine Y_gI (v := 39) i_2_27 ow_2 lf_0_15 (by decide) (k_22 hG) (by simp [wF, wJ, va_up, cpR, bF, bA]) ?_
        refine Y_bipush (v := 14) i_2_30 (by decide) ?_
        refine Y_imul i_2_32 ?_
        have o9 := h.1
        replace h := h.2
        refine Y_acp (ksp := 14) (kdp := 0) (kn := ((39 : Int32) * 14).toNatClampNeg) i_2_33 ow_2 lm_0_19 rfl (k_23 hG) (k_23 hG) (l_23 hG) (l_23 hG) o9 (by decide) (by decide) rfl ?_
        refine Y_al0 i_2_36 ?_
        refine Y_gI (v := 39) i_2_37 ow_2 lf_0_15 (by decide) (k_22 hG) (by simp [wF, wJ, va_up, cpR, bF, bA]) ?_
        refine Y_bipush (v := 14) i_2_40 (by decide) ?_
        refine Y_imul i_2_42 ?_
        refine Y_is5 i_2_43 rfl ?_
        refine Y_al0 i_2_45 ?_
        refine Y_gR i_2_46 ow_2 lf_0_11 (k_22 hG) (r_22_1 hG) ?_
        refine Y_il5 i_2_49 ?_
        refine Y_il1 i_2_51 ?_
        have o10 := h.1
        replace h := h.2
        refine Y_iast i_2_52 (k_23 hG) (l_23 hG) o10 rfl ?_
        refine Y_al0 i_2_53 ?_
        refine Y_gR i_2_54 ow_2 lf_0_11 (k_22 hG) (r_22_1 hG) ?_
        refine Y_il5 i_2_57 ?_
        refine Y_iconst (v := 1) i_2_59 (by decide) ?_
        refine Y_iadd i_2_60 ?_
        refine Y_il2 i_2_61 ?_
        have o11 := h.1
        replace h := h.2
        refine Y_iast i_2_62 (k_23 hG) (l_23 hG) o11 rfl ?_
        refine Y_al0 i_2_63 ?_
        refine Y_gR i_2_64 ow_2 lf_0_11 (k_22 hG) (r_22_1 hG) ?_
        refine Y_il5 i_2_67 ?_
        refine Y_iconst (v := 2) i_2_69 (by decide) ?_
        refine Y_iadd i_2_70 ?_
        refine Y_il3 i_2_71 ?_
        have o12 := h.1
        replace h := h.2
        refine Y_iast i_2_72 (k_23 hG) (l_23 hG) o12 rfl ?_
        refine Y_al0 i_2_73 ?_
        refine Y_gR i_2_74 ow_2 lf_0_11 (k_22 hG) (r_22_1 hG) ?_
        refine Y_il5 i_2_77 ?_
        refine Y_iconst (v := 3) i_2_79 (by decide) ?_
        refine Y_iadd i_2_80 ?_
        refine Y_il4 i_2_81 ?_
        have o13 := h.1
        replace h := h.2
        refine Y_iast i_2_83 (k_23 hG) (l_23 hG) o13 rfl ?_
        refine Y_al0 i_2_84 ?_
        refine Y_dup i_2_85 rfl ?_
        refine Y_gI (v := 39) i_2_86 ow_2 lf_0_15 (by decide) (k_22 hG) (by simp [wF, wJ, va_up, cpR, bF, bA]) ?_
        refine Y_iconst (v := 1) i_2_89 (by decide) ?_
        refine Y_iadd i_2_90 ?_
        refine Y_pI i_2_91 ow_2 lf_0_15 (k_22 hG) ?_
        refine Y_vret i_2_94 rt_2 (KKv ?_)
        refine Y_al0 i_73_12 ?_
        refine Y_iconst (v := 1) i_73_13 (by decide) ?_
        refine Y_pB i_73_14 ow_73 lf_5_37 (k_21 hG) (by decide) ?_
        refine Y_vret i_73_17 rt_73 (KKv ?_)
        refine Y_il3 i_68_49 ?_
        exact Y_iret i_68_50 rt_68 h
/- 69 State.eat(I)I -/
theorem t_69_0 {d : Nat} {F A : Nat → Nat → Int32} {J : Nat → Nat → Int64} {G : pG} {Q : pR → pM → Prop} {SL p q : Nat} {x1 : Int32} (hG : Geo G SL p q) (h : (((F 22 0) < 40 → inB ((F 22 0) * 14) 560 = true ∧ inB (((F 22 0) * 14) + 1) 560 = true ∧ inB (((F 22 0) * 14) + 2) 560 = true ∧ inB (((F 22 0) * 14) + 3) 560 = true ∧ (¬ (0 : Int32) < 0 ∧ ¬ (((((F 22 0) + 1) - 1) * 14) + 4) < 0 ∧ ¬ (10 : Int32) < 0 ∧ (0 : Int32).toNatClampNeg + (10 : Int32).toNatClampNeg ≤ 10 ∧ (((((F 22 0) + 1) - 1) * 14) + 4).toNatClampNeg + (10 : Int32).toNatClampNeg ≤ 560) ∧ (X (d + 3) 90 0 [.ref 27, .int x1, .null, .null, .null] [] ((wF (wF F 22 0 ((F 22 0) + 1)) 21 6 1), (cpR (wF (wF (wF (wF A 23 ((F 22 0) * 14).toNatClampNeg 5) 23 (((F 22 0) * 14) + 1).toNatClampNeg (F 27 3)) 23 (((F 22 0) * 14) + 2).toNatClampNeg 0) 23 (((F 22 0) * 14) + 3).toNatClampNeg 0) 23 29 0 (((((F 22 0) + 1) - 1) * 14) + 4).toNatClampNeg 10), J, G) (KK (d + 4) 69 28 [.ref 21, .int x1] [.ref 27] Q))) ∧ (¬ (F 22 0) < 40 → (¬ (14 : Int32) < 0 ∧ ¬ (0 : Int32) < 0 ∧ ¬ ((39 : Int32) * 14) < 0 ∧ (14 : Int32).toNatClampNeg + ((39 : Int32) * 14).toNatClampNeg ≤ 560 ∧ (0 : Int32).toNatClampNeg + ((39 : Int32) * 14).toNatClampNeg ≤ 560) ∧ inB ((39 : Int32) * 14) 560 = true ∧ inB (((39 : Int32) * 14) + 1) 560 = true ∧ inB (((39 : Int32) * 14) + 2) 560 = true ∧ inB (((39 : Int32) * 14) + 3) 560 = true ∧ (¬ (0 : Int32) < 0 ∧ ¬ (((((39 : Int32) + 1) - 1) * 14) + 4) < 0 ∧ ¬ (10 : Int32) < 0 ∧ (0 : Int32).toNatClampNeg + (10 : Int32).toNatClampNeg ≤ 10 ∧ (((((39 : Int32) + 1) - 1) * 14) + 4).toNatClampNeg + (10 : Int32).toNatClampNeg ≤ 560) ∧ (X (d + 3) 90 0 [.ref 27, .int x1, .null, .null, .null] [] ((wF (wF (wF F 22 0 39) 22 0 ((39 : Int32) + 1)) 21 6 1), (cpR (wF (wF (wF (wF (cpR A 23 23 14 0 ((39 : Int32) * 14).toNatClampNeg) 23 ((39 : Int32) * 14).toNatClampNeg 5) 23 (((39 : Int32) * 14) + 1).toNatClampNeg (F 27 3)) 23 (((39 : Int32) * 14) + 2).toNatClampNeg 0) 23 (((39 : Int32) * 14) + 3).toNatClampNeg 0) 23 29 0 (((((39 : Int32) + 1) - 1) * 14) + 4).toNatClampNeg 10), J, G) (KK (d + 4) 69 28 [.ref 21, .int x1] [.ref 27] Q))))) : X (d + 4) 69 0 [.ref 21, .int x1] [] (F, A, J, G) Q := by
  refine Y_al0 i_69_0 ?_
  refine Y_gR i_69_1 ow_69 lf_5_12 (k_21 hG) (r_21_1 hG) ?_
  refine Y_al0 i_69_4 ?_
  refine Y_gR i_69_5 ow_69 lf_5_33 (k_21 hG) (r_21_0 hG) ?_
  refine Y_iv1 (L0 := [.ref 22, .ref 27]) i_69_8 ow_69 lm_5_98 ((k_22 hG).trans ow_3.symm) rfl mx_3 rfl rfl hd_69 ?_
  refine Y_al0 i_3_0 ?_
  refine Y_iconst (v := 5) i_3_1 (by decide) ?_
  refine Y_al1 i_3_2 ?_
  refine Y_gI (v := (F 27 3)) i_3_3 ow_3 lf_0_25 (by decide) (k_27 hG) rfl ?_
  refine Y_iconst (v := 0) i_3_6 (by decide) ?_
  refine Y_iconst (v := 0) i_3_7 (by decide) ?_
  refine Y_iv4 (L0 := [.ref 22, .int 5, .int (F 27 3), .int 0, .int 0, .null]) i_3_8 ow_3 lm_0_30 ((k_22 hG).trans ow_2.symm) rfl mx_2 rfl rfl hd_3 ?_
  refine Y_al0 i_2_0 ?_
  refine Y_gI (v := (F 22 0)) i_2_1 ow_2 lf_0_15 (by decide) (k_22 hG) rfl ?_
  refine Y_bipush (v := 40) i_2_4 (by decide) ?_
  refine Y_clt i_2_6 (fun e1 => ?_) (fun e1 => ?_)
  · replace h := h.1 e1
    refine Y_al0 i_2_36 ?_
    refine Y_gI (v := (F 22 0)) i_2_37 ow_2 lf_0_15 (by decide) (k_22 hG) rfl ?_
    refine Y_bipush (v := 14) i_2_40 (by decide) ?_
    refine Y_imul i_2_42 ?_
    refine Y_is5 i_2_43 rfl ?_
    refine Y_al0 i_2_45 ?_
    refine Y_gR i_2_46 ow_2 lf_0_11 (k_22 hG) (r_22_1 hG) ?_
    refine Y_il5 i_2_49 ?_
    refine Y_il1 i_2_51 ?_
    have o2 := h.1
    replace h := h.2
    refine Y_iast i_2_52 (k_23 hG) (l_23 hG) o2 rfl ?_
    refine Y_al0 i_2_53 ?_
    refine Y_gR i_2_54 ow_2 lf_0_11 (k_22 hG) (r_22_1 hG) ?_
    refine Y_il5 i_2_57 ?_
    refine Y_iconst (v := 1) i_2_59 (by decide) ?_
    refine Y_iadd i_2_60 ?_
    refine Y_il2 i_2_61 ?_
    have o3 := h.1
    replace h := h.2
    refine Y_iast i_2_62 (k_23 hG) (l_23 hG) o3 rfl ?_
    refine Y_al0 i_2_63 ?_
    refine Y_gR i_2_64 ow_2 lf_0_11 (k_22 hG) (r_22_1 hG) ?_
    refine Y_il5 i_2_67 ?_
    refine Y_iconst (v := 2) i_2_69 (by decide) ?_
    refine Y_iadd i_2_70 ?_
    refine Y_il3 i_2_71 ?_
    have o4 := h.1
    replace h := h.2
    refine Y_iast i_2_72 (k_23 hG) (l_23 hG) o4 rfl ?_
    refine Y_al0 i_2_73 ?_
    refine Y_gR i_2_74 ow_2 lf_0_11 (k_22 hG) (r_22_1 hG) ?_
    refine Y_il5 i_2_77 ?_
    refine Y_iconst (v := 3) i_2_79 (by decide) ?_
    refine Y_iadd i_2_80 ?_
    refine Y_il4 i_2_81 ?_
    have o5 := h.1
    replace h := h.2
    refine Y_iast i_2_83 (k_23 hG) (l_23 hG) o5 rfl ?_
    refine Y_al0 i_2_84 ?_
    refine Y_dup i_2_85 rfl ?_
    refine Y_gI (v := (F 22 0)) i_2_86 ow_2 lf_0_15 (by decide) (k_22 hG) rfl ?_
    refine Y_iconst (v := 1) i_2_89 (by decide) ?_
    refine Y_iadd i_2_90 ?_
    refine Y_pI i_2_91 ow_2 lf_0_15 (k_22 hG) ?_
    refine Y_vret i_2_94 rt_2 (KKv ?_)
    refine Y_al1 i_3_11 ?_
    refine Y_gR i_3_12 ow_3 lf_0_34 (k_27 hG) (r_27_5 hG) ?_
    refine Y_iconst (v := 0) i_3_15 (by decide) ?_
    refine Y_al0 i_3_16 ?_
    refine Y_gR i_3_17 ow_3 lf_0_11 (k_22 hG) (r_22_1 hG) ?_
    refine Y_al0 i_3_20 ?_
    refine Y_gI (v := ((F 22 0) + 1)) i_3_21 ow_3 lf_0_15 (by decide) (k_22 hG) (by simp [wF, wJ, va_up, cpR, bF, bA]) ?_
    refine Y_iconst (v := 1) i_3_24 (by decide) ?_
    refine Y_isub i_3_25 ?_
    refine Y_bipush (v := 14) i_3_26 (by decide) ?_
    refine Y_imul i_3_28 ?_
    refine Y_iconst (v := 4) i_3_29 (by decide) ?_
    refine Y_iadd i_3_30 ?_
    refine Y_bipush (v := 10) i_3_31 (by decide) ?_
    have o6 := h.1
    replace h := h.2
    refine Y_acp (ksp := 0) (kdp := (((((F 22 0) + 1) - 1) * 14) + 4).toNatClampNeg) (kn := 10) i_3_33 ow_3 lm_0_19 rfl (k_23 hG) (k_29 hG) (l_23 hG) (l_29 hG) o6 (by decide) rfl (by decide) ?_
    refine Y_vret i_3_36 rt_3 (KKv ?_)
    refine Y_al0 i_69_11 ?_
    refine Y_iconst (v := 1) i_69_12 (by decide) ?_
    refine Y_pB i_69_13 ow_69 lf_5_37 (k_21 hG) (by decide) ?_
    refine Y_al0 i_69_16 ?_
    refine Y_gR i_69_17 ow_69 lf_5_33 (k_21 hG) (r_21_0 hG) ?_
    refine Y_al0 i_69_20 ?_
    refine Y_gR i_69_21 ow_69 lf_5_33 (k_21 hG) (r_21_0 hG) ?_
    refine Y_il1 i_69_24 ?_
    exact Y_iv1 (L0 := [.ref 27, .int x1, .null, .null, .null]) i_69_25 ow_69 lm_5_101 ((k_27 hG).trans ow_90.symm) rfl mx_90 rfl rfl hd_69 h
  · replace h := h.2 e1
    refine Y_al0 i_2_9 ?_
    refine Y_bipush (v := 39) i_2_10 (by decide) ?_
    refine Y_pI i_2_12 ow_2 lf_0_15 (k_22 hG) ?_
    refine Y_al0 i_2_15 ?_
    refine Y_gR i_2_16 ow_2 lf_0_11 (k_22 hG) (r_22_1 hG) ?_
    refine Y_bipush (v := 14) i_2_19 (by decide) ?_
    refine Y_al0 i_2_21 ?_
    refine Y_gR i_2_22 ow_2 lf_0_11 (k_22 hG) (r_22_1 hG) ?_
    refine Y_iconst (v := 0) i_2_25 (by decide) ?_
    refine Y_al0 i_2_26 ?_
    refine Y_gI (v := 39) i_2_27 ow_2 lf_0_15 (by decide) (k_22 hG) (by simp [wF, wJ, va_up, cpR, bF, bA]) ?_
    refine Y_bipush (v := 14) i_2_30 (by decide) ?_
    refine Y_imul i_2_32 ?_
    have o7 := h.1
    replace h := h.2
    refine Y_acp (ksp := 14) (kdp := 0) (kn := ((39 : Int32) * 14).toNatClampNeg) i_2_33 ow_2 lm_0_19 rfl (k_23 hG) (k_23 hG) (l_23 hG) (l_23 hG) o7 (by decide) (by decide) rfl ?_
    refine Y_al0 i_2_36 ?_
    refine Y_gI (v := 39) i_2_37 ow_2 lf_0_15 (by decide) (k_22 hG) (by simp [wF, wJ, va_up, cpR, bF, bA]) ?_
    refine Y_bipush (v := 14) i_2_40 (by decide) ?_
    refine Y_imul i_2_42 ?_
    refine Y_is5 i_2_43 rfl ?_
    refine Y_al0 i_2_45 ?_
    refine Y_gR i_2_46 ow_2 lf_0_11 (k_22 hG) (r_22_1 hG) ?_
    refine Y_il5 i_2_49 ?_
    refine Y_il1 i_2_51 ?_
    have o8 := h.1
    replace h := h.2
    refine Y_iast i_2_52 (k_23 hG) (l_23 hG) o8 rfl ?_
    refine Y_al0 i_2_53 ?_
    refine Y_gR i_2_54 ow_2 lf_0_11 (k_22 hG) (r_22_1 hG) ?_
    refine Y_il5 i_2_57 ?_
    refine Y_iconst (v := 1) i_2_59 (by decide) ?_
    refine Y_iadd i_2_60 ?_
    refine Y_il2 i_2_61 ?_
    have o9 := h.1
    replace h := h.2
    refine Y_iast i_2_62 (k_23 hG) (l_23 hG) o9 rfl ?_
    refine Y_al0 i_2_63 ?_
    refine Y_gR i_2_64 ow_2 lf_0_11 (k_22 hG) (r_22_1 hG) ?_
    refine Y_il5 i_2_67 ?_
    refine Y_iconst (v := 2) i_2_69 (by decide) ?_
    refine Y_iadd i_2_70 ?_
    refine Y_il3 i_2_71 ?_
    have o10 := h.1
    replace h := h.2
    refine Y_iast i_2_72 (k_23 hG) (l_23 hG) o10 rfl ?_
    refine Y_al0 i_2_73 ?_
    refine Y_gR i_2_74 ow_2 lf_0_11 (k_22 hG) (r_22_1 hG) ?_
    refine Y_il5 i_2_77 ?_
    refine Y_iconst (v := 3) i_2_79 (by decide) ?_
    refine Y_iadd i_2_80 ?_
    refine Y_il4 i_2_81 ?_
    have o11 := h.1
    replace h := h.2
    refine Y_iast i_2_83 (k_23 hG) (l_23 hG) o11 rfl ?_
    refine Y_al0 i_2_84 ?_
    refine Y_dup i_2_85 rfl ?_
    refine Y_gI (v := 39) i_2_86 ow_2 lf_0_15 (by decide) (k_22 hG) (by simp [wF, wJ, va_up, cpR, bF, bA]) ?_
    refine Y_iconst (v := 1) i_2_89 (by decide) ?_
    refine Y_iadd i_2_90 ?_
    refine Y_pI i_2_91 ow_2 lf_0_15 (k_22 hG) ?_
    refine Y_vret i_2_94 rt_2 (KKv ?_)
    refine Y_al1 i_3_11 ?_
    refine Y_gR i_3_12 ow_3 lf_0_34 (k_27 hG) (r_27_5 hG) ?_
    refine Y_iconst (v := 0) i_3_15 (by decide) ?_
    refine Y_al0 i_3_16 ?_
    refine Y_gR i_3_17 ow_3 lf_0_11 (k_22 hG) (r_22_1 hG) ?_
    refine Y_al0 i_3_20 ?_
    refine Y_gI (v := ((39 : Int32) + 1)) i_3_21 ow_3 lf_0_15 (by decide) (k_22 hG) (by simp [wF, wJ, va_up, cpR, bF, bA]) ?_
    refine Y_iconst (v := 1) i_3_24 (by decide) ?_
    refine Y_isub i_3_25 ?_
    refine Y_bipush (v := 14) i_3_26 (by decide) ?_
    refine Y_imul i_3_28 ?_
    refine Y_iconst (v := 4) i_3_29 (by decide) ?_
    refine Y_iadd i_3_30 ?_
    refine Y_bipush (v := 10) i_3_31 (by decide) ?_
    have o12 := h.1
    replace h := h.2
    refine Y_acp (ksp := 0) (kdp := (((((39 : Int32) + 1) - 1) * 14) + 4).toNatClampNeg) (kn := 10) i_3_33 ow_3 lm_0_19 rfl (k_23 hG) (k_29 hG) (l_23 hG) (l_29 hG) o12 (by decide) rfl (by decide) ?_
    refine Y_vret i_3_36 rt_3 (KKv ?_)
    refine Y_al0 i_69_11 ?_
    refine Y_iconst (v := 1) i_69_12 (by decide) ?_
    refine Y_pB i_69_13 ow_69 lf_5_37 (k_21 hG) (by decide) ?_
    refine Y_al0 i_69_16 ?_
    refine Y_gR i_69_17 ow_69 lf_5_33 (k_21 hG) (r_21_0 hG) ?_
    refine Y_al0 i_69_20 ?_
    refine Y_gR i_69_21 ow_69 lf_5_33 (k_21 hG) (r_21_0 hG) ?_
    refine Y_il1 i_69_24 ?_
    exact Y_iv1 (L0 := [.ref 27, .int x1, .null, .null, .null]) i_69_25 ow_69 lm_5_101 ((k_27 hG).trans ow_90.symm) rfl mx_90 rfl rfl hd_69 h
theorem k_69_28 {d : Nat} {F A : Nat → Nat → Int32} {J : Nat → Nat → Int64} {G : pG} {Q : pR → pM → Prop} {SL p q : Nat} {x1 r : Int32} (hG : Geo G SL p q) (h : Q (.inl (some (.int r))) ((wF F 27 3 r), A, J, G)) : KK (d + 4) 69 28 [.ref 21, .int x1] [.ref 27] Q (.inl (some (.int r))) (F, A, J, G) := by
  refine KKi ?_
  refine Y_pI i_69_28 ow_69 lf_5_104 (k_27 hG) ?_
  refine Y_al0 i_69_31 ?_
  refine Y_gR i_69_32 ow_69 lf_5_33 (k_21 hG) (r_21_0 hG) ?_
  refine Y_gI (v := r) i_69_35 ow_69 lf_5_104 (by decide) (k_27 hG) (by simp [wF, wJ, va_up, cpR, bF, bA]) ?_
  exact Y_iret i_69_38 rt_69 h
/- 70 State.age(I)I -/
theorem t_70_0 {d : Nat} {F A : Nat → Nat → Int32} {J : Nat → Nat → Int64} {G : pG} {Q : pR → pM → Prop} {SL p q : Nat} {x1 : Int32} (hG : Geo G SL p q) (h : ((x1 < 1 → Q (.inl (some (.int (-1)))) (F, (wF A 26 1 ((A 26 1) + 1)), J, G)) ∧ (¬ x1 < 1 → ((30 < x1 → Q (.inl (some (.int (-1)))) (F, (wF A 26 1 ((A 26 1) + 1)), J, G)) ∧ (¬ 30 < x1 → ((999 < ((F 27 2) + x1) → Q (.inl (some (.int (-1)))) (F, (wF A 26 1 ((A 26 1) + 1)), J, G)) ∧ (¬ 999 < ((F 27 2) + x1) → (((F 22 0) < 40 → inB ((F 22 0) * 14) 560 = true ∧ inB (((F 22 0) * 14) + 1) 560 = true ∧ inB (((F 22 0) * 14) + 2) 560 = true ∧ inB (((F 22 0) * 14) + 3) 560 = true ∧ (Q (.inl (some (.int ((F 27 2) + x1)))) ((wF (wF (wF F 27 2 ((F 27 2) + x1)) 22 0 ((F 22 0) + 1)) 21 6 1), (wF (wF (wF (wF A 23 ((F 22 0) * 14).toNatClampNeg 6) 23 (((F 22 0) * 14) + 1).toNatClampNeg x1) 23 (((F 22 0) * 14) + 2).toNatClampNeg 0) 23 (((F 22 0) * 14) + 3).toNatClampNeg 0), J, G))) ∧ (¬ (F 22 0) < 40 → (¬ (14 : Int32) < 0 ∧ ¬ (0 : Int32) < 0 ∧ ¬ ((39 : Int32) * 14) < 0 ∧ (14 : Int32).toNatClampNeg + ((39 : Int32) * 14).toNatClampNeg ≤ 560 ∧ (0 : Int32).toNatClampNeg + ((39 : Int32) * 14).toNatClampNeg ≤ 560) ∧ inB ((39 : Int32) * 14) 560 = true ∧ inB (((39 : Int32) * 14) + 1) 560 = true ∧ inB (((39 : Int32) * 14) + 2) 560 = true ∧ inB (((39 : Int32) * 14) + 3) 560 = true ∧ (Q (.inl (some (.int ((F 27 2) + x1)))) ((wF (wF (wF (wF F 27 2 ((F 27 2) + x1)) 22 0 39) 22 0 ((39 : Int32) + 1)) 21 6 1), (wF (wF (wF (wF (cpR A 23 23 14 0 ((39 : Int32) * 14).toNatClampNeg) 23 ((39 : Int32) * 14).toNatClampNeg 6) 23 (((39 : Int32) * 14) + 1).toNatClampNeg x1) 23 (((39 : Int32) * 14) + 2).toNatClampNeg 0) 23 (((39 : Int32) * 14) + 3).toNatClampNeg 0), J, G))))))))))) : X (d + 2) 70 0 [.ref 21, .int x1] [] (F, A, J, G) Q := by
  refine Y_il1 i_70_0 ?_
  refine Y_iconst (v := 1) i_70_1 (by decide) ?_
  refine Y_clt i_70_2 (fun e1 => ?_) (fun e1 => ?_)
  · replace h := h.1 e1
    refine Y_al0 i_70_26 ?_
    refine Y_iconst (v := 1) i_70_27 (by decide) ?_
    refine Y_iv1 (L0 := [.ref 21, .int 1]) i_70_28 ow_70 lm_5_71 ((k_21 hG).trans ow_63.symm) rfl mx_63 rfl rfl hd_70 ?_
    refine Y_al0 i_63_0 ?_
    refine Y_gR i_63_1 ow_63 lf_5_25 (k_21 hG) (r_21_5 hG) ?_
    refine Y_il1 i_63_4 ?_
    refine Y_dup2 i_63_5 rfl rfl ?_
    refine Y_iaload (k := 1) (v := (A 26 1)) i_63_6 (k_26 hG) (l_26 hG) (by decide) (by decide) rfl ?_
    refine Y_iconst (v := 1) i_63_7 (by decide) ?_
    refine Y_iadd i_63_8 ?_
    refine Y_iast (k := 1) i_63_9 (k_26 hG) (l_26 hG) (by decide) (by decide) ?_
    refine Y_iconst (v := (-1)) i_63_10 (by decide) ?_
    refine Y_iret i_63_11 rt_63 (KKi ?_)
    exact Y_iret i_70_31 rt_70 h
  · replace h := h.2 e1
    refine Y_il1 i_70_5 ?_
    refine Y_bipush (v := 30) i_70_6 (by decide) ?_
    refine Y_cgt i_70_8 (fun e2 => ?_) (fun e2 => ?_)
    · replace h := h.1 e2
      refine Y_al0 i_70_26 ?_
      refine Y_iconst (v := 1) i_70_27 (by decide) ?_
      refine Y_iv1 (L0 := [.ref 21, .int 1]) i_70_28 ow_70 lm_5_71 ((k_21 hG).trans ow_63.symm) rfl mx_63 rfl rfl hd_70 ?_
      refine Y_al0 i_63_0 ?_
      refine Y_gR i_63_1 ow_63 lf_5_25 (k_21 hG) (r_21_5 hG) ?_
      refine Y_il1 i_63_4 ?_
      refine Y_dup2 i_63_5 rfl rfl ?_
      refine Y_iaload (k := 1) (v := (A 26 1)) i_63_6 (k_26 hG) (l_26 hG) (by decide) (by decide) rfl ?_
      refine Y_iconst (v := 1) i_63_7 (by decide) ?_
      refine Y_iadd i_63_8 ?_
      refine Y_iast (k := 1) i_63_9 (k_26 hG) (l_26 hG) (by decide) (by decide) ?_
      refine Y_iconst (v := (-1)) i_63_10 (by decide) ?_
      refine Y_iret i_63_11 rt_63 (KKi ?_)
      exact Y_iret i_70_31 rt_70 h
    · replace h := h.2 e2
      refine Y_al0 i_70_11 ?_
      refine Y_gR i_70_12 ow_70 lf_5_33 (k_21 hG) (r_21_0 hG) ?_
      refine Y_gI (v := (F 27 2)) i_70_15 ow_70 lf_5_107 (by decide) (k_27 hG) rfl ?_
      refine Y_il1 i_70_18 ?_
      refine Y_iadd i_70_19 ?_
      refine Y_sipush (v := 999) i_70_20 (by decide) ?_
      refine Y_cle i_70_23 (fun e3 => ?_) (fun e3 => ?_)
      · replace h := h.1 e3
        refine Y_al0 i_70_26 ?_
        refine Y_iconst (v := 1) i_70_27 (by decide) ?_
        refine Y_iv1 (L0 := [.ref 21, .int 1]) i_70_28 ow_70 lm_5_71 ((k_21 hG).trans ow_63.symm) rfl mx_63 rfl rfl hd_70 ?_
        refine Y_al0 i_63_0 ?_
        refine Y_gR i_63_1 ow_63 lf_5_25 (k_21 hG) (r_21_5 hG) ?_
        refine Y_il1 i_63_4 ?_
        refine Y_dup2 i_63_5 rfl rfl ?_
        refine Y_iaload (k := 1) (v := (A 26 1)) i_63_6 (k_26 hG) (l_26 hG) (by decide) (by decide) rfl ?_
        refine Y_iconst (v := 1) i_63_7 (by decide) ?_
        refine Y_iadd i_63_8 ?_
        refine Y_iast (k := 1) i_63_9 (k_26 hG) (l_26 hG) (by decide) (by decide) ?_
        refine Y_iconst (v := (-1)) i_63_10 (by decide) ?_
        refine Y_iret i_63_11 rt_63 (KKi ?_)
        exact Y_iret i_70_31 rt_70 h
      · replace h := h.2 e3
        refine Y_al0 i_70_32 ?_
        refine Y_gR i_70_33 ow_70 lf_5_33 (k_21 hG) (r_21_0 hG) ?_
        refine Y_dup i_70_36 rfl ?_
        refine Y_gI (v := (F 27 2)) i_70_37 ow_70 lf_5_107 (by decide) (k_27 hG) rfl ?_
        refine Y_il1 i_70_40 ?_
        refine Y_iadd i_70_41 ?_
        refine Y_pI i_70_42 ow_70 lf_5_107 (k_27 hG) ?_
        refine Y_al0 i_70_45 ?_
        refine Y_bipush (v := 6) i_70_46 (by decide) ?_
        refine Y_il1 i_70_48 ?_
        refine Y_iconst (v := 0) i_70_49 (by decide) ?_
        refine Y_iconst (v := 0) i_70_50 (by decide) ?_
        refine Y_iv4 (L0 := [.ref 21, .int 6, .int x1, .int 0, .int 0]) i_70_51 ow_70 lm_5_78 ((k_21 hG).trans ow_73.symm) rfl mx_73 rfl rfl hd_70 ?_
        refine Y_al0 i_73_0 ?_
        refine Y_gR i_73_1 ow_73 lf_5_12 (k_21 hG) (r_21_1 hG) ?_
        refine Y_il1 i_73_4 ?_
        refine Y_il2 i_73_5 ?_
        refine Y_il3 i_73_6 ?_
        refine Y_il4 i_73_7 ?_
        refine Y_iv4 (L0 := [.ref 22, .int 6, .int x1, .int 0, .int 0, .null]) i_73_9 ow_73 lm_5_114 ((k_22 hG).trans ow_2.symm) rfl mx_2 rfl rfl hd_73 ?_
        refine Y_al0 i_2_0 ?_
        refine Y_gI (v := (F 22 0)) i_2_1 ow_2 lf_0_15 (by decide) (k_22 hG) (by simp [wF, wJ, va_up, cpR, bF, bA]) ?_
        refine Y_bipush (v := 40) i_2_4 (by decide) ?_
        refine Y_clt i_2_6 (fun e4 => ?_) (fun e4 => ?_)
        · replace h := h.1 e4
          refine Y_al0 i_2_36 ?_
          refine Y_gI (v := (F 22 0)) i_2_37 ow_2 lf_0_15 (by decide) (k_22 hG) (by simp [wF, wJ, va_up, cpR, bF, bA]) ?_
          refine Y_bipush (v := 14) i_2_40 (by decide) ?_
          refine Y_imul i_2_42 ?_
          refine Y_is5 i_2_43 rfl ?_
          refine Y_al0 i_2_45 ?_
          refine Y_gR i_2_46 ow_2 lf_0_11 (k_22 hG) (r_22_1 hG) ?_
          refine Y_il5 i_2_49 ?_
          refine Y_il1 i_2_51 ?_
          have o5 := h.1
          replace h := h.2
          refine Y_iast i_2_52 (k_23 hG) (l_23 hG) o5 rfl ?_
          refine Y_al0 i_2_53 ?_
          refine Y_gR i_2_54 ow_2 lf_0_11 (k_22 hG) (r_22_1 hG) ?_
          refine Y_il5 i_2_57 ?_
          refine Y_iconst (v := 1) i_2_59 (by decide) ?_
          refine Y_iadd i_2_60 ?_
          refine Y_il2 i_2_61 ?_
          have o6 := h.1
          replace h := h.2
          refine Y_iast i_2_62 (k_23 hG) (l_23 hG) o6 rfl ?_
          refine Y_al0 i_2_63 ?_
          refine Y_gR i_2_64 ow_2 lf_0_11 (k_22 hG) (r_22_1 hG) ?_
          refine Y_il5 i_2_67 ?_
          refine Y_iconst (v := 2) i_2_69 (by decide) ?_
          refine Y_iadd i_2_70 ?_
          refine Y_il3 i_2_71 ?_
          have o7 := h.1
          replace h := h.2
          refine Y_iast i_2_72 (k_23 hG) (l_23 hG) o7 rfl ?_
          refine Y_al0 i_2_73 ?_
          refine Y_gR i_2_74 ow_2 lf_0_11 (k_22 hG) (r_22_1 hG) ?_
          refine Y_il5 i_2_77 ?_
          refine Y_iconst (v := 3) i_2_79 (by decide) ?_
          refine Y_iadd i_2_80 ?_
          refine Y_il4 i_2_81 ?_
          have o8 := h.1
          replace h := h.2
          refine Y_iast i_2_83 (k_23 hG) (l_23 hG) o8 rfl ?_
          refine Y_al0 i_2_84 ?_
          refine Y_dup i_2_85 rfl ?_
          refine Y_gI (v := (F 22 0)) i_2_86 ow_2 lf_0_15 (by decide) (k_22 hG) (by simp [wF, wJ, va_up, cpR, bF, bA]) ?_
          refine Y_iconst (v := 1) i_2_89 (by decide) ?_
          refine Y_iadd i_2_90 ?_
          refine Y_pI i_2_91 ow_2 lf_0_15 (k_22 hG) ?_
          refine Y_vret i_2_94 rt_2 (KKv ?_)
          refine Y_al0 i_73_12 ?_
          refine Y_iconst (v := 1) i_73_13 (by decide) ?_
          refine Y_pB i_73_14 ow_73 lf_5_37 (k_21 hG) (by decide) ?_
          refine Y_vret i_73_17 rt_73 (KKv ?_)
          refine Y_al0 i_70_54 ?_
          refine Y_gR i_70_55 ow_70 lf_5_33 (k_21 hG) (r_21_0 hG) ?_
          refine Y_gI (v := ((F 27 2) + x1)) i_70_58 ow_70 lf_5_107 (by decide) (k_27 hG) (by simp [wF, wJ, va_up, cpR, bF, bA]) ?_
          exact Y_iret i_70_61 rt_70 h
        · replace h := h.2 e4
          refine Y_al0 i_2_9 ?_
          refine Y_bipush (v := 39) i_2_10 (by decide) ?_
          refine Y_pI i_2_12 ow_2 lf_0_15 (k_22 hG) ?_
          refine Y_al0 i_2_15 ?_
          refine Y_gR i_2_16 ow_2 lf_0_11 (k_22 hG) (r_22_1 hG) ?_
          refine Y_bipush (v := 14) i_2_19 (by decide) ?_
          refine Y_al0 i_2_21 ?_
          refine Y_gR i_2_22 ow_2 lf_0_11 (k_22 hG) (r_22_1 hG) ?_
          refine Y_iconst (v := 0) i_2_25 (by decide) ?_
          refine Y_al0 i_2_26 ?_
          refine Y_gI (v := 39) i_2_27 ow_2 lf_0_15 (by decide) (k_22 hG) (by simp [wF, wJ, va_up, cpR, bF, bA]) ?_
          refine Y_bipush (v := 14) i_2_30 (by decide) ?_
          refine Y_imul i_2_32 ?_
          have o9 := h.1
          replace h := h.2
          refine Y_acp (ksp := 14) (kdp := 0) (kn := ((39 : Int32) * 14).toNatClampNeg) i_2_33 ow_2 lm_0_19 rfl (k_23 hG) (k_23 hG) (l_23 hG) (l_23 hG) o9 (by decide) (by decide) rfl ?_
          refine Y_al0 i_2_36 ?_
          refine Y_gI (v := 39) i_2_37 ow_2 lf_0_15 (by decide) (k_22 hG) (by simp [wF, wJ, va_up, cpR, bF, bA]) ?_
          refine Y_bipush (v := 14) i_2_40 (by decide) ?_
          refine Y_imul i_2_42 ?_
          refine Y_is5 i_2_43 rfl ?_
          refine Y_al0 i_2_45 ?_
          refine Y_gR i_2_46 ow_2 lf_0_11 (k_22 hG) (r_22_1 hG) ?_
          refine Y_il5 i_2_49 ?_
          refine Y_il1 i_2_51 ?_
          have o10 := h.1
          replace h := h.2
          refine Y_iast i_2_52 (k_23 hG) (l_23 hG) o10 rfl ?_
          refine Y_al0 i_2_53 ?_
          refine Y_gR i_2_54 ow_2 lf_0_11 (k_22 hG) (r_22_1 hG) ?_
          refine Y_il5 i_2_57 ?_
          refine Y_iconst (v := 1) i_2_59 (by decide) ?_
          refine Y_iadd i_2_60 ?_
          refine Y_il2 i_2_61 ?_
          have o11 := h.1
          replace h := h.2
          refine Y_iast i_2_62 (k_23 hG) (l_23 hG) o11 rfl ?_
          refine Y_al0 i_2_63 ?_
          refine Y_gR i_2_64 ow_2 lf_0_11 (k_22 hG) (r_22_1 hG) ?_
          refine Y_il5 i_2_67 ?_
          refine Y_iconst (v := 2) i_2_69 (by decide) ?_
          refine Y_iadd i_2_70 ?_
          refine Y_il3 i_2_71 ?_
          have o12 := h.1
          replace h := h.2
          refine Y_iast i_2_72 (k_23 hG) (l_23 hG) o12 rfl ?_
          refine Y_al0 i_2_73 ?_
          refine Y_gR i_2_74 ow_2 lf_0_11 (k_22 hG) (r_22_1 hG) ?_
          refine Y_il5 i_2_77 ?_
          refine Y_iconst (v := 3) i_2_79 (by decide) ?_
          refine Y_iadd i_2_80 ?_
          refine Y_il4 i_2_81 ?_
          have o13 := h.1
          replace h := h.2
          refine Y_iast i_2_83 (k_23 hG) (l_23 hG) o13 rfl ?_
          refine Y_al0 i_2_84 ?_
          refine Y_dup i_2_85 rfl ?_
          refine Y_gI (v := 39) i_2_86 ow_2 lf_0_15 (by decide) (k_22 hG) (by simp [wF, wJ, va_up, cpR, bF, bA]) ?_
          refine Y_iconst (v := 1) i_2_89 (by decide) ?_
          refine Y_iadd i_2_90 ?_
          refine Y_pI i_2_91 ow_2 lf_0_15 (k_22 hG) ?_
          refine Y_vret i_2_94 rt_2 (KKv ?_)
          refine Y_al0 i_73_12 ?_
          refine Y_iconst (v := 1) i_73_13 (by decide) ?_
          refine Y_pB i_73_14 ow_73 lf_5_37 (k_21 hG) (by decide) ?_
          refine Y_vret i_73_17 rt_73 (KKv ?_)
          refine Y_al0 i_70_54 ?_
          refine Y_gR i_70_55 ow_70 lf_5_33 (k_21 hG) (r_21_0 hG) ?_
          refine Y_gI (v := ((F 27 2) + x1)) i_70_58 ow_70 lf_5_107 (by decide) (k_27 hG) (by simp [wF, wJ, va_up, cpR, bF, bA]) ?_
          exact Y_iret i_70_61 rt_70 h
/- 71 State.undoLast()I -/
theorem t_71_0 {d : Nat} {F A : Nat → Nat → Int32} {J : Nat → Nat → Int64} {G : pG} {Q : pR → pM → Prop} {SL p q : Nat} (hG : Geo G SL p q) (h : X (d + 2) 4 0 [.ref 22, .ref 27, .null, .null, .null] [] (F, A, J, G) (KK (d + 3) 71 11 [.ref 21] [] Q)) : X (d + 3) 71 0 [.ref 21] [] (F, A, J, G) Q := by
  refine Y_al0 i_71_0 ?_
  refine Y_gR i_71_1 ow_71 lf_5_12 (k_21 hG) (r_21_1 hG) ?_
  refine Y_al0 i_71_4 ?_
  refine Y_gR i_71_5 ow_71 lf_5_33 (k_21 hG) (r_21_0 hG) ?_
  exact Y_iv1 (L0 := [.ref 22, .ref 27, .null, .null, .null]) i_71_8 ow_71 lm_5_110 ((k_22 hG).trans ow_4.symm) rfl mx_4 rfl rfl hd_71 h
theorem k_71_11 {d : Nat} {F A : Nat → Nat → Int32} {J : Nat → Nat → Int64} {G : pG} {Q : pR → pM → Prop} {SL p q : Nat} {r : Int32} (hG : Geo G SL p q) (h : ((r = 0 → Q (.inl (some (.int (-1)))) (F, A, J, G)) ∧ (¬ r = 0 → Q (.inl (some (.int (F 22 0)))) ((wF F 21 6 1), A, J, G)))) : KK (d + 3) 71 11 [.ref 21] [] Q (.inl (some (.int r))) (F, A, J, G) := by
  refine KKi ?_
  refine Y_zne i_71_11 (fun e1 => ?_) (fun e1 => ?_)
  · replace h := h.1 e1
    refine Y_iconst (v := (-1)) i_71_14 (by decide) ?_
    exact Y_iret i_71_15 rt_71 h
  · replace h := h.2 e1
    refine Y_al0 i_71_16 ?_
    refine Y_iconst (v := 1) i_71_17 (by decide) ?_
    refine Y_pB i_71_18 ow_71 lf_5_37 (k_21 hG) (by decide) ?_
    refine Y_al0 i_71_21 ?_
    refine Y_gR i_71_22 ow_71 lf_5_12 (k_21 hG) (r_21_1 hG) ?_
    refine Y_gI (v := (F 22 0)) i_71_25 ow_71 lf_5_44 (by decide) (k_22 hG) (by simp [wF, wJ, va_up, cpR, bF, bA]) ?_
    exact Y_iret i_71_28 rt_71 h
/- 72 State.addSight(II)I -/
theorem t_72_0 {d : Nat} {F A : Nat → Nat → Int32} {J : Nat → Nat → Int64} {G : pG} {Q : pR → pM → Prop} {SL p q : Nat} {x1 x2 : Int32} (hG : Geo G SL p q) (h : ((x1 < 0 → (((F 21 2) < 8 → Q (.inl (some (.int (-1)))) (F, (wF A 26 2 ((A 26 2) + 1)), J, G)) ∧ (¬ (F 21 2) < 8 → Q (.inl (some (.int (-1)))) (F, (wF A 26 2 ((A 26 2) + 1)), J, G)))) ∧ (¬ x1 < 0 → ((x1 < (F 27 1) → (((F 21 2) < 8 → ((x2 < (-99) → Q (.inl (some (.int (-1)))) (F, (wF A 26 2 ((A 26 2) + 1)), J, G)) ∧ (¬ x2 < (-99) → ((99 < x2 → Q (.inl (some (.int (-1)))) (F, (wF A 26 2 ((A 26 2) + 1)), J, G)) ∧ (¬ 99 < x2 → inB (F 21 2) 8 = true ∧ (Q (.inl (some (.int ((F 21 2) + 1)))) ((wF F 21 2 ((F 21 2) + 1)), (wF (wF A 24 (F 21 2).toNatClampNeg x1) 25 (F 21 2).toNatClampNeg x2), J, G))))))) ∧ (¬ (F 21 2) < 8 → Q (.inl (some (.int (-1)))) (F, (wF A 26 2 ((A 26 2) + 1)), J, G)))) ∧ (¬ x1 < (F 27 1) → (((F 21 2) < 8 → Q (.inl (some (.int (-1)))) (F, (wF A 26 2 ((A 26 2) + 1)), J, G)) ∧ (¬ (F 21 2) < 8 → Q (.inl (some (.int (-1)))) (F, (wF A 26 2 ((A 26 2) + 1)), J, G)))))))) : X (d + 1) 72 0 [.ref 21, .int x1, .int x2, .null] [] (F, A, J, G) Q := by
  refine Y_il1 i_72_0 ?_
  refine Y_zlt i_72_1 (fun e1 => ?_) (fun e1 => ?_)
  · replace h := h.1 e1
    refine Y_iconst (v := 1) i_72_15 (by decide) ?_
    refine Y_goto i_72_16 ?_
    refine Y_is3 i_72_20 rfl ?_
    refine Y_al0 i_72_21 ?_
    refine Y_gI (v := (F 21 2)) i_72_22 ow_72 lf_5_48 (by decide) (k_21 hG) rfl ?_
    refine Y_bipush (v := 8) i_72_25 (by decide) ?_
    refine Y_cge i_72_27 (fun e2 => ?_) (fun e2 => ?_)
    · replace h := h.1 e2
      refine Y_il3 i_72_30 ?_
      refine Y_zT i_72_31 (by decide) ?_
      refine Y_al0 i_72_46 ?_
      refine Y_iconst (v := 2) i_72_47 (by decide) ?_
      refine Y_iv1 (L0 := [.ref 21, .int 2]) i_72_48 ow_72 lm_5_71 ((k_21 hG).trans ow_63.symm) rfl mx_63 rfl rfl hd_72 ?_
      refine Y_al0 i_63_0 ?_
      refine Y_gR i_63_1 ow_63 lf_5_25 (k_21 hG) (r_21_5 hG) ?_
      refine Y_il1 i_63_4 ?_
      refine Y_dup2 i_63_5 rfl rfl ?_
      refine Y_iaload (k := 2) (v := (A 26 2)) i_63_6 (k_26 hG) (l_26 hG) (by decide) (by decide) rfl ?_
      refine Y_iconst (v := 1) i_63_7 (by decide) ?_
      refine Y_iadd i_63_8 ?_
      refine Y_iast (k := 2) i_63_9 (k_26 hG) (l_26 hG) (by decide) (by decide) ?_
      refine Y_iconst (v := (-1)) i_63_10 (by decide) ?_
      refine Y_iret i_63_11 rt_63 (KKi ?_)
      exact Y_iret i_72_51 rt_72 h
    · replace h := h.2 e2
      refine Y_al0 i_72_46 ?_
      refine Y_iconst (v := 2) i_72_47 (by decide) ?_
      refine Y_iv1 (L0 := [.ref 21, .int 2]) i_72_48 ow_72 lm_5_71 ((k_21 hG).trans ow_63.symm) rfl mx_63 rfl rfl hd_72 ?_
      refine Y_al0 i_63_0 ?_
      refine Y_gR i_63_1 ow_63 lf_5_25 (k_21 hG) (r_21_5 hG) ?_
      refine Y_il1 i_63_4 ?_
      refine Y_dup2 i_63_5 rfl rfl ?_
      refine Y_iaload (k := 2) (v := (A 26 2)) i_63_6 (k_26 hG) (l_26 hG) (by decide) (by decide) rfl ?_
      refine Y_iconst (v := 1) i_63_7 (by decide) ?_
      refine Y_iadd i_63_8 ?_
      refine Y_iast (k := 2) i_63_9 (k_26 hG) (l_26 hG) (by decide) (by decide) ?_
      refine Y_iconst (v := (-1)) i_63_10 (by decide) ?_
      refine Y_iret i_63_11 rt_63 (KKi ?_)
      exact Y_iret i_72_51 rt_72 h
  · replace h := h.2 e1
    refine Y_il1 i_72_4 ?_
    refine Y_al0 i_72_5 ?_
    refine Y_gR i_72_6 ow_72 lf_5_33 (k_21 hG) (r_21_0 hG) ?_
    refine Y_gI (v := (F 27 1)) i_72_9 ow_72 lf_5_68 (by decide) (k_27 hG) rfl ?_
    refine Y_clt i_72_12 (fun e3 => ?_) (fun e3 => ?_)
    · replace h := h.1 e3
      refine Y_iconst (v := 0) i_72_19 (by decide) ?_
      refine Y_is3 i_72_20 rfl ?_
      refine Y_al0 i_72_21 ?_
      refine Y_gI (v := (F 21 2)) i_72_22 ow_72 lf_5_48 (by decide) (k_21 hG) rfl ?_
      refine Y_bipush (v := 8) i_72_25 (by decide) ?_
      refine Y_cge i_72_27 (fun e4 => ?_) (fun e4 => ?_)
      · replace h := h.1 e4
        refine Y_il3 i_72_30 ?_
        refine Y_zF i_72_31 (by decide) ?_
        refine Y_il2 i_72_34 ?_
        refine Y_bipush (v := (-99)) i_72_35 (by decide) ?_
        refine Y_clt i_72_37 (fun e5 => ?_) (fun e5 => ?_)
        · replace h := h.1 e5
          refine Y_al0 i_72_46 ?_
          refine Y_iconst (v := 2) i_72_47 (by decide) ?_
          refine Y_iv1 (L0 := [.ref 21, .int 2]) i_72_48 ow_72 lm_5_71 ((k_21 hG).trans ow_63.symm) rfl mx_63 rfl rfl hd_72 ?_
          refine Y_al0 i_63_0 ?_
          refine Y_gR i_63_1 ow_63 lf_5_25 (k_21 hG) (r_21_5 hG) ?_
          refine Y_il1 i_63_4 ?_
          refine Y_dup2 i_63_5 rfl rfl ?_
          refine Y_iaload (k := 2) (v := (A 26 2)) i_63_6 (k_26 hG) (l_26 hG) (by decide) (by decide) rfl ?_
          refine Y_iconst (v := 1) i_63_7 (by decide) ?_
          refine Y_iadd i_63_8 ?_
          refine Y_iast (k := 2) i_63_9 (k_26 hG) (l_26 hG) (by decide) (by decide) ?_
          refine Y_iconst (v := (-1)) i_63_10 (by decide) ?_
          refine Y_iret i_63_11 rt_63 (KKi ?_)
          exact Y_iret i_72_51 rt_72 h
        · replace h := h.2 e5
          refine Y_il2 i_72_40 ?_
          refine Y_bipush (v := 99) i_72_41 (by decide) ?_
          refine Y_cle i_72_43 (fun e6 => ?_) (fun e6 => ?_)
          · replace h := h.1 e6
            refine Y_al0 i_72_46 ?_
            refine Y_iconst (v := 2) i_72_47 (by decide) ?_
            refine Y_iv1 (L0 := [.ref 21, .int 2]) i_72_48 ow_72 lm_5_71 ((k_21 hG).trans ow_63.symm) rfl mx_63 rfl rfl hd_72 ?_
            refine Y_al0 i_63_0 ?_
            refine Y_gR i_63_1 ow_63 lf_5_25 (k_21 hG) (r_21_5 hG) ?_
            refine Y_il1 i_63_4 ?_
            refine Y_dup2 i_63_5 rfl rfl ?_
            refine Y_iaload (k := 2) (v := (A 26 2)) i_63_6 (k_26 hG) (l_26 hG) (by decide) (by decide) rfl ?_
            refine Y_iconst (v := 1) i_63_7 (by decide) ?_
            refine Y_iadd i_63_8 ?_
            refine Y_iast (k := 2) i_63_9 (k_26 hG) (l_26 hG) (by decide) (by decide) ?_
            refine Y_iconst (v := (-1)) i_63_10 (by decide) ?_
            refine Y_iret i_63_11 rt_63 (KKi ?_)
            exact Y_iret i_72_51 rt_72 h
          · replace h := h.2 e6
            refine Y_al0 i_72_52 ?_
            refine Y_gR i_72_53 ow_72 lf_5_18 (k_21 hG) (r_21_3 hG) ?_
            refine Y_al0 i_72_56 ?_
            refine Y_gI (v := (F 21 2)) i_72_57 ow_72 lf_5_48 (by decide) (k_21 hG) rfl ?_
            refine Y_il1 i_72_60 ?_
            have o7 := h.1
            replace h := h.2
            refine Y_iast i_72_61 (k_24 hG) (l_24 hG) o7 rfl ?_
            refine Y_al0 i_72_62 ?_
            refine Y_gR i_72_63 ow_72 lf_5_22 (k_21 hG) (r_21_4 hG) ?_
            refine Y_al0 i_72_66 ?_
            refine Y_gI (v := (F 21 2)) i_72_67 ow_72 lf_5_48 (by decide) (k_21 hG) rfl ?_
            refine Y_il2 i_72_70 ?_
            refine Y_iast i_72_71 (k_25 hG) (l_25 hG) o7 rfl ?_
            refine Y_al0 i_72_72 ?_
            refine Y_dup i_72_73 rfl ?_
            refine Y_gI (v := (F 21 2)) i_72_74 ow_72 lf_5_48 (by decide) (k_21 hG) rfl ?_
            refine Y_iconst (v := 1) i_72_77 (by decide) ?_
            refine Y_iadd i_72_78 ?_
            refine Y_pI i_72_79 ow_72 lf_5_48 (k_21 hG) ?_
            refine Y_al0 i_72_82 ?_
            refine Y_gI (v := ((F 21 2) + 1)) i_72_83 ow_72 lf_5_48 (by decide) (k_21 hG) (by simp [wF, wJ, va_up, cpR, bF, bA]) ?_
            exact Y_iret i_72_86 rt_72 h
      · replace h := h.2 e4
        refine Y_al0 i_72_46 ?_
        refine Y_iconst (v := 2) i_72_47 (by decide) ?_
        refine Y_iv1 (L0 := [.ref 21, .int 2]) i_72_48 ow_72 lm_5_71 ((k_21 hG).trans ow_63.symm) rfl mx_63 rfl rfl hd_72 ?_
        refine Y_al0 i_63_0 ?_
        refine Y_gR i_63_1 ow_63 lf_5_25 (k_21 hG) (r_21_5 hG) ?_
        refine Y_il1 i_63_4 ?_
        refine Y_dup2 i_63_5 rfl rfl ?_
        refine Y_iaload (k := 2) (v := (A 26 2)) i_63_6 (k_26 hG) (l_26 hG) (by decide) (by decide) rfl ?_
        refine Y_iconst (v := 1) i_63_7 (by decide) ?_
        refine Y_iadd i_63_8 ?_
        refine Y_iast (k := 2) i_63_9 (k_26 hG) (l_26 hG) (by decide) (by decide) ?_
        refine Y_iconst (v := (-1)) i_63_10 (by decide) ?_
        refine Y_iret i_63_11 rt_63 (KKi ?_)
        exact Y_iret i_72_51 rt_72 h
    · replace h := h.2 e3
      refine Y_iconst (v := 1) i_72_15 (by decide) ?_
      refine Y_goto i_72_16 ?_
      refine Y_is3 i_72_20 rfl ?_
      refine Y_al0 i_72_21 ?_
      refine Y_gI (v := (F 21 2)) i_72_22 ow_72 lf_5_48 (by decide) (k_21 hG) rfl ?_
      refine Y_bipush (v := 8) i_72_25 (by decide) ?_
      refine Y_cge i_72_27 (fun e8 => ?_) (fun e8 => ?_)
      · replace h := h.1 e8
        refine Y_il3 i_72_30 ?_
        refine Y_zT i_72_31 (by decide) ?_
        refine Y_al0 i_72_46 ?_
        refine Y_iconst (v := 2) i_72_47 (by decide) ?_
        refine Y_iv1 (L0 := [.ref 21, .int 2]) i_72_48 ow_72 lm_5_71 ((k_21 hG).trans ow_63.symm) rfl mx_63 rfl rfl hd_72 ?_
        refine Y_al0 i_63_0 ?_
        refine Y_gR i_63_1 ow_63 lf_5_25 (k_21 hG) (r_21_5 hG) ?_
        refine Y_il1 i_63_4 ?_
        refine Y_dup2 i_63_5 rfl rfl ?_
        refine Y_iaload (k := 2) (v := (A 26 2)) i_63_6 (k_26 hG) (l_26 hG) (by decide) (by decide) rfl ?_
        refine Y_iconst (v := 1) i_63_7 (by decide) ?_
        refine Y_iadd i_63_8 ?_
        refine Y_iast (k := 2) i_63_9 (k_26 hG) (l_26 hG) (by decide) (by decide) ?_
        refine Y_iconst (v := (-1)) i_63_10 (by decide) ?_
        refine Y_iret i_63_11 rt_63 (KKi ?_)
        exact Y_iret i_72_51 rt_72 h
      · replace h := h.2 e8
        refine Y_al0 i_72_46 ?_
        refine Y_iconst (v := 2) i_72_47 (by decide) ?_
        refine Y_iv1 (L0 := [.ref 21, .int 2]) i_72_48 ow_72 lm_5_71 ((k_21 hG).trans ow_63.symm) rfl mx_63 rfl rfl hd_72 ?_
        refine Y_al0 i_63_0 ?_
        refine Y_gR i_63_1 ow_63 lf_5_25 (k_21 hG) (r_21_5 hG) ?_
        refine Y_il1 i_63_4 ?_
        refine Y_dup2 i_63_5 rfl rfl ?_
        refine Y_iaload (k := 2) (v := (A 26 2)) i_63_6 (k_26 hG) (l_26 hG) (by decide) (by decide) rfl ?_
        refine Y_iconst (v := 1) i_63_7 (by decide) ?_
        refine Y_iadd i_63_8 ?_
        refine Y_iast (k := 2) i_63_9 (k_26 hG) (l_26 hG) (by decide) (by decide) ?_
        refine Y_iconst (v := (-1)) i_63_10 (by decide) ?_
        refine Y_iret i_63_11 rt_63 (KKi ?_)
        exact Y_iret i_72_51 rt_72 h
/- 73 State.keep(IIII)V -/
theorem t_73_0 {d : Nat} {F A : Nat → Nat → Int32} {J : Nat → Nat → Int64} {G : pG} {Q : pR → pM → Prop} {SL p q : Nat} {x1 x2 x3 x4 : Int32} (hG : Geo G SL p q) (h : (((F 22 0) < 40 → inB ((F 22 0) * 14) 560 = true ∧ inB (((F 22 0) * 14) + 1) 560 = true ∧ inB (((F 22 0) * 14) + 2) 560 = true ∧ inB (((F 22 0) * 14) + 3) 560 = true ∧ (Q (.inl none) ((wF (wF F 22 0 ((F 22 0) + 1)) 21 6 1), (wF (wF (wF (wF A 23 ((F 22 0) * 14).toNatClampNeg x1) 23 (((F 22 0) * 14) + 1).toNatClampNeg x2) 23 (((F 22 0) * 14) + 2).toNatClampNeg x3) 23 (((F 22 0) * 14) + 3).toNatClampNeg x4), J, G))) ∧ (¬ (F 22 0) < 40 → (¬ (14 : Int32) < 0 ∧ ¬ (0 : Int32) < 0 ∧ ¬ ((39 : Int32) * 14) < 0 ∧ (14 : Int32).toNatClampNeg + ((39 : Int32) * 14).toNatClampNeg ≤ 560 ∧ (0 : Int32).toNatClampNeg + ((39 : Int32) * 14).toNatClampNeg ≤ 560) ∧ inB ((39 : Int32) * 14) 560 = true ∧ inB (((39 : Int32) * 14) + 1) 560 = true ∧ inB (((39 : Int32) * 14) + 2) 560 = true ∧ inB (((39 : Int32) * 14) + 3) 560 = true ∧ (Q (.inl none) ((wF (wF (wF F 22 0 39) 22 0 ((39 : Int32) + 1)) 21 6 1), (wF (wF (wF (wF (cpR A 23 23 14 0 ((39 : Int32) * 14).toNatClampNeg) 23 ((39 : Int32) * 14).toNatClampNeg x1) 23 (((39 : Int32) * 14) + 1).toNatClampNeg x2) 23 (((39 : Int32) * 14) + 2).toNatClampNeg x3) 23 (((39 : Int32) * 14) + 3).toNatClampNeg x4), J, G))))) : X (d + 1) 73 0 [.ref 21, .int x1, .int x2, .int x3, .int x4] [] (F, A, J, G) Q := by
  refine Y_al0 i_73_0 ?_
  refine Y_gR i_73_1 ow_73 lf_5_12 (k_21 hG) (r_21_1 hG) ?_
  refine Y_il1 i_73_4 ?_
  refine Y_il2 i_73_5 ?_
  refine Y_il3 i_73_6 ?_
  refine Y_il4 i_73_7 ?_
  refine Y_iv4 (L0 := [.ref 22, .int x1, .int x2, .int x3, .int x4, .null]) i_73_9 ow_73 lm_5_114 ((k_22 hG).trans ow_2.symm) rfl mx_2 rfl rfl hd_73 ?_
  refine Y_al0 i_2_0 ?_
  refine Y_gI (v := (F 22 0)) i_2_1 ow_2 lf_0_15 (by decide) (k_22 hG) rfl ?_
  refine Y_bipush (v := 40) i_2_4 (by decide) ?_
  refine Y_clt i_2_6 (fun e1 => ?_) (fun e1 => ?_)
  · replace h := h.1 e1
    refine Y_al0 i_2_36 ?_
    refine Y_gI (v := (F 22 0)) i_2_37 ow_2 lf_0_15 (by decide) (k_22 hG) rfl ?_
    refine Y_bipush (v := 14) i_2_40 (by decide) ?_
    refine Y_imul i_2_42 ?_
    refine Y_is5 i_2_43 rfl ?_
    refine Y_al0 i_2_45 ?_
    refine Y_gR i_2_46 ow_2 lf_0_11 (k_22 hG) (r_22_1 hG) ?_
    refine Y_il5 i_2_49 ?_
    refine Y_il1 i_2_51 ?_
    have o2 := h.1
    replace h := h.2
    refine Y_iast i_2_52 (k_23 hG) (l_23 hG) o2 rfl ?_
    refine Y_al0 i_2_53 ?_
    refine Y_gR i_2_54 ow_2 lf_0_11 (k_22 hG) (r_22_1 hG) ?_
    refine Y_il5 i_2_57 ?_
    refine Y_iconst (v := 1) i_2_59 (by decide) ?_
    refine Y_iadd i_2_60 ?_
    refine Y_il2 i_2_61 ?_
    have o3 := h.1
    replace h := h.2
    refine Y_iast i_2_62 (k_23 hG) (l_23 hG) o3 rfl ?_
    refine Y_al0 i_2_63 ?_
    refine Y_gR i_2_64 ow_2 lf_0_11 (k_22 hG) (r_22_1 hG) ?_
    refine Y_il5 i_2_67 ?_
    refine Y_iconst (v := 2) i_2_69 (by decide) ?_
    refine Y_iadd i_2_70 ?_
    refine Y_il3 i_2_71 ?_
    have o4 := h.1
    replace h := h.2
    refine Y_iast i_2_72 (k_23 hG) (l_23 hG) o4 rfl ?_
    refine Y_al0 i_2_73 ?_
    refine Y_gR i_2_74 ow_2 lf_0_11 (k_22 hG) (r_22_1 hG) ?_
    refine Y_il5 i_2_77 ?_
    refine Y_iconst (v := 3) i_2_79 (by decide) ?_
    refine Y_iadd i_2_80 ?_
    refine Y_il4 i_2_81 ?_
    have o5 := h.1
    replace h := h.2
    refine Y_iast i_2_83 (k_23 hG) (l_23 hG) o5 rfl ?_
    refine Y_al0 i_2_84 ?_
    refine Y_dup i_2_85 rfl ?_
    refine Y_gI (v := (F 22 0)) i_2_86 ow_2 lf_0_15 (by decide) (k_22 hG) rfl ?_
    refine Y_iconst (v := 1) i_2_89 (by decide) ?_
    refine Y_iadd i_2_90 ?_
    refine Y_pI i_2_91 ow_2 lf_0_15 (k_22 hG) ?_
    refine Y_vret i_2_94 rt_2 (KKv ?_)
    refine Y_al0 i_73_12 ?_
    refine Y_iconst (v := 1) i_73_13 (by decide) ?_
    refine Y_pB i_73_14 ow_73 lf_5_37 (k_21 hG) (by decide) ?_
    exact Y_vret i_73_17 rt_73 h
  · replace h := h.2 e1
    refine Y_al0 i_2_9 ?_
    refine Y_bipush (v := 39) i_2_10 (by decide) ?_
    refine Y_pI i_2_12 ow_2 lf_0_15 (k_22 hG) ?_
    refine Y_al0 i_2_15 ?_
    refine Y_gR i_2_16 ow_2 lf_0_11 (k_22 hG) (r_22_1 hG) ?_
    refine Y_bipush (v := 14) i_2_19 (by decide) ?_
    refine Y_al0 i_2_21 ?_
    refine Y_gR i_2_22 ow_2 lf_0_11 (k_22 hG) (r_22_1 hG) ?_
    refine Y_iconst (v := 0) i_2_25 (by decide) ?_
    refine Y_al0 i_2_26 ?_
    refine Y_gI (v := 39) i_2_27 ow_2 lf_0_15 (by decide) (k_22 hG) (by simp [wF, wJ, va_up, cpR, bF, bA]) ?_
    refine Y_bipush (v := 14) i_2_30 (by decide) ?_
    refine Y_imul i_2_32 ?_
    have o6 := h.1
    replace h := h.2
    refine Y_acp (ksp := 14) (kdp := 0) (kn := ((39 : Int32) * 14).toNatClampNeg) i_2_33 ow_2 lm_0_19 rfl (k_23 hG) (k_23 hG) (l_23 hG) (l_23 hG) o6 (by decide) (by decide) rfl ?_
    refine Y_al0 i_2_36 ?_
    refine Y_gI (v := 39) i_2_37 ow_2 lf_0_15 (by decide) (k_22 hG) (by simp [wF, wJ, va_up, cpR, bF, bA]) ?_
    refine Y_bipush (v := 14) i_2_40 (by decide) ?_
    refine Y_imul i_2_42 ?_
    refine Y_is5 i_2_43 rfl ?_
    refine Y_al0 i_2_45 ?_
    refine Y_gR i_2_46 ow_2 lf_0_11 (k_22 hG) (r_22_1 hG) ?_
    refine Y_il5 i_2_49 ?_
    refine Y_il1 i_2_51 ?_
    have o7 := h.1
    replace h := h.2
    refine Y_iast i_2_52 (k_23 hG) (l_23 hG) o7 rfl ?_
    refine Y_al0 i_2_53 ?_
    refine Y_gR i_2_54 ow_2 lf_0_11 (k_22 hG) (r_22_1 hG) ?_
    refine Y_il5 i_2_57 ?_
    refine Y_iconst (v := 1) i_2_59 (by decide) ?_
    refine Y_iadd i_2_60 ?_
    refine Y_il2 i_2_61 ?_
    have o8 := h.1
    replace h := h.2
    refine Y_iast i_2_62 (k_23 hG) (l_23 hG) o8 rfl ?_
    refine Y_al0 i_2_63 ?_
    refine Y_gR i_2_64 ow_2 lf_0_11 (k_22 hG) (r_22_1 hG) ?_
    refine Y_il5 i_2_67 ?_
    refine Y_iconst (v := 2) i_2_69 (by decide) ?_
    refine Y_iadd i_2_70 ?_
    refine Y_il3 i_2_71 ?_
    have o9 := h.1
    replace h := h.2
    refine Y_iast i_2_72 (k_23 hG) (l_23 hG) o9 rfl ?_
    refine Y_al0 i_2_73 ?_
    refine Y_gR i_2_74 ow_2 lf_0_11 (k_22 hG) (r_22_1 hG) ?_
    refine Y_il5 i_2_77 ?_
    refine Y_iconst (v := 3) i_2_79 (by decide) ?_
    refine Y_iadd i_2_80 ?_
    refine Y_il4 i_2_81 ?_
    have o10 := h.1
    replace h := h.2
    refine Y_iast i_2_83 (k_23 hG) (l_23 hG) o10 rfl ?_
    refine Y_al0 i_2_84 ?_
    refine Y_dup i_2_85 rfl ?_
    refine Y_gI (v := 39) i_2_86 ow_2 lf_0_15 (by decide) (k_22 hG) (by simp [wF, wJ, va_up, cpR, bF, bA]) ?_
    refine Y_iconst (v := 1) i_2_89 (by decide) ?_
    refine Y_iadd i_2_90 ?_
    refine Y_pI i_2_91 ow_2 lf_0_15 (k_22 hG) ?_
    refine Y_vret i_2_94 rt_2 (KKv ?_)
    refine Y_al0 i_73_12 ?_
    refine Y_iconst (v := 1) i_73_13 (by decide) ?_
    refine Y_pB i_73_14 ow_73 lf_5_37 (k_21 hG) (by decide) ?_
    exact Y_vret i_73_17 rt_73 h
/- 75 Tower.begin()V -/
theorem t_75_0 {d : Nat} {F A : Nat → Nat → Int32} {J : Nat → Nat → Int64} {G : pG} {Q : pR → pM → Prop} {SL p q : Nat} (hG : Geo G SL p q) (h : X d 75 23 [.ref 27, .int 0] [] ((wF (wF (wF F 27 1 (F 12 0)) 27 2 0) 27 3 (-1)), A, J, G) Q) : X d 75 0 [.ref 27, .null] [] (F, A, J, G) Q := by
  refine Y_al0 i_75_0 ?_
  refine Y_al0 i_75_1 ?_
  refine Y_gR i_75_2 ow_75 lf_6_33 (k_27 hG) (r_27_0 hG) ?_
  refine Y_gI (v := (F 12 0)) i_75_5 ow_75 lf_6_47 (by decide) (k_12 hG) rfl ?_
  refine Y_pI i_75_8 ow_75 lf_6_37 (k_27 hG) ?_
  refine Y_al0 i_75_11 ?_
  refine Y_iconst (v := 0) i_75_12 (by decide) ?_
  refine Y_pI i_75_13 ow_75 lf_6_41 (k_27 hG) ?_
  refine Y_al0 i_75_16 ?_
  refine Y_iconst (v := (-1)) i_75_17 (by decide) ?_
  refine Y_pI i_75_18 ow_75 lf_6_44 (k_27 hG) ?_
  refine Y_iconst (v := 0) i_75_21 (by decide) ?_
  refine Y_is1 i_75_22 rfl ?_
  exact h
theorem t_75_23 {d : Nat} {F A : Nat → Nat → Int32} {J : Nat → Nat → Int64} {G : pG} {Q : pR → pM → Prop} {SL p q : Nat} {x1 : Int32} (hG : Geo G SL p q) (h : ((x1 < 10 → inB x1 10 = true ∧ (X d 75 23 [.ref 27, .int (x1 + 1)] [] (F, (wF (wF (wF (wF A 28 x1.toNatClampNeg x1) 29 x1.toNatClampNeg 0) 30 x1.toNatClampNeg 0) 31 x1.toNatClampNeg (A 16 x1.toNatClampNeg)), J, G) Q)) ∧ (¬ x1 < 10 → Q (.inl none) (F, A, J, G)))) : X d 75 23 [.ref 27, .int x1] [] (F, A, J, G) Q := by
  refine Y_il1 i_75_23 ?_
  refine Y_bipush (v := 10) i_75_24 (by decide) ?_
  refine Y_cge i_75_26 (fun e1 => ?_) (fun e1 => ?_)
  · replace h := h.1 e1
    refine Y_al0 i_75_29 ?_
    refine Y_gR i_75_30 ow_75 lf_6_9 (k_27 hG) (r_27_4 hG) ?_
    refine Y_il1 i_75_33 ?_
    refine Y_il1 i_75_34 ?_
    have o2 := h.1
    replace h := h.2
    refine Y_iast i_75_35 (k_28 hG) (l_28 hG) o2 rfl ?_
    refine Y_al0 i_75_36 ?_
    refine Y_gR i_75_37 ow_75 lf_6_15 (k_27 hG) (r_27_5 hG) ?_
    refine Y_il1 i_75_40 ?_
    refine Y_iconst (v := 0) i_75_41 (by decide) ?_
    refine Y_iast i_75_42 (k_29 hG) (l_29 hG) o2 rfl ?_
    refine Y_al0 i_75_43 ?_
    refine Y_gR i_75_44 ow_75 lf_6_18 (k_27 hG) (r_27_6 hG) ?_
    refine Y_il1 i_75_47 ?_
    refine Y_iconst (v := 0) i_75_48 (by decide) ?_
    refine Y_iast i_75_49 (k_30 hG) (l_30 hG) o2 rfl ?_
    refine Y_al0 i_75_50 ?_
    refine Y_gR i_75_51 ow_75 lf_6_21 (k_27 hG) (r_27_7 hG) ?_
    refine Y_il1 i_75_54 ?_
    refine Y_al0 i_75_55 ?_
    refine Y_gR i_75_56 ow_75 lf_6_33 (k_27 hG) (r_27_0 hG) ?_
    refine Y_gR i_75_59 ow_75 lf_6_52 (k_12 hG) (r_12_6 hG) ?_
    refine Y_il1 i_75_62 ?_
    refine Y_iaload (k := x1.toNatClampNeg) (v := (A 16 x1.toNatClampNeg)) i_75_63 (k_16 hG) (l_16 hG) o2 rfl (by simp [wF, wJ, va_up, cpR, bF, bA]) ?_
    refine Y_iast i_75_64 (k_31 hG) (l_31 hG) o2 rfl ?_
    refine Y_ii1 (v := 1) i_75_65 (by decide) rfl ?_
    refine Y_goto i_75_68 ?_
    exact h
  · replace h := h.2 e1
    exact Y_vret i_75_71 rt_75 h
/- 79 Tower.insert(II)V -/
theorem t_79_0 {d : Nat} {F A : Nat → Nat → Int32} {J : Nat → Nat → Int64} {G : pG} {Q : pR → pM → Prop} {SL p q : Nat} {t : Nat} {x1 x2 : Int32} (hG : Geo G SL p q) (ht : Tw t) (h : (((F t 1) < 10 → ((x2 < 0 → Q (.inl none) (F, A, J, G)) ∧ (¬ x2 < 0 → (((F t 1) < x2 → Q (.inl none) (F, A, J, G)) ∧ (¬ (F t 1) < x2 → X d 79 27 [.ref t, .int x1, .int x2, .int (F t 1)] [] (F, A, J, G) Q))))) ∧ (¬ (F t 1) < 10 → Q (.inl none) (F, A, J, G)))) : X d 79 0 [.ref t, .int x1, .int x2, .null] [] (F, A, J, G) Q := by
  refine Y_al0 i_79_0 ?_
  refine Y_gI (v := (F t 1)) i_79_1 ow_79 lf_6_37 (by decide) (kT0 hG ht) rfl ?_
  refine Y_bipush (v := 10) i_79_4 (by decide) ?_
  refine Y_cge i_79_6 (fun e1 => ?_) (fun e1 => ?_)
  · replace h := h.1 e1
    refine Y_il2 i_79_9 ?_
    refine Y_zlt i_79_10 (fun e2 => ?_) (fun e2 => ?_)
    · replace h := h.1 e2
      exact Y_vret i_79_21 rt_79 h
    · replace h := h.2 e2
      refine Y_il2 i_79_13 ?_
      refine Y_al0 i_79_14 ?_
      refine Y_gI (v := (F t 1)) i_79_15 ow_79 lf_6_37 (by decide) (kT0 hG ht) rfl ?_
      refine Y_cle i_79_18 (fun e3 => ?_) (fun e3 => ?_)
      · replace h := h.1 e3
        exact Y_vret i_79_21 rt_79 h
      · replace h := h.2 e3
        refine Y_al0 i_79_22 ?_
        refine Y_gI (v := (F t 1)) i_79_23 ow_79 lf_6_37 (by decide) (kT0 hG ht) rfl ?_
        refine Y_is3 i_79_26 rfl ?_
        exact h
  · replace h := h.2 e1
    exact Y_vret i_79_21 rt_79 h
theorem t_79_27 {d : Nat} {F A : Nat → Nat → Int32} {J : Nat → Nat → Int64} {G : pG} {Q : pR → pM → Prop} {SL p q : Nat} {t : Nat} {x1 x2 x3 : Int32} (hG : Geo G SL p q) (ht : Tw t) (h : ((x2 < x3 → inB (x3 - 1) 10 = true ∧ inB x3 10 = true ∧ (X d 79 27 [.ref t, .int x1, .int x2, .int (x3 + (-1))] [] (F, (wF A (t + 1) x3.toNatClampNeg (A (t + 1) (x3 - 1).toNatClampNeg)), J, G) Q)) ∧ (¬ x2 < x3 → inB x2 10 = true ∧ (Q (.inl none) ((wF F t 1 ((F t 1) + 1)), (wF A (t + 1) x2.toNatClampNeg x1), J, G))))) : X d 79 27 [.ref t, .int x1, .int x2, .int x3] [] (F, A, J, G) Q := by
  refine Y_il3 i_79_27 ?_
  refine Y_il2 i_79_28 ?_
  refine Y_cle i_79_29 (fun e1 => ?_) (fun e1 => ?_)
  · replace h := h.1 e1
    refine Y_al0 i_79_32 ?_
    refine Y_gR i_79_33 ow_79 lf_6_9 (kT0 hG ht) (rT4 hG ht) ?_
    refine Y_il3 i_79_36 ?_
    refine Y_al0 i_79_37 ?_
    refine Y_gR i_79_38 ow_79 lf_6_9 (kT0 hG ht) (rT4 hG ht) ?_
    refine Y_il3 i_79_41 ?_
    refine Y_iconst (v := 1) i_79_42 (by decide) ?_
    refine Y_isub i_79_43 ?_
    have o2 := h.1
    replace h := h.2
    refine Y_iaload (k := (x3 - 1).toNatClampNeg) (v := (A (t + 1) (x3 - 1).toNatClampNeg)) i_79_44 (kT1 hG ht) (lT1 hG ht) o2 rfl rfl ?_
    have o3 := h.1
    replace h := h.2
    refine Y_iast i_79_45 (kT1 hG ht) (lT1 hG ht) o3 rfl ?_
    refine Y_ii3 (v := (-1)) i_79_46 (by decide) rfl ?_
    refine Y_goto i_79_49 ?_
    exact h
  · replace h := h.2 e1
    refine Y_al0 i_79_52 ?_
    refine Y_gR i_79_53 ow_79 lf_6_9 (kT0 hG ht) (rT4 hG ht) ?_
    refine Y_il2 i_79_56 ?_
    refine Y_il1 i_79_57 ?_
    have o4 := h.1
    replace h := h.2
    refine Y_iast i_79_58 (kT1 hG ht) (lT1 hG ht) o4 rfl ?_
    refine Y_al0 i_79_59 ?_
    refine Y_dup i_79_60 rfl ?_
    refine Y_gI (v := (F t 1)) i_79_61 ow_79 lf_6_37 (by decide) (kT0 hG ht) rfl ?_
    refine Y_iconst (v := 1) i_79_64 (by decide) ?_
    refine Y_iadd i_79_65 ?_
    refine Y_pI i_79_66 ow_79 lf_6_37 (kT0 hG ht) ?_
    exact Y_vret i_79_69 rt_79 h
/- 80 Tower.removeAt(I)V -/
theorem t_80_0 {d : Nat} {F A : Nat → Nat → Int32} {J : Nat → Nat → Int64} {G : pG} {Q : pR → pM → Prop} {SL p q : Nat} {t : Nat} {x1 : Int32} (hG : Geo G SL p q) (ht : Tw t) (h : ((x1 < 0 → Q (.inl none) (F, A, J, G)) ∧ (¬ x1 < 0 → ((x1 < (F t 1) → X d 80 15 [.ref t, .int x1, .int x1] [] (F, A, J, G) Q) ∧ (¬ x1 < (F t 1) → Q (.inl none) (F, A, J, G)))))) : X d 80 0 [.ref t, .int x1, .null] [] (F, A, J, G) Q := by
  refine Y_il1 i_80_0 ?_
  refine Y_zlt i_80_1 (fun e1 => ?_) (fun e1 => ?_)
  · replace h := h.1 e1
    exact Y_vret i_80_12 rt_80 h
  · replace h := h.2 e1
    refine Y_il1 i_80_4 ?_
    refine Y_al0 i_80_5 ?_
    refine Y_gI (v := (F t 1)) i_80_6 ow_80 lf_6_37 (by decide) (kT0 hG ht) rfl ?_
    refine Y_clt i_80_9 (fun e2 => ?_) (fun e2 => ?_)
    · replace h := h.1 e2
      refine Y_il1 i_80_13 ?_
      refine Y_is2 i_80_14 rfl ?_
      exact h
    · replace h := h.2 e2
      exact Y_vret i_80_12 rt_80 h
theorem t_80_15 {d : Nat} {F A : Nat → Nat → Int32} {J : Nat → Nat → Int64} {G : pG} {Q : pR → pM → Prop} {SL p q : Nat} {t : Nat} {x1 x2 : Int32} (hG : Geo G SL p q) (ht : Tw t) (h : ((x2 < ((F t 1) - 1) → inB (x2 + 1) 10 = true ∧ inB x2 10 = true ∧ (X d 80 15 [.ref t, .int x1, .int (x2 + 1)] [] (F, (wF A (t + 1) x2.toNatClampNeg (A (t + 1) (x2 + 1).toNatClampNeg)), J, G) Q)) ∧ (¬ x2 < ((F t 1) - 1) → Q (.inl none) ((wF F t 1 ((F t 1) - 1)), A, J, G)))) : X d 80 15 [.ref t, .int x1, .int x2] [] (F, A, J, G) Q := by
  refine Y_il2 i_80_15 ?_
  refine Y_al0 i_80_16 ?_
  refine Y_gI (v := (F t 1)) i_80_17 ow_80 lf_6_37 (by decide) (kT0 hG ht) rfl ?_
  refine Y_iconst (v := 1) i_80_20 (by decide) ?_
  refine Y_isub i_80_21 ?_
  refine Y_cge i_80_22 (fun e1 => ?_) (fun e1 => ?_)
  · replace h := h.1 e1
    refine Y_al0 i_80_25 ?_
    refine Y_gR i_80_26 ow_80 lf_6_9 (kT0 hG ht) (rT4 hG ht) ?_
    refine Y_il2 i_80_29 ?_
    refine Y_al0 i_80_30 ?_
    refine Y_gR i_80_31 ow_80 lf_6_9 (kT0 hG ht) (rT4 hG ht) ?_
    refine Y_il2 i_80_34 ?_
    refine Y_iconst (v := 1) i_80_35 (by decide) ?_
    refine Y_iadd i_80_36 ?_
    have o2 := h.1
    replace h := h.2
    refine Y_iaload (k := (x2 + 1).toNatClampNeg) (v := (A (t + 1) (x2 + 1).toNatClampNeg)) i_80_37 (kT1 hG ht) (lT1 hG ht) o2 rfl rfl ?_
    have o3 := h.1
    replace h := h.2
    refine Y_iast i_80_38 (kT1 hG ht) (lT1 hG ht) o3 rfl ?_
    refine Y_ii2 (v := 1) i_80_39 (by decide) rfl ?_
    refine Y_goto i_80_42 ?_
    exact h
  · replace h := h.2 e1
    refine Y_al0 i_80_45 ?_
    refine Y_dup i_80_46 rfl ?_
    refine Y_gI (v := (F t 1)) i_80_47 ow_80 lf_6_37 (by decide) (kT0 hG ht) rfl ?_
    refine Y_iconst (v := 1) i_80_50 (by decide) ?_
    refine Y_isub i_80_51 ?_
    refine Y_pI i_80_52 ow_80 lf_6_37 (kT0 hG ht) ?_
    exact Y_vret i_80_55 rt_80 h
/- 81 Tower.exchange(II)V -/
theorem t_81_0 {d : Nat} {F A : Nat → Nat → Int32} {J : Nat → Nat → Int64} {G : pG} {Q : pR → pM → Prop} {SL p q : Nat} {t : Nat} {x1 x2 : Int32} (hG : Geo G SL p q) (ht : Tw t) (h : inB x1 10 = true ∧ inB x2 10 = true ∧ (Q (.inl none) (F, (wF (wF A (t + 1) x1.toNatClampNeg (A (t + 1) x2.toNatClampNeg)) (t + 1) x2.toNatClampNeg (A (t + 1) x1.toNatClampNeg)), J, G))) : X d 81 0 [.ref t, .int x1, .int x2, .null] [] (F, A, J, G) Q := by
  refine Y_al0 i_81_0 ?_
  refine Y_gR i_81_1 ow_81 lf_6_9 (kT0 hG ht) (rT4 hG ht) ?_
  refine Y_il1 i_81_4 ?_
  have o1 := h.1
  replace h := h.2
  refine Y_iaload (k := x1.toNatClampNeg) (v := (A (t + 1) x1.toNatClampNeg)) i_81_5 (kT1 hG ht) (lT1 hG ht) o1 rfl rfl ?_
  refine Y_is3 i_81_6 rfl ?_
  refine Y_al0 i_81_7 ?_
  refine Y_gR i_81_8 ow_81 lf_6_9 (kT0 hG ht) (rT4 hG ht) ?_
  refine Y_il1 i_81_11 ?_
  refine Y_al0 i_81_12 ?_
  refine Y_gR i_81_13 ow_81 lf_6_9 (kT0 hG ht) (rT4 hG ht) ?_
  refine Y_il2 i_81_16 ?_
  have o2 := h.1
  replace h := h.2
  refine Y_iaload (k := x2.toNatClampNeg) (v := (A (t + 1) x2.toNatClampNeg)) i_81_17 (kT1 hG ht) (lT1 hG ht) o2 rfl rfl ?_
  refine Y_iast i_81_18 (kT1 hG ht) (lT1 hG ht) o1 rfl ?_
  refine Y_al0 i_81_19 ?_
  refine Y_gR i_81_20 ow_81 lf_6_9 (kT0 hG ht) (rT4 hG ht) ?_
  refine Y_il2 i_81_23 ?_
  refine Y_il3 i_81_24 ?_
  refine Y_iast i_81_25 (kT1 hG ht) (lT1 hG ht) o2 rfl ?_
  exact Y_vret i_81_26 rt_81 h
/- 84 Tower.weigh()V -/
theorem t_84_0 {d : Nat} {F A : Nat → Nat → Int32} {J : Nat → Nat → Int64} {G : pG} {Q : pR → pM → Prop} {SL p q : Nat} {t : Nat} (hG : Geo G SL p q) (ht : Tw t) (h : X (d + 2) 84 9 [.ref t, .int 0, .int ((F t 1) - 1), .null] [] (F, A, J, G) Q) : X (d + 2) 84 0 [.ref t, .null, .null, .null] [] (F, A, J, G) Q := by
  refine Y_iconst (v := 0) i_84_0 (by decide) ?_
  refine Y_is1 i_84_1 rfl ?_
  refine Y_al0 i_84_2 ?_
  refine Y_gI (v := (F t 1)) i_84_3 ow_84 lf_6_37 (by decide) (kT0 hG ht) rfl ?_
  refine Y_iconst (v := 1) i_84_6 (by decide) ?_
  refine Y_isub i_84_7 ?_
  refine Y_is2 i_84_8 rfl ?_
  exact h
theorem t_84_9 {d : Nat} {F A : Nat → Nat → Int32} {J : Nat → Nat → Int64} {G : pG} {Q : pR → pM → Prop} {SL p q : Nat} {t : Nat} {x1 x2 : Int32} {v3 : Value} (hG : Geo G SL p q) (ht : Tw t) (h : ((x2 < 0 → X (d + 2) 84 89 [.ref t, .int x1, .int 0, .int 0] [] (F, A, J, G) Q) ∧ (¬ x2 < 0 → inB x2 10 = true ∧ inB (A (t + 1) x2.toNatClampNeg) 10 = true ∧ ((x2 = ((F t 1) - 1) → X (d + 2) 84 9 [.ref t, .int (x1 + ((A 14 (A (t + 1) x2.toNatClampNeg).toNatClampNeg) + (A (t + 2) (A (t + 1) x2.toNatClampNeg).toNatClampNeg))), .int (x2 + (-1)), .int (A (t + 1) x2.toNatClampNeg)] [] (F, (wF (wF A (t + 5) x2.toNatClampNeg (x1 + (A (t + 2) (A (t + 1) x2.toNatClampNeg).toNatClampNeg))) (t + 6) x2.toNatClampNeg (carS (A 13 (A (t + 1) x2.toNatClampNeg).toNatClampNeg) (A 15 (A (t + 1) x2.toNatClampNeg).toNatClampNeg) (F t 2) 1)), J, G) Q) ∧ (¬ x2 = ((F t 1) - 1) → X (d + 2) 84 9 [.ref t, .int (x1 + ((A 14 (A (t + 1) x2.toNatClampNeg).toNatClampNeg) + (A (t + 2) (A (t + 1) x2.toNatClampNeg).toNatClampNeg))), .int (x2 + (-1)), .int (A (t + 1) x2.toNatClampNeg)] [] (F, (wF (wF A (t + 5) x2.toNatClampNeg (x1 + (A (t + 2) (A (t + 1) x2.toNatClampNeg).toNatClampNeg))) (t + 6) x2.toNatClampNeg (carS (A 13 (A (t + 1) x2.toNatClampNeg).toNatClampNeg) (A 15 (A (t + 1) x2.toNatClampNeg).toNatClampNeg) (F t 2) 0)), J, G) Q))))) : X (d + 2) 84 9 [.ref t, .int x1, .int x2, v3] [] (F, A, J, G) Q := by
  refine Y_il2 i_84_9 ?_
  refine Y_zlt i_84_10 (fun e1 => ?_) (fun e1 => ?_)
  · replace h := h.1 e1
    refine Y_iconst (v := 0) i_84_85 (by decide) ?_
    refine Y_is2 i_84_86 rfl ?_
    refine Y_iconst (v := 0) i_84_87 (by decide) ?_
    refine Y_is3 i_84_88 rfl ?_
    exact h
  · replace h := h.2 e1
    refine Y_al0 i_84_13 ?_
    refine Y_gR i_84_14 ow_84 lf_6_9 (kT0 hG ht) (rT4 hG ht) ?_
    refine Y_il2 i_84_17 ?_
    have o2 := h.1
    replace h := h.2
    refine Y_iaload (k := x2.toNatClampNeg) (v := (A (t + 1) x2.toNatClampNeg)) i_84_18 (kT1 hG ht) (lT1 hG ht) o2 rfl rfl ?_
    refine Y_is3 i_84_19 rfl ?_
    refine Y_al0 i_84_20 ?_
    refine Y_gR i_84_21 ow_84 lf_6_24 (kT0 hG ht) (rT8 hG ht) ?_
    refine Y_il2 i_84_24 ?_
    refine Y_il1 i_84_25 ?_
    refine Y_al0 i_84_26 ?_
    refine Y_gR i_84_27 ow_84 lf_6_15 (kT0 hG ht) (rT5 hG ht) ?_
    refine Y_il3 i_84_30 ?_
    have o3 := h.1
    replace h := h.2
    refine Y_iaload (k := (A (t + 1) x2.toNatClampNeg).toNatClampNeg) (v := (A (t + 2) (A (t + 1) x2.toNatClampNeg).toNatClampNeg)) i_84_31 (kT2 hG ht) (lT2 hG ht) o3 rfl rfl ?_
    refine Y_iadd i_84_32 ?_
    refine Y_iast i_84_33 (kT5 hG ht) (lT5 hG ht) o2 rfl ?_
    refine Y_al0 i_84_34 ?_
    refine Y_gR i_84_35 ow_84 lf_6_27 (kT0 hG ht) (rT9 hG ht) ?_
    refine Y_il2 i_84_38 ?_
    refine Y_al0 i_84_39 ?_
    refine Y_il3 i_84_40 ?_
    refine Y_il2 i_84_41 ?_
    refine Y_al0 i_84_42 ?_
    refine Y_gI (v := (F t 1)) i_84_43 ow_84 lf_6_37 (by decide) (kT0 hG ht) rfl ?_
    refine Y_iconst (v := 1) i_84_46 (by decide) ?_
    refine Y_isub i_84_47 ?_
    refine Y_cne i_84_48 (fun e4 => ?_) (fun e4 => ?_)
    · replace h := h.1 e4
      refine Y_iconst (v := 1) i_84_51 (by decide) ?_
      refine Y_goto i_84_52 ?_
      refine Y_iv2 (L0 := [.ref t, .int (A (t + 1) x2.toNatClampNeg), .int 1, .null]) i_84_56 ow_84 lm_6_78 ((kT0 hG ht).trans ow_82.symm) rfl mx_82 rfl rfl hd_84 ?_
      refine c_82 hG ht o3 (KKi' (v' := (carS (A 13 (A (t + 1) x2.toNatClampNeg).toNatClampNeg) (A 15 (A (t + 1) x2.toNatClampNeg).toNatClampNeg) (F t 2) 1)) (by rcases ht with rfl | rfl | rfl <;> simp [wF, wJ, va_up, cpR, bF, bA]) ?_)
      refine Y_iast i_84_59 (kT6 hG ht) (lT6 hG ht) o2 rfl ?_
      refine Y_il1 i_84_60 ?_
      refine Y_al0 i_84_61 ?_
      refine Y_gR i_84_62 ow_84 lf_6_33 (kT0 hG ht) (rT0 hG ht) ?_
      refine Y_gR i_84_65 ow_84 lf_6_82 (k_12 hG) (r_12_4 hG) ?_
      refine Y_il3 i_84_68 ?_
      refine Y_iaload (k := (A (t + 1) x2.toNatClampNeg).toNatClampNeg) (v := (A 14 (A (t + 1) x2.toNatClampNeg).toNatClampNeg)) i_84_69 (k_14 hG) (l_14 hG) o3 rfl (by rcases ht with rfl | rfl | rfl <;> simp [wF, wJ, va_up, cpR, bF, bA]) ?_
      refine Y_al0 i_84_70 ?_
      refine Y_gR i_84_71 ow_84 lf_6_15 (kT0 hG ht) (rT5 hG ht) ?_
      refine Y_il3 i_84_74 ?_
      refine Y_iaload (k := (A (t + 1) x2.toNatClampNeg).toNatClampNeg) (v := (A (t + 2) (A (t + 1) x2.toNatClampNeg).toNatClampNeg)) i_84_75 (kT2 hG ht) (lT2 hG ht) o3 rfl (by simp [wF, wJ, va_up, cpR, bF, bA]) ?_
      refine Y_iadd i_84_76 ?_
      refine Y_iadd i_84_77 ?_
      refine Y_is1 i_84_78 rfl ?_
      refine Y_ii2 (v := (-1)) i_84_79 (by decide) rfl ?_
      refine Y_goto i_84_82 ?_
      exact h
    · replace h := h.2 e4
      refine Y_iconst (v := 0) i_84_55 (by decide) ?_
      refine Y_iv2 (L0 := [.ref t, .int (A (t + 1) x2.toNatClampNeg), .int 0, .null]) i_84_56 ow_84 lm_6_78 ((kT0 hG ht).trans ow_82.symm) rfl mx_82 rfl rfl hd_84 ?_
      refine c_82 hG ht o3 (KKi' (v' := (carS (A 13 (A (t + 1) x2.toNatClampNeg).toNatClampNeg) (A 15 (A (t + 1) x2.toNatClampNeg).toNatClampNeg) (F t 2) 0)) (by rcases ht with rfl | rfl | rfl <;> simp [wF, wJ, va_up, cpR, bF, bA]) ?_)
      refine Y_iast i_84_59 (kT6 hG ht) (lT6 hG ht) o2 rfl ?_
      refine Y_il1 i_84_60 ?_
      refine Y_al0 i_84_61 ?_
      refine Y_gR i_84_62 ow_84 lf_6_33 (kT0 hG ht) (rT0 hG ht) ?_
      refine Y_gR i_84_65 ow_84 lf_6_82 (k_12 hG) (r_12_4 hG) ?_
      refine Y_il3 i_84_68 ?_
      refine Y_iaload (k := (A (t + 1) x2.toNatClampNeg).toNatClampNeg) (v := (A 14 (A (t + 1) x2.toNatClampNeg).toNatClampNeg)) i_84_69 (k_14 hG) (l_14 hG) o3 rfl (by rcases ht with rfl | rfl | rfl <;> simp [wF, wJ, va_up, cpR, bF, bA]) ?_
      refine Y_al0 i_84_70 ?_
      refine Y_gR i_84_71 ow_84 lf_6_15 (kT0 hG ht) (rT5 hG ht) ?_
      refine Y_il3 i_84_74 ?_
      refine Y_iaload (k := (A (t + 1) x2.toNatClampNeg).toNatClampNeg) (v := (A (t + 2) (A (t + 1) x2.toNatClampNeg).toNatClampNeg)) i_84_75 (kT2 hG ht) (lT2 hG ht) o3 rfl (by simp [wF, wJ, va_up, cpR, bF, bA]) ?_
      refine Y_iadd i_84_76 ?_
      refine Y_iadd i_84_77 ?_
      refine Y_is1 i_84_78 rfl ?_
      refine Y_ii2 (v := (-1)) i_84_79 (by decide) rfl ?_
      refine Y_goto i_84_82 ?_
      exact h
theorem t_84_89 {d : Nat} {F A : Nat → Nat → Int32} {J : Nat → Nat → Int64} {G : pG} {Q : pR → pM → Prop} {SL p q : Nat} {t : Nat} {x1 x2 x3 : Int32} (hG : Geo G SL p q) (ht : Tw t) (h : ((x3 < (F t 1) → inB x3 10 = true ∧ inB (A (t + 1) x3.toNatClampNeg) 10 = true ∧ (X (d + 2) 84 89 [.ref t, .int x1, .int (x2 + (lnS (A 13 (A (t + 1) x3.toNatClampNeg).toNatClampNeg) (A (t + 4) (A (t + 1) x3.toNatClampNeg).toNatClampNeg) (A (t + 3) (A (t + 1) x3.toNatClampNeg).toNatClampNeg))), .int (x3 + 1)] [] (F, (wF A (t + 7) x3.toNatClampNeg (x2 + (lnS (A 13 (A (t + 1) x3.toNatClampNeg).toNatClampNeg) (A (t + 4) (A (t + 1) x3.toNatClampNeg).toNatClampNeg) (A (t + 3) (A (t + 1) x3.toNatClampNeg).toNatClampNeg)))), J, G) Q)) ∧ (¬ x3 < (F t 1) → Q (.inl none) (F, A, J, G)))) : X (d + 2) 84 89 [.ref t, .int x1, .int x2, .int x3] [] (F, A, J, G) Q := by
  refine Y_il3 i_84_89 ?_
  refine Y_al0 i_84_90 ?_
  refine Y_gI (v := (F t 1)) i_84_91 ow_84 lf_6_37 (by decide) (kT0 hG ht) rfl ?_
  refine Y_cge i_84_94 (fun e1 => ?_) (fun e1 => ?_)
  · replace h := h.1 e1
    refine Y_il2 i_84_97 ?_
    refine Y_al0 i_84_98 ?_
    refine Y_al0 i_84_99 ?_
    refine Y_gR i_84_100 ow_84 lf_6_9 (kT0 hG ht) (rT4 hG ht) ?_
    refine Y_il3 i_84_103 ?_
    have o2 := h.1
    replace h := h.2
    refine Y_iaload (k := x3.toNatClampNeg) (v := (A (t + 1) x3.toNatClampNeg)) i_84_104 (kT1 hG ht) (lT1 hG ht) o2 rfl rfl ?_
    have o3 := h.1
    replace h := h.2
    refine Y_iv1 (L0 := [.ref t, .int (A (t + 1) x3.toNatClampNeg)]) i_84_105 ow_84 lm_6_85 ((kT0 hG ht).trans ow_83.symm) rfl mx_83 rfl rfl hd_84 ?_
    refine c_83 hG ht o3 (KKi ?_)
    refine Y_iadd i_84_108 ?_
    refine Y_is2 i_84_109 rfl ?_
    refine Y_al0 i_84_110 ?_
    refine Y_gR i_84_111 ow_84 lf_6_30 (kT0 hG ht) (rT10 hG ht) ?_
    refine Y_il3 i_84_114 ?_
    refine Y_il2 i_84_115 ?_
    refine Y_iast i_84_116 (kT7 hG ht) (lT7 hG ht) o2 rfl ?_
    refine Y_ii3 (v := 1) i_84_117 (by decide) rfl ?_
    refine Y_goto i_84_120 ?_
    exact h
  · replace h := h.2 e1
    exact Y_vret i_84_123 rt_84 h
/- 85 Tower.slackAt(I)I -/
theorem t_85_0 {d : Nat} {F A : Nat → Nat → Int32} {J : Nat → Nat → Int64} {G : pG} {Q : pR → pM → Prop} {SL p q : Nat} {t : Nat} {x1 : Int32} (hG : Geo G SL p q) (ht : Tw t) (h : inB x1 10 = true ∧ (Q (.inl (some (.int ((A (t + 6) x1.toNatClampNeg) - (A (t + 5) x1.toNatClampNeg))))) (F, A, J, G))) : X d 85 0 [.ref t, .int x1] [] (F, A, J, G) Q := by
  refine Y_al0 i_85_0 ?_
  refine Y_gR i_85_1 ow_85 lf_6_27 (kT0 hG ht) (rT9 hG ht) ?_
  refine Y_il1 i_85_4 ?_
  have o1 := h.1
  replace h := h.2
  refine Y_iaload (k := x1.toNatClampNeg) (v := (A (t + 6) x1.toNatClampNeg)) i_85_5 (kT6 hG ht) (lT6 hG ht) o1 rfl rfl ?_
  refine Y_al0 i_85_6 ?_
  refine Y_gR i_85_7 ow_85 lf_6_24 (kT0 hG ht) (rT8 hG ht) ?_
  refine Y_il1 i_85_10 ?_
  refine Y_iaload (k := x1.toNatClampNeg) (v := (A (t + 5) x1.toNatClampNeg)) i_85_11 (kT5 hG ht) (lT5 hG ht) o1 rfl rfl ?_
  refine Y_isub i_85_12 ?_
  exact Y_iret i_85_13 rt_85 h
/- 86 Tower.holds(I)Z -/
theorem t_86_0 {d : Nat} {F A : Nat → Nat → Int32} {J : Nat → Nat → Int64} {G : pG} {Q : pR → pM → Prop} {SL p q : Nat} {t : Nat} {x1 : Int32} (hG : Geo G SL p q) (ht : Tw t) (h : inB x1 10 = true ∧ ((((A (t + 6) x1.toNatClampNeg) - (A (t + 5) x1.toNatClampNeg)) < 0 → Q (.inl (some (.int 0))) (F, A, J, G)) ∧ (¬ ((A (t + 6) x1.toNatClampNeg) - (A (t + 5) x1.toNatClampNeg)) < 0 → (((limB (F 12 1) (A (t + 7) x1.toNatClampNeg)) = true → Q (.inl (some (.int 1))) (F, A, J, G)) ∧ ((limB (F 12 1) (A (t + 7) x1.toNatClampNeg)) = false → Q (.inl (some (.int 0))) (F, A, J, G)))))) : X (d + 1) 86 0 [.ref t, .int x1] [] (F, A, J, G) Q := by
  refine Y_al0 i_86_0 ?_
  refine Y_il1 i_86_1 ?_
  refine Y_iv1 (L0 := [.ref t, .int x1]) i_86_2 ow_86 lm_6_88 ((kT0 hG ht).trans ow_85.symm) rfl mx_85 rfl rfl hd_86 ?_
  refine Y_al0 i_85_0 ?_
  refine Y_gR i_85_1 ow_85 lf_6_27 (kT0 hG ht) (rT9 hG ht) ?_
  refine Y_il1 i_85_4 ?_
  have o1 := h.1
  replace h := h.2
  refine Y_iaload (k := x1.toNatClampNeg) (v := (A (t + 6) x1.toNatClampNeg)) i_85_5 (kT6 hG ht) (lT6 hG ht) o1 rfl rfl ?_
  refine Y_al0 i_85_6 ?_
  refine Y_gR i_85_7 ow_85 lf_6_24 (kT0 hG ht) (rT8 hG ht) ?_
  refine Y_il1 i_85_10 ?_
  refine Y_iaload (k := x1.toNatClampNeg) (v := (A (t + 5) x1.toNatClampNeg)) i_85_11 (kT5 hG ht) (lT5 hG ht) o1 rfl rfl ?_
  refine Y_isub i_85_12 ?_
  refine Y_iret i_85_13 rt_85 (KKi ?_)
  refine Y_zlt i_86_5 (fun e2 => ?_) (fun e2 => ?_)
  · replace h := h.1 e2
    refine Y_iconst (v := 0) i_86_28 (by decide) ?_
    exact Y_bret i_86_29 rt_86 (by decide) h
  · replace h := h.2 e2
    refine Y_al0 i_86_8 ?_
    refine Y_gR i_86_9 ow_86 lf_6_33 (kT0 hG ht) (rT0 hG ht) ?_
    refine Y_al0 i_86_12 ?_
    refine Y_gR i_86_13 ow_86 lf_6_30 (kT0 hG ht) (rT10 hG ht) ?_
    refine Y_il1 i_86_16 ?_
    refine Y_iaload (k := x1.toNatClampNeg) (v := (A (t + 7) x1.toNatClampNeg)) i_86_17 (kT7 hG ht) (lT7 hG ht) o1 rfl rfl ?_
    refine Y_iv1 (L0 := [.ref 12, .int (A (t + 7) x1.toNatClampNeg)]) i_86_18 ow_86 lm_6_91 ((k_12 hG).trans ow_103.symm) rfl mx_103 rfl rfl hd_86 ?_
    refine c_103 hG (KKi ?_)
    refine Y_beq i_86_21 (fun e3 => ?_) (fun e3 => ?_)
    · replace h := h.1 e3
      refine Y_iconst (v := 1) i_86_24 (by decide) ?_
      refine Y_goto i_86_25 ?_
      exact Y_bret i_86_29 rt_86 (by decide) h
    · replace h := h.2 e3
      refine Y_iconst (v := 0) i_86_28 (by decide) ?_
      exact Y_bret i_86_29 rt_86 (by decide) h
/- 87 Tower.breaksAt()I -/
theorem t_87_0 {d : Nat} {F A : Nat → Nat → Int32} {J : Nat → Nat → Int64} {G : pG} {Q : pR → pM → Prop} {SL p q : Nat} {t : Nat} (hG : Geo G SL p q) (ht : Tw t) (h : X (d + 2) 84 0 [.ref t, .null, .null, .null] [] (F, A, J, G) (KK (d + 3) 87 4 [.ref t, .null] [] Q)) : X (d + 3) 87 0 [.ref t, .null] [] (F, A, J, G) Q := by
  refine Y_al0 i_87_0 ?_
  exact Y_iv0 (L0 := [.ref t, .null, .null, .null]) i_87_1 ow_87 lm_6_95 ((kT0 hG ht).trans ow_84.symm) rfl mx_84 rfl rfl hd_87 h
theorem k_87_4 {d : Nat} {F A : Nat → Nat → Int32} {J : Nat → Nat → Int64} {G : pG} {Q : pR → pM → Prop} {SL p q : Nat} {t : Nat} (hG : Geo G SL p q) (ht : Tw t) (h : X (d + 3) 87 6 [.ref t, .int 0] [] (F, A, J, G) Q) : KK (d + 3) 87 4 [.ref t, .null] [] Q (.inl none) (F, A, J, G) := by
  refine KKv ?_
  refine Y_iconst (v := 0) i_87_4 (by decide) ?_
  refine Y_is1 i_87_5 rfl ?_
  exact h
theorem t_87_6 {d : Nat} {F A : Nat → Nat → Int32} {J : Nat → Nat → Int64} {G : pG} {Q : pR → pM → Prop} {SL p q : Nat} {t : Nat} {x1 : Int32} (hG : Geo G SL p q) (ht : Tw t) (h : ((x1 < (F t 1) → inB x1 10 = true ∧ ((((A (t + 6) x1.toNatClampNeg) - (A (t + 5) x1.toNatClampNeg)) < 0 → Q (.inl (some (.int x1))) (F, A, J, G)) ∧ (¬ ((A (t + 6) x1.toNatClampNeg) - (A (t + 5) x1.toNatClampNeg)) < 0 → (((limB (F 12 1) (A (t + 7) x1.toNatClampNeg)) = true → X (d + 3) 87 6 [.ref t, .int (x1 + 1)] [] (F, A, J, G) Q) ∧ ((limB (F 12 1) (A (t + 7) x1.toNatClampNeg)) = false → Q (.inl (some (.int x1))) (F, A, J, G)))))) ∧ (¬ x1 < (F t 1) → Q (.inl (some (.int (-1)))) (F, A, J, G)))) : X (d + 3) 87 6 [.ref t, .int x1] [] (F, A, J, G) Q := by
  refine Y_il1 i_87_6 ?_
  refine Y_al0 i_87_7 ?_
  refine Y_gI (v := (F t 1)) i_87_8 ow_87 lf_6_37 (by decide) (kT0 hG ht) rfl ?_
  refine Y_cge i_87_11 (fun e1 => ?_) (fun e1 => ?_)
  · replace h := h.1 e1
    refine Y_al0 i_87_14 ?_
    refine Y_il1 i_87_15 ?_
    refine Y_iv1 (L0 := [.ref t, .int x1]) i_87_16 ow_87 lm_6_98 ((kT0 hG ht).trans ow_86.symm) rfl mx_86 rfl rfl hd_87 ?_
    refine Y_al0 i_86_0 ?_
    refine Y_il1 i_86_1 ?_
    refine Y_iv1 (L0 := [.ref t, .int x1]) i_86_2 ow_86 lm_6_88 ((kT0 hG ht).trans ow_85.symm) rfl mx_85 rfl rfl hd_86 ?_
    refine Y_al0 i_85_0 ?_
    refine Y_gR i_85_1 ow_85 lf_6_27 (kT0 hG ht) (rT9 hG ht) ?_
    refine Y_il1 i_85_4 ?_
    have o2 := h.1
    replace h := h.2
    refine Y_iaload (k := x1.toNatClampNeg) (v := (A (t + 6) x1.toNatClampNeg)) i_85_5 (kT6 hG ht) (lT6 hG ht) o2 rfl rfl ?_
    refine Y_al0 i_85_6 ?_
    refine Y_gR i_85_7 ow_85 lf_6_24 (kT0 hG ht) (rT8 hG ht) ?_
    refine Y_il1 i_85_10 ?_
    refine Y_iaload (k := x1.toNatClampNeg) (v := (A (t + 5) x1.toNatClampNeg)) i_85_11 (kT5 hG ht) (lT5 hG ht) o2 rfl rfl ?_
    refine Y_isub i_85_12 ?_
    refine Y_iret i_85_13 rt_85 (KKi ?_)
    refine Y_zlt i_86_5 (fun e3 => ?_) (fun e3 => ?_)
    · replace h := h.1 e3
      refine Y_iconst (v := 0) i_86_28 (by decide) ?_
      refine Y_bret i_86_29 rt_86 (by decide) (KKi ?_)
      refine Y_zF i_87_19 (by decide) ?_
      refine Y_il1 i_87_22 ?_
      exact Y_iret i_87_23 rt_87 h
    · replace h := h.2 e3
      refine Y_al0 i_86_8 ?_
      refine Y_gR i_86_9 ow_86 lf_6_33 (kT0 hG ht) (rT0 hG ht) ?_
      refine Y_al0 i_86_12 ?_
      refine Y_gR i_86_13 ow_86 lf_6_30 (kT0 hG ht) (rT10 hG ht) ?_
      refine Y_il1 i_86_16 ?_
      refine Y_iaload (k := x1.toNatClampNeg) (v := (A (t + 7) x1.toNatClampNeg)) i_86_17 (kT7 hG ht) (lT7 hG ht) o2 rfl rfl ?_
      refine Y_iv1 (L0 := [.ref 12, .int (A (t + 7) x1.toNatClampNeg)]) i_86_18 ow_86 lm_6_91 ((k_12 hG).trans ow_103.symm) rfl mx_103 rfl rfl hd_86 ?_
      refine c_103 hG (KKi ?_)
      refine Y_beq i_86_21 (fun e4 => ?_) (fun e4 => ?_)
      · replace h := h.1 e4
        refine Y_iconst (v := 1) i_86_24 (by decide) ?_
        refine Y_goto i_86_25 ?_
        refine Y_bret i_86_29 rt_86 (by decide) (KKi ?_)
        refine Y_zT i_87_19 (by decide) ?_
        refine Y_ii1 (v := 1) i_87_24 (by decide) rfl ?_
        refine Y_goto i_87_27 ?_
        exact h
      · replace h := h.2 e4
        refine Y_iconst (v := 0) i_86_28 (by decide) ?_
        refine Y_bret i_86_29 rt_86 (by decide) (KKi ?_)
        refine Y_zF i_87_19 (by decide) ?_
        refine Y_il1 i_87_22 ?_
        exact Y_iret i_87_23 rt_87 h
  · replace h := h.2 e1
    refine Y_iconst (v := (-1)) i_87_30 (by decide) ?_
    exact Y_iret i_87_31 rt_87 h
/- 88 Tower.stands()Z -/
theorem t_88_0 {d : Nat} {F A : Nat → Nat → Int32} {J : Nat → Nat → Int64} {G : pG} {Q : pR → pM → Prop} {SL p q : Nat} {t : Nat} (hG : Geo G SL p q) (ht : Tw t) (h : X (d + 3) 87 0 [.ref t, .null] [] (F, A, J, G) (KK (d + 4) 88 4 [.ref t] [] Q)) : X (d + 4) 88 0 [.ref t] [] (F, A, J, G) Q := by
  refine Y_al0 i_88_0 ?_
  exact Y_iv0 (L0 := [.ref t, .null]) i_88_1 ow_88 lm_6_101 ((kT0 hG ht).trans ow_87.symm) rfl mx_87 rfl rfl hd_88 h
theorem k_88_4 {d : Nat} {F A : Nat → Nat → Int32} {J : Nat → Nat → Int64} {G : pG} {Q : pR → pM → Prop} {SL p q : Nat} {t : Nat} {r : Int32} (hG : Geo G SL p q) (ht : Tw t) (h : ((r = (-1) → Q (.inl (some (.int 1))) (F, A, J, G)) ∧ (¬ r = (-1) → Q (.inl (some (.int 0))) (F, A, J, G)))) : KK (d + 4) 88 4 [.ref t] [] Q (.inl (some (.int r))) (F, A, J, G) := by
  refine KKi ?_
  refine Y_iconst (v := (-1)) i_88_4 (by decide) ?_
  refine Y_cne i_88_5 (fun e1 => ?_) (fun e1 => ?_)
  · replace h := h.1 e1
    refine Y_iconst (v := 1) i_88_8 (by decide) ?_
    refine Y_goto i_88_9 ?_
    exact Y_bret i_88_13 rt_88 (by decide) h
  · replace h := h.2 e1
    refine Y_iconst (v := 0) i_88_12 (by decide) ?_
    exact Y_bret i_88_13 rt_88 (by decide) h
/- 89 Tower.room()I -/
theorem t_89_0 {d : Nat} {F A : Nat → Nat → Int32} {J : Nat → Nat → Int64} {G : pG} {Q : pR → pM → Prop} {SL p q : Nat} {t : Nat} (hG : Geo G SL p q) (ht : Tw t) (h : X (d + 3) 87 0 [.ref t, .null] [] (F, A, J, G) (KK (d + 4) 89 4 [.ref t, .null, .null] [] Q)) : X (d + 4) 89 0 [.ref t, .null, .null] [] (F, A, J, G) Q := by
  refine Y_al0 i_89_0 ?_
  exact Y_iv0 (L0 := [.ref t, .null]) i_89_1 ow_89 lm_6_101 ((kT0 hG ht).trans ow_87.symm) rfl mx_87 rfl rfl hd_89 h
theorem k_89_4 {d : Nat} {F A : Nat → Nat → Int32} {J : Nat → Nat → Int64} {G : pG} {Q : pR → pM → Prop} {SL p q : Nat} {t : Nat} {r : Int32} (hG : Geo G SL p q) (ht : Tw t) (h : ((r = (-1) → X (d + 4) 89 16 [.ref t, .int 9999, .int 0] [] (F, A, J, G) Q) ∧ (¬ r = (-1) → Q (.inl (some (.int (-1)))) (F, A, J, G)))) : KK (d + 4) 89 4 [.ref t, .null, .null] [] Q (.inl (some (.int r))) (F, A, J, G) := by
  refine KKi ?_
  refine Y_iconst (v := (-1)) i_89_4 (by decide) ?_
  refine Y_ceq i_89_5 (fun e1 => ?_) (fun e1 => ?_)
  · replace h := h.1 e1
    refine Y_sipush (v := 9999) i_89_10 (by decide) ?_
    refine Y_is1 i_89_13 rfl ?_
    refine Y_iconst (v := 0) i_89_14 (by decide) ?_
    refine Y_is2 i_89_15 rfl ?_
    exact h
  · replace h := h.2 e1
    refine Y_iconst (v := (-1)) i_89_8 (by decide) ?_
    exact Y_iret i_89_9 rt_89 h
theorem t_89_16 {d : Nat} {F A : Nat → Nat → Int32} {J : Nat → Nat → Int64} {G : pG} {Q : pR → pM → Prop} {SL p q : Nat} {t : Nat} {x1 x2 : Int32} (hG : Geo G SL p q) (ht : Tw t) (h : ((x2 < (F t 1) → inB x2 10 = true ∧ (X (d + 4) 89 16 [.ref t, .int (jmin x1 ((A (t + 6) x2.toNatClampNeg) - (A (t + 5) x2.toNatClampNeg))), .int (x2 + 1)] [] (F, A, J, G) Q)) ∧ (¬ x2 < (F t 1) → Q (.inl (some (.int x1))) (F, A, J, G)))) : X (d + 4) 89 16 [.ref t, .int x1, .int x2] [] (F, A, J, G) Q := by
  refine Y_il2 i_89_16 ?_
  refine Y_al0 i_89_17 ?_
  refine Y_gI (v := (F t 1)) i_89_18 ow_89 lf_6_37 (by decide) (kT0 hG ht) rfl ?_
  refine Y_cge i_89_21 (fun e1 => ?_) (fun e1 => ?_)
  · replace h := h.1 e1
    refine Y_il1 i_89_24 ?_
    refine Y_al0 i_89_25 ?_
    refine Y_il2 i_89_26 ?_
    refine Y_iv1 (L0 := [.ref t, .int x2]) i_89_27 ow_89 lm_6_88 ((kT0 hG ht).trans ow_85.symm) rfl mx_85 rfl rfl hd_89 ?_
    refine Y_al0 i_85_0 ?_
    refine Y_gR i_85_1 ow_85 lf_6_27 (kT0 hG ht) (rT9 hG ht) ?_
    refine Y_il1 i_85_4 ?_
    have o2 := h.1
    replace h := h.2
    refine Y_iaload (k := x2.toNatClampNeg) (v := (A (t + 6) x2.toNatClampNeg)) i_85_5 (kT6 hG ht) (lT6 hG ht) o2 rfl rfl ?_
    refine Y_al0 i_85_6 ?_
    refine Y_gR i_85_7 ow_85 lf_6_24 (kT0 hG ht) (rT8 hG ht) ?_
    refine Y_il1 i_85_10 ?_
    refine Y_iaload (k := x2.toNatClampNeg) (v := (A (t + 5) x2.toNatClampNeg)) i_85_11 (kT5 hG ht) (lT5 hG ht) o2 rfl rfl ?_
    refine Y_isub i_85_12 ?_
    refine Y_iret i_85_13 rt_85 (KKi ?_)
    refine Y_min i_89_30 ow_89 lm_6_105 rfl ?_
    refine Y_is1 i_89_33 rfl ?_
    refine Y_ii2 (v := 1) i_89_34 (by decide) rfl ?_
    refine Y_goto i_89_37 ?_
    exact h
  · replace h := h.2 e1
    refine Y_il1 i_89_40 ?_
    exact Y_iret i_89_41 rt_89 h
/- 90 Tower.serve(I)I -/
theorem t_90_0 {d : Nat} {F A : Nat → Nat → Int32} {J : Nat → Nat → Int64} {G : pG} {Q : pR → pM → Prop} {SL p q : Nat} {t : Nat} {x1 : Int32} (hG : Geo G SL p q) (ht : Tw t) (h : X (d + 3) 90 4 [.ref t, .int x1, .int x1, .int 0, .null] [] (F, A, J, G) Q) : X (d + 3) 90 0 [.ref t, .int x1, .null, .null, .null] [] (F, A, J, G) Q := by
  refine Y_il1 i_90_0 ?_
  refine Y_is2 i_90_1 rfl ?_
  refine Y_iconst (v := 0) i_90_2 (by decide) ?_
  refine Y_is3 i_90_3 rfl ?_
  exact h
theorem t_90_4 {d : Nat} {F A : Nat → Nat → Int32} {J : Nat → Nat → Int64} {G : pG} {Q : pR → pM → Prop} {SL p q : Nat} {t : Nat} {x1 x2 x3 : Int32} {v4 : Value} (hG : Geo G SL p q) (ht : Tw t) (h : ((x3 < (F t 1) → inB x3 10 = true ∧ (X (d + 2) 92 0 [.ref t, .int x3, .int x2, .null, .null] [] (F, A, J, G) (KK (d + 3) 90 32 [.ref t, .int x1, .int x2, .int x3, .int (A (t + 1) x3.toNatClampNeg)] [.int (A (t + 1) x3.toNatClampNeg), .ref (t + 2)] Q))) ∧ (¬ x3 < (F t 1) → Q (.inl (some (.int x2))) (F, A, J, G)))) : X (d + 3) 90 4 [.ref t, .int x1, .int x2, .int x3, v4] [] (F, A, J, G) Q := by
  refine Y_il3 i_90_4 ?_
  refine Y_al0 i_90_5 ?_
  refine Y_gI (v := (F t 1)) i_90_6 ow_90 lf_6_37 (by decide) (kT0 hG ht) rfl ?_
  refine Y_cge i_90_9 (fun e1 => ?_) (fun e1 => ?_)
  · replace h := h.1 e1
    refine Y_al0 i_90_12 ?_
    refine Y_gR i_90_13 ow_90 lf_6_9 (kT0 hG ht) (rT4 hG ht) ?_
    refine Y_il3 i_90_16 ?_
    have o2 := h.1
    replace h := h.2
    refine Y_iaload (k := x3.toNatClampNeg) (v := (A (t + 1) x3.toNatClampNeg)) i_90_17 (kT1 hG ht) (lT1 hG ht) o2 rfl rfl ?_
    refine Y_is4 i_90_18 rfl ?_
    refine Y_al0 i_90_20 ?_
    refine Y_gR i_90_21 ow_90 lf_6_15 (kT0 hG ht) (rT5 hG ht) ?_
    refine Y_il4 i_90_24 ?_
    refine Y_al0 i_90_26 ?_
    refine Y_il3 i_90_27 ?_
    refine Y_il2 i_90_28 ?_
    exact Y_iv2 (L0 := [.ref t, .int x3, .int x2, .null, .null]) i_90_29 ow_90 lm_6_108 ((kT0 hG ht).trans ow_92.symm) rfl mx_92 rfl rfl hd_90 h
  · replace h := h.2 e1
    refine Y_il2 i_90_49 ?_
    exact Y_iret i_90_50 rt_90 h
theorem k_90_32 {d : Nat} {F A : Nat → Nat → Int32} {J : Nat → Nat → Int64} {G : pG} {Q : pR → pM → Prop} {SL p q : Nat} {t : Nat} {x1 x2 x3 x4 r s0 : Int32} (hG : Geo G SL p q) (ht : Tw t) (h : inB s0 10 = true ∧ inB x4 10 = true ∧ (X (d + 3) 90 4 [.ref t, .int x1, .int (x2 - ((wF A (t + 2) s0.toNatClampNeg r) (t + 2) x4.toNatClampNeg)), .int (x3 + 1), .int x4] [] (F, (wF A (t + 2) s0.toNatClampNeg r), J, G) Q)) : KK (d + 3) 90 32 [.ref t, .int x1, .int x2, .int x3, .int x4] [.int s0, .ref (t + 2)] Q (.inl (some (.int r))) (F, A, J, G) := by
  refine KKi ?_
  have o1 := h.1
  replace h := h.2
  refine Y_iast i_90_32 (kT2 hG ht) (lT2 hG ht) o1 rfl ?_
  refine Y_il2 i_90_33 ?_
  refine Y_al0 i_90_34 ?_
  refine Y_gR i_90_35 ow_90 lf_6_15 (kT0 hG ht) (rT5 hG ht) ?_
  refine Y_il4 i_90_38 ?_
  have o2 := h.1
  replace h := h.2
  refine Y_iaload (k := x4.toNatClampNeg) (v := ((wF A (t + 2) s0.toNatClampNeg r) (t + 2) x4.toNatClampNeg)) i_90_40 (kT2 hG ht) (lT2 hG ht) o2 rfl rfl ?_
  refine Y_isub i_90_41 ?_
  refine Y_is2 i_90_42 rfl ?_
  refine Y_ii3 (v := 1) i_90_43 (by decide) rfl ?_
  refine Y_goto i_90_46 ?_
  exact h
/- 91 Tower.fillsAll(I)Z -/
theorem t_91_0 {d : Nat} {F A : Nat → Nat → Int32} {J : Nat → Nat → Int64} {G : pG} {Q : pR → pM → Prop} {SL p q : Nat} {t : Nat} {x1 : Int32} (hG : Geo G SL p q) (ht : Tw t) (h : X (d + 3) 91 4 [.ref t, .int x1, .int x1, .int 0, .null] [] (F, A, J, G) Q) : X (d + 3) 91 0 [.ref t, .int x1, .null, .null, .null] [] (F, A, J, G) Q := by
  refine Y_il1 i_91_0 ?_
  refine Y_is2 i_91_1 rfl ?_
  refine Y_iconst (v := 0) i_91_2 (by decide) ?_
  refine Y_is3 i_91_3 rfl ?_
  exact h
theorem t_91_4 {d : Nat} {F A : Nat → Nat → Int32} {J : Nat → Nat → Int64} {G : pG} {Q : pR → pM → Prop} {SL p q : Nat} {t : Nat} {x1 x2 x3 : Int32} {v4 : Value} (hG : Geo G SL p q) (ht : Tw t) (h : ((x3 < (F t 1) → X (d + 2) 92 0 [.ref t, .int x3, .int x2, .null, .null] [] (F, A, J, G) (KK (d + 3) 91 18 [.ref t, .int x1, .int x2, .int x3, v4] [] Q)) ∧ (¬ x3 < (F t 1) → Q (.inl (some (.int 1))) (F, A, J, G)))) : X (d + 3) 91 4 [.ref t, .int x1, .int x2, .int x3, v4] [] (F, A, J, G) Q := by
  refine Y_il3 i_91_4 ?_
  refine Y_al0 i_91_5 ?_
  refine Y_gI (v := (F t 1)) i_91_6 ow_91 lf_6_37 (by decide) (kT0 hG ht) rfl ?_
  refine Y_cge i_91_9 (fun e1 => ?_) (fun e1 => ?_)
  · replace h := h.1 e1
    refine Y_al0 i_91_12 ?_
    refine Y_il3 i_91_13 ?_
    refine Y_il2 i_91_14 ?_
    exact Y_iv2 (L0 := [.ref t, .int x3, .int x2, .null, .null]) i_91_15 ow_91 lm_6_108 ((kT0 hG ht).trans ow_92.symm) rfl mx_92 rfl rfl hd_91 h
  · replace h := h.2 e1
    refine Y_iconst (v := 1) i_91_52 (by decide) ?_
    exact Y_bret i_91_53 rt_91 (by decide) h
theorem k_91_18 {d : Nat} {F A : Nat → Nat → Int32} {J : Nat → Nat → Int64} {G : pG} {Q : pR → pM → Prop} {SL p q : Nat} {t : Nat} {x1 x2 x3 r : Int32} {v4 : Value} (hG : Geo G SL p q) (ht : Tw t) (h : inB x3 10 = true ∧ inB (A (t + 1) x3.toNatClampNeg) 10 = true ∧ ((r < (A 17 (A (t + 1) x3.toNatClampNeg).toNatClampNeg) → Q (.inl (some (.int 0))) (F, A, J, G)) ∧ (¬ r < (A 17 (A (t + 1) x3.toNatClampNeg).toNatClampNeg) → X (d + 3) 91 4 [.ref t, .int x1, .int (x2 - r), .int (x3 + 1), .int r] [] (F, A, J, G) Q))) : KK (d + 3) 91 18 [.ref t, .int x1, .int x2, .int x3, v4] [] Q (.inl (some (.int r))) (F, A, J, G) := by
  refine KKi ?_
  refine Y_is4 i_91_18 rfl ?_
  refine Y_il4 i_91_20 ?_
  refine Y_al0 i_91_22 ?_
  refine Y_gR i_91_23 ow_91 lf_6_33 (kT0 hG ht) (rT0 hG ht) ?_
  refine Y_gR i_91_26 ow_91 lf_6_111 (k_12 hG) (r_12_7 hG) ?_
  refine Y_al0 i_91_29 ?_
  refine Y_gR i_91_30 ow_91 lf_6_9 (kT0 hG ht) (rT4 hG ht) ?_
  refine Y_il3 i_91_33 ?_
  have o1 := h.1
  replace h := h.2
  refine Y_iaload (k := x3.toNatClampNeg) (v := (A (t + 1) x3.toNatClampNeg)) i_91_34 (kT1 hG ht) (lT1 hG ht) o1 rfl rfl ?_
  have o2 := h.1
  replace h := h.2
  refine Y_iaload (k := (A (t + 1) x3.toNatClampNeg).toNatClampNeg) (v := (A 17 (A (t + 1) x3.toNatClampNeg).toNatClampNeg)) i_91_35 (k_17 hG) (l_17 hG) o2 rfl rfl ?_
  refine Y_cge i_91_36 (fun e3 => ?_) (fun e3 => ?_)
  · replace h := h.1 e3
    refine Y_iconst (v := 0) i_91_39 (by decide) ?_
    exact Y_bret i_91_40 rt_91 (by decide) h
  · replace h := h.2 e3
    refine Y_il2 i_91_41 ?_
    refine Y_il4 i_91_42 ?_
    refine Y_isub i_91_44 ?_
    refine Y_is2 i_91_45 rfl ?_
    refine Y_ii3 (v := 1) i_91_46 (by decide) rfl ?_
    refine Y_goto i_91_49 ?_
    exact h
/- 92 Tower.takesOf(II)I -/
theorem t_92_0 {d : Nat} {F A : Nat → Nat → Int32} {J : Nat → Nat → Int64} {G : pG} {Q : pR → pM → Prop} {SL p q : Nat} {t : Nat} {x1 x2 : Int32} (hG : Geo G SL p q) (ht : Tw t) (h : inB x1 10 = true ∧ (((F 18 1) = 0 → inB (A (t + 1) x1.toNatClampNeg) 10 = true ∧ (Q (.inl (some (.int (jmin x2 (A 17 (A (t + 1) x1.toNatClampNeg).toNatClampNeg))))) (F, A, J, G))) ∧ (¬ (F 18 1) = 0 → inB (A (t + 1) x1.toNatClampNeg) 10 = true ∧ (X (d + 1) 55 0 [.ref 18, .null, .null, .null] [] ((wF (wF (wF (wF (wF (wF F 18 2 x1) 18 3 (A 17 (A (t + 1) x1.toNatClampNeg).toNatClampNeg)) 18 4 x2) 18 5 (A 13 (A (t + 1) x1.toNatClampNeg).toNatClampNeg)) 18 6 (((F t 1) - 1) - x1)) 18 7 (A 14 (A (t + 1) x1.toNatClampNeg).toNatClampNeg)), A, J, G) (KK (d + 2) 92 112 [.ref t, .int x1, .int x2, .int (A (t + 1) x1.toNatClampNeg), .ref 18] [.int x2, .int 0] Q))))) : X (d + 2) 92 0 [.ref t, .int x1, .int x2, .null, .null] [] (F, A, J, G) Q := by
  refine Y_al0 i_92_0 ?_
  refine Y_gR i_92_1 ow_92 lf_6_9 (kT0 hG ht) (rT4 hG ht) ?_
  refine Y_il1 i_92_4 ?_
  have o1 := h.1
  replace h := h.2
  refine Y_iaload (k := x1.toNatClampNeg) (v := (A (t + 1) x1.toNatClampNeg)) i_92_5 (kT1 hG ht) (lT1 hG ht) o1 rfl rfl ?_
  refine Y_is3 i_92_6 rfl ?_
  refine Y_al0 i_92_7 ?_
  refine Y_gR i_92_8 ow_92 lf_6_33 (kT0 hG ht) (rT0 hG ht) ?_
  refine Y_gR i_92_11 ow_92 lf_6_114 (k_12 hG) (r_12_8 hG) ?_
  refine Y_as4 i_92_14 rfl ?_
  refine Y_al4 i_92_16 ?_
  refine Y_gI (v := (F 18 1)) i_92_18 ow_92 lf_6_118 (by decide) (k_18 hG) rfl ?_
  refine Y_zne i_92_21 (fun e2 => ?_) (fun e2 => ?_)
  · replace h := h.1 e2
    refine Y_il2 i_92_24 ?_
    refine Y_al0 i_92_25 ?_
    refine Y_gR i_92_26 ow_92 lf_6_33 (kT0 hG ht) (rT0 hG ht) ?_
    refine Y_gR i_92_29 ow_92 lf_6_111 (k_12 hG) (r_12_7 hG) ?_
    refine Y_il3 i_92_32 ?_
    have o3 := h.1
    replace h := h.2
    refine Y_iaload (k := (A (t + 1) x1.toNatClampNeg).toNatClampNeg) (v := (A 17 (A (t + 1) x1.toNatClampNeg).toNatClampNeg)) i_92_33 (k_17 hG) (l_17 hG) o3 rfl rfl ?_
    refine Y_min i_92_34 ow_92 lm_6_105 rfl ?_
    exact Y_iret i_92_37 rt_92 h
  · replace h := h.2 e2
    refine Y_al4 i_92_38 ?_
    refine Y_il1 i_92_40 ?_
    refine Y_pI i_92_41 ow_92 lf_6_123 (k_18 hG) ?_
    refine Y_al4 i_92_44 ?_
    refine Y_al0 i_92_46 ?_
    refine Y_gR i_92_47 ow_92 lf_6_33 (kT0 hG ht) (rT0 hG ht) ?_
    refine Y_gR i_92_50 ow_92 lf_6_111 (k_12 hG) (r_12_7 hG) ?_
    refine Y_il3 i_92_53 ?_
    have o4 := h.1
    replace h := h.2
    refine Y_iaload (k := (A (t + 1) x1.toNatClampNeg).toNatClampNeg) (v := (A 17 (A (t + 1) x1.toNatClampNeg).toNatClampNeg)) i_92_54 (k_17 hG) (l_17 hG) o4 rfl rfl ?_
    refine Y_pI i_92_55 ow_92 lf_6_126 (k_18 hG) ?_
    refine Y_al4 i_92_58 ?_
    refine Y_il2 i_92_60 ?_
    refine Y_pI i_92_61 ow_92 lf_6_128 (k_18 hG) ?_
    refine Y_al4 i_92_64 ?_
    refine Y_al0 i_92_66 ?_
    refine Y_gR i_92_67 ow_92 lf_6_33 (kT0 hG ht) (rT0 hG ht) ?_
    refine Y_gR i_92_70 ow_92 lf_6_62 (k_12 hG) (r_12_3 hG) ?_
    refine Y_il3 i_92_73 ?_
    refine Y_iaload (k := (A (t + 1) x1.toNatClampNeg).toNatClampNeg) (v := (A 13 (A (t + 1) x1.toNatClampNeg).toNatClampNeg)) i_92_74 (k_13 hG) (l_13 hG) o4 rfl rfl ?_
    refine Y_pI i_92_75 ow_92 lf_6_131 (k_18 hG) ?_
    refine Y_al4 i_92_78 ?_
    refine Y_al0 i_92_80 ?_
    refine Y_gI (v := (F t 1)) i_92_81 ow_92 lf_6_37 (by decide) (kT0 hG ht) (by rcases ht with rfl | rfl | rfl <;> simp [wF, wJ, va_up, cpR, bF, bA]) ?_
    refine Y_iconst (v := 1) i_92_84 (by decide) ?_
    refine Y_isub i_92_85 ?_
    refine Y_il1 i_92_86 ?_
    refine Y_isub i_92_87 ?_
    refine Y_pI i_92_88 ow_92 lf_6_133 (k_18 hG) ?_
    refine Y_al4 i_92_91 ?_
    refine Y_al0 i_92_93 ?_
    refine Y_gR i_92_94 ow_92 lf_6_33 (kT0 hG ht) (rT0 hG ht) ?_
    refine Y_gR i_92_97 ow_92 lf_6_82 (k_12 hG) (r_12_4 hG) ?_
    refine Y_il3 i_92_100 ?_
    refine Y_iaload (k := (A (t + 1) x1.toNatClampNeg).toNatClampNeg) (v := (A 14 (A (t + 1) x1.toNatClampNeg).toNatClampNeg)) i_92_101 (k_14 hG) (l_14 hG) o4 rfl rfl ?_
    refine Y_pI i_92_102 ow_92 lf_6_136 (k_18 hG) ?_
    refine Y_iconst (v := 0) i_92_105 (by decide) ?_
    refine Y_il2 i_92_106 ?_
    refine Y_al4 i_92_107 ?_
    exact Y_iv0 (L0 := [.ref 18, .null, .null, .null]) i_92_109 ow_92 lm_6_138 ((k_18 hG).trans ow_55.symm) rfl mx_55 rfl rfl hd_92 h
theorem k_92_112 {d : Nat} {F A : Nat → Nat → Int32} {J : Nat → Nat → Int64} {G : pG} {Q : pR → pM → Prop} {SL p q : Nat} {t : Nat} {x1 x2 x3 r s0 s1 : Int32} (hG : Geo G SL p q) (ht : Tw t) (h : Q (.inl (some (.int (jmax s1 (jmin s0 r))))) (F, A, J, G)) : KK (d + 2) 92 112 [.ref t, .int x1, .int x2, .int x3, .ref 18] [.int s0, .int s1] Q (.inl (some (.int r))) (F, A, J, G) := by
  refine KKi ?_
  refine Y_min i_92_112 ow_92 lm_6_105 rfl ?_
  refine Y_max i_92_115 ow_92 lm_6_69 rfl ?_
  exact Y_iret i_92_118 rt_92 h
/- 93 Tower.fullOnes()I -/
theorem t_93_0 {d : Nat} {F A : Nat → Nat → Int32} {J : Nat → Nat → Int64} {G : pG} {Q : pR → pM → Prop} {SL p q : Nat} {t : Nat} (hG : Geo G SL p q) (ht : Tw t) (h : X d 93 4 [.ref t, .int 0, .int 0, .null] [] (F, A, J, G) Q) : X d 93 0 [.ref t, .null, .null, .null] [] (F, A, J, G) Q := by
  refine Y_iconst (v := 0) i_93_0 (by decide) ?_
  refine Y_is1 i_93_1 rfl ?_
  refine Y_iconst (v := 0) i_93_2 (by decide) ?_
  refine Y_is2 i_93_3 rfl ?_
  exact h
theorem t_93_4 {d : Nat} {F A : Nat → Nat → Int32} {J : Nat → Nat → Int64} {G : pG} {Q : pR → pM → Prop} {SL p q : Nat} {t : Nat} {x1 x2 : Int32} {v3 : Value} (hG : Geo G SL p q) (ht : Tw t) (h : ((x2 < (F t 1) → inB x2 10 = true ∧ inB (A (t + 1) x2.toNatClampNeg) 10 = true ∧ (((A (t + 2) (A (t + 1) x2.toNatClampNeg).toNatClampNeg) < (A 17 (A (t + 1) x2.toNatClampNeg).toNatClampNeg) → X d 93 4 [.ref t, .int x1, .int (x2 + 1), .int (A (t + 1) x2.toNatClampNeg)] [] (F, A, J, G) Q) ∧ (¬ (A (t + 2) (A (t + 1) x2.toNatClampNeg).toNatClampNeg) < (A 17 (A (t + 1) x2.toNatClampNeg).toNatClampNeg) → X d 93 4 [.ref t, .int (x1 ||| ((1 : Int32) <<< ((A (t + 1) x2.toNatClampNeg) &&& 31))), .int (x2 + 1), .int (A (t + 1) x2.toNatClampNeg)] [] (F, A, J, G) Q))) ∧ (¬ x2 < (F t 1) → Q (.inl (some (.int x1))) (F, A, J, G)))) : X d 93 4 [.ref t, .int x1, .int x2, v3] [] (F, A, J, G) Q := by
  refine Y_il2 i_93_4 ?_
  refine Y_al0 i_93_5 ?_
  refine Y_gI (v := (F t 1)) i_93_6 ow_93 lf_6_37 (by decide) (kT0 hG ht) rfl ?_
  refine Y_cge i_93_9 (fun e1 => ?_) (fun e1 => ?_)
  · replace h := h.1 e1
    refine Y_al0 i_93_12 ?_
    refine Y_gR i_93_13 ow_93 lf_6_9 (kT0 hG ht) (rT4 hG ht) ?_
    refine Y_il2 i_93_16 ?_
    have o2 := h.1
    replace h := h.2
    refine Y_iaload (k := x2.toNatClampNeg) (v := (A (t + 1) x2.toNatClampNeg)) i_93_17 (kT1 hG ht) (lT1 hG ht) o2 rfl rfl ?_
    refine Y_is3 i_93_18 rfl ?_
    refine Y_al0 i_93_19 ?_
    refine Y_gR i_93_20 ow_93 lf_6_15 (kT0 hG ht) (rT5 hG ht) ?_
    refine Y_il3 i_93_23 ?_
    have o3 := h.1
    replace h := h.2
    refine Y_iaload (k := (A (t + 1) x2.toNatClampNeg).toNatClampNeg) (v := (A (t + 2) (A (t + 1) x2.toNatClampNeg).toNatClampNeg)) i_93_24 (kT2 hG ht) (lT2 hG ht) o3 rfl rfl ?_
    refine Y_al0 i_93_25 ?_
    refine Y_gR i_93_26 ow_93 lf_6_33 (kT0 hG ht) (rT0 hG ht) ?_
    refine Y_gR i_93_29 ow_93 lf_6_111 (k_12 hG) (r_12_7 hG) ?_
    refine Y_il3 i_93_32 ?_
    refine Y_iaload (k := (A (t + 1) x2.toNatClampNeg).toNatClampNeg) (v := (A 17 (A (t + 1) x2.toNatClampNeg).toNatClampNeg)) i_93_33 (k_17 hG) (l_17 hG) o3 rfl rfl ?_
    refine Y_clt i_93_34 (fun e4 => ?_) (fun e4 => ?_)
    · replace h := h.1 e4
      refine Y_ii2 (v := 1) i_93_43 (by decide) rfl ?_
      refine Y_goto i_93_46 ?_
      exact h
    · replace h := h.2 e4
      refine Y_il1 i_93_37 ?_
      refine Y_iconst (v := 1) i_93_38 (by decide) ?_
      refine Y_il3 i_93_39 ?_
      refine Y_ishl i_93_40 ?_
      refine Y_ior i_93_41 ?_
      refine Y_is1 i_93_42 rfl ?_
      refine Y_ii2 (v := 1) i_93_43 (by decide) rfl ?_
      refine Y_goto i_93_46 ?_
      exact h
  · replace h := h.2 e1
    refine Y_il1 i_93_49 ?_
    exact Y_iret i_93_50 rt_93 h
/- 94 Tower.mostHungry()I -/
theorem t_94_0 {d : Nat} {F A : Nat → Nat → Int32} {J : Nat → Nat → Int64} {G : pG} {Q : pR → pM → Prop} {SL p q : Nat} {t : Nat} (hG : Geo G SL p q) (ht : Tw t) (h : hB (F t 1) = true ∧ (X (d + 1) 94 12 [.ref t, .int (-1), .int 0, .int (bitsI (A (t + 1)) (F t 1)), .int 0, .null] [] (F, A, J, G) Q)) : X (d + 1) 94 0 [.ref t, .null, .null, .null, .null, .null] [] (F, A, J, G) Q := by
  refine Y_iconst (v := (-1)) i_94_0 (by decide) ?_
  refine Y_is1 i_94_1 rfl ?_
  refine Y_iconst (v := 0) i_94_2 (by decide) ?_
  refine Y_is2 i_94_3 rfl ?_
  refine Y_al0 i_94_4 ?_
  have o1 := h.1
  replace h := h.2
  refine Y_iv0 (L0 := [.ref t, .null, .null]) i_94_5 ow_94 lm_6_141 ((kT0 hG ht).trans ow_78.symm) rfl mx_78 rfl rfl hd_94 ?_
  refine c_78 hG ht o1 (KKi ?_)
  refine Y_is3 i_94_8 rfl ?_
  refine Y_iconst (v := 0) i_94_9 (by decide) ?_
  refine Y_is4 i_94_10 rfl ?_
  exact h
theorem t_94_12 {d : Nat} {F A : Nat → Nat → Int32} {J : Nat → Nat → Int64} {G : pG} {Q : pR → pM → Prop} {SL p q : Nat} {t : Nat} {x1 x2 x3 x4 : Int32} {v5 : Value} (hG : Geo G SL p q) (ht : Tw t) (h : ((x4 < (F 12 0) → inB x4 10 = true ∧ ((((x3 >>> (x4 &&& 31)) &&& 1) = 0 → X (d + 1) 94 12 [.ref t, .int x1, .int x2, .int x3, .int (x4 + 1), .int ((A 17 x4.toNatClampNeg) - (A (t + 2) x4.toNatClampNeg))] [] (F, A, J, G) Q) ∧ (¬ ((x3 >>> (x4 &&& 31)) &&& 1) = 0 → ((x2 < ((A 17 x4.toNatClampNeg) - (A (t + 2) x4.toNatClampNeg)) → X (d + 1) 94 12 [.ref t, .int x4, .int ((A 17 x4.toNatClampNeg) - (A (t + 2) x4.toNatClampNeg)), .int x3, .int (x4 + 1), .int ((A 17 x4.toNatClampNeg) - (A (t + 2) x4.toNatClampNeg))] [] (F, A, J, G) Q) ∧ (¬ x2 < ((A 17 x4.toNatClampNeg) - (A (t + 2) x4.toNatClampNeg)) → X (d + 1) 94 12 [.ref t, .int x1, .int x2, .int x3, .int (x4 + 1), .int ((A 17 x4.toNatClampNeg) - (A (t + 2) x4.toNatClampNeg))] [] (F, A, J, G) Q))))) ∧ (¬ x4 < (F 12 0) → Q (.inl (some (.int x1))) (F, A, J, G)))) : X (d + 1) 94 12 [.ref t, .int x1, .int x2, .int x3, .int x4, v5] [] (F, A, J, G) Q := by
  refine Y_il4 i_94_12 ?_
  refine Y_al0 i_94_14 ?_
  refine Y_gR i_94_15 ow_94 lf_6_33 (kT0 hG ht) (rT0 hG ht) ?_
  refine Y_gI (v := (F 12 0)) i_94_18 ow_94 lf_6_47 (by decide) (k_12 hG) rfl ?_
  refine Y_cge i_94_21 (fun e1 => ?_) (fun e1 => ?_)
  · replace h := h.1 e1
    refine Y_al0 i_94_24 ?_
    refine Y_gR i_94_25 ow_94 lf_6_33 (kT0 hG ht) (rT0 hG ht) ?_
    refine Y_gR i_94_28 ow_94 lf_6_111 (k_12 hG) (r_12_7 hG) ?_
    refine Y_il4 i_94_31 ?_
    have o2 := h.1
    replace h := h.2
    refine Y_iaload (k := x4.toNatClampNeg) (v := (A 17 x4.toNatClampNeg)) i_94_33 (k_17 hG) (l_17 hG) o2 rfl rfl ?_
    refine Y_al0 i_94_34 ?_
    refine Y_gR i_94_35 ow_94 lf_6_15 (kT0 hG ht) (rT5 hG ht) ?_
    refine Y_il4 i_94_38 ?_
    refine Y_iaload (k := x4.toNatClampNeg) (v := (A (t + 2) x4.toNatClampNeg)) i_94_40 (kT2 hG ht) (lT2 hG ht) o2 rfl rfl ?_
    refine Y_isub i_94_41 ?_
    refine Y_is5 i_94_42 rfl ?_
    refine Y_il3 i_94_44 ?_
    refine Y_il4 i_94_45 ?_
    refine Y_ishr i_94_47 ?_
    refine Y_iconst (v := 1) i_94_48 (by decide) ?_
    refine Y_iand i_94_49 ?_
    refine Y_zeq i_94_50 (fun e3 => ?_) (fun e3 => ?_)
    · replace h := h.1 e3
      refine Y_ii4 (v := 1) i_94_65 (by decide) rfl ?_
      refine Y_goto i_94_68 ?_
      exact h
    · replace h := h.2 e3
      refine Y_il5 i_94_53 ?_
      refine Y_il2 i_94_55 ?_
      refine Y_cle i_94_56 (fun e4 => ?_) (fun e4 => ?_)
      · replace h := h.1 e4
        refine Y_il4 i_94_59 ?_
        refine Y_is1 i_94_61 rfl ?_
        refine Y_il5 i_94_62 ?_
        refine Y_is2 i_94_64 rfl ?_
        refine Y_ii4 (v := 1) i_94_65 (by decide) rfl ?_
        refine Y_goto i_94_68 ?_
        exact h
      · replace h := h.2 e4
        refine Y_ii4 (v := 1) i_94_65 (by decide) rfl ?_
        refine Y_goto i_94_68 ?_
        exact h
  · replace h := h.2 e1
    refine Y_il1 i_94_71 ?_
    exact Y_iret i_94_72 rt_94 h
/- 95 Tower.mostTilted()I -/
theorem t_95_0 {d : Nat} {F A : Nat → Nat → Int32} {J : Nat → Nat → Int64} {G : pG} {Q : pR → pM → Prop} {SL p q : Nat} {t : Nat} (hG : Geo G SL p q) (ht : Tw t) (h : X (d + 2) 84 0 [.ref t, .null, .null, .null] [] (F, A, J, G) (KK (d + 3) 95 4 [.ref t, .null, .null] [] Q)) : X (d + 3) 95 0 [.ref t, .null, .null] [] (F, A, J, G) Q := by
  refine Y_al0 i_95_0 ?_
  exact Y_iv0 (L0 := [.ref t, .null, .null, .null]) i_95_1 ow_95 lm_6_95 ((kT0 hG ht).trans ow_84.symm) rfl mx_84 rfl rfl hd_95 h
theorem k_95_4 {d : Nat} {F A : Nat → Nat → Int32} {J : Nat → Nat → Int64} {G : pG} {Q : pR → pM → Prop} {SL p q : Nat} {t : Nat} (hG : Geo G SL p q) (ht : Tw t) (h : X (d + 3) 95 8 [.ref t, .int (-1), .int 0] [] (F, A, J, G) Q) : KK (d + 3) 95 4 [.ref t, .null, .null] [] Q (.inl none) (F, A, J, G) := by
  refine KKv ?_
  refine Y_iconst (v := (-1)) i_95_4 (by decide) ?_
  refine Y_is1 i_95_5 rfl ?_
  refine Y_iconst (v := 0) i_95_6 (by decide) ?_
  refine Y_is2 i_95_7 rfl ?_
  exact h
theorem t_95_8 {d : Nat} {F A : Nat → Nat → Int32} {J : Nat → Nat → Int64} {G : pG} {Q : pR → pM → Prop} {SL p q : Nat} {t : Nat} {x1 x2 : Int32} (hG : Geo G SL p q) (ht : Tw t) (h : ((x2 < (F t 1) → ((x1 = (-1) → X (d + 3) 95 8 [.ref t, .int x2, .int (x2 + 1)] [] (F, A, J, G) Q) ∧ (¬ x1 = (-1) → inB x2 10 = true ∧ inB x1 10 = true ∧ (((jabs (A (t + 7) x1.toNatClampNeg)) < (jabs (A (t + 7) x2.toNatClampNeg)) → X (d + 3) 95 8 [.ref t, .int x2, .int (x2 + 1)] [] (F, A, J, G) Q) ∧ (¬ (jabs (A (t + 7) x1.toNatClampNeg)) < (jabs (A (t + 7) x2.toNatClampNeg)) → X (d + 3) 95 8 [.ref t, .int x1, .int (x2 + 1)] [] (F, A, J, G) Q))))) ∧ (¬ x2 < (F t 1) → Q (.inl (some (.int x1))) (F, A, J, G)))) : X (d + 3) 95 8 [.ref t, .int x1, .int x2] [] (F, A, J, G) Q := by
  refine Y_il2 i_95_8 ?_
  refine Y_al0 i_95_9 ?_
  refine Y_gI (v := (F t 1)) i_95_10 ow_95 lf_6_37 (by decide) (kT0 hG ht) rfl ?_
  refine Y_cge i_95_13 (fun e1 => ?_) (fun e1 => ?_)
  · replace h := h.1 e1
    refine Y_il1 i_95_16 ?_
    refine Y_iconst (v := (-1)) i_95_17 (by decide) ?_
    refine Y_ceq i_95_18 (fun e2 => ?_) (fun e2 => ?_)
    · replace h := h.1 e2
      refine Y_il2 i_95_42 ?_
      refine Y_is1 i_95_43 rfl ?_
      refine Y_ii2 (v := 1) i_95_44 (by decide) rfl ?_
      refine Y_goto i_95_47 ?_
      exact h
    · replace h := h.2 e2
      refine Y_al0 i_95_21 ?_
      refine Y_gR i_95_22 ow_95 lf_6_30 (kT0 hG ht) (rT10 hG ht) ?_
      refine Y_il2 i_95_25 ?_
      have o3 := h.1
      replace h := h.2
      refine Y_iaload (k := x2.toNatClampNeg) (v := (A (t + 7) x2.toNatClampNeg)) i_95_26 (kT7 hG ht) (lT7 hG ht) o3 rfl rfl ?_
      refine Y_abs i_95_27 ow_95 lm_6_144 rfl ?_
      refine Y_al0 i_95_30 ?_
      refine Y_gR i_95_31 ow_95 lf_6_30 (kT0 hG ht) (rT10 hG ht) ?_
      refine Y_il1 i_95_34 ?_
      have o4 := h.1
      replace h := h.2
      refine Y_iaload (k := x1.toNatClampNeg) (v := (A (t + 7) x1.toNatClampNeg)) i_95_35 (kT7 hG ht) (lT7 hG ht) o4 rfl rfl ?_
      refine Y_abs i_95_36 ow_95 lm_6_144 rfl ?_
      refine Y_cle i_95_39 (fun e5 => ?_) (fun e5 => ?_)
      · replace h := h.1 e5
        refine Y_il2 i_95_42 ?_
        refine Y_is1 i_95_43 rfl ?_
        refine Y_ii2 (v := 1) i_95_44 (by decide) rfl ?_
        refine Y_goto i_95_47 ?_
        exact h
      · replace h := h.2 e5
        refine Y_ii2 (v := 1) i_95_44 (by decide) rfl ?_
        refine Y_goto i_95_47 ?_
        exact h
  · replace h := h.2 e1
    refine Y_il1 i_95_50 ?_
    exact Y_iret i_95_51 rt_95 h
/- 98 Town.clear()V -/
theorem t_98_0 {d : Nat} {F A : Nat → Nat → Int32} {J : Nat → Nat → Int64} {G : pG} {Q : pR → pM → Prop} {SL p q : Nat} (hG : Geo G SL p q) (h : Q (.inl none) ((wF (wF (wF (wF F 2 0 0) 2 1 9) 2 2 100) 8 1 0), A, J, G)) : X d 98 0 [.ref 2] [] (F, A, J, G) Q := by
  refine Y_al0 i_98_0 ?_
  refine Y_iconst (v := 0) i_98_1 (by decide) ?_
  refine Y_pI i_98_2 ow_98 lf_7_37 (k_2 hG) ?_
  refine Y_al0 i_98_5 ?_
  refine Y_bipush (v := 9) i_98_6 (by decide) ?_
  refine Y_pI i_98_8 ow_98 lf_7_41 (k_2 hG) ?_
  refine Y_al0 i_98_11 ?_
  refine Y_bipush (v := 100) i_98_12 (by decide) ?_
  refine Y_pI i_98_14 ow_98 lf_7_44 (k_2 hG) ?_
  refine Y_al0 i_98_17 ?_
  refine Y_gR i_98_18 ow_98 lf_7_30 (k_2 hG) (r_2_8 hG) ?_
  refine Y_iconst (v := 0) i_98_21 (by decide) ?_
  refine Y_pI i_98_22 ow_98 lf_7_47 (k_8 hG) ?_
  exact Y_vret i_98_25 rt_98 h
/- 99 Town.become(LTableTower$Town;)V -/
theorem t_99_0 {d : Nat} {F A : Nat → Nat → Int32} {J : Nat → Nat → Int64} {G : pG} {Q : pR → pM → Prop} {SL p q : Nat} (hG : Geo G SL p q) (h : (¬ (0 : Int32) < 0 ∧ ¬ (0 : Int32) < 0 ∧ ¬ (F 8 1) < 0 ∧ (0 : Int32).toNatClampNeg + (F 8 1).toNatClampNeg ≤ 600 ∧ (0 : Int32).toNatClampNeg + (F 8 1).toNatClampNeg ≤ 600) ∧ (Q (.inl none) ((wF (wF (wF (wF F 12 0 (F 2 0)) 12 1 (F 2 1)) 12 2 (F 2 2)) 18 1 (F 8 1)), (cpR (cpR (cpR (cpR (cpR (cpR A 13 3 0 0 10) 14 4 0 0 10) 15 5 0 0 10) 16 6 0 0 10) 17 7 0 0 10) 19 9 0 0 (F 8 1).toNatClampNeg), J, G))) : X (d + 1) 99 0 [.ref 12, .ref 2] [] (F, A, J, G) Q := by
  refine Y_al0 i_99_0 ?_
  refine Y_al1 i_99_1 ?_
  refine Y_gI (v := (F 2 0)) i_99_2 ow_99 lf_7_37 (by decide) (k_2 hG) rfl ?_
  refine Y_pI i_99_5 ow_99 lf_7_37 (k_12 hG) ?_
  refine Y_al0 i_99_8 ?_
  refine Y_al1 i_99_9 ?_
  refine Y_gI (v := (F 2 1)) i_99_10 ow_99 lf_7_41 (by decide) (k_2 hG) (by simp [wF, wJ, va_up, cpR, bF, bA]) ?_
  refine Y_pI i_99_13 ow_99 lf_7_41 (k_12 hG) ?_
  refine Y_al0 i_99_16 ?_
  refine Y_al1 i_99_17 ?_
  refine Y_gI (v := (F 2 2)) i_99_18 ow_99 lf_7_44 (by decide) (k_2 hG) (by simp [wF, wJ, va_up, cpR, bF, bA]) ?_
  refine Y_pI i_99_21 ow_99 lf_7_44 (k_12 hG) ?_
  refine Y_al1 i_99_24 ?_
  refine Y_gR i_99_25 ow_99 lf_7_9 (k_2 hG) (r_2_3 hG) ?_
  refine Y_iconst (v := 0) i_99_28 (by decide) ?_
  refine Y_al0 i_99_29 ?_
  refine Y_gR i_99_30 ow_99 lf_7_9 (k_12 hG) (r_12_3 hG) ?_
  refine Y_iconst (v := 0) i_99_33 (by decide) ?_
  refine Y_bipush (v := 10) i_99_34 (by decide) ?_
  refine Y_acp (ksp := 0) (kdp := 0) (kn := 10) i_99_36 ow_99 lm_7_50 rfl (k_13 hG) (k_3 hG) (l_13 hG) (l_3 hG) (by decide) (by decide) (by decide) (by decide) ?_
  refine Y_al1 i_99_39 ?_
  refine Y_gR i_99_40 ow_99 lf_7_15 (k_2 hG) (r_2_4 hG) ?_
  refine Y_iconst (v := 0) i_99_43 (by decide) ?_
  refine Y_al0 i_99_44 ?_
  refine Y_gR i_99_45 ow_99 lf_7_15 (k_12 hG) (r_12_4 hG) ?_
  refine Y_iconst (v := 0) i_99_48 (by decide) ?_
  refine Y_bipush (v := 10) i_99_49 (by decide) ?_
  refine Y_acp (ksp := 0) (kdp := 0) (kn := 10) i_99_51 ow_99 lm_7_50 rfl (k_14 hG) (k_4 hG) (l_14 hG) (l_4 hG) (by decide) (by decide) (by decide) (by decide) ?_
  refine Y_al1 i_99_54 ?_
  refine Y_gR i_99_55 ow_99 lf_7_18 (k_2 hG) (r_2_5 hG) ?_
  refine Y_iconst (v := 0) i_99_58 (by decide) ?_
  refine Y_al0 i_99_59 ?_
  refine Y_gR i_99_60 ow_99 lf_7_18 (k_12 hG) (r_12_5 hG) ?_
  refine Y_iconst (v := 0) i_99_63 (by decide) ?_
  refine Y_bipush (v := 10) i_99_64 (by decide) ?_
  refine Y_acp (ksp := 0) (kdp := 0) (kn := 10) i_99_66 ow_99 lm_7_50 rfl (k_15 hG) (k_5 hG) (l_15 hG) (l_5 hG) (by decide) (by decide) (by decide) (by decide) ?_
  refine Y_al1 i_99_69 ?_
  refine Y_gR i_99_70 ow_99 lf_7_21 (k_2 hG) (r_2_6 hG) ?_
  refine Y_iconst (v := 0) i_99_73 (by decide) ?_
  refine Y_al0 i_99_74 ?_
  refine Y_gR i_99_75 ow_99 lf_7_21 (k_12 hG) (r_12_6 hG) ?_
  refine Y_iconst (v := 0) i_99_78 (by decide) ?_
  refine Y_bipush (v := 10) i_99_79 (by decide) ?_
  refine Y_acp (ksp := 0) (kdp := 0) (kn := 10) i_99_81 ow_99 lm_7_50 rfl (k_16 hG) (k_6 hG) (l_16 hG) (l_6 hG) (by decide) (by decide) (by decide) (by decide) ?_
  refine Y_al1 i_99_84 ?_
  refine Y_gR i_99_85 ow_99 lf_7_24 (k_2 hG) (r_2_7 hG) ?_
  refine Y_iconst (v := 0) i_99_88 (by decide) ?_
  refine Y_al0 i_99_89 ?_
  refine Y_gR i_99_90 ow_99 lf_7_24 (k_12 hG) (r_12_7 hG) ?_
  refine Y_iconst (v := 0) i_99_93 (by decide) ?_
  refine Y_bipush (v := 10) i_99_94 (by decide) ?_
  refine Y_acp (ksp := 0) (kdp := 0) (kn := 10) i_99_96 ow_99 lm_7_50 rfl (k_17 hG) (k_7 hG) (l_17 hG) (l_7 hG) (by decide) (by decide) (by decide) (by decide) ?_
  refine Y_al0 i_99_99 ?_
  refine Y_gR i_99_100 ow_99 lf_7_30 (k_12 hG) (r_12_8 hG) ?_
  refine Y_al1 i_99_103 ?_
  refine Y_gR i_99_104 ow_99 lf_7_30 (k_2 hG) (r_2_8 hG) ?_
  refine Y_iv1 (L0 := [.ref 18, .ref 8]) i_99_107 ow_99 lm_7_56 ((k_18 hG).trans ow_53.symm) rfl mx_53 rfl rfl hd_99 ?_
  refine Y_al0 i_53_0 ?_
  refine Y_al1 i_53_1 ?_
  refine Y_gI (v := (F 8 1)) i_53_2 ow_53 lf_4_18 (by decide) (k_8 hG) (by simp [wF, wJ, va_up, cpR, bF, bA]) ?_
  refine Y_pI i_53_5 ow_53 lf_4_18 (k_18 hG) ?_
  refine Y_al1 i_53_8 ?_
  refine Y_gR i_53_9 ow_53 lf_4_9 (k_8 hG) (r_8_0 hG) ?_
  refine Y_iconst (v := 0) i_53_12 (by decide) ?_
  refine Y_al0 i_53_13 ?_
  refine Y_gR i_53_14 ow_53 lf_4_9 (k_18 hG) (r_18_0 hG) ?_
  refine Y_iconst (v := 0) i_53_17 (by decide) ?_
  refine Y_al0 i_53_18 ?_
  refine Y_gI (v := (F 8 1)) i_53_19 ow_53 lf_4_18 (by decide) (k_18 hG) (by simp [wF, wJ, va_up, cpR, bF, bA]) ?_
  have o1 := h.1
  replace h := h.2
  refine Y_acp (ksp := 0) (kdp := 0) (kn := (F 8 1).toNatClampNeg) i_53_22 ow_53 lm_4_22 rfl (k_19 hG) (k_9 hG) (l_19 hG) (l_9 hG) o1 (by decide) (by decide) rfl ?_
  refine Y_vret i_53_25 rt_53 (KKv ?_)
  exact Y_vret i_99_110 rt_99 h
/- 100 Town.all()I -/
theorem t_100_0 {d : Nat} {F A : Nat → Nat → Int32} {J : Nat → Nat → Int64} {G : pG} {Q : pR → pM → Prop} {SL p q : Nat} (hG : Geo G SL p q) (h : Q (.inl (some (.int (((1 : Int32) <<< ((F 12 0) &&& 31)) - 1)))) (F, A, J, G)) : X d 100 0 [.ref 12] [] (F, A, J, G) Q := by
  refine Y_iconst (v := 1) i_100_0 (by decide) ?_
  refine Y_al0 i_100_1 ?_
  refine Y_gI (v := (F 12 0)) i_100_2 ow_100 lf_7_37 (by decide) (k_12 hG) rfl ?_
  refine Y_ishl i_100_5 ?_
  refine Y_iconst (v := 1) i_100_6 (by decide) ?_
  refine Y_isub i_100_7 ?_
  exact Y_iret i_100_8 rt_100 h
/- 105 Trials.roomWithout(I)I -/
theorem t_105_0 {d : Nat} {F A : Nat → Nat → Int32} {J : Nat → Nat → Int64} {G : pG} {Q : pR → pM → Prop} {SL p q : Nat} {x1 : Int32} (hG : Geo G SL p q) (h : hB (F 27 1) = true ∧ (X (d + 4) 80 0 [.ref 53, .int (lvI (A 28) (F 27 1) x1), .null] [] ((bF F 53 27), (bA A 53 27), J, G) (KK (d + 5) 105 26 [.ref 49, .int x1] [] Q))) : X (d + 5) 105 0 [.ref 49, .int x1] [] (F, A, J, G) Q := by
  refine Y_al0 i_105_0 ?_
  refine Y_gR i_105_1 ow_105 lf_8_34 (k_49 hG) (r_49_2 hG) ?_
  refine Y_al0 i_105_4 ?_
  refine Y_gR i_105_5 ow_105 lf_8_25 (k_49 hG) (r_49_1 hG) ?_
  refine Y_iv1 (L0 := [.ref 53, .ref 27]) i_105_8 ow_105 lm_8_37 ((k_53 hG).trans ow_76.symm) rfl mx_76 rfl rfl hd_105 ?_
  refine c_76_53_27 hG tw_53 (KKv ?_)
  refine Y_al0 i_105_11 ?_
  refine Y_gR i_105_12 ow_105 lf_8_34 (k_49 hG) (r_49_2 hG) ?_
  refine Y_al0 i_105_15 ?_
  refine Y_gR i_105_16 ow_105 lf_8_25 (k_49 hG) (r_49_1 hG) ?_
  refine Y_il1 i_105_19 ?_
  have o1 := h.1
  replace h := h.2
  refine Y_iv1 (L0 := [.ref 27, .int x1, .null]) i_105_20 ow_105 lm_8_41 ((k_27 hG).trans ow_77.symm) rfl mx_77 rfl rfl hd_105 ?_
  refine c_77 hG tw_27 (by simpa [wF, wJ, va_up, cpR, bF, bA] using o1) (KKi' (v' := (lvI (A 28) (F 27 1) x1)) (by simp [wF, wJ, va_up, cpR, bF, bA]) ?_)
  exact Y_iv1 (L0 := [.ref 53, .int (lvI (A 28) (F 27 1) x1), .null]) i_105_23 ow_105 lm_8_45 ((k_53 hG).trans ow_80.symm) rfl mx_80 rfl rfl hd_105 h
theorem k_105_26 {d : Nat} {F A : Nat → Nat → Int32} {J : Nat → Nat → Int64} {G : pG} {Q : pR → pM → Prop} {SL p q : Nat} {x1 : Int32} (hG : Geo G SL p q) (h : X (d + 4) 89 0 [.ref 53, .null, .null] [] (F, A, J, G) (KK (d + 5) 105 33 [.ref 49, .int x1] [] Q)) : KK (d + 5) 105 26 [.ref 49, .int x1] [] Q (.inl none) (F, A, J, G) := by
  refine KKv ?_
  refine Y_al0 i_105_26 ?_
  refine Y_gR i_105_27 ow_105 lf_8_34 (k_49 hG) (r_49_2 hG) ?_
  exact Y_iv0 (L0 := [.ref 53, .null, .null]) i_105_30 ow_105 lm_8_49 ((k_53 hG).trans ow_89.symm) rfl mx_89 rfl rfl hd_105 h
theorem k_105_33 {d : Nat} {F A : Nat → Nat → Int32} {J : Nat → Nat → Int64} {G : pG} {Q : pR → pM → Prop} {SL p q : Nat} {x1 r : Int32} (hG : Geo G SL p q) (h : Q (.inl (some (.int r))) (F, A, J, G)) : KK (d + 5) 105 33 [.ref 49, .int x1] [] Q (.inl (some (.int r))) (F, A, J, G) := by
  refine KKi ?_
  exact Y_iret i_105_33 rt_105 h
/- 106 Trials.bestTakenOff()I -/
theorem t_106_0 {d : Nat} {F A : Nat → Nat → Int32} {J : Nat → Nat → Int64} {G : pG} {Q : pR → pM → Prop} {SL p q : Nat} (hG : Geo G SL p q) (h : X (d + 6) 106 6 [.ref 49, .int (-1), .int (-1), .int 0, .null] [] (F, A, J, G) Q) : X (d + 6) 106 0 [.ref 49, .null, .null, .null, .null] [] (F, A, J, G) Q := by
  refine Y_iconst (v := (-1)) i_106_0 (by decide) ?_
  refine Y_is1 i_106_1 rfl ?_
  refine Y_iconst (v := (-1)) i_106_2 (by decide) ?_
  refine Y_is2 i_106_3 rfl ?_
  refine Y_iconst (v := 0) i_106_4 (by decide) ?_
  refine Y_is3 i_106_5 rfl ?_
  exact h
theorem t_106_6 {d : Nat} {F A : Nat → Nat → Int32} {J : Nat → Nat → Int64} {G : pG} {Q : pR → pM → Prop} {SL p q : Nat} {x1 x2 x3 : Int32} {v4 : Value} (hG : Geo G SL p q) (h : ((x3 < (F 12 0) → hB (F 27 1) = true ∧ (((lvI (A 28) (F 27 1) x3) = (-1) → ((x2 < (-1) → X (d + 6) 106 6 [.ref 49, .int x3, .int (-1), .int (x3 + 1), .int (-1)] [] (F, A, J, G) Q) ∧ (¬ x2 < (-1) → X (d + 6) 106 6 [.ref 49, .int x1, .int x2, .int (x3 + 1), .int (-1)] [] (F, A, J, G) Q))) ∧ (¬ (lvI (A 28) (F 27 1) x3) = (-1) → X (d + 5) 105 0 [.ref 49, .int x3] [] (F, A, J, G) (KK (d + 6) 106 38 [.ref 49, .int x1, .int x2, .int x3, v4] [] Q)))) ∧ (¬ x3 < (F 12 0) → Q (.inl (some (.int x1))) (F, A, J, G)))) : X (d + 6) 106 6 [.ref 49, .int x1, .int x2, .int x3, v4] [] (F, A, J, G) Q := by
  refine Y_il3 i_106_6 ?_
  refine Y_al0 i_106_7 ?_
  refine Y_gR i_106_8 ow_106 lf_8_21 (k_49 hG) (r_49_0 hG) ?_
  refine Y_gI (v := (F 12 0)) i_106_11 ow_106 lf_8_53 (by decide) (k_12 hG) rfl ?_
  refine Y_cge i_106_14 (fun e1 => ?_) (fun e1 => ?_)
  · replace h := h.1 e1
    refine Y_al0 i_106_17 ?_
    refine Y_gR i_106_18 ow_106 lf_8_25 (k_49 hG) (r_49_1 hG) ?_
    refine Y_il3 i_106_21 ?_
    have o2 := h.1
    replace h := h.2
    refine Y_iv1 (L0 := [.ref 27, .int x3, .null]) i_106_22 ow_106 lm_8_41 ((k_27 hG).trans ow_77.symm) rfl mx_77 rfl rfl hd_106 ?_
    refine c_77 hG tw_27 o2 (KKi' (v' := (lvI (A 28) (F 27 1) x3)) (by simp [wF, wJ, va_up, cpR, bF, bA]) ?_)
    refine Y_iconst (v := (-1)) i_106_25 (by decide) ?_
    refine Y_cne i_106_26 (fun e3 => ?_) (fun e3 => ?_)
    · replace h := h.1 e3
      refine Y_iconst (v := (-1)) i_106_29 (by decide) ?_
      refine Y_goto i_106_30 ?_
      refine Y_is4 i_106_38 rfl ?_
      refine Y_il4 i_106_40 ?_
      refine Y_il2 i_106_42 ?_
      refine Y_cle i_106_43 (fun e4 => ?_) (fun e4 => ?_)
      · replace h := h.1 e4
        refine Y_il3 i_106_46 ?_
        refine Y_is1 i_106_47 rfl ?_
        refine Y_il4 i_106_48 ?_
        refine Y_is2 i_106_50 rfl ?_
        refine Y_ii3 (v := 1) i_106_51 (by decide) rfl ?_
        refine Y_goto i_106_54 ?_
        exact h
      · replace h := h.2 e4
        refine Y_ii3 (v := 1) i_106_51 (by decide) rfl ?_
        refine Y_goto i_106_54 ?_
        exact h
    · replace h := h.2 e3
      refine Y_al0 i_106_33 ?_
      refine Y_il3 i_106_34 ?_
      exact Y_iv1 (L0 := [.ref 49, .int x3]) i_106_35 ow_106 lm_8_59 ((k_49 hG).trans ow_105.symm) rfl mx_105 rfl rfl hd_106 h
  · replace h := h.2 e1
    refine Y_il1 i_106_57 ?_
    exact Y_iret i_106_58 rt_106 h
theorem k_106_38 {d : Nat} {F A : Nat → Nat → Int32} {J : Nat → Nat → Int64} {G : pG} {Q : pR → pM → Prop} {SL p q : Nat} {x1 x2 x3 r : Int32} {v4 : Value} (hG : Geo G SL p q) (h : ((x2 < r → X (d + 6) 106 6 [.ref 49, .int x3, .int r, .int (x3 + 1), .int r] [] (F, A, J, G) Q) ∧ (¬ x2 < r → X (d + 6) 106 6 [.ref 49, .int x1, .int x2, .int (x3 + 1), .int r] [] (F, A, J, G) Q))) : KK (d + 6) 106 38 [.ref 49, .int x1, .int x2, .int x3, v4] [] Q (.inl (some (.int r))) (F, A, J, G) := by
  refine KKi ?_
  refine Y_is4 i_106_38 rfl ?_
  refine Y_il4 i_106_40 ?_
  refine Y_il2 i_106_42 ?_
  refine Y_cle i_106_43 (fun e1 => ?_) (fun e1 => ?_)
  · replace h := h.1 e1
    refine Y_il3 i_106_46 ?_
    refine Y_is1 i_106_47 rfl ?_
    refine Y_il4 i_106_48 ?_
    refine Y_is2 i_106_50 rfl ?_
    refine Y_ii3 (v := 1) i_106_51 (by decide) rfl ?_
    refine Y_goto i_106_54 ?_
    exact h
  · replace h := h.2 e1
    refine Y_ii3 (v := 1) i_106_51 (by decide) rfl ?_
    refine Y_goto i_106_54 ?_
    exact h
/- 107 Trials.fewestOthersOut(I)I -/
theorem t_107_0 {d : Nat} {F A : Nat → Nat → Int32} {J : Nat → Nat → Int64} {G : pG} {Q : pR → pM → Prop} {SL p q : Nat} {x1 : Int32} (hG : Geo G SL p q) (h : hB (F 27 1) = true ∧ (X (d + 6) 107 30 [.ref 49, .int x1, .int ((bitsI (A 28) (F 27 1)) &&& (((1 : Int32) <<< (x1 &&& 31)) ^^^ (-1))), .int ((bitsI (A 28) (F 27 1)) &&& (((1 : Int32) <<< (x1 &&& 31)) ^^^ (-1))), .int 0, .null] [] ((bF F 53 27), (bA A 53 27), J, G) Q)) : X (d + 6) 107 0 [.ref 49, .int x1, .null, .null, .null, .null] [] (F, A, J, G) Q := by
  refine Y_al0 i_107_0 ?_
  refine Y_gR i_107_1 ow_107 lf_8_25 (k_49 hG) (r_49_1 hG) ?_
  have o1 := h.1
  replace h := h.2
  refine Y_iv0 (L0 := [.ref 27, .null, .null]) i_107_4 ow_107 lm_8_62 ((k_27 hG).trans ow_78.symm) rfl mx_78 rfl rfl hd_107 ?_
  refine c_78 hG tw_27 o1 (KKi' (v' := (bitsI (A 28) (F 27 1))) (by simp [wF, wJ, va_up, cpR, bF, bA]) ?_)
  refine Y_iconst (v := 1) i_107_7 (by decide) ?_
  refine Y_il1 i_107_8 ?_
  refine Y_ishl i_107_9 ?_
  refine Y_iconst (v := (-1)) i_107_10 (by decide) ?_
  refine Y_ixor i_107_11 ?_
  refine Y_iand i_107_12 ?_
  refine Y_is2 i_107_13 rfl ?_
  refine Y_il2 i_107_14 ?_
  refine Y_is3 i_107_15 rfl ?_
  refine Y_al0 i_107_16 ?_
  refine Y_gR i_107_17 ow_107 lf_8_34 (k_49 hG) (r_49_2 hG) ?_
  refine Y_al0 i_107_20 ?_
  refine Y_gR i_107_21 ow_107 lf_8_25 (k_49 hG) (r_49_1 hG) ?_
  refine Y_iv1 (L0 := [.ref 53, .ref 27]) i_107_24 ow_107 lm_8_37 ((k_53 hG).trans ow_76.symm) rfl mx_76 rfl rfl hd_107 ?_
  refine c_76_53_27 hG tw_53 (KKv ?_)
  refine Y_iconst (v := 0) i_107_27 (by decide) ?_
  refine Y_is4 i_107_28 rfl ?_
  exact h
theorem t_107_30 {d : Nat} {F A : Nat → Nat → Int32} {J : Nat → Nat → Int64} {G : pG} {Q : pR → pM → Prop} {SL p q : Nat} {x1 x2 x3 x4 : Int32} {v5 : Value} (hG : Geo G SL p q) (h : ((x4 < x2 → inB x4 1024 = true ∧ inB x3 1024 = true ∧ (((nI (pcn x4.toNatClampNeg)) < (nI (pcn x3.toNatClampNeg)) → (((x4 &&& (x2 ^^^ (-1))) = 0 → X (d + 5) 108 0 [.ref 49, .int (x4 ||| ((1 : Int32) <<< (x1 &&& 31))), .null, .null] [] (F, A, J, G) (KK (d + 6) 107 79 [.ref 49, .int x1, .int x2, .int x3, .int x4, .int 1] [] Q)) ∧ (¬ (x4 &&& (x2 ^^^ (-1))) = 0 → X (d + 6) 107 30 [.ref 49, .int x1, .int x2, .int x3, .int (x4 + 1), .int 1] [] (F, A, J, G) Q))) ∧ (¬ (nI (pcn x4.toNatClampNeg)) < (nI (pcn x3.toNatClampNeg)) → (((x4 &&& (x2 ^^^ (-1))) = 0 → X (d + 6) 107 30 [.ref 49, .int x1, .int x2, .int x3, .int (x4 + 1), .int 0] [] (F, A, J, G) Q) ∧ (¬ (x4 &&& (x2 ^^^ (-1))) = 0 → X (d + 6) 107 30 [.ref 49, .int x1, .int x2, .int x3, .int (x4 + 1), .int 0] [] (F, A, J, G) Q))))) ∧ (¬ x4 < x2 → Q (.inl (some (.int x3))) (F, A, J, G)))) : X (d + 6) 107 30 [.ref 49, .int x1, .int x2, .int x3, .int x4, v5] [] (F, A, J, G) Q := by
  refine Y_il4 i_107_30 ?_
  refine Y_il2 i_107_32 ?_
  refine Y_cge i_107_33 (fun e1 => ?_) (fun e1 => ?_)
  · replace h := h.1 e1
    refine Y_il4 i_107_36 ?_
    have o2 := h.1
    replace h := h.2
    refine Y_is_1 (L0 := [.int x4]) i_107_38 ow_107 lm_8_65 rfl mx_289 rfl rfl hd_107 ?_
    refine c_289 hG o2 (KKi ?_)
    refine Y_il3 i_107_41 ?_
    have o3 := h.1
    replace h := h.2
    refine Y_is_1 (L0 := [.int x3]) i_107_42 ow_107 lm_8_65 rfl mx_289 rfl rfl hd_107 ?_
    refine c_289 hG o3 (KKi ?_)
    refine Y_cge i_107_45 (fun e4 => ?_) (fun e4 => ?_)
    · replace h := h.1 e4
      refine Y_iconst (v := 1) i_107_48 (by decide) ?_
      refine Y_goto i_107_49 ?_
      refine Y_is5 i_107_53 rfl ?_
      refine Y_il4 i_107_55 ?_
      refine Y_il2 i_107_57 ?_
      refine Y_iconst (v := (-1)) i_107_58 (by decide) ?_
      refine Y_ixor i_107_59 ?_
      refine Y_iand i_107_60 ?_
      refine Y_zne i_107_61 (fun e5 => ?_) (fun e5 => ?_)
      · replace h := h.1 e5
        refine Y_il5 i_107_64 ?_
        refine Y_zF i_107_66 (by decide) ?_
        refine Y_al0 i_107_69 ?_
        refine Y_il4 i_107_70 ?_
        refine Y_iconst (v := 1) i_107_72 (by decide) ?_
        refine Y_il1 i_107_73 ?_
        refine Y_ishl i_107_74 ?_
        refine Y_ior i_107_75 ?_
        exact Y_iv1 (L0 := [.ref 49, .int (x4 ||| ((1 : Int32) <<< (x1 &&& 31))), .null, .null]) i_107_76 ow_107 lm_8_70 ((k_49 hG).trans ow_108.symm) rfl mx_108 rfl rfl hd_107 h
      · replace h := h.2 e5
        refine Y_ii4 (v := 1) i_107_85 (by decide) rfl ?_
        refine Y_goto i_107_88 ?_
        exact h
    · replace h := h.2 e4
      refine Y_iconst (v := 0) i_107_52 (by decide) ?_
      refine Y_is5 i_107_53 rfl ?_
      refine Y_il4 i_107_55 ?_
      refine Y_il2 i_107_57 ?_
      refine Y_iconst (v := (-1)) i_107_58 (by decide) ?_
      refine Y_ixor i_107_59 ?_
      refine Y_iand i_107_60 ?_
      refine Y_zne i_107_61 (fun e6 => ?_) (fun e6 => ?_)
      · replace h := h.1 e6
        refine Y_il5 i_107_64 ?_
        refine Y_zT i_107_66 (by decide) ?_
        refine Y_ii4 (v := 1) i_107_85 (by decide) rfl ?_
        refine Y_goto i_107_88 ?_
        exact h
      · replace h := h.2 e6
        refine Y_ii4 (v := 1) i_107_85 (by decide) rfl ?_
        refine Y_goto i_107_88 ?_
        exact h
  · replace h := h.2 e1
    refine Y_il3 i_107_91 ?_
    exact Y_iret i_107_92 rt_107 h
theorem k_107_79 {d : Nat} {F A : Nat → Nat → Int32} {J : Nat → Nat → Int64} {G : pG} {Q : pR → pM → Prop} {SL p q : Nat} {x1 x2 x3 x4 x5 r : Int32} (hG : Geo G SL p q) (h : ((r = 0 → X (d + 6) 107 30 [.ref 49, .int x1, .int x2, .int x3, .int (x4 + 1), .int x5] [] (F, A, J, G) Q) ∧ (¬ r = 0 → X (d + 6) 107 30 [.ref 49, .int x1, .int x2, .int x4, .int (x4 + 1), .int x5] [] (F, A, J, G) Q))) : KK (d + 6) 107 79 [.ref 49, .int x1, .int x2, .int x3, .int x4, .int x5] [] Q (.inl (some (.int r))) (F, A, J, G) := by
  refine KKi ?_
  refine Y_zeq i_107_79 (fun e1 => ?_) (fun e1 => ?_)
  · replace h := h.1 e1
    refine Y_ii4 (v := 1) i_107_85 (by decide) rfl ?_
    refine Y_goto i_107_88 ?_
    exact h
  · replace h := h.2 e1
    refine Y_il4 i_107_82 ?_
    refine Y_is3 i_107_84 rfl ?_
    refine Y_ii4 (v := 1) i_107_85 (by decide) rfl ?_
    refine Y_goto i_107_88 ?_
    exact h
/- 108 Trials.standsWithout(I)Z -/
theorem t_108_0 {d : Nat} {F A : Nat → Nat → Int32} {J : Nat → Nat → Int64} {G : pG} {Q : pR → pM → Prop} {SL p q : Nat} {x1 : Int32} (hG : Geo G SL p q) (h : X (d + 5) 108 10 [.ref 49, .int x1, .int 0, .null] [] ((wF F 53 1 0), A, J, G) Q) : X (d + 5) 108 0 [.ref 49, .int x1, .null, .null] [] (F, A, J, G) Q := by
  refine Y_al0 i_108_0 ?_
  refine Y_gR i_108_1 ow_108 lf_8_34 (k_49 hG) (r_49_2 hG) ?_
  refine Y_iconst (v := 0) i_108_4 (by decide) ?_
  refine Y_pI i_108_5 ow_108 lf_8_74 (k_53 hG) ?_
  refine Y_iconst (v := 0) i_108_8 (by decide) ?_
  refine Y_is2 i_108_9 rfl ?_
  exact h
theorem t_108_10 {d : Nat} {F A : Nat → Nat → Int32} {J : Nat → Nat → Int64} {G : pG} {Q : pR → pM → Prop} {SL p q : Nat} {x1 x2 : Int32} {v3 : Value} (hG : Geo G SL p q) (h : ((x2 < (F 27 1) → inB x2 10 = true ∧ ((((x1 >>> ((A 28 x2.toNatClampNeg) &&& 31)) &&& 1) = 0 → inB (F 53 1) 10 = true ∧ (X (d + 5) 108 10 [.ref 49, .int x1, .int (x2 + 1), .int (A 28 x2.toNatClampNeg)] [] ((wF F 53 1 ((F 53 1) + 1)), (wF A 54 (F 53 1).toNatClampNeg (A 28 x2.toNatClampNeg)), J, G) Q)) ∧ (¬ ((x1 >>> ((A 28 x2.toNatClampNeg) &&& 31)) &&& 1) = 0 → X (d + 5) 108 10 [.ref 49, .int x1, .int (x2 + 1), .int (A 28 x2.toNatClampNeg)] [] (F, A, J, G) Q))) ∧ (¬ x2 < (F 27 1) → X (d + 4) 88 0 [.ref 53] [] (F, A, J, G) (KK (d + 5) 108 81 [.ref 49, .int x1, .int x2, v3] [] Q)))) : X (d + 5) 108 10 [.ref 49, .int x1, .int x2, v3] [] (F, A, J, G) Q := by
  refine Y_il2 i_108_10 ?_
  refine Y_al0 i_108_11 ?_
  refine Y_gR i_108_12 ow_108 lf_8_25 (k_49 hG) (r_49_1 hG) ?_
  refine Y_gI (v := (F 27 1)) i_108_15 ow_108 lf_8_74 (by decide) (k_27 hG) rfl ?_
  refine Y_cge i_108_18 (fun e1 => ?_) (fun e1 => ?_)
  · replace h := h.1 e1
    refine Y_al0 i_108_21 ?_
    refine Y_gR i_108_22 ow_108 lf_8_25 (k_49 hG) (r_49_1 hG) ?_
    refine Y_gR i_108_25 ow_108 lf_8_77 (k_27 hG) (r_27_4 hG) ?_
    refine Y_il2 i_108_28 ?_
    have o2 := h.1
    replace h := h.2
    refine Y_iaload (k := x2.toNatClampNeg) (v := (A 28 x2.toNatClampNeg)) i_108_29 (k_28 hG) (l_28 hG) o2 rfl rfl ?_
    refine Y_is3 i_108_30 rfl ?_
    refine Y_il1 i_108_31 ?_
    refine Y_il3 i_108_32 ?_
    refine Y_ishr i_108_33 ?_
    refine Y_iconst (v := 1) i_108_34 (by decide) ?_
    refine Y_iand i_108_35 ?_
    refine Y_zne i_108_36 (fun e3 => ?_) (fun e3 => ?_)
    · replace h := h.1 e3
      refine Y_al0 i_108_39 ?_
      refine Y_gR i_108_40 ow_108 lf_8_34 (k_49 hG) (r_49_2 hG) ?_
      refine Y_gR i_108_43 ow_108 lf_8_77 (k_53 hG) (r_53_4 hG) ?_
      refine Y_al0 i_108_46 ?_
      refine Y_gR i_108_47 ow_108 lf_8_34 (k_49 hG) (r_49_2 hG) ?_
      refine Y_gI (v := (F 53 1)) i_108_50 ow_108 lf_8_74 (by decide) (k_53 hG) rfl ?_
      refine Y_il3 i_108_53 ?_
      have o4 := h.1
      replace h := h.2
      refine Y_iast i_108_54 (k_54 hG) (l_54 hG) o4 rfl ?_
      refine Y_al0 i_108_55 ?_
      refine Y_gR i_108_56 ow_108 lf_8_34 (k_49 hG) (r_49_2 hG) ?_
      refine Y_dup i_108_59 rfl ?_
      refine Y_gI (v := (F 53 1)) i_108_60 ow_108 lf_8_74 (by decide) (k_53 hG) rfl ?_
      refine Y_iconst (v := 1) i_108_63 (by decide) ?_
      refine Y_iadd i_108_64 ?_
      refine Y_pI i_108_65 ow_108 lf_8_74 (k_53 hG) ?_
      refine Y_ii2 (v := 1) i_108_68 (by decide) rfl ?_
      refine Y_goto i_108_71 ?_
      exact h
    · replace h := h.2 e3
      refine Y_ii2 (v := 1) i_108_68 (by decide) rfl ?_
      refine Y_goto i_108_71 ?_
      exact h
  · replace h := h.2 e1
    refine Y_al0 i_108_74 ?_
    refine Y_gR i_108_75 ow_108 lf_8_34 (k_49 hG) (r_49_2 hG) ?_
    exact Y_iv0 (L0 := [.ref 53]) i_108_78 ow_108 lm_8_80 ((k_53 hG).trans ow_88.symm) rfl mx_88 rfl rfl hd_108 h
theorem k_108_81 {d : Nat} {F A : Nat → Nat → Int32} {J : Nat → Nat → Int64} {G : pG} {Q : pR → pM → Prop} {SL p q : Nat} {x1 x2 r : Int32} {v3 : Value} (hG : Geo G SL p q) (h : (r = 0 ∨ r = 1) ∧ (Q (.inl (some (.int r))) (F, A, J, G))) : KK (d + 5) 108 81 [.ref 49, .int x1, .int x2, v3] [] Q (.inl (some (.int r))) (F, A, J, G) := by
  refine KKi ?_
  have o1 := h.1
  replace h := h.2
  exact Y_bret i_108_81 rt_108 o1 h
/- 109 Trials.bestChange()I -/
theorem t_109_0 {d : Nat} {F A : Nat → Nat → Int32} {J : Nat → Nat → Int64} {G : pG} {Q : pR → pM → Prop} {SL p q : Nat} (hG : Geo G SL p q) (h : X (d + 4) 89 0 [.ref 27, .null, .null] [] (F, A, J, G) (KK (d + 5) 109 9 [.ref 49, .int (-1), .null, .null, .null, .null] [] Q)) : X (d + 5) 109 0 [.ref 49, .null, .null, .null, .null, .null] [] (F, A, J, G) Q := by
  refine Y_iconst (v := (-1)) i_109_0 (by decide) ?_
  refine Y_is1 i_109_1 rfl ?_
  refine Y_al0 i_109_2 ?_
  refine Y_gR i_109_3 ow_109 lf_8_25 (k_49 hG) (r_49_1 hG) ?_
  exact Y_iv0 (L0 := [.ref 27, .null, .null]) i_109_6 ow_109 lm_8_49 ((k_27 hG).trans ow_89.symm) rfl mx_89 rfl rfl hd_109 h
theorem k_109_9 {d : Nat} {F A : Nat → Nat → Int32} {J : Nat → Nat → Int64} {G : pG} {Q : pR → pM → Prop} {SL p q : Nat} {x1 r : Int32} (hG : Geo G SL p q) (h : X (d + 5) 109 23 [.ref 49, .int x1, .int r, .int 0, .null, .null] [] ((bF F 53 27), (bA A 53 27), J, G) Q) : KK (d + 5) 109 9 [.ref 49, .int x1, .null, .null, .null, .null] [] Q (.inl (some (.int r))) (F, A, J, G) := by
  refine KKi ?_
  refine Y_is2 i_109_9 rfl ?_
  refine Y_al0 i_109_10 ?_
  refine Y_gR i_109_11 ow_109 lf_8_34 (k_49 hG) (r_49_2 hG) ?_
  refine Y_al0 i_109_14 ?_
  refine Y_gR i_109_15 ow_109 lf_8_25 (k_49 hG) (r_49_1 hG) ?_
  refine Y_iv1 (L0 := [.ref 53, .ref 27]) i_109_18 ow_109 lm_8_37 ((k_53 hG).trans ow_76.symm) rfl mx_76 rfl rfl hd_109 ?_
  refine c_76_53_27 hG tw_53 (KKv ?_)
  refine Y_iconst (v := 0) i_109_21 (by decide) ?_
  refine Y_is3 i_109_22 rfl ?_
  exact h
theorem t_109_23 {d : Nat} {F A : Nat → Nat → Int32} {J : Nat → Nat → Int64} {G : pG} {Q : pR → pM → Prop} {SL p q : Nat} {x1 x2 x3 : Int32} {v4 v5 : Value} (hG : Geo G SL p q) (h : ((x3 < (F 27 1) → X (d + 5) 109 39 [.ref 49, .int x1, .int x2, .int x3, .int (x3 + 1), v5] [] (F, A, J, G) Q) ∧ (¬ x3 < (F 27 1) → Q (.inl (some (.int x1))) (F, A, J, G)))) : X (d + 5) 109 23 [.ref 49, .int x1, .int x2, .int x3, v4, v5] [] (F, A, J, G) Q := by
  refine Y_il3 i_109_23 ?_
  refine Y_al0 i_109_24 ?_
  refine Y_gR i_109_25 ow_109 lf_8_25 (k_49 hG) (r_49_1 hG) ?_
  refine Y_gI (v := (F 27 1)) i_109_28 ow_109 lf_8_74 (by decide) (k_27 hG) rfl ?_
  refine Y_cge i_109_31 (fun e1 => ?_) (fun e1 => ?_)
  · replace h := h.1 e1
    refine Y_il3 i_109_34 ?_
    refine Y_iconst (v := 1) i_109_35 (by decide) ?_
    refine Y_iadd i_109_36 ?_
    refine Y_is4 i_109_37 rfl ?_
    exact h
  · replace h := h.2 e1
    refine Y_il1 i_109_109 ?_
    exact Y_iret i_109_110 rt_109 h
theorem t_109_39 {d : Nat} {F A : Nat → Nat → Int32} {J : Nat → Nat → Int64} {G : pG} {Q : pR → pM → Prop} {SL p q : Nat} {x1 x2 x3 x4 : Int32} {v5 : Value} (hG : Geo G SL p q) (h : ((x4 < (F 27 1) → inB x3 10 = true ∧ inB x4 10 = true ∧ (X (d + 4) 89 0 [.ref 53, .null, .null] [] (F, (wF (wF A 54 x3.toNatClampNeg (A 54 x4.toNatClampNeg)) 54 x4.toNatClampNeg (A 54 x3.toNatClampNeg)), J, G) (KK (d + 5) 109 68 [.ref 49, .int x1, .int x2, .int x3, .int x4, v5] [] Q))) ∧ (¬ x4 < (F 27 1) → X (d + 5) 109 23 [.ref 49, .int x1, .int x2, .int (x3 + 1), .int x4, v5] [] (F, A, J, G) Q))) : X (d + 5) 109 39 [.ref 49, .int x1, .int x2, .int x3, .int x4, v5] [] (F, A, J, G) Q := by
  refine Y_il4 i_109_39 ?_
  refine Y_al0 i_109_41 ?_
  refine Y_gR i_109_42 ow_109 lf_8_25 (k_49 hG) (r_49_1 hG) ?_
  refine Y_gI (v := (F 27 1)) i_109_45 ow_109 lf_8_74 (by decide) (k_27 hG) rfl ?_
  refine Y_cge i_109_48 (fun e1 => ?_) (fun e1 => ?_)
  · replace h := h.1 e1
    refine Y_al0 i_109_51 ?_
    refine Y_gR i_109_52 ow_109 lf_8_34 (k_49 hG) (r_49_2 hG) ?_
    refine Y_il3 i_109_55 ?_
    refine Y_il4 i_109_56 ?_
    refine Y_iv2 (L0 := [.ref 53, .int x3, .int x4, .null]) i_109_58 ow_109 lm_8_84 ((k_53 hG).trans ow_81.symm) rfl mx_81 rfl rfl hd_109 ?_
    refine Y_al0 i_81_0 ?_
    refine Y_gR i_81_1 ow_81 lf_6_9 (k_53 hG) (r_53_4 hG) ?_
    refine Y_il1 i_81_4 ?_
    have o2 := h.1
    replace h := h.2
    refine Y_iaload (k := x3.toNatClampNeg) (v := (A 54 x3.toNatClampNeg)) i_81_5 (k_54 hG) (l_54 hG) o2 rfl rfl ?_
    refine Y_is3 i_81_6 rfl ?_
    refine Y_al0 i_81_7 ?_
    refine Y_gR i_81_8 ow_81 lf_6_9 (k_53 hG) (r_53_4 hG) ?_
    refine Y_il1 i_81_11 ?_
    refine Y_al0 i_81_12 ?_
    refine Y_gR i_81_13 ow_81 lf_6_9 (k_53 hG) (r_53_4 hG) ?_
    refine Y_il2 i_81_16 ?_
    have o3 := h.1
    replace h := h.2
    refine Y_iaload (k := x4.toNatClampNeg) (v := (A 54 x4.toNatClampNeg)) i_81_17 (k_54 hG) (l_54 hG) o3 rfl rfl ?_
    refine Y_iast i_81_18 (k_54 hG) (l_54 hG) o2 rfl ?_
    refine Y_al0 i_81_19 ?_
    refine Y_gR i_81_20 ow_81 lf_6_9 (k_53 hG) (r_53_4 hG) ?_
    refine Y_il2 i_81_23 ?_
    refine Y_il3 i_81_24 ?_
    refine Y_iast i_81_25 (k_54 hG) (l_54 hG) o3 rfl ?_
    refine Y_vret i_81_26 rt_81 (KKv ?_)
    refine Y_al0 i_109_61 ?_
    refine Y_gR i_109_62 ow_109 lf_8_34 (k_49 hG) (r_49_2 hG) ?_
    exact Y_iv0 (L0 := [.ref 53, .null, .null]) i_109_65 ow_109 lm_8_49 ((k_53 hG).trans ow_89.symm) rfl mx_89 rfl rfl hd_109 h
  · replace h := h.2 e1
    refine Y_ii3 (v := 1) i_109_103 (by decide) rfl ?_
    refine Y_goto i_109_106 ?_
    exact h
theorem k_109_68 {d : Nat} {F A : Nat → Nat → Int32} {J : Nat → Nat → Int64} {G : pG} {Q : pR → pM → Prop} {SL p q : Nat} {x1 x2 x3 x4 r : Int32} {v5 : Value} (hG : Geo G SL p q) (h : inB x3 10 = true ∧ inB x4 10 = true ∧ ((x2 < r → X (d + 5) 109 39 [.ref 49, .int (((10 : Int32) * x3) + x4), .int r, .int x3, .int (x4 + 1), .int r] [] (F, (wF (wF A 54 x3.toNatClampNeg (A 54 x4.toNatClampNeg)) 54 x4.toNatClampNeg (A 54 x3.toNatClampNeg)), J, G) Q) ∧ (¬ x2 < r → X (d + 5) 109 39 [.ref 49, .int x1, .int x2, .int x3, .int (x4 + 1), .int r] [] (F, (wF (wF A 54 x3.toNatClampNeg (A 54 x4.toNatClampNeg)) 54 x4.toNatClampNeg (A 54 x3.toNatClampNeg)), J, G) Q))) : KK (d + 5) 109 68 [.ref 49, .int x1, .int x2, .int x3, .int x4, v5] [] Q (.inl (some (.int r))) (F, A, J, G) := by
  refine KKi ?_
  refine Y_is5 i_109_68 rfl ?_
  refine Y_al0 i_109_70 ?_
  refine Y_gR i_109_71 ow_109 lf_8_34 (k_49 hG) (r_49_2 hG) ?_
  refine Y_il3 i_109_74 ?_
  refine Y_il4 i_109_75 ?_
  refine Y_iv2 (L0 := [.ref 53, .int x3, .int x4, .null]) i_109_77 ow_109 lm_8_84 ((k_53 hG).trans ow_81.symm) rfl mx_81 rfl rfl hd_109 ?_
  refine Y_al0 i_81_0 ?_
  refine Y_gR i_81_1 ow_81 lf_6_9 (k_53 hG) (r_53_4 hG) ?_
  refine Y_il1 i_81_4 ?_
  have o1 := h.1
  replace h := h.2
  refine Y_iaload (k := x3.toNatClampNeg) (v := (A 54 x3.toNatClampNeg)) i_81_5 (k_54 hG) (l_54 hG) o1 rfl rfl ?_
  refine Y_is3 i_81_6 rfl ?_
  refine Y_al0 i_81_7 ?_
  refine Y_gR i_81_8 ow_81 lf_6_9 (k_53 hG) (r_53_4 hG) ?_
  refine Y_il1 i_81_11 ?_
  refine Y_al0 i_81_12 ?_
  refine Y_gR i_81_13 ow_81 lf_6_9 (k_53 hG) (r_53_4 hG) ?_
  refine Y_il2 i_81_16 ?_
  have o2 := h.1
  replace h := h.2
  refine Y_iaload (k := x4.toNatClampNeg) (v := (A 54 x4.toNatClampNeg)) i_81_17 (k_54 hG) (l_54 hG) o2 rfl rfl ?_
  refine Y_iast i_81_18 (k_54 hG) (l_54 hG) o1 rfl ?_
  refine Y_al0 i_81_19 ?_
  refine Y_gR i_81_20 ow_81 lf_6_9 (k_53 hG) (r_53_4 hG) ?_
  refine Y_il2 i_81_23 ?_
  refine Y_il3 i_81_24 ?_
  refine Y_iast i_81_25 (k_54 hG) (l_54 hG) o2 rfl ?_
  refine Y_vret i_81_26 rt_81 (KKv ?_)
  refine Y_il5 i_109_80 ?_
  refine Y_il2 i_109_82 ?_
  refine Y_cle i_109_83 (fun e3 => ?_) (fun e3 => ?_)
  · replace h := h.1 e3
    refine Y_bipush (v := 10) i_109_86 (by decide) ?_
    refine Y_il3 i_109_88 ?_
    refine Y_imul i_109_89 ?_
    refine Y_il4 i_109_90 ?_
    refine Y_iadd i_109_92 ?_
    refine Y_is1 i_109_93 rfl ?_
    refine Y_il5 i_109_94 ?_
    refine Y_is2 i_109_96 rfl ?_
    refine Y_ii4 (v := 1) i_109_97 (by decide) rfl ?_
    refine Y_goto i_109_100 ?_
    exact h
  · replace h := h.2 e3
    refine Y_ii4 (v := 1) i_109_97 (by decide) rfl ?_
    refine Y_goto i_109_100 ?_
    exact h
/- 110 Trials.breaksFed(II)I -/
theorem t_110_0 {d : Nat} {F A : Nat → Nat → Int32} {J : Nat → Nat → Int64} {G : pG} {Q : pR → pM → Prop} {SL p q : Nat} {x1 x2 : Int32} (hG : Geo G SL p q) (h : inB x1 10 = true ∧ (X (d + 3) 87 0 [.ref 53, .null] [] ((bF F 53 27), (wF (bA A 53 27) 55 x1.toNatClampNeg (((bA A 53 27) 55 x1.toNatClampNeg) + x2)), J, G) (KK (d + 4) 110 31 [.ref 49, .int x1, .int x2] [] Q))) : X (d + 4) 110 0 [.ref 49, .int x1, .int x2] [] (F, A, J, G) Q := by
  refine Y_al0 i_110_0 ?_
  refine Y_gR i_110_1 ow_110 lf_8_34 (k_49 hG) (r_49_2 hG) ?_
  refine Y_al0 i_110_4 ?_
  refine Y_gR i_110_5 ow_110 lf_8_25 (k_49 hG) (r_49_1 hG) ?_
  refine Y_iv1 (L0 := [.ref 53, .ref 27]) i_110_8 ow_110 lm_8_37 ((k_53 hG).trans ow_76.symm) rfl mx_76 rfl rfl hd_110 ?_
  refine c_76_53_27 hG tw_53 (KKv ?_)
  refine Y_al0 i_110_11 ?_
  refine Y_gR i_110_12 ow_110 lf_8_34 (k_49 hG) (r_49_2 hG) ?_
  refine Y_gR i_110_15 ow_110 lf_8_88 (k_53 hG) (r_53_5 hG) ?_
  refine Y_il1 i_110_18 ?_
  refine Y_dup2 i_110_19 rfl rfl ?_
  have o1 := h.1
  replace h := h.2
  refine Y_iaload (k := x1.toNatClampNeg) (v := ((bA A 53 27) 55 x1.toNatClampNeg)) i_110_20 (k_55 hG) (l_55 hG) o1 rfl rfl ?_
  refine Y_il2 i_110_21 ?_
  refine Y_iadd i_110_22 ?_
  refine Y_iast i_110_23 (k_55 hG) (l_55 hG) o1 rfl ?_
  refine Y_al0 i_110_24 ?_
  refine Y_gR i_110_25 ow_110 lf_8_34 (k_49 hG) (r_49_2 hG) ?_
  exact Y_iv0 (L0 := [.ref 53, .null]) i_110_28 ow_110 lm_8_91 ((k_53 hG).trans ow_87.symm) rfl mx_87 rfl rfl hd_110 h
theorem k_110_31 {d : Nat} {F A : Nat → Nat → Int32} {J : Nat → Nat → Int64} {G : pG} {Q : pR → pM → Prop} {SL p q : Nat} {x1 x2 r : Int32} (hG : Geo G SL p q) (h : Q (.inl (some (.int r))) (F, A, J, G)) : KK (d + 4) 110 31 [.ref 49, .int x1, .int x2] [] Q (.inl (some (.int r))) (F, A, J, G) := by
  refine KKi ?_
  exact Y_iret i_110_31 rt_110 h
/- 111 Trials.breaksIn(I)I -/
theorem t_111_0 {d : Nat} {F A : Nat → Nat → Int32} {J : Nat → Nat → Int64} {G : pG} {Q : pR → pM → Prop} {SL p q : Nat} {x1 : Int32} (hG : Geo G SL p q) (h : X (d + 3) 87 0 [.ref 53, .null] [] ((wF (bF F 53 27) 53 2 (((bF F 53 27) 53 2) + x1)), (bA A 53 27), J, G) (KK (d + 4) 111 31 [.ref 49, .int x1] [] Q)) : X (d + 4) 111 0 [.ref 49, .int x1] [] (F, A, J, G) Q := by
  refine Y_al0 i_111_0 ?_
  refine Y_gR i_111_1 ow_111 lf_8_34 (k_49 hG) (r_49_2 hG) ?_
  refine Y_al0 i_111_4 ?_
  refine Y_gR i_111_5 ow_111 lf_8_25 (k_49 hG) (r_49_1 hG) ?_
  refine Y_iv1 (L0 := [.ref 53, .ref 27]) i_111_8 ow_111 lm_8_37 ((k_53 hG).trans ow_76.symm) rfl mx_76 rfl rfl hd_111 ?_
  refine c_76_53_27 hG tw_53 (KKv ?_)
  refine Y_al0 i_111_11 ?_
  refine Y_gR i_111_12 ow_111 lf_8_34 (k_49 hG) (r_49_2 hG) ?_
  refine Y_dup i_111_15 rfl ?_
  refine Y_gI (v := ((bF F 53 27) 53 2)) i_111_16 ow_111 lf_8_94 (by decide) (k_53 hG) rfl ?_
  refine Y_il1 i_111_19 ?_
  refine Y_iadd i_111_20 ?_
  refine Y_pI i_111_21 ow_111 lf_8_94 (k_53 hG) ?_
  refine Y_al0 i_111_24 ?_
  refine Y_gR i_111_25 ow_111 lf_8_34 (k_49 hG) (r_49_2 hG) ?_
  exact Y_iv0 (L0 := [.ref 53, .null]) i_111_28 ow_111 lm_8_91 ((k_53 hG).trans ow_87.symm) rfl mx_87 rfl rfl hd_111 h
theorem k_111_31 {d : Nat} {F A : Nat → Nat → Int32} {J : Nat → Nat → Int64} {G : pG} {Q : pR → pM → Prop} {SL p q : Nat} {x1 r : Int32} (hG : Geo G SL p q) (h : Q (.inl (some (.int r))) (F, A, J, G)) : KK (d + 4) 111 31 [.ref 49, .int x1] [] Q (.inl (some (.int r))) (F, A, J, G) := by
  refine KKi ?_
  exact Y_iret i_111_31 rt_111 h
/- 112 Trials.fallsIn()I -/
theorem t_112_0 {d : Nat} {F A : Nat → Nat → Int32} {J : Nat → Nat → Int64} {G : pG} {Q : pR → pM → Prop} {SL p q : Nat} (hG : Geo G SL p q) (h : X (d + 5) 112 2 [.ref 49, .int 0] [] (F, A, J, G) Q) : X (d + 5) 112 0 [.ref 49, .null] [] (F, A, J, G) Q := by
  refine Y_iconst (v := 0) i_112_0 (by decide) ?_
  refine Y_is1 i_112_1 rfl ?_
  exact h
theorem t_112_2 {d : Nat} {F A : Nat → Nat → Int32} {J : Nat → Nat → Int64} {G : pG} {Q : pR → pM → Prop} {SL p q : Nat} {x1 : Int32} (hG : Geo G SL p q) (h : ((99 < x1 → Q (.inl (some (.int (-1)))) (F, A, J, G)) ∧ (¬ 99 < x1 → X (d + 4) 111 0 [.ref 49, .int x1] [] (F, A, J, G) (KK (d + 5) 112 13 [.ref 49, .int x1] [] Q)))) : X (d + 5) 112 2 [.ref 49, .int x1] [] (F, A, J, G) Q := by
  refine Y_il1 i_112_2 ?_
  refine Y_bipush (v := 99) i_112_3 (by decide) ?_
  refine Y_cgt i_112_5 (fun e1 => ?_) (fun e1 => ?_)
  · replace h := h.1 e1
    refine Y_iconst (v := (-1)) i_112_25 (by decide) ?_
    exact Y_iret i_112_26 rt_112 h
  · replace h := h.2 e1
    refine Y_al0 i_112_8 ?_
    refine Y_il1 i_112_9 ?_
    exact Y_iv1 (L0 := [.ref 49, .int x1]) i_112_10 ow_112 lm_8_97 ((k_49 hG).trans ow_111.symm) rfl mx_111 rfl rfl hd_112 h
theorem k_112_13 {d : Nat} {F A : Nat → Nat → Int32} {J : Nat → Nat → Int64} {G : pG} {Q : pR → pM → Prop} {SL p q : Nat} {x1 r : Int32} (hG : Geo G SL p q) (h : ((r = (-1) → X (d + 5) 112 2 [.ref 49, .int (x1 + 1)] [] (F, A, J, G) Q) ∧ (¬ r = (-1) → Q (.inl (some (.int x1))) (F, A, J, G)))) : KK (d + 5) 112 13 [.ref 49, .int x1] [] Q (.inl (some (.int r))) (F, A, J, G) := by
  refine KKi ?_
  refine Y_iconst (v := (-1)) i_112_13 (by decide) ?_
  refine Y_ceq i_112_14 (fun e1 => ?_) (fun e1 => ?_)
  · replace h := h.1 e1
    refine Y_ii1 (v := 1) i_112_19 (by decide) rfl ?_
    refine Y_goto i_112_22 ?_
    exact h
  · replace h := h.2 e1
    refine Y_il1 i_112_17 ?_
    exact Y_iret i_112_18 rt_112 h
/- 113 Trials.topMeal(I)I -/
theorem t_113_0 {d : Nat} {F A : Nat → Nat → Int32} {J : Nat → Nat → Int64} {G : pG} {Q : pR → pM → Prop} {SL p q : Nat} {x1 : Int32} (hG : Geo G SL p q) (h : (((F 27 1) = 0 → Q (.inl (some (.int (-1)))) (F, A, J, G)) ∧ (¬ (F 27 1) = 0 → X (d + 3) 90 0 [.ref 53, .int x1, .null, .null, .null] [] ((bF F 53 27), (bA A 53 27), J, G) (KK (d + 4) 113 31 [.ref 49, .int x1] [] Q)))) : X (d + 4) 113 0 [.ref 49, .int x1] [] (F, A, J, G) Q := by
  refine Y_al0 i_113_0 ?_
  refine Y_gR i_113_1 ow_113 lf_8_25 (k_49 hG) (r_49_1 hG) ?_
  refine Y_gI (v := (F 27 1)) i_113_4 ow_113 lf_8_74 (by decide) (k_27 hG) rfl ?_
  refine Y_zne i_113_7 (fun e1 => ?_) (fun e1 => ?_)
  · replace h := h.1 e1
    refine Y_iconst (v := (-1)) i_113_10 (by decide) ?_
    exact Y_iret i_113_11 rt_113 h
  · replace h := h.2 e1
    refine Y_al0 i_113_12 ?_
    refine Y_gR i_113_13 ow_113 lf_8_34 (k_49 hG) (r_49_2 hG) ?_
    refine Y_al0 i_113_16 ?_
    refine Y_gR i_113_17 ow_113 lf_8_25 (k_49 hG) (r_49_1 hG) ?_
    refine Y_iv1 (L0 := [.ref 53, .ref 27]) i_113_20 ow_113 lm_8_37 ((k_53 hG).trans ow_76.symm) rfl mx_76 rfl rfl hd_113 ?_
    refine c_76_53_27 hG tw_53 (KKv ?_)
    refine Y_al0 i_113_23 ?_
    refine Y_gR i_113_24 ow_113 lf_8_34 (k_49 hG) (r_49_2 hG) ?_
    refine Y_il1 i_113_27 ?_
    exact Y_iv1 (L0 := [.ref 53, .int x1, .null, .null, .null]) i_113_28 ow_113 lm_8_100 ((k_53 hG).trans ow_90.symm) rfl mx_90 rfl rfl hd_113 h
theorem k_113_31 {d : Nat} {F A : Nat → Nat → Int32} {J : Nat → Nat → Int64} {G : pG} {Q : pR → pM → Prop} {SL p q : Nat} {x1 r : Int32} (hG : Geo G SL p q) (h : inB ((F 53 1) - 1) 10 = true ∧ inB (A 54 ((F 53 1) - 1).toNatClampNeg) 10 = true ∧ (Q (.inl (some (.int (A 55 (A 54 ((F 53 1) - 1).toNatClampNeg).toNatClampNeg)))) (F, A, J, G))) : KK (d + 4) 113 31 [.ref 49, .int x1] [] Q (.inl (some (.int r))) (F, A, J, G) := by
  refine KKi ?_
  refine Y_pop i_113_31 rfl ?_
  refine Y_al0 i_113_32 ?_
  refine Y_gR i_113_33 ow_113 lf_8_34 (k_49 hG) (r_49_2 hG) ?_
  refine Y_gR i_113_36 ow_113 lf_8_88 (k_53 hG) (r_53_5 hG) ?_
  refine Y_al0 i_113_39 ?_
  refine Y_gR i_113_40 ow_113 lf_8_34 (k_49 hG) (r_49_2 hG) ?_
  refine Y_gR i_113_43 ow_113 lf_8_77 (k_53 hG) (r_53_4 hG) ?_
  refine Y_al0 i_113_46 ?_
  refine Y_gR i_113_47 ow_113 lf_8_34 (k_49 hG) (r_49_2 hG) ?_
  refine Y_gI (v := (F 53 1)) i_113_50 ow_113 lf_8_74 (by decide) (k_53 hG) rfl ?_
  refine Y_iconst (v := 1) i_113_53 (by decide) ?_
  refine Y_isub i_113_54 ?_
  have o1 := h.1
  replace h := h.2
  refine Y_iaload (k := ((F 53 1) - 1).toNatClampNeg) (v := (A 54 ((F 53 1) - 1).toNatClampNeg)) i_113_55 (k_54 hG) (l_54 hG) o1 rfl rfl ?_
  have o2 := h.1
  replace h := h.2
  refine Y_iaload (k := (A 54 ((F 53 1) - 1).toNatClampNeg).toNatClampNeg) (v := (A 55 (A 54 ((F 53 1) - 1).toNatClampNeg).toNatClampNeg)) i_113_56 (k_55 hG) (l_55 hG) o2 rfl rfl ?_
  exact Y_iret i_113_57 rt_113 h
end Tr14c
