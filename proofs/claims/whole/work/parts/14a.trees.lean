section Tr14a
/- 1 Acts.become(LTableTower$Acts;)V -/
theorem t_1a_0 {d : Nat} {F A : Nat → Nat → Int32} {J : Nat → Nat → Int64} {G : pG} {Q : pR → pM → Prop} {SL p q : Nat} (hG : Geo G SL p q) (h : (¬ (0 : Int32) < 0 ∧ ¬ (0 : Int32) < 0 ∧ ¬ ((F 22 0) * 14) < 0 ∧ (0 : Int32).toNatClampNeg + ((F 22 0) * 14).toNatClampNeg ≤ 560 ∧ (0 : Int32).toNatClampNeg + ((F 22 0) * 14).toNatClampNeg ≤ 560) ∧ (Q (.inl none) ((wF F 36 0 (F 22 0)), (cpR A 37 23 0 0 ((F 22 0) * 14).toNatClampNeg), J, G))) : X d 1 0 [.ref 36, .ref 22] [] (F, A, J, G) Q := by
  refine Y_al0 i_1_0 ?_
  refine Y_al1 i_1_1 ?_
  refine Y_gI (v := (F 22 0)) i_1_2 ow_1 lf_0_15 (by decide) (k_22 hG) rfl ?_
  refine Y_pI i_1_5 ow_1 lf_0_15 (k_36 hG) ?_
  refine Y_al1 i_1_8 ?_
  refine Y_gR i_1_9 ow_1 lf_0_11 (k_22 hG) (r_22_1 hG) ?_
  refine Y_iconst (v := 0) i_1_12 (by decide) ?_
  refine Y_al0 i_1_13 ?_
  refine Y_gR i_1_14 ow_1 lf_0_11 (k_36 hG) (r_36_1 hG) ?_
  refine Y_iconst (v := 0) i_1_17 (by decide) ?_
  refine Y_al0 i_1_18 ?_
  refine Y_gI (v := (F 22 0)) i_1_19 ow_1 lf_0_15 (by decide) (k_36 hG) (by simp [wF, wJ, va_up, cpR, bF, bA]) ?_
  refine Y_bipush (v := 14) i_1_22 (by decide) ?_
  refine Y_imul i_1_24 ?_
  have o1 := h.1
  replace h := h.2
  refine Y_acp (ksp := 0) (kdp := 0) (kn := ((F 22 0) * 14).toNatClampNeg) i_1_25 ow_1 lm_0_19 rfl (k_37 hG) (k_23 hG) (l_37 hG) (l_23 hG) o1 (by decide) (by decide) rfl ?_
  exact Y_vret i_1_28 rt_1 h
/- 1 Acts.become(LTableTower$Acts;)V -/
theorem t_1b_0 {d : Nat} {F A : Nat → Nat → Int32} {J : Nat → Nat → Int64} {G : pG} {Q : pR → pM → Prop} {SL p q : Nat} (hG : Geo G SL p q) (h : (¬ (0 : Int32) < 0 ∧ ¬ (0 : Int32) < 0 ∧ ¬ ((F 36 0) * 14) < 0 ∧ (0 : Int32).toNatClampNeg + ((F 36 0) * 14).toNatClampNeg ≤ 560 ∧ (0 : Int32).toNatClampNeg + ((F 36 0) * 14).toNatClampNeg ≤ 560) ∧ (Q (.inl none) ((wF F 22 0 (F 36 0)), (cpR A 23 37 0 0 ((F 36 0) * 14).toNatClampNeg), J, G))) : X d 1 0 [.ref 22, .ref 36] [] (F, A, J, G) Q := by
  refine Y_al0 i_1_0 ?_
  refine Y_al1 i_1_1 ?_
  refine Y_gI (v := (F 36 0)) i_1_2 ow_1 lf_0_15 (by decide) (k_36 hG) rfl ?_
  refine Y_pI i_1_5 ow_1 lf_0_15 (k_22 hG) ?_
  refine Y_al1 i_1_8 ?_
  refine Y_gR i_1_9 ow_1 lf_0_11 (k_36 hG) (r_36_1 hG) ?_
  refine Y_iconst (v := 0) i_1_12 (by decide) ?_
  refine Y_al0 i_1_13 ?_
  refine Y_gR i_1_14 ow_1 lf_0_11 (k_22 hG) (r_22_1 hG) ?_
  refine Y_iconst (v := 0) i_1_17 (by decide) ?_
  refine Y_al0 i_1_18 ?_
  refine Y_gI (v := (F 36 0)) i_1_19 ow_1 lf_0_15 (by decide) (k_22 hG) (by simp [wF, wJ, va_up, cpR, bF, bA]) ?_
  refine Y_bipush (v := 14) i_1_22 (by decide) ?_
  refine Y_imul i_1_24 ?_
  have o1 := h.1
  replace h := h.2
  refine Y_acp (ksp := 0) (kdp := 0) (kn := ((F 36 0) * 14).toNatClampNeg) i_1_25 ow_1 lm_0_19 rfl (k_23 hG) (k_37 hG) (l_23 hG) (l_37 hG) o1 (by decide) (by decide) rfl ?_
  exact Y_vret i_1_28 rt_1 h
/- 2 Acts.keep(IIII)V -/
theorem t_2_0 {d : Nat} {F A : Nat → Nat → Int32} {J : Nat → Nat → Int64} {G : pG} {Q : pR → pM → Prop} {SL p q : Nat} {x1 x2 x3 x4 : Int32} (hG : Geo G SL p q) (h : (((F 22 0) < 40 → inB ((F 22 0) * 14) 560 = true ∧ inB (((F 22 0) * 14) + 1) 560 = true ∧ inB (((F 22 0) * 14) + 2) 560 = true ∧ inB (((F 22 0) * 14) + 3) 560 = true ∧ (Q (.inl none) ((wF F 22 0 ((F 22 0) + 1)), (wF (wF (wF (wF A 23 ((F 22 0) * 14).toNatClampNeg x1) 23 (((F 22 0) * 14) + 1).toNatClampNeg x2) 23 (((F 22 0) * 14) + 2).toNatClampNeg x3) 23 (((F 22 0) * 14) + 3).toNatClampNeg x4), J, G))) ∧ (¬ (F 22 0) < 40 → (¬ (14 : Int32) < 0 ∧ ¬ (0 : Int32) < 0 ∧ ¬ ((39 : Int32) * 14) < 0 ∧ (14 : Int32).toNatClampNeg + ((39 : Int32) * 14).toNatClampNeg ≤ 560 ∧ (0 : Int32).toNatClampNeg + ((39 : Int32) * 14).toNatClampNeg ≤ 560) ∧ inB ((39 : Int32) * 14) 560 = true ∧ inB (((39 : Int32) * 14) + 1) 560 = true ∧ inB (((39 : Int32) * 14) + 2) 560 = true ∧ inB (((39 : Int32) * 14) + 3) 560 = true ∧ (Q (.inl none) ((wF (wF F 22 0 39) 22 0 ((39 : Int32) + 1)), (wF (wF (wF (wF (cpR A 23 23 14 0 ((39 : Int32) * 14).toNatClampNeg) 23 ((39 : Int32) * 14).toNatClampNeg x1) 23 (((39 : Int32) * 14) + 1).toNatClampNeg x2) 23 (((39 : Int32) * 14) + 2).toNatClampNeg x3) 23 (((39 : Int32) * 14) + 3).toNatClampNeg x4), J, G))))) : X d 2 0 [.ref 22, .int x1, .int x2, .int x3, .int x4, .null] [] (F, A, J, G) Q := by
  refine Y_al0 i_2_0 ?_
  refine Y_gI (v := (F 22 0)) i_2_1 ow_2 lf_0_15 (by decide) (k_22 hG) rfl ?_
  refine Y_bipush (v := 40) i_2_4 (by decide) ?_
  refine Y_clt i_2_6 (fun e1 => ?_) (fun e1 => ?_)
  · replace h := h.1 e1
    refine Y_al0 i_2_36 ?_
    refine Y_gI (v := (F 22 0)) i_2_37 ow_2 lf_0_15 (by decide) (k_22 hG) rfl ?_
    refine Y_bipush (v := 14) i_2_40 (by decide) ?_
    refine Y_imul i_2_42 ?_
    refine Y_is5 i_2_43 rfl ?_
    refine Y_al0 i_2_45 ?_
    refine Y_gR i_2_46 ow_2 lf_0_11 (k_22 hG) (r_22_1 hG) ?_
    refine Y_il5 i_2_49 ?_
    refine Y_il1 i_2_51 ?_
    have o2 := h.1
    replace h := h.2
    refine Y_iast i_2_52 (k_23 hG) (l_23 hG) o2 rfl ?_
    refine Y_al0 i_2_53 ?_
    refine Y_gR i_2_54 ow_2 lf_0_11 (k_22 hG) (r_22_1 hG) ?_
    refine Y_il5 i_2_57 ?_
    refine Y_iconst (v := 1) i_2_59 (by decide) ?_
    refine Y_iadd i_2_60 ?_
    refine Y_il2 i_2_61 ?_
    have o3 := h.1
    replace h := h.2
    refine Y_iast i_2_62 (k_23 hG) (l_23 hG) o3 rfl ?_
    refine Y_al0 i_2_63 ?_
    refine Y_gR i_2_64 ow_2 lf_0_11 (k_22 hG) (r_22_1 hG) ?_
    refine Y_il5 i_2_67 ?_
    refine Y_iconst (v := 2) i_2_69 (by decide) ?_
    refine Y_iadd i_2_70 ?_
    refine Y_il3 i_2_71 ?_
    have o4 := h.1
    replace h := h.2
    refine Y_iast i_2_72 (k_23 hG) (l_23 hG) o4 rfl ?_
    refine Y_al0 i_2_73 ?_
    refine Y_gR i_2_74 ow_2 lf_0_11 (k_22 hG) (r_22_1 hG) ?_
    refine Y_il5 i_2_77 ?_
    refine Y_iconst (v := 3) i_2_79 (by decide) ?_
    refine Y_iadd i_2_80 ?_
    refine Y_il4 i_2_81 ?_
    have o5 := h.1
    replace h := h.2
    refine Y_iast i_2_83 (k_23 hG) (l_23 hG) o5 rfl ?_
    refine Y_al0 i_2_84 ?_
    refine Y_dup i_2_85 rfl ?_
    refine Y_gI (v := (F 22 0)) i_2_86 ow_2 lf_0_15 (by decide) (k_22 hG) rfl ?_
    refine Y_iconst (v := 1) i_2_89 (by decide) ?_
    refine Y_iadd i_2_90 ?_
    refine Y_pI i_2_91 ow_2 lf_0_15 (k_22 hG) ?_
    exact Y_vret i_2_94 rt_2 h
  · replace h := h.2 e1
    refine Y_al0 i_2_9 ?_
    refine Y_bipush (v := 39) i_2_10 (by decide) ?_
    refine Y_pI i_2_12 ow_2 lf_0_15 (k_22 hG) ?_
    refine Y_al0 i_2_15 ?_
    refine Y_gR i_2_16 ow_2 lf_0_11 (k_22 hG) (r_22_1 hG) ?_
    refine Y_bipush (v := 14) i_2_19 (by decide) ?_
    refine Y_al0 i_2_21 ?_
    refine Y_gR i_2_22 ow_2 lf_0_11 (k_22 hG) (r_22_1 hG) ?_
    refine Y_iconst (v := 0) i_2_25 (by decide) ?_
    refine Y_al0 i_2_26 ?_
    refine Y_gI (v := 39) i_2_27 ow_2 lf_0_15 (by decide) (k_22 hG) (by simp [wF, wJ, va_up, cpR, bF, bA]) ?_
    refine Y_bipush (v := 14) i_2_30 (by decide) ?_
    refine Y_imul i_2_32 ?_
    have o6 := h.1
    replace h := h.2
    refine Y_acp (ksp := 14) (kdp := 0) (kn := ((39 : Int32) * 14).toNatClampNeg) i_2_33 ow_2 lm_0_19 rfl (k_23 hG) (k_23 hG) (l_23 hG) (l_23 hG) o6 (by decide) (by decide) rfl ?_
    refine Y_al0 i_2_36 ?_
    refine Y_gI (v := 39) i_2_37 ow_2 lf_0_15 (by decide) (k_22 hG) (by simp [wF, wJ, va_up, cpR, bF, bA]) ?_
    refine Y_bipush (v := 14) i_2_40 (by decide) ?_
    refine Y_imul i_2_42 ?_
    refine Y_is5 i_2_43 rfl ?_
    refine Y_al0 i_2_45 ?_
    refine Y_gR i_2_46 ow_2 lf_0_11 (k_22 hG) (r_22_1 hG) ?_
    refine Y_il5 i_2_49 ?_
    refine Y_il1 i_2_51 ?_
    have o7 := h.1
    replace h := h.2
    refine Y_iast i_2_52 (k_23 hG) (l_23 hG) o7 rfl ?_
    refine Y_al0 i_2_53 ?_
    refine Y_gR i_2_54 ow_2 lf_0_11 (k_22 hG) (r_22_1 hG) ?_
    refine Y_il5 i_2_57 ?_
    refine Y_iconst (v := 1) i_2_59 (by decide) ?_
    refine Y_iadd i_2_60 ?_
    refine Y_il2 i_2_61 ?_
    have o8 := h.1
    replace h := h.2
    refine Y_iast i_2_62 (k_23 hG) (l_23 hG) o8 rfl ?_
    refine Y_al0 i_2_63 ?_
    refine Y_gR i_2_64 ow_2 lf_0_11 (k_22 hG) (r_22_1 hG) ?_
    refine Y_il5 i_2_67 ?_
    refine Y_iconst (v := 2) i_2_69 (by decide) ?_
    refine Y_iadd i_2_70 ?_
    refine Y_il3 i_2_71 ?_
    have o9 := h.1
    replace h := h.2
    refine Y_iast i_2_72 (k_23 hG) (l_23 hG) o9 rfl ?_
    refine Y_al0 i_2_73 ?_
    refine Y_gR i_2_74 ow_2 lf_0_11 (k_22 hG) (r_22_1 hG) ?_
    refine Y_il5 i_2_77 ?_
    refine Y_iconst (v := 3) i_2_79 (by decide) ?_
    refine Y_iadd i_2_80 ?_
    refine Y_il4 i_2_81 ?_
    have o10 := h.1
    replace h := h.2
    refine Y_iast i_2_83 (k_23 hG) (l_23 hG) o10 rfl ?_
    refine Y_al0 i_2_84 ?_
    refine Y_dup i_2_85 rfl ?_
    refine Y_gI (v := 39) i_2_86 ow_2 lf_0_15 (by decide) (k_22 hG) (by simp [wF, wJ, va_up, cpR, bF, bA]) ?_
    refine Y_iconst (v := 1) i_2_89 (by decide) ?_
    refine Y_iadd i_2_90 ?_
    refine Y_pI i_2_91 ow_2 lf_0_15 (k_22 hG) ?_
    exact Y_vret i_2_94 rt_2 h
/- 3 Acts.keepSupper(LTableTower$Tower;)V -/
theorem t_3_0 {d : Nat} {F A : Nat → Nat → Int32} {J : Nat → Nat → Int64} {G : pG} {Q : pR → pM → Prop} {SL p q : Nat} (hG : Geo G SL p q) (h : (((F 22 0) < 40 → inB ((F 22 0) * 14) 560 = true ∧ inB (((F 22 0) * 14) + 1) 560 = true ∧ inB (((F 22 0) * 14) + 2) 560 = true ∧ inB (((F 22 0) * 14) + 3) 560 = true ∧ (¬ (0 : Int32) < 0 ∧ ¬ (((((F 22 0) + 1) - 1) * 14) + 4) < 0 ∧ ¬ (10 : Int32) < 0 ∧ (0 : Int32).toNatClampNeg + (10 : Int32).toNatClampNeg ≤ 10 ∧ (((((F 22 0) + 1) - 1) * 14) + 4).toNatClampNeg + (10 : Int32).toNatClampNeg ≤ 560) ∧ (Q (.inl none) ((wF F 22 0 ((F 22 0) + 1)), (cpR (wF (wF (wF (wF A 23 ((F 22 0) * 14).toNatClampNeg 5) 23 (((F 22 0) * 14) + 1).toNatClampNeg (F 27 3)) 23 (((F 22 0) * 14) + 2).toNatClampNeg 0) 23 (((F 22 0) * 14) + 3).toNatClampNeg 0) 23 29 0 (((((F 22 0) + 1) - 1) * 14) + 4).toNatClampNeg 10), J, G))) ∧ (¬ (F 22 0) < 40 → (¬ (14 : Int32) < 0 ∧ ¬ (0 : Int32) < 0 ∧ ¬ ((39 : Int32) * 14) < 0 ∧ (14 : Int32).toNatClampNeg + ((39 : Int32) * 14).toNatClampNeg ≤ 560 ∧ (0 : Int32).toNatClampNeg + ((39 : Int32) * 14).toNatClampNeg ≤ 560) ∧ inB ((39 : Int32) * 14) 560 = true ∧ inB (((39 : Int32) * 14) + 1) 560 = true ∧ inB (((39 : Int32) * 14) + 2) 560 = true ∧ inB (((39 : Int32) * 14) + 3) 560 = true ∧ (¬ (0 : Int32) < 0 ∧ ¬ (((((39 : Int32) + 1) - 1) * 14) + 4) < 0 ∧ ¬ (10 : Int32) < 0 ∧ (0 : Int32).toNatClampNeg + (10 : Int32).toNatClampNeg ≤ 10 ∧ (((((39 : Int32) + 1) - 1) * 14) + 4).toNatClampNeg + (10 : Int32).toNatClampNeg ≤ 560) ∧ (Q (.inl none) ((wF (wF F 22 0 39) 22 0 ((39 : Int32) + 1)), (cpR (wF (wF (wF (wF (cpR A 23 23 14 0 ((39 : Int32) * 14).toNatClampNeg) 23 ((39 : Int32) * 14).toNatClampNeg 5) 23 (((39 : Int32) * 14) + 1).toNatClampNeg (F 27 3)) 23 (((39 : Int32) * 14) + 2).toNatClampNeg 0) 23 (((39 : Int32) * 14) + 3).toNatClampNeg 0) 23 29 0 (((((39 : Int32) + 1) - 1) * 14) + 4).toNatClampNeg 10), J, G))))) : X (d + 1) 3 0 [.ref 22, .ref 27] [] (F, A, J, G) Q := by
  refine Y_al0 i_3_0 ?_
  refine Y_iconst (v := 5) i_3_1 (by decide) ?_
  refine Y_al1 i_3_2 ?_
  refine Y_gI (v := (F 27 3)) i_3_3 ow_3 lf_0_25 (by decide) (k_27 hG) rfl ?_
  refine Y_iconst (v := 0) i_3_6 (by decide) ?_
  refine Y_iconst (v := 0) i_3_7 (by decide) ?_
  refine Y_iv4 (L0 := [.ref 22, .int 5, .int (F 27 3), .int 0, .int 0, .null]) i_3_8 ow_3 lm_0_30 ((k_22 hG).trans ow_2.symm) rfl mx_2 rfl rfl hd_3 ?_
  refine Y_al0 i_2_0 ?_
  refine Y_gI (v := (F 22 0)) i_2_1 ow_2 lf_0_15 (by decide) (k_22 hG) rfl ?_
  refine Y_bipush (v := 40) i_2_4 (by decide) ?_
  refine Y_clt i_2_6 (fun e1 => ?_) (fun e1 => ?_)
  · replace h := h.1 e1
    refine Y_al0 i_2_36 ?_
    refine Y_gI (v := (F 22 0)) i_2_37 ow_2 lf_0_15 (by decide) (k_22 hG) rfl ?_
    refine Y_bipush (v := 14) i_2_40 (by decide) ?_
    refine Y_imul i_2_42 ?_
    refine Y_is5 i_2_43 rfl ?_
    refine Y_al0 i_2_45 ?_
    refine Y_gR i_2_46 ow_2 lf_0_11 (k_22 hG) (r_22_1 hG) ?_
    refine Y_il5 i_2_49 ?_
    refine Y_il1 i_2_51 ?_
    have o2 := h.1
    replace h := h.2
    refine Y_iast i_2_52 (k_23 hG) (l_23 hG) o2 rfl ?_
    refine Y_al0 i_2_53 ?_
    refine Y_gR i_2_54 ow_2 lf_0_11 (k_22 hG) (r_22_1 hG) ?_
    refine Y_il5 i_2_57 ?_
    refine Y_iconst (v := 1) i_2_59 (by decide) ?_
    refine Y_iadd i_2_60 ?_
    refine Y_il2 i_2_61 ?_
    have o3 := h.1
    replace h := h.2
    refine Y_iast i_2_62 (k_23 hG) (l_23 hG) o3 rfl ?_
    refine Y_al0 i_2_63 ?_
    refine Y_gR i_2_64 ow_2 lf_0_11 (k_22 hG) (r_22_1 hG) ?_
    refine Y_il5 i_2_67 ?_
    refine Y_iconst (v := 2) i_2_69 (by decide) ?_
    refine Y_iadd i_2_70 ?_
    refine Y_il3 i_2_71 ?_
    have o4 := h.1
    replace h := h.2
    refine Y_iast i_2_72 (k_23 hG) (l_23 hG) o4 rfl ?_
    refine Y_al0 i_2_73 ?_
    refine Y_gR i_2_74 ow_2 lf_0_11 (k_22 hG) (r_22_1 hG) ?_
    refine Y_il5 i_2_77 ?_
    refine Y_iconst (v := 3) i_2_79 (by decide) ?_
    refine Y_iadd i_2_80 ?_
    refine Y_il4 i_2_81 ?_
    have o5 := h.1
    replace h := h.2
    refine Y_iast i_2_83 (k_23 hG) (l_23 hG) o5 rfl ?_
    refine Y_al0 i_2_84 ?_
    refine Y_dup i_2_85 rfl ?_
    refine Y_gI (v := (F 22 0)) i_2_86 ow_2 lf_0_15 (by decide) (k_22 hG) rfl ?_
    refine Y_iconst (v := 1) i_2_89 (by decide) ?_
    refine Y_iadd i_2_90 ?_
    refine Y_pI i_2_91 ow_2 lf_0_15 (k_22 hG) ?_
    refine Y_vret i_2_94 rt_2 (KKv ?_)
    refine Y_al1 i_3_11 ?_
    refine Y_gR i_3_12 ow_3 lf_0_34 (k_27 hG) (r_27_5 hG) ?_
    refine Y_iconst (v := 0) i_3_15 (by decide) ?_
    refine Y_al0 i_3_16 ?_
    refine Y_gR i_3_17 ow_3 lf_0_11 (k_22 hG) (r_22_1 hG) ?_
    refine Y_al0 i_3_20 ?_
    refine Y_gI (v := ((F 22 0) + 1)) i_3_21 ow_3 lf_0_15 (by decide) (k_22 hG) (by simp [wF, wJ, va_up, cpR, bF, bA]) ?_
    refine Y_iconst (v := 1) i_3_24 (by decide) ?_
    refine Y_isub i_3_25 ?_
    refine Y_bipush (v := 14) i_3_26 (by decide) ?_
    refine Y_imul i_3_28 ?_
    refine Y_iconst (v := 4) i_3_29 (by decide) ?_
    refine Y_iadd i_3_30 ?_
    refine Y_bipush (v := 10) i_3_31 (by decide) ?_
    have o6 := h.1
    replace h := h.2
    refine Y_acp (ksp := 0) (kdp := (((((F 22 0) + 1) - 1) * 14) + 4).toNatClampNeg) (kn := 10) i_3_33 ow_3 lm_0_19 rfl (k_23 hG) (k_29 hG) (l_23 hG) (l_29 hG) o6 (by decide) rfl (by decide) ?_
    exact Y_vret i_3_36 rt_3 h
  · replace h := h.2 e1
    refine Y_al0 i_2_9 ?_
    refine Y_bipush (v := 39) i_2_10 (by decide) ?_
    refine Y_pI i_2_12 ow_2 lf_0_15 (k_22 hG) ?_
    refine Y_al0 i_2_15 ?_
    refine Y_gR i_2_16 ow_2 lf_0_11 (k_22 hG) (r_22_1 hG) ?_
    refine Y_bipush (v := 14) i_2_19 (by decide) ?_
    refine Y_al0 i_2_21 ?_
    refine Y_gR i_2_22 ow_2 lf_0_11 (k_22 hG) (r_22_1 hG) ?_
    refine Y_iconst (v := 0) i_2_25 (by decide) ?_
    refine Y_al0 i_2_26 ?_
    refine Y_gI (v := 39) i_2_27 ow_2 lf_0_15 (by decide) (k_22 hG) (by simp [wF, wJ, va_up, cpR, bF, bA]) ?_
    refine Y_bipush (v := 14) i_2_30 (by decide) ?_
    refine Y_imul i_2_32 ?_
    have o7 := h.1
    replace h := h.2
    refine Y_acp (ksp := 14) (kdp := 0) (kn := ((39 : Int32) * 14).toNatClampNeg) i_2_33 ow_2 lm_0_19 rfl (k_23 hG) (k_23 hG) (l_23 hG) (l_23 hG) o7 (by decide) (by decide) rfl ?_
    refine Y_al0 i_2_36 ?_
    refine Y_gI (v := 39) i_2_37 ow_2 lf_0_15 (by decide) (k_22 hG) (by simp [wF, wJ, va_up, cpR, bF, bA]) ?_
    refine Y_bipush (v := 14) i_2_40 (by decide) ?_
    refine Y_imul i_2_42 ?_
    refine Y_is5 i_2_43 rfl ?_
    refine Y_al0 i_2_45 ?_
    refine Y_gR i_2_46 ow_2 lf_0_11 (k_22 hG) (r_22_1 hG) ?_
    refine Y_il5 i_2_49 ?_
    refine Y_il1 i_2_51 ?_
    have o8 := h.1
    replace h := h.2
    refine Y_iast i_2_52 (k_23 hG) (l_23 hG) o8 rfl ?_
    refine Y_al0 i_2_53 ?_
    refine Y_gR i_2_54 ow_2 lf_0_11 (k_22 hG) (r_22_1 hG) ?_
    refine Y_il5 i_2_57 ?_
    refine Y_iconst (v := 1) i_2_59 (by decide) ?_
    refine Y_iadd i_2_60 ?_
    refine Y_il2 i_2_61 ?_
    have o9 := h.1
    replace h := h.2
    refine Y_iast i_2_62 (k_23 hG) (l_23 hG) o9 rfl ?_
    refine Y_al0 i_2_63 ?_
    refine Y_gR i_2_64 ow_2 lf_0_11 (k_22 hG) (r_22_1 hG) ?_
    refine Y_il5 i_2_67 ?_
    refine Y_iconst (v := 2) i_2_69 (by decide) ?_
    refine Y_iadd i_2_70 ?_
    refine Y_il3 i_2_71 ?_
    have o10 := h.1
    replace h := h.2
    refine Y_iast i_2_72 (k_23 hG) (l_23 hG) o10 rfl ?_
    refine Y_al0 i_2_73 ?_
    refine Y_gR i_2_74 ow_2 lf_0_11 (k_22 hG) (r_22_1 hG) ?_
    refine Y_il5 i_2_77 ?_
    refine Y_iconst (v := 3) i_2_79 (by decide) ?_
    refine Y_iadd i_2_80 ?_
    refine Y_il4 i_2_81 ?_
    have o11 := h.1
    replace h := h.2
    refine Y_iast i_2_83 (k_23 hG) (l_23 hG) o11 rfl ?_
    refine Y_al0 i_2_84 ?_
    refine Y_dup i_2_85 rfl ?_
    refine Y_gI (v := 39) i_2_86 ow_2 lf_0_15 (by decide) (k_22 hG) (by simp [wF, wJ, va_up, cpR, bF, bA]) ?_
    refine Y_iconst (v := 1) i_2_89 (by decide) ?_
    refine Y_iadd i_2_90 ?_
    refine Y_pI i_2_91 ow_2 lf_0_15 (k_22 hG) ?_
    refine Y_vret i_2_94 rt_2 (KKv ?_)
    refine Y_al1 i_3_11 ?_
    refine Y_gR i_3_12 ow_3 lf_0_34 (k_27 hG) (r_27_5 hG) ?_
    refine Y_iconst (v := 0) i_3_15 (by decide) ?_
    refine Y_al0 i_3_16 ?_
    refine Y_gR i_3_17 ow_3 lf_0_11 (k_22 hG) (r_22_1 hG) ?_
    refine Y_al0 i_3_20 ?_
    refine Y_gI (v := ((39 : Int32) + 1)) i_3_21 ow_3 lf_0_15 (by decide) (k_22 hG) (by simp [wF, wJ, va_up, cpR, bF, bA]) ?_
    refine Y_iconst (v := 1) i_3_24 (by decide) ?_
    refine Y_isub i_3_25 ?_
    refine Y_bipush (v := 14) i_3_26 (by decide) ?_
    refine Y_imul i_3_28 ?_
    refine Y_iconst (v := 4) i_3_29 (by decide) ?_
    refine Y_iadd i_3_30 ?_
    refine Y_bipush (v := 10) i_3_31 (by decide) ?_
    have o12 := h.1
    replace h := h.2
    refine Y_acp (ksp := 0) (kdp := (((((39 : Int32) + 1) - 1) * 14) + 4).toNatClampNeg) (kn := 10) i_3_33 ow_3 lm_0_19 rfl (k_23 hG) (k_29 hG) (l_23 hG) (l_29 hG) o12 (by decide) rfl (by decide) ?_
    exact Y_vret i_3_36 rt_3 h
/- 4 Acts.undoLast(LTableTower$Tower;)Z -/
theorem t_4_0 {d : Nat} {F A : Nat → Nat → Int32} {J : Nat → Nat → Int64} {G : pG} {Q : pR → pM → Prop} {SL p q : Nat} (hG : Geo G SL p q) (h : ((0 < (F 22 0) → inB ((((F 22 0) - 1) * 14) + 1) 560 = true ∧ inB ((((F 22 0) - 1) * 14) + 2) 560 = true ∧ inB (((F 22 0) - 1) * 14) 560 = true ∧ (((A 23 (((F 22 0) - 1) * 14).toNatClampNeg) = 0 → X (d + 1) 80 0 [.ref 27, .int (A 23 ((((F 22 0) - 1) * 14) + 1).toNatClampNeg), .null] [] ((wF F 22 0 ((F 22 0) - 1)), A, J, G) (KK (d + 2) 4 97 [.ref 22, .ref 27, .int (((F 22 0) - 1) * 14), .int (A 23 ((((F 22 0) - 1) * 14) + 1).toNatClampNeg), .int (A 23 ((((F 22 0) - 1) * 14) + 2).toNatClampNeg)] [] Q)) ∧ ((A 23 (((F 22 0) - 1) * 14).toNatClampNeg) = 1 → inB ((((F 22 0) - 1) * 14) + 3) 560 = true ∧ (X (d + 1) 5 0 [.ref 27, .int (A 23 ((((F 22 0) - 1) * 14) + 1).toNatClampNeg), .int (A 23 ((((F 22 0) - 1) * 14) + 2).toNatClampNeg), .int (A 23 ((((F 22 0) - 1) * 14) + 3).toNatClampNeg)] [] ((wF F 22 0 ((F 22 0) - 1)), A, J, G) (KK (d + 2) 4 115 [.ref 22, .ref 27, .int (((F 22 0) - 1) * 14), .int (A 23 ((((F 22 0) - 1) * 14) + 1).toNatClampNeg), .int (A 23 ((((F 22 0) - 1) * 14) + 2).toNatClampNeg)] [] Q))) ∧ ((A 23 (((F 22 0) - 1) * 14).toNatClampNeg) = 2 → inB (A 23 ((((F 22 0) - 1) * 14) + 1).toNatClampNeg) 10 = true ∧ inB (A 23 ((((F 22 0) - 1) * 14) + 2).toNatClampNeg) 10 = true ∧ (Q (.inl (some (.int 1))) ((wF F 22 0 ((F 22 0) - 1)), (wF (wF A 28 (A 23 ((((F 22 0) - 1) * 14) + 1).toNatClampNeg).toNatClampNeg (A 28 (A 23 ((((F 22 0) - 1) * 14) + 2).toNatClampNeg).toNatClampNeg)) 28 (A 23 ((((F 22 0) - 1) * 14) + 2).toNatClampNeg).toNatClampNeg (A 28 (A 23 ((((F 22 0) - 1) * 14) + 1).toNatClampNeg).toNatClampNeg)), J, G))) ∧ ((A 23 (((F 22 0) - 1) * 14).toNatClampNeg) = 3 → inB (A 23 ((((F 22 0) - 1) * 14) + 1).toNatClampNeg) 10 = true ∧ (Q (.inl (some (.int 1))) ((wF F 22 0 ((F 22 0) - 1)), (wF A 30 (A 23 ((((F 22 0) - 1) * 14) + 1).toNatClampNeg).toNatClampNeg (A 23 ((((F 22 0) - 1) * 14) + 2).toNatClampNeg)), J, G))) ∧ ((A 23 (((F 22 0) - 1) * 14).toNatClampNeg) = 4 → inB (A 23 ((((F 22 0) - 1) * 14) + 1).toNatClampNeg) 10 = true ∧ (Q (.inl (some (.int 1))) ((wF F 22 0 ((F 22 0) - 1)), (wF A 31 (A 23 ((((F 22 0) - 1) * 14) + 1).toNatClampNeg).toNatClampNeg (A 23 ((((F 22 0) - 1) * 14) + 2).toNatClampNeg)), J, G))) ∧ ((A 23 (((F 22 0) - 1) * 14).toNatClampNeg) = 5 → (¬ ((((F 22 0) - 1) * 14) + 4) < 0 ∧ ¬ (0 : Int32) < 0 ∧ ¬ (10 : Int32) < 0 ∧ ((((F 22 0) - 1) * 14) + 4).toNatClampNeg + (10 : Int32).toNatClampNeg ≤ 560 ∧ (0 : Int32).toNatClampNeg + (10 : Int32).toNatClampNeg ≤ 10) ∧ (Q (.inl (some (.int 1))) ((wF (wF F 22 0 ((F 22 0) - 1)) 27 3 (A 23 ((((F 22 0) - 1) * 14) + 1).toNatClampNeg)), (cpR A 29 23 ((((F 22 0) - 1) * 14) + 4).toNatClampNeg 0 10), J, G))) ∧ ((((A 23 (((F 22 0) - 1) * 14).toNatClampNeg) : Int32).toInt < 0 ∨ 5 < ((A 23 (((F 22 0) - 1) * 14).toNatClampNeg) : Int32).toInt) → Q (.inl (some (.int 1))) ((wF (wF F 22 0 ((F 22 0) - 1)) 27 2 ((F 27 2) - (A 23 ((((F 22 0) - 1) * 14) + 1).toNatClampNeg))), A, J, G)))) ∧ (¬ 0 < (F 22 0) → Q (.inl (some (.int 0))) (F, A, J, G)))) : X (d + 2) 4 0 [.ref 22, .ref 27, .null, .null, .null] [] (F, A, J, G) Q := by
  refine Y_al0 i_4_0 ?_
  refine Y_gI (v := (F 22 0)) i_4_1 ow_4 lf_0_15 (by decide) (k_22 hG) rfl ?_
  refine Y_zgt i_4_4 (fun e1 => ?_) (fun e1 => ?_)
  · replace h := h.1 e1
    refine Y_al0 i_4_9 ?_
    refine Y_dup i_4_10 rfl ?_
    refine Y_gI (v := (F 22 0)) i_4_11 ow_4 lf_0_15 (by decide) (k_22 hG) rfl ?_
    refine Y_iconst (v := 1) i_4_14 (by decide) ?_
    refine Y_isub i_4_15 ?_
    refine Y_pI i_4_16 ow_4 lf_0_15 (k_22 hG) ?_
    refine Y_al0 i_4_19 ?_
    refine Y_gI (v := ((F 22 0) - 1)) i_4_20 ow_4 lf_0_15 (by decide) (k_22 hG) (by simp [wF, wJ, va_up, cpR, bF, bA]) ?_
    refine Y_bipush (v := 14) i_4_23 (by decide) ?_
    refine Y_imul i_4_25 ?_
    refine Y_is2 i_4_26 rfl ?_
    refine Y_al0 i_4_27 ?_
    refine Y_gR i_4_28 ow_4 lf_0_11 (k_22 hG) (r_22_1 hG) ?_
    refine Y_il2 i_4_31 ?_
    refine Y_iconst (v := 1) i_4_32 (by decide) ?_
    refine Y_iadd i_4_33 ?_
    have o2 := h.1
    replace h := h.2
    refine Y_iaload (k := ((((F 22 0) - 1) * 14) + 1).toNatClampNeg) (v := (A 23 ((((F 22 0) - 1) * 14) + 1).toNatClampNeg)) i_4_34 (k_23 hG) (l_23 hG) o2 rfl rfl ?_
    refine Y_is3 i_4_35 rfl ?_
    refine Y_al0 i_4_36 ?_
    refine Y_gR i_4_37 ow_4 lf_0_11 (k_22 hG) (r_22_1 hG) ?_
    refine Y_il2 i_4_40 ?_
    refine Y_iconst (v := 2) i_4_41 (by decide) ?_
    refine Y_iadd i_4_42 ?_
    have o3 := h.1
    replace h := h.2
    refine Y_iaload (k := ((((F 22 0) - 1) * 14) + 2).toNatClampNeg) (v := (A 23 ((((F 22 0) - 1) * 14) + 2).toNatClampNeg)) i_4_43 (k_23 hG) (l_23 hG) o3 rfl rfl ?_
    refine Y_is4 i_4_44 rfl ?_
    refine Y_al0 i_4_46 ?_
    refine Y_gR i_4_47 ow_4 lf_0_11 (k_22 hG) (r_22_1 hG) ?_
    refine Y_il2 i_4_50 ?_
    have o4 := h.1
    replace h := h.2
    refine Y_iaload (k := (((F 22 0) - 1) * 14).toNatClampNeg) (v := (A 23 (((F 22 0) - 1) * 14).toNatClampNeg)) i_4_51 (k_23 hG) (l_23 hG) o4 rfl rfl ?_
    by_cases f0 : (A 23 (((F 22 0) - 1) * 14).toNatClampNeg) = 0
    · replace h := h.1 f0
      refine Y_sw (t := 92) f0 i_4_52 (fun _ => rfl) rfl (fun _ => rfl) (fun _ => rfl) ?_
      refine Y_al1 i_4_92 ?_
      refine Y_il3 i_4_93 ?_
      exact Y_iv1 (L0 := [.ref 27, .int (A 23 ((((F 22 0) - 1) * 14) + 1).toNatClampNeg), .null]) i_4_94 ow_4 lm_0_37 ((k_27 hG).trans ow_80.symm) rfl mx_80 rfl rfl hd_4 h
    by_cases f1 : (A 23 (((F 22 0) - 1) * 14).toNatClampNeg) = 1
    · replace h := h.2.1 f1
      refine Y_sw (t := 100) f1 i_4_52 (fun _ => rfl) rfl (fun _ => rfl) (fun _ => rfl) ?_
      refine Y_al1 i_4_100 ?_
      refine Y_il3 i_4_101 ?_
      refine Y_il4 i_4_102 ?_
      refine Y_al0 i_4_104 ?_
      refine Y_gR i_4_105 ow_4 lf_0_11 (k_22 hG) (r_22_1 hG) ?_
      refine Y_il2 i_4_108 ?_
      refine Y_iconst (v := 3) i_4_109 (by decide) ?_
      refine Y_iadd i_4_110 ?_
      have o5 := h.1
      replace h := h.2
      refine Y_iaload (k := ((((F 22 0) - 1) * 14) + 3).toNatClampNeg) (v := (A 23 ((((F 22 0) - 1) * 14) + 3).toNatClampNeg)) i_4_111 (k_23 hG) (l_23 hG) o5 rfl rfl ?_
      exact Y_is_4 (L0 := [.ref 27, .int (A 23 ((((F 22 0) - 1) * 14) + 1).toNatClampNeg), .int (A 23 ((((F 22 0) - 1) * 14) + 2).toNatClampNeg), .int (A 23 ((((F 22 0) - 1) * 14) + 3).toNatClampNeg)]) i_4_112 ow_4 lm_0_41 rfl mx_5 rfl rfl hd_4 h
    by_cases f2 : (A 23 (((F 22 0) - 1) * 14).toNatClampNeg) = 2
    · replace h := h.2.2.1 f2
      refine Y_sw (t := 118) f2 i_4_52 (fun _ => rfl) rfl (fun _ => rfl) (fun _ => rfl) ?_
      refine Y_al1 i_4_118 ?_
      refine Y_il3 i_4_119 ?_
      refine Y_il4 i_4_120 ?_
      refine Y_iv2 (L0 := [.ref 27, .int (A 23 ((((F 22 0) - 1) * 14) + 1).toNatClampNeg), .int (A 23 ((((F 22 0) - 1) * 14) + 2).toNatClampNeg), .null]) i_4_122 ow_4 lm_0_45 ((k_27 hG).trans ow_81.symm) rfl mx_81 rfl rfl hd_4 ?_
      refine Y_al0 i_81_0 ?_
      refine Y_gR i_81_1 ow_81 lf_6_9 (k_27 hG) (r_27_4 hG) ?_
      refine Y_il1 i_81_4 ?_
      have o6 := h.1
      replace h := h.2
      refine Y_iaload (k := (A 23 ((((F 22 0) - 1) * 14) + 1).toNatClampNeg).toNatClampNeg) (v := (A 28 (A 23 ((((F 22 0) - 1) * 14) + 1).toNatClampNeg).toNatClampNeg)) i_81_5 (k_28 hG) (l_28 hG) o6 rfl rfl ?_
      refine Y_is3 i_81_6 rfl ?_
      refine Y_al0 i_81_7 ?_
      refine Y_gR i_81_8 ow_81 lf_6_9 (k_27 hG) (r_27_4 hG) ?_
      refine Y_il1 i_81_11 ?_
      refine Y_al0 i_81_12 ?_
      refine Y_gR i_81_13 ow_81 lf_6_9 (k_27 hG) (r_27_4 hG) ?_
      refine Y_il2 i_81_16 ?_
      have o7 := h.1
      replace h := h.2
      refine Y_iaload (k := (A 23 ((((F 22 0) - 1) * 14) + 2).toNatClampNeg).toNatClampNeg) (v := (A 28 (A 23 ((((F 22 0) - 1) * 14) + 2).toNatClampNeg).toNatClampNeg)) i_81_17 (k_28 hG) (l_28 hG) o7 rfl rfl ?_
      refine Y_iast i_81_18 (k_28 hG) (l_28 hG) o6 rfl ?_
      refine Y_al0 i_81_19 ?_
      refine Y_gR i_81_20 ow_81 lf_6_9 (k_27 hG) (r_27_4 hG) ?_
      refine Y_il2 i_81_23 ?_
      refine Y_il3 i_81_24 ?_
      refine Y_iast i_81_25 (k_28 hG) (l_28 hG) o7 rfl ?_
      refine Y_vret i_81_26 rt_81 (KKv ?_)
      refine Y_goto i_4_125 ?_
      refine Y_iconst (v := 1) i_4_169 (by decide) ?_
      exact Y_bret i_4_170 rt_4 (by decide) h
    by_cases f3 : (A 23 (((F 22 0) - 1) * 14).toNatClampNeg) = 3
    · replace h := h.2.2.2.1 f3
      refine Y_sw (t := 128) f3 i_4_52 (fun _ => rfl) rfl (fun _ => rfl) (fun _ => rfl) ?_
      refine Y_al1 i_4_128 ?_
      refine Y_gR i_4_129 ow_4 lf_0_49 (k_27 hG) (r_27_6 hG) ?_
      refine Y_il3 i_4_132 ?_
      refine Y_il4 i_4_133 ?_
      have o8 := h.1
      replace h := h.2
      refine Y_iast i_4_135 (k_30 hG) (l_30 hG) o8 rfl ?_
      refine Y_goto i_4_136 ?_
      refine Y_iconst (v := 1) i_4_169 (by decide) ?_
      exact Y_bret i_4_170 rt_4 (by decide) h
    by_cases f4 : (A 23 (((F 22 0) - 1) * 14).toNatClampNeg) = 4
    · replace h := h.2.2.2.2.1 f4
      refine Y_sw (t := 139) f4 i_4_52 (fun _ => rfl) rfl (fun _ => rfl) (fun _ => rfl) ?_
      refine Y_al1 i_4_139 ?_
      refine Y_gR i_4_140 ow_4 lf_0_52 (k_27 hG) (r_27_7 hG) ?_
      refine Y_il3 i_4_143 ?_
      refine Y_il4 i_4_144 ?_
      have o9 := h.1
      replace h := h.2
      refine Y_iast i_4_146 (k_31 hG) (l_31 hG) o9 rfl ?_
      refine Y_goto i_4_147 ?_
      refine Y_iconst (v := 1) i_4_169 (by decide) ?_
      exact Y_bret i_4_170 rt_4 (by decide) h
    by_cases f5 : (A 23 (((F 22 0) - 1) * 14).toNatClampNeg) = 5
    · replace h := h.2.2.2.2.2.1 f5
      refine Y_sw (t := 150) f5 i_4_52 (fun _ => rfl) rfl (fun _ => rfl) (fun _ => rfl) ?_
      refine Y_al0 i_4_150 ?_
      refine Y_al1 i_4_151 ?_
      refine Y_il2 i_4_152 ?_
      refine Y_iv2 (L0 := [.ref 22, .ref 27, .int (((F 22 0) - 1) * 14)]) i_4_153 ow_4 lm_0_55 ((k_22 hG).trans ow_6.symm) rfl mx_6 rfl rfl hd_4 ?_
      refine Y_al1 i_6_0 ?_
      refine Y_al0 i_6_1 ?_
      refine Y_gR i_6_2 ow_6 lf_0_11 (k_22 hG) (r_22_1 hG) ?_
      refine Y_il2 i_6_5 ?_
      refine Y_iconst (v := 1) i_6_6 (by decide) ?_
      refine Y_iadd i_6_7 ?_
      refine Y_iaload (k := ((((F 22 0) - 1) * 14) + 1).toNatClampNeg) (v := (A 23 ((((F 22 0) - 1) * 14) + 1).toNatClampNeg)) i_6_8 (k_23 hG) (l_23 hG) o2 rfl rfl ?_
      refine Y_pI i_6_9 ow_6 lf_0_25 (k_27 hG) ?_
      refine Y_al0 i_6_12 ?_
      refine Y_gR i_6_13 ow_6 lf_0_11 (k_22 hG) (r_22_1 hG) ?_
      refine Y_il2 i_6_16 ?_
      refine Y_iconst (v := 4) i_6_17 (by decide) ?_
      refine Y_iadd i_6_18 ?_
      refine Y_al1 i_6_19 ?_
      refine Y_gR i_6_20 ow_6 lf_0_34 (k_27 hG) (r_27_5 hG) ?_
      refine Y_iconst (v := 0) i_6_23 (by decide) ?_
      refine Y_bipush (v := 10) i_6_24 (by decide) ?_
      have o10 := h.1
      replace h := h.2
      refine Y_acp (ksp := ((((F 22 0) - 1) * 14) + 4).toNatClampNeg) (kdp := 0) (kn := 10) i_6_26 ow_6 lm_0_19 rfl (k_29 hG) (k_23 hG) (l_29 hG) (l_23 hG) o10 rfl (by decide) (by decide) ?_
      refine Y_vret i_6_29 rt_6 (KKv ?_)
      refine Y_goto i_4_156 ?_
      refine Y_iconst (v := 1) i_4_169 (by decide) ?_
      exact Y_bret i_4_170 rt_4 (by decide) h
    have eD : ((A 23 (((F 22 0) - 1) * 14).toNatClampNeg) : Int32).toInt < 0 ∨ 5 < ((A 23 (((F 22 0) - 1) * 14).toNatClampNeg) : Int32).toInt := by
      have q := ts_out (x := (A 23 (((F 22 0) - 1) * 14).toNatClampNeg)) (lo := 0) (n := 6) (by
        intro j hj
        have : j = 0 ∨ j = 1 ∨ j = 2 ∨ j = 3 ∨ j = 4 ∨ j = 5 := by omega
        rcases this with rfl | rfl | rfl | rfl | rfl | rfl
        · exact ne_toInt f0 (by decide)
        · exact ne_toInt f1 (by decide)
        · exact ne_toInt f2 (by decide)
        · exact ne_toInt f3 (by decide)
        · exact ne_toInt f4 (by decide)
        · exact ne_toInt f5 (by decide)
        )
      omega
    replace h := h.2.2.2.2.2.2 eD
    refine Y_tsD (t := 159) eD i_4_52 (by decide) ?_
    refine Y_al1 i_4_159 ?_
    refine Y_dup i_4_160 rfl ?_
    refine Y_gI (v := (F 27 2)) i_4_161 ow_4 lf_0_59 (by decide) (k_27 hG) (by simp [wF, wJ, va_up, cpR, bF, bA]) ?_
    refine Y_il3 i_4_164 ?_
    refine Y_isub i_4_165 ?_
    refine Y_pI i_4_166 ow_4 lf_0_59 (k_27 hG) ?_
    refine Y_iconst (v := 1) i_4_169 (by decide) ?_
    exact Y_bret i_4_170 rt_4 (by decide) h
  · replace h := h.2 e1
    refine Y_iconst (v := 0) i_4_7 (by decide) ?_
    exact Y_bret i_4_8 rt_4 (by decide) h
theorem k_4_97 {d : Nat} {F A : Nat → Nat → Int32} {J : Nat → Nat → Int64} {G : pG} {Q : pR → pM → Prop} {SL p q : Nat} {x2 x3 x4 : Int32} (hG : Geo G SL p q) (h : Q (.inl (some (.int 1))) (F, A, J, G)) : KK (d + 2) 4 97 [.ref 22, .ref 27, .int x2, .int x3, .int x4] [] Q (.inl none) (F, A, J, G) := by
  refine KKv ?_
  refine Y_goto i_4_97 ?_
  refine Y_iconst (v := 1) i_4_169 (by decide) ?_
  exact Y_bret i_4_170 rt_4 (by decide) h
theorem k_4_115 {d : Nat} {F A : Nat → Nat → Int32} {J : Nat → Nat → Int64} {G : pG} {Q : pR → pM → Prop} {SL p q : Nat} {x2 x3 x4 : Int32} (hG : Geo G SL p q) (h : Q (.inl (some (.int 1))) (F, A, J, G)) : KK (d + 2) 4 115 [.ref 22, .ref 27, .int x2, .int x3, .int x4] [] Q (.inl none) (F, A, J, G) := by
  refine KKv ?_
  refine Y_goto i_4_115 ?_
  refine Y_iconst (v := 1) i_4_169 (by decide) ?_
  exact Y_bret i_4_170 rt_4 (by decide) h
/- 5 Acts.putBack(LTableTower$Tower;III)V -/
theorem t_5_0 {d : Nat} {F A : Nat → Nat → Int32} {J : Nat → Nat → Int64} {G : pG} {Q : pR → pM → Prop} {SL p q : Nat} {x1 x2 x3 : Int32} (hG : Geo G SL p q) (h : X d 79 0 [.ref 27, .int x1, .int x2, .null] [] (F, A, J, G) (KK (d + 1) 5 6 [.ref 27, .int x1, .int x2, .int x3] [] Q)) : X (d + 1) 5 0 [.ref 27, .int x1, .int x2, .int x3] [] (F, A, J, G) Q := by
  refine Y_al0 i_5_0 ?_
  refine Y_il1 i_5_1 ?_
  refine Y_il2 i_5_2 ?_
  exact Y_iv2 (L0 := [.ref 27, .int x1, .int x2, .null]) i_5_3 ow_5 lm_0_62 ((k_27 hG).trans ow_79.symm) rfl mx_79 rfl rfl hd_5 h
theorem k_5_6 {d : Nat} {F A : Nat → Nat → Int32} {J : Nat → Nat → Int64} {G : pG} {Q : pR → pM → Prop} {SL p q : Nat} {x1 x2 x3 : Int32} (hG : Geo G SL p q) (h : inB x1 10 = true ∧ (Q (.inl none) (F, (wF A 29 x1.toNatClampNeg x3), J, G))) : KK (d + 1) 5 6 [.ref 27, .int x1, .int x2, .int x3] [] Q (.inl none) (F, A, J, G) := by
  refine KKv ?_
  refine Y_al0 i_5_6 ?_
  refine Y_gR i_5_7 ow_5 lf_0_34 (k_27 hG) (r_27_5 hG) ?_
  refine Y_il1 i_5_10 ?_
  refine Y_il3 i_5_11 ?_
  have o1 := h.1
  replace h := h.2
  refine Y_iast i_5_12 (k_29 hG) (l_29 hG) o1 rfl ?_
  exact Y_vret i_5_13 rt_5 h
/- 6 Acts.clearSupper(LTableTower$Tower;I)V -/
theorem t_6_0 {d : Nat} {F A : Nat → Nat → Int32} {J : Nat → Nat → Int64} {G : pG} {Q : pR → pM → Prop} {SL p q : Nat} {x2 : Int32} (hG : Geo G SL p q) (h : inB (x2 + 1) 560 = true ∧ (¬ (x2 + 4) < 0 ∧ ¬ (0 : Int32) < 0 ∧ ¬ (10 : Int32) < 0 ∧ (x2 + 4).toNatClampNeg + (10 : Int32).toNatClampNeg ≤ 560 ∧ (0 : Int32).toNatClampNeg + (10 : Int32).toNatClampNeg ≤ 10) ∧ (Q (.inl none) ((wF F 27 3 (A 23 (x2 + 1).toNatClampNeg)), (cpR A 29 23 (x2 + 4).toNatClampNeg 0 10), J, G))) : X d 6 0 [.ref 22, .ref 27, .int x2] [] (F, A, J, G) Q := by
  refine Y_al1 i_6_0 ?_
  refine Y_al0 i_6_1 ?_
  refine Y_gR i_6_2 ow_6 lf_0_11 (k_22 hG) (r_22_1 hG) ?_
  refine Y_il2 i_6_5 ?_
  refine Y_iconst (v := 1) i_6_6 (by decide) ?_
  refine Y_iadd i_6_7 ?_
  have o1 := h.1
  replace h := h.2
  refine Y_iaload (k := (x2 + 1).toNatClampNeg) (v := (A 23 (x2 + 1).toNatClampNeg)) i_6_8 (k_23 hG) (l_23 hG) o1 rfl rfl ?_
  refine Y_pI i_6_9 ow_6 lf_0_25 (k_27 hG) ?_
  refine Y_al0 i_6_12 ?_
  refine Y_gR i_6_13 ow_6 lf_0_11 (k_22 hG) (r_22_1 hG) ?_
  refine Y_il2 i_6_16 ?_
  refine Y_iconst (v := 4) i_6_17 (by decide) ?_
  refine Y_iadd i_6_18 ?_
  refine Y_al1 i_6_19 ?_
  refine Y_gR i_6_20 ow_6 lf_0_34 (k_27 hG) (r_27_5 hG) ?_
  refine Y_iconst (v := 0) i_6_23 (by decide) ?_
  refine Y_bipush (v := 10) i_6_24 (by decide) ?_
  have o2 := h.1
  replace h := h.2
  refine Y_acp (ksp := (x2 + 4).toNatClampNeg) (kdp := 0) (kn := 10) i_6_26 ow_6 lm_0_19 rfl (k_29 hG) (k_23 hG) (l_29 hG) (l_23 hG) o2 rfl (by decide) (by decide) ?_
  exact Y_vret i_6_29 rt_6 h
/- 8 Legs.soWithout()Z -/
theorem t_8_0 {d : Nat} {F A : Nat → Nat → Int32} {J : Nat → Nat → Int64} {G : pG} {Q : pR → pM → Prop} {SL p q : Nat} (hG : Geo G SL p q) (h : X (d + 2) 84 0 [.ref 27, .null, .null, .null] [] (F, A, J, G) (KK (d + 3) 8 10 [.ref 66] [] Q)) : X (d + 3) 8 0 [.ref 66] [] (F, A, J, G) Q := by
  refine Y_al0 i_8_0 ?_
  refine Y_gR i_8_1 ow_8 lf_1_19 (k_66 hG) (r_66_1 hG) ?_
  refine Y_gR i_8_4 ow_8 lf_1_23 (k_21 hG) (r_21_0 hG) ?_
  exact Y_iv0 (L0 := [.ref 27, .null, .null, .null]) i_8_7 ow_8 lm_1_29 ((k_27 hG).trans ow_84.symm) rfl mx_84 rfl rfl hd_8 h
theorem k_8_10 {d : Nat} {F A : Nat → Nat → Int32} {J : Nat → Nat → Int64} {G : pG} {Q : pR → pM → Prop} {SL p q : Nat} (hG : Geo G SL p q) (h : X (d + 2) 16 0 [.ref 66, .int 0, .int 0, .null, .null, .null, .null] [] (F, A, J, G) (KK (d + 3) 8 16 [.ref 66] [] Q)) : KK (d + 3) 8 10 [.ref 66] [] Q (.inl none) (F, A, J, G) := by
  refine KKv ?_
  refine Y_al0 i_8_10 ?_
  refine Y_iconst (v := 0) i_8_11 (by decide) ?_
  refine Y_iconst (v := 0) i_8_12 (by decide) ?_
  exact Y_iv2 (L0 := [.ref 66, .int 0, .int 0, .null, .null, .null, .null]) i_8_13 ow_8 lm_1_34 ((k_66 hG).trans ow_16.symm) rfl mx_16 rfl rfl hd_8 h
theorem k_8_16 {d : Nat} {F A : Nat → Nat → Int32} {J : Nat → Nat → Int64} {G : pG} {Q : pR → pM → Prop} {SL p q : Nat} {r r : Int32} (hG : Geo G SL p q) (h : (r = 0 ∨ r = 1) ∧ (Q (.inl (some (.int r))) (F, A, J, G))) : KK (d + 3) 8 16 [.ref 66] [] Q (.inl (some (.int r))) (F, A, J, G) := by
  refine KKi ?_
  have o1 := h.1
  replace h := h.2
  exact Y_bret i_8_16 rt_8 o1 h
/- 9 Legs.howMany()I -/
theorem t_9_0 {d : Nat} {F A : Nat → Nat → Int32} {J : Nat → Nat → Int64} {G : pG} {Q : pR → pM → Prop} {SL p q : Nat} (hG : Geo G SL p q) (h : X (d + 2) 84 0 [.ref 27, .null, .null, .null] [] (F, A, J, G) (KK (d + 3) 9 12 [.ref 66, .ref 27, .null, .null, .null] [] Q)) : X (d + 3) 9 0 [.ref 66, .null, .null, .null, .null] [] (F, A, J, G) Q := by
  refine Y_al0 i_9_0 ?_
  refine Y_gR i_9_1 ow_9 lf_1_19 (k_66 hG) (r_66_1 hG) ?_
  refine Y_gR i_9_4 ow_9 lf_1_23 (k_21 hG) (r_21_0 hG) ?_
  refine Y_as1 i_9_7 rfl ?_
  refine Y_al1 i_9_8 ?_
  exact Y_iv0 (L0 := [.ref 27, .null, .null, .null]) i_9_9 ow_9 lm_1_29 ((k_27 hG).trans ow_84.symm) rfl mx_84 rfl rfl hd_9 h
theorem k_9_12 {d : Nat} {F A : Nat → Nat → Int32} {J : Nat → Nat → Int64} {G : pG} {Q : pR → pM → Prop} {SL p q : Nat} (hG : Geo G SL p q) (h : X (d + 3) 9 16 [.ref 66, .ref 27, .int 0, .int 0, .null] [] (F, A, J, G) Q) : KK (d + 3) 9 12 [.ref 66, .ref 27, .null, .null, .null] [] Q (.inl none) (F, A, J, G) := by
  refine KKv ?_
  refine Y_iconst (v := 0) i_9_12 (by decide) ?_
  refine Y_is2 i_9_13 rfl ?_
  refine Y_iconst (v := 0) i_9_14 (by decide) ?_
  refine Y_is3 i_9_15 rfl ?_
  exact h
theorem t_9_16 {d : Nat} {F A : Nat → Nat → Int32} {J : Nat → Nat → Int64} {G : pG} {Q : pR → pM → Prop} {SL p q : Nat} {x2 x3 : Int32} {v4 : Value} (hG : Geo G SL p q) (h : ((x3 < (F 27 1) → X (d + 3) 9 28 [.ref 66, .ref 27, .int x2, .int x3, .int (-9)] [] (F, A, J, G) Q) ∧ (¬ x3 < (F 27 1) → Q (.inl (some (.int x2))) (F, A, J, G)))) : X (d + 3) 9 16 [.ref 66, .ref 27, .int x2, .int x3, v4] [] (F, A, J, G) Q := by
  refine Y_il3 i_9_16 ?_
  refine Y_al1 i_9_17 ?_
  refine Y_gI (v := (F 27 1)) i_9_18 ow_9 lf_1_38 (by decide) (k_27 hG) rfl ?_
  refine Y_cge i_9_21 (fun e1 => ?_) (fun e1 => ?_)
  · replace h := h.1 e1
    refine Y_bipush (v := (-9)) i_9_24 (by decide) ?_
    refine Y_is4 i_9_26 rfl ?_
    exact h
  · replace h := h.2 e1
    refine Y_il2 i_9_65 ?_
    exact Y_iret i_9_66 rt_9 h
theorem t_9_28 {d : Nat} {F A : Nat → Nat → Int32} {J : Nat → Nat → Int64} {G : pG} {Q : pR → pM → Prop} {SL p q : Nat} {x2 x3 x4 : Int32} (hG : Geo G SL p q) (h : ((9 < x4 → X (d + 3) 9 16 [.ref 66, .ref 27, .int x2, .int (x3 + 1), .int x4] [] (F, A, J, G) Q) ∧ (¬ 9 < x4 → X (d + 2) 14 0 [.ref 66, .int x3, .int x4] [] (F, A, J, G) (KK (d + 3) 9 43 [.ref 66, .ref 27, .int x2, .int x3, .int x4] [.int x2] Q)))) : X (d + 3) 9 28 [.ref 66, .ref 27, .int x2, .int x3, .int x4] [] (F, A, J, G) Q := by
  refine Y_il4 i_9_28 ?_
  refine Y_bipush (v := 9) i_9_30 (by decide) ?_
  refine Y_cgt i_9_32 (fun e1 => ?_) (fun e1 => ?_)
  · replace h := h.1 e1
    refine Y_ii3 (v := 1) i_9_59 (by decide) rfl ?_
    refine Y_goto i_9_62 ?_
    exact h
  · replace h := h.2 e1
    refine Y_il2 i_9_35 ?_
    refine Y_al0 i_9_36 ?_
    refine Y_il3 i_9_37 ?_
    refine Y_il4 i_9_38 ?_
    exact Y_iv2 (L0 := [.ref 66, .int x3, .int x4]) i_9_40 ow_9 lm_1_42 ((k_66 hG).trans ow_14.symm) rfl mx_14 rfl rfl hd_9 h
theorem k_9_43 {d : Nat} {F A : Nat → Nat → Int32} {J : Nat → Nat → Int64} {G : pG} {Q : pR → pM → Prop} {SL p q : Nat} {x2 x3 x4 r s0 r : Int32} (hG : Geo G SL p q) (h : ((r = 0 → X (d + 3) 9 28 [.ref 66, .ref 27, .int (s0 + 0), .int x3, .int (x4 + 1)] [] (F, A, J, G) Q) ∧ (¬ r = 0 → X (d + 3) 9 28 [.ref 66, .ref 27, .int (s0 + 1), .int x3, .int (x4 + 1)] [] (F, A, J, G) Q))) : KK (d + 3) 9 43 [.ref 66, .ref 27, .int x2, .int x3, .int x4] [.int s0] Q (.inl (some (.int r))) (F, A, J, G) := by
  refine KKi ?_
  refine Y_zeq i_9_43 (fun e1 => ?_) (fun e1 => ?_)
  · replace h := h.1 e1
    refine Y_iconst (v := 0) i_9_50 (by decide) ?_
    refine Y_iadd i_9_51 ?_
    refine Y_is2 i_9_52 rfl ?_
    refine Y_ii4 (v := 1) i_9_53 (by decide) rfl ?_
    refine Y_goto i_9_56 ?_
    exact h
  · replace h := h.2 e1
    refine Y_iconst (v := 1) i_9_46 (by decide) ?_
    refine Y_goto i_9_47 ?_
    refine Y_iadd i_9_51 ?_
    refine Y_is2 i_9_52 rfl ?_
    refine Y_ii4 (v := 1) i_9_53 (by decide) rfl ?_
    refine Y_goto i_9_56 ?_
    exact h
/- 10 Legs.first()I -/
theorem t_10_0 {d : Nat} {F A : Nat → Nat → Int32} {J : Nat → Nat → Int64} {G : pG} {Q : pR → pM → Prop} {SL p q : Nat} (hG : Geo G SL p q) (h : X (d + 2) 84 0 [.ref 27, .null, .null, .null] [] (F, A, J, G) (KK (d + 3) 10 12 [.ref 66, .ref 27, .null, .null] [] Q)) : X (d + 3) 10 0 [.ref 66, .null, .null, .null] [] (F, A, J, G) Q := by
  refine Y_al0 i_10_0 ?_
  refine Y_gR i_10_1 ow_10 lf_1_19 (k_66 hG) (r_66_1 hG) ?_
  refine Y_gR i_10_4 ow_10 lf_1_23 (k_21 hG) (r_21_0 hG) ?_
  refine Y_as1 i_10_7 rfl ?_
  refine Y_al1 i_10_8 ?_
  exact Y_iv0 (L0 := [.ref 27, .null, .null, .null]) i_10_9 ow_10 lm_1_29 ((k_27 hG).trans ow_84.symm) rfl mx_84 rfl rfl hd_10 h
theorem k_10_12 {d : Nat} {F A : Nat → Nat → Int32} {J : Nat → Nat → Int64} {G : pG} {Q : pR → pM → Prop} {SL p q : Nat} (hG : Geo G SL p q) (h : X (d + 3) 10 14 [.ref 66, .ref 27, .int 0, .null] [] (F, A, J, G) Q) : KK (d + 3) 10 12 [.ref 66, .ref 27, .null, .null] [] Q (.inl none) (F, A, J, G) := by
  refine KKv ?_
  refine Y_iconst (v := 0) i_10_12 (by decide) ?_
  refine Y_is2 i_10_13 rfl ?_
  exact h
theorem t_10_14 {d : Nat} {F A : Nat → Nat → Int32} {J : Nat → Nat → Int64} {G : pG} {Q : pR → pM → Prop} {SL p q : Nat} {x2 : Int32} {v3 : Value} (hG : Geo G SL p q) (h : ((x2 < (F 27 1) → X (d + 3) 10 25 [.ref 66, .ref 27, .int x2, .int (-9)] [] (F, A, J, G) Q) ∧ (¬ x2 < (F 27 1) → Q (.inl (some (.int (-1)))) (F, A, J, G)))) : X (d + 3) 10 14 [.ref 66, .ref 27, .int x2, v3] [] (F, A, J, G) Q := by
  refine Y_il2 i_10_14 ?_
  refine Y_al1 i_10_15 ?_
  refine Y_gI (v := (F 27 1)) i_10_16 ow_10 lf_1_38 (by decide) (k_27 hG) rfl ?_
  refine Y_cge i_10_19 (fun e1 => ?_) (fun e1 => ?_)
  · replace h := h.1 e1
    refine Y_bipush (v := (-9)) i_10_22 (by decide) ?_
    refine Y_is3 i_10_24 rfl ?_
    exact h
  · replace h := h.2 e1
    refine Y_iconst (v := (-1)) i_10_67 (by decide) ?_
    exact Y_iret i_10_68 rt_10 h
theorem t_10_25 {d : Nat} {F A : Nat → Nat → Int32} {J : Nat → Nat → Int64} {G : pG} {Q : pR → pM → Prop} {SL p q : Nat} {x2 x3 : Int32} (hG : Geo G SL p q) (h : ((9 < x3 → X (d + 3) 10 14 [.ref 66, .ref 27, .int (x2 + 1), .int x3] [] (F, A, J, G) Q) ∧ (¬ 9 < x3 → X (d + 2) 14 0 [.ref 66, .int x2, .int x3] [] (F, A, J, G) (KK (d + 3) 10 37 [.ref 66, .ref 27, .int x2, .int x3] [] Q)))) : X (d + 3) 10 25 [.ref 66, .ref 27, .int x2, .int x3] [] (F, A, J, G) Q := by
  refine Y_il3 i_10_25 ?_
  refine Y_bipush (v := 9) i_10_26 (by decide) ?_
  refine Y_cgt i_10_28 (fun e1 => ?_) (fun e1 => ?_)
  · replace h := h.1 e1
    refine Y_ii2 (v := 1) i_10_61 (by decide) rfl ?_
    refine Y_goto i_10_64 ?_
    exact h
  · replace h := h.2 e1
    refine Y_al0 i_10_31 ?_
    refine Y_il2 i_10_32 ?_
    refine Y_il3 i_10_33 ?_
    exact Y_iv2 (L0 := [.ref 66, .int x2, .int x3]) i_10_34 ow_10 lm_1_42 ((k_66 hG).trans ow_14.symm) rfl mx_14 rfl rfl hd_10 h
theorem k_10_37 {d : Nat} {F A : Nat → Nat → Int32} {J : Nat → Nat → Int64} {G : pG} {Q : pR → pM → Prop} {SL p q : Nat} {x2 x3 r r : Int32} (hG : Geo G SL p q) (h : ((r = 0 → X (d + 3) 10 25 [.ref 66, .ref 27, .int x2, .int (x3 + 1)] [] (F, A, J, G) Q) ∧ (¬ r = 0 → inB x2 10 = true ∧ (Q (.inl (some (.int ((((100 : Int32) * (A 28 x2.toNatClampNeg)) + x3) + 50)))) (F, A, J, G))))) : KK (d + 3) 10 37 [.ref 66, .ref 27, .int x2, .int x3] [] Q (.inl (some (.int r))) (F, A, J, G) := by
  refine KKi ?_
  refine Y_zeq i_10_37 (fun e1 => ?_) (fun e1 => ?_)
  · replace h := h.1 e1
    refine Y_ii3 (v := 1) i_10_55 (by decide) rfl ?_
    refine Y_goto i_10_58 ?_
    exact h
  · replace h := h.2 e1
    refine Y_bipush (v := 100) i_10_40 (by decide) ?_
    refine Y_al1 i_10_42 ?_
    refine Y_gR i_10_43 ow_10 lf_1_45 (k_27 hG) (r_27_4 hG) ?_
    refine Y_il2 i_10_46 ?_
    have o2 := h.1
    replace h := h.2
    refine Y_iaload (k := x2.toNatClampNeg) (v := (A 28 x2.toNatClampNeg)) i_10_47 (k_28 hG) (l_28 hG) o2 rfl rfl ?_
    refine Y_imul i_10_48 ?_
    refine Y_il3 i_10_49 ?_
    refine Y_iadd i_10_50 ?_
    refine Y_bipush (v := 50) i_10_51 (by decide) ?_
    refine Y_iadd i_10_53 ?_
    exact Y_iret i_10_54 rt_10 h
/- 11 Legs.bestLevel()I -/
theorem t_11_0 {d : Nat} {F A : Nat → Nat → Int32} {J : Nat → Nat → Int64} {G : pG} {Q : pR → pM → Prop} {SL p q : Nat} (hG : Geo G SL p q) (h : X (d + 3) 84 0 [.ref 27, .null, .null, .null] [] (F, A, J, G) (KK (d + 4) 11 10 [.ref 66, .null, .null, .null, .null] [] Q)) : X (d + 4) 11 0 [.ref 66, .null, .null, .null, .null] [] (F, A, J, G) Q := by
  refine Y_al0 i_11_0 ?_
  refine Y_gR i_11_1 ow_11 lf_1_19 (k_66 hG) (r_66_1 hG) ?_
  refine Y_gR i_11_4 ow_11 lf_1_23 (k_21 hG) (r_21_0 hG) ?_
  exact Y_iv0 (L0 := [.ref 27, .null, .null, .null]) i_11_7 ow_11 lm_1_29 ((k_27 hG).trans ow_84.symm) rfl mx_84 rfl rfl hd_11 h
theorem k_11_10 {d : Nat} {F A : Nat → Nat → Int32} {J : Nat → Nat → Int64} {G : pG} {Q : pR → pM → Prop} {SL p q : Nat} (hG : Geo G SL p q) (h : X (d + 4) 11 16 [.ref 66, .int (-1), .int 0, .int 0, .null] [] (F, A, J, G) Q) : KK (d + 4) 11 10 [.ref 66, .null, .null, .null, .null] [] Q (.inl none) (F, A, J, G) := by
  refine KKv ?_
  refine Y_iconst (v := (-1)) i_11_10 (by decide) ?_
  refine Y_is1 i_11_11 rfl ?_
  refine Y_iconst (v := 0) i_11_12 (by decide) ?_
  refine Y_is2 i_11_13 rfl ?_
  refine Y_iconst (v := 0) i_11_14 (by decide) ?_
  refine Y_is3 i_11_15 rfl ?_
  exact h
theorem t_11_16 {d : Nat} {F A : Nat → Nat → Int32} {J : Nat → Nat → Int64} {G : pG} {Q : pR → pM → Prop} {SL p q : Nat} {x1 x2 x3 : Int32} {v4 : Value} (hG : Geo G SL p q) (h : ((x3 < (F 27 1) → X (d + 3) 12 0 [.ref 66, .int x3, .null, .null, .null] [] (F, A, J, G) (KK (d + 4) 11 35 [.ref 66, .int x1, .int x2, .int x3, v4] [] Q)) ∧ (¬ x3 < (F 27 1) → Q (.inl (some (.int x1))) (F, A, J, G)))) : X (d + 4) 11 16 [.ref 66, .int x1, .int x2, .int x3, v4] [] (F, A, J, G) Q := by
  refine Y_il3 i_11_16 ?_
  refine Y_al0 i_11_17 ?_
  refine Y_gR i_11_18 ow_11 lf_1_19 (k_66 hG) (r_66_1 hG) ?_
  refine Y_gR i_11_21 ow_11 lf_1_23 (k_21 hG) (r_21_0 hG) ?_
  refine Y_gI (v := (F 27 1)) i_11_24 ow_11 lf_1_38 (by decide) (k_27 hG) rfl ?_
  refine Y_cge i_11_27 (fun e1 => ?_) (fun e1 => ?_)
  · replace h := h.1 e1
    refine Y_al0 i_11_30 ?_
    refine Y_il3 i_11_31 ?_
    exact Y_iv1 (L0 := [.ref 66, .int x3, .null, .null, .null]) i_11_32 ow_11 lm_1_48 ((k_66 hG).trans ow_12.symm) rfl mx_12 rfl rfl hd_11 h
  · replace h := h.2 e1
    refine Y_il1 i_11_54 ?_
    exact Y_iret i_11_55 rt_11 h
theorem k_11_35 {d : Nat} {F A : Nat → Nat → Int32} {J : Nat → Nat → Int64} {G : pG} {Q : pR → pM → Prop} {SL p q : Nat} {x1 x2 x3 r r : Int32} {v4 : Value} (hG : Geo G SL p q) (h : ((x2 < r → X (d + 4) 11 16 [.ref 66, .int x3, .int r, .int (x3 + 1), .int r] [] (F, A, J, G) Q) ∧ (¬ x2 < r → X (d + 4) 11 16 [.ref 66, .int x1, .int x2, .int (x3 + 1), .int r] [] (F, A, J, G) Q))) : KK (d + 4) 11 35 [.ref 66, .int x1, .int x2, .int x3, v4] [] Q (.inl (some (.int r))) (F, A, J, G) := by
  refine KKi ?_
  refine Y_is4 i_11_35 rfl ?_
  refine Y_il4 i_11_37 ?_
  refine Y_il2 i_11_39 ?_
  refine Y_cle i_11_40 (fun e1 => ?_) (fun e1 => ?_)
  · replace h := h.1 e1
    refine Y_il3 i_11_43 ?_
    refine Y_is1 i_11_44 rfl ?_
    refine Y_il4 i_11_45 ?_
    refine Y_is2 i_11_47 rfl ?_
    refine Y_ii3 (v := 1) i_11_48 (by decide) rfl ?_
    refine Y_goto i_11_51 ?_
    exact h
  · replace h := h.2 e1
    refine Y_ii3 (v := 1) i_11_48 (by decide) rfl ?_
    refine Y_goto i_11_51 ?_
    exact h
/- 12 Legs.unlikeTilts(I)I -/
theorem t_12_0 {d : Nat} {F A : Nat → Nat → Int32} {J : Nat → Nat → Int64} {G : pG} {Q : pR → pM → Prop} {SL p q : Nat} {x1 : Int32} (hG : Geo G SL p q) (h : X (d + 3) 12 14 [.ref 66, .int x1, .int 0, .int 0, .null] [] ((wF F 66 3 ((F 66 3) + 1)), A, J, G) Q) : X (d + 3) 12 0 [.ref 66, .int x1, .null, .null, .null] [] (F, A, J, G) Q := by
  refine Y_al0 i_12_0 ?_
  refine Y_dup i_12_1 rfl ?_
  refine Y_gI (v := (F 66 3)) i_12_2 ow_12 lf_1_52 (by decide) (k_66 hG) rfl ?_
  refine Y_iconst (v := 1) i_12_5 (by decide) ?_
  refine Y_iadd i_12_6 ?_
  refine Y_pI i_12_7 ow_12 lf_1_52 (k_66 hG) ?_
  refine Y_iconst (v := 0) i_12_10 (by decide) ?_
  refine Y_is2 i_12_11 rfl ?_
  refine Y_iconst (v := 0) i_12_12 (by decide) ?_
  refine Y_is3 i_12_13 rfl ?_
  exact h
theorem t_12_14 {d : Nat} {F A : Nat → Nat → Int32} {J : Nat → Nat → Int64} {G : pG} {Q : pR → pM → Prop} {SL p q : Nat} {x1 x2 x3 : Int32} {v4 : Value} (hG : Geo G SL p q) (h : ((x3 < (F 27 1) → X (d + 3) 12 32 [.ref 66, .int x1, .int x2, .int x3, .int (-9)] [] (F, A, J, G) Q) ∧ (¬ x3 < (F 27 1) → Q (.inl (some (.int x2))) (F, A, J, G)))) : X (d + 3) 12 14 [.ref 66, .int x1, .int x2, .int x3, v4] [] (F, A, J, G) Q := by
  refine Y_il3 i_12_14 ?_
  refine Y_al0 i_12_15 ?_
  refine Y_gR i_12_16 ow_12 lf_1_19 (k_66 hG) (r_66_1 hG) ?_
  refine Y_gR i_12_19 ow_12 lf_1_23 (k_21 hG) (r_21_0 hG) ?_
  refine Y_gI (v := (F 27 1)) i_12_22 ow_12 lf_1_38 (by decide) (k_27 hG) rfl ?_
  refine Y_cge i_12_25 (fun e1 => ?_) (fun e1 => ?_)
  · replace h := h.1 e1
    refine Y_bipush (v := (-9)) i_12_28 (by decide) ?_
    refine Y_is4 i_12_30 rfl ?_
    exact h
  · replace h := h.2 e1
    refine Y_il2 i_12_84 ?_
    exact Y_iret i_12_85 rt_12 h
theorem t_12_32 {d : Nat} {F A : Nat → Nat → Int32} {J : Nat → Nat → Int64} {G : pG} {Q : pR → pM → Prop} {SL p q : Nat} {x1 x2 x3 x4 : Int32} (hG : Geo G SL p q) (h : ((9 < x4 → X (d + 3) 12 14 [.ref 66, .int x1, .int x2, .int (x3 + 1), .int x4] [] (F, A, J, G) Q) ∧ (¬ 9 < x4 → X (d + 2) 14 0 [.ref 66, .int x3, .int x4] [] (F, A, J, G) (KK (d + 3) 12 46 [.ref 66, .int x1, .int x2, .int x3, .int x4] [] Q)))) : X (d + 3) 12 32 [.ref 66, .int x1, .int x2, .int x3, .int x4] [] (F, A, J, G) Q := by
  refine Y_il4 i_12_32 ?_
  refine Y_bipush (v := 9) i_12_34 (by decide) ?_
  refine Y_cgt i_12_36 (fun e1 => ?_) (fun e1 => ?_)
  · replace h := h.1 e1
    refine Y_ii3 (v := 1) i_12_78 (by decide) rfl ?_
    refine Y_goto i_12_81 ?_
    exact h
  · replace h := h.2 e1
    refine Y_al0 i_12_39 ?_
    refine Y_il3 i_12_40 ?_
    refine Y_il4 i_12_41 ?_
    exact Y_iv2 (L0 := [.ref 66, .int x3, .int x4]) i_12_43 ow_12 lm_1_42 ((k_66 hG).trans ow_14.symm) rfl mx_14 rfl rfl hd_12 h
theorem k_12_46 {d : Nat} {F A : Nat → Nat → Int32} {J : Nat → Nat → Int64} {G : pG} {Q : pR → pM → Prop} {SL p q : Nat} {x1 x2 x3 x4 r r : Int32} (hG : Geo G SL p q) (h : ((r = 0 → X (d + 3) 12 32 [.ref 66, .int x1, .int x2, .int x3, .int (x4 + 1)] [] (F, A, J, G) Q) ∧ (¬ r = 0 → ((x1 < x3 → ((((0 : Int32) + 36) < 0 → X (d + 3) 12 32 [.ref 66, .int x1, .int (x2 + 0), .int x3, .int (x4 + 1)] [] (F, A, J, G) Q) ∧ (¬ ((0 : Int32) + 36) < 0 → ((((0 : Int32) + 36) < 73 → inB ((0 : Int32) + 36) 73 = true ∧ (((A 67 ((0 : Int32) + 36).toNatClampNeg) = (F 66 3) → X (d + 3) 12 32 [.ref 66, .int x1, .int (x2 + 0), .int x3, .int (x4 + 1)] [] (F, A, J, G) Q) ∧ (¬ (A 67 ((0 : Int32) + 36).toNatClampNeg) = (F 66 3) → X (d + 3) 12 32 [.ref 66, .int x1, .int (x2 + 1), .int x3, .int (x4 + 1)] [] (F, (wF A 67 ((0 : Int32) + 36).toNatClampNeg (F 66 3)), J, G) Q))) ∧ (¬ ((0 : Int32) + 36) < 73 → X (d + 3) 12 32 [.ref 66, .int x1, .int (x2 + 0), .int x3, .int (x4 + 1)] [] (F, A, J, G) Q))))) ∧ (¬ x1 < x3 → inB x3 10 = true ∧ inB (A 28 x3.toNatClampNeg) 10 = true ∧ (((((ltm (A 13 (A 28 x3.toNatClampNeg).toNatClampNeg)) * (x4 - (A 31 (A 28 x3.toNatClampNeg).toNatClampNeg))) + 36) < 0 → X (d + 3) 12 32 [.ref 66, .int x1, .int (x2 + 0), .int x3, .int (x4 + 1)] [] (F, A, J, G) Q) ∧ (¬ (((ltm (A 13 (A 28 x3.toNatClampNeg).toNatClampNeg)) * (x4 - (A 31 (A 28 x3.toNatClampNeg).toNatClampNeg))) + 36) < 0 → (((((ltm (A 13 (A 28 x3.toNatClampNeg).toNatClampNeg)) * (x4 - (A 31 (A 28 x3.toNatClampNeg).toNatClampNeg))) + 36) < 73 → inB (((ltm (A 13 (A 28 x3.toNatClampNeg).toNatClampNeg)) * (x4 - (A 31 (A 28 x3.toNatClampNeg).toNatClampNeg))) + 36) 73 = true ∧ (((A 67 (((ltm (A 13 (A 28 x3.toNatClampNeg).toNatClampNeg)) * (x4 - (A 31 (A 28 x3.toNatClampNeg).toNatClampNeg))) + 36).toNatClampNeg) = (F 66 3) → X (d + 3) 12 32 [.ref 66, .int x1, .int (x2 + 0), .int x3, .int (x4 + 1)] [] (F, A, J, G) Q) ∧ (¬ (A 67 (((ltm (A 13 (A 28 x3.toNatClampNeg).toNatClampNeg)) * (x4 - (A 31 (A 28 x3.toNatClampNeg).toNatClampNeg))) + 36).toNatClampNeg) = (F 66 3) → X (d + 3) 12 32 [.ref 66, .int x1, .int (x2 + 1), .int x3, .int (x4 + 1)] [] (F, (wF A 67 (((ltm (A 13 (A 28 x3.toNatClampNeg).toNatClampNeg)) * (x4 - (A 31 (A 28 x3.toNatClampNeg).toNatClampNeg))) + 36).toNatClampNeg (F 66 3)), J, G) Q))) ∧ (¬ (((ltm (A 13 (A 28 x3.toNatClampNeg).toNatClampNeg)) * (x4 - (A 31 (A 28 x3.toNatClampNeg).toNatClampNeg))) + 36) < 73 → X (d + 3) 12 32 [.ref 66, .int x1, .int (x2 + 0), .int x3, .int (x4 + 1)] [] (F, A, J, G) Q))))))))) : KK (d + 3) 12 46 [.ref 66, .int x1, .int x2, .int x3, .int x4] [] Q (.inl (some (.int r))) (F, A, J, G) := by
  refine KKi ?_
  refine Y_zeq i_12_46 (fun e1 => ?_) (fun e1 => ?_)
  · replace h := h.1 e1
    refine Y_ii4 (v := 1) i_12_72 (by decide) rfl ?_
    refine Y_goto i_12_75 ?_
    exact h
  · replace h := h.2 e1
    refine Y_il2 i_12_49 ?_
    refine Y_al0 i_12_50 ?_
    refine Y_il3 i_12_51 ?_
    refine Y_il1 i_12_52 ?_
    refine Y_cgt i_12_53 (fun e2 => ?_) (fun e2 => ?_)
    · replace h := h.1 e2
      refine Y_iconst (v := 0) i_12_66 (by decide) ?_
      refine Y_iv1 (L0 := [.ref 66, .int 0, .null]) i_12_67 ow_12 lm_1_59 ((k_66 hG).trans ow_13.symm) rfl mx_13 rfl rfl hd_12 ?_
      refine Y_il1 i_13_0 ?_
      refine Y_bipush (v := 36) i_13_1 (by decide) ?_
      refine Y_iadd i_13_3 ?_
      refine Y_is2 i_13_4 rfl ?_
      refine Y_il2 i_13_5 ?_
      refine Y_zlt i_13_6 (fun e3 => ?_) (fun e3 => ?_)
      · replace h := h.1 e3
        refine Y_iconst (v := 0) i_13_31 (by decide) ?_
        refine Y_iret i_13_32 rt_13 (KKi ?_)
        refine Y_iadd i_12_70 ?_
        refine Y_is2 i_12_71 rfl ?_
        refine Y_ii4 (v := 1) i_12_72 (by decide) rfl ?_
        refine Y_goto i_12_75 ?_
        exact h
      · replace h := h.2 e3
        refine Y_il2 i_13_9 ?_
        refine Y_al0 i_13_10 ?_
        refine Y_gR i_13_11 ow_13 lf_1_11 (k_66 hG) (r_66_2 hG) ?_
        refine Y_alen (v := 73) i_13_14 (Or.inl (k_67 hG)) (l_67 hG) (by decide) ?_
        refine Y_cge i_13_15 (fun e4 => ?_) (fun e4 => ?_)
        · replace h := h.1 e4
          refine Y_al0 i_13_18 ?_
          refine Y_gR i_13_19 ow_13 lf_1_11 (k_66 hG) (r_66_2 hG) ?_
          refine Y_il2 i_13_22 ?_
          have o5 := h.1
          replace h := h.2
          refine Y_iaload (k := ((0 : Int32) + 36).toNatClampNeg) (v := (A 67 ((0 : Int32) + 36).toNatClampNeg)) i_13_23 (k_67 hG) (l_67 hG) o5 rfl rfl ?_
          refine Y_al0 i_13_24 ?_
          refine Y_gI (v := (F 66 3)) i_13_25 ow_13 lf_1_52 (by decide) (k_66 hG) rfl ?_
          refine Y_cne i_13_28 (fun e6 => ?_) (fun e6 => ?_)
          · replace h := h.1 e6
            refine Y_iconst (v := 0) i_13_31 (by decide) ?_
            refine Y_iret i_13_32 rt_13 (KKi ?_)
            refine Y_iadd i_12_70 ?_
            refine Y_is2 i_12_71 rfl ?_
            refine Y_ii4 (v := 1) i_12_72 (by decide) rfl ?_
            refine Y_goto i_12_75 ?_
            exact h
          · replace h := h.2 e6
            refine Y_al0 i_13_33 ?_
            refine Y_gR i_13_34 ow_13 lf_1_11 (k_66 hG) (r_66_2 hG) ?_
            refine Y_il2 i_13_37 ?_
            refine Y_al0 i_13_38 ?_
            refine Y_gI (v := (F 66 3)) i_13_39 ow_13 lf_1_52 (by decide) (k_66 hG) rfl ?_
            refine Y_iast i_13_42 (k_67 hG) (l_67 hG) o5 rfl ?_
            refine Y_iconst (v := 1) i_13_43 (by decide) ?_
            refine Y_iret i_13_44 rt_13 (KKi ?_)
            refine Y_iadd i_12_70 ?_
            refine Y_is2 i_12_71 rfl ?_
            refine Y_ii4 (v := 1) i_12_72 (by decide) rfl ?_
            refine Y_goto i_12_75 ?_
            exact h
        · replace h := h.2 e4
          refine Y_iconst (v := 0) i_13_31 (by decide) ?_
          refine Y_iret i_13_32 rt_13 (KKi ?_)
          refine Y_iadd i_12_70 ?_
          refine Y_is2 i_12_71 rfl ?_
          refine Y_ii4 (v := 1) i_12_72 (by decide) rfl ?_
          refine Y_goto i_12_75 ?_
          exact h
    · replace h := h.2 e2
      refine Y_al0 i_12_56 ?_
      refine Y_il3 i_12_57 ?_
      refine Y_il4 i_12_58 ?_
      refine Y_iv2 (L0 := [.ref 66, .int x3, .int x4, .null]) i_12_60 ow_12 lm_1_55 ((k_66 hG).trans ow_15.symm) rfl mx_15 rfl rfl hd_12 ?_
      refine Y_al0 i_15_0 ?_
      refine Y_gR i_15_1 ow_15 lf_1_19 (k_66 hG) (r_66_1 hG) ?_
      refine Y_gR i_15_4 ow_15 lf_1_23 (k_21 hG) (r_21_0 hG) ?_
      refine Y_gR i_15_7 ow_15 lf_1_45 (k_27 hG) (r_27_4 hG) ?_
      refine Y_il1 i_15_10 ?_
      have o7 := h.1
      replace h := h.2
      refine Y_iaload (k := x3.toNatClampNeg) (v := (A 28 x3.toNatClampNeg)) i_15_11 (k_28 hG) (l_28 hG) o7 rfl rfl ?_
      refine Y_is3 i_15_12 rfl ?_
      refine Y_al0 i_15_13 ?_
      refine Y_gR i_15_14 ow_15 lf_1_15 (k_66 hG) (r_66_0 hG) ?_
      refine Y_il3 i_15_17 ?_
      have o8 := h.1
      replace h := h.2
      refine Y_iv1 (L0 := [.ref 12, .int (A 28 x3.toNatClampNeg)]) i_15_18 ow_15 lm_1_65 ((k_12 hG).trans ow_102.symm) rfl mx_102 rfl rfl hd_15 ?_
      refine c_102 hG o8 (KKi ?_)
      refine Y_il2 i_15_21 ?_
      refine Y_al0 i_15_22 ?_
      refine Y_gR i_15_23 ow_15 lf_1_19 (k_66 hG) (r_66_1 hG) ?_
      refine Y_gR i_15_26 ow_15 lf_1_23 (k_21 hG) (r_21_0 hG) ?_
      refine Y_gR i_15_29 ow_15 lf_1_62 (k_27 hG) (r_27_7 hG) ?_
      refine Y_il3 i_15_32 ?_
      refine Y_iaload (k := (A 28 x3.toNatClampNeg).toNatClampNeg) (v := (A 31 (A 28 x3.toNatClampNeg).toNatClampNeg)) i_15_33 (k_31 hG) (l_31 hG) o8 rfl rfl ?_
      refine Y_isub i_15_34 ?_
      refine Y_imul i_15_35 ?_
      refine Y_iret i_15_36 rt_15 (KKi ?_)
      refine Y_goto i_12_63 ?_
      refine Y_iv1 (L0 := [.ref 66, .int ((ltm (A 13 (A 28 x3.toNatClampNeg).toNatClampNeg)) * (x4 - (A 31 (A 28 x3.toNatClampNeg).toNatClampNeg))), .null]) i_12_67 ow_12 lm_1_59 ((k_66 hG).trans ow_13.symm) rfl mx_13 rfl rfl hd_12 ?_
      refine Y_il1 i_13_0 ?_
      refine Y_bipush (v := 36) i_13_1 (by decide) ?_
      refine Y_iadd i_13_3 ?_
      refine Y_is2 i_13_4 rfl ?_
      refine Y_il2 i_13_5 ?_
      refine Y_zlt i_13_6 (fun e9 => ?_) (fun e9 => ?_)
      · replace h := h.1 e9
        refine Y_iconst (v := 0) i_13_31 (by decide) ?_
        refine Y_iret i_13_32 rt_13 (KKi ?_)
        refine Y_iadd i_12_70 ?_
        refine Y_is2 i_12_71 rfl ?_
        refine Y_ii4 (v := 1) i_12_72 (by decide) rfl ?_
        refine Y_goto i_12_75 ?_
        exact h
      · replace h := h.2 e9
        refine Y_il2 i_13_9 ?_
        refine Y_al0 i_13_10 ?_
        refine Y_gR i_13_11 ow_13 lf_1_11 (k_66 hG) (r_66_2 hG) ?_
        refine Y_alen (v := 73) i_13_14 (Or.inl (k_67 hG)) (l_67 hG) (by decide) ?_
        refine Y_cge i_13_15 (fun e10 => ?_) (fun e10 => ?_)
        · replace h := h.1 e10
          refine Y_al0 i_13_18 ?_
          refine Y_gR i_13_19 ow_13 lf_1_11 (k_66 hG) (r_66_2 hG) ?_
          refine Y_il2 i_13_22 ?_
          have o11 := h.1
          replace h := h.2
          refine Y_iaload (k := (((ltm (A 13 (A 28 x3.toNatClampNeg).toNatClampNeg)) * (x4 - (A 31 (A 28 x3.toNatClampNeg).toNatClampNeg))) + 36).toNatClampNeg) (v := (A 67 (((ltm (A 13 (A 28 x3.toNatClampNeg).toNatClampNeg)) * (x4 - (A 31 (A 28 x3.toNatClampNeg).toNatClampNeg))) + 36).toNatClampNeg)) i_13_23 (k_67 hG) (l_67 hG) o11 rfl rfl ?_
          refine Y_al0 i_13_24 ?_
          refine Y_gI (v := (F 66 3)) i_13_25 ow_13 lf_1_52 (by decide) (k_66 hG) rfl ?_
          refine Y_cne i_13_28 (fun e12 => ?_) (fun e12 => ?_)
          · replace h := h.1 e12
            refine Y_iconst (v := 0) i_13_31 (by decide) ?_
            refine Y_iret i_13_32 rt_13 (KKi ?_)
            refine Y_iadd i_12_70 ?_
            refine Y_is2 i_12_71 rfl ?_
            refine Y_ii4 (v := 1) i_12_72 (by decide) rfl ?_
            refine Y_goto i_12_75 ?_
            exact h
          · replace h := h.2 e12
            refine Y_al0 i_13_33 ?_
            refine Y_gR i_13_34 ow_13 lf_1_11 (k_66 hG) (r_66_2 hG) ?_
            refine Y_il2 i_13_37 ?_
            refine Y_al0 i_13_38 ?_
            refine Y_gI (v := (F 66 3)) i_13_39 ow_13 lf_1_52 (by decide) (k_66 hG) rfl ?_
            refine Y_iast i_13_42 (k_67 hG) (l_67 hG) o11 rfl ?_
            refine Y_iconst (v := 1) i_13_43 (by decide) ?_
            refine Y_iret i_13_44 rt_13 (KKi ?_)
            refine Y_iadd i_12_70 ?_
            refine Y_is2 i_12_71 rfl ?_
            refine Y_ii4 (v := 1) i_12_72 (by decide) rfl ?_
            refine Y_goto i_12_75 ?_
            exact h
        · replace h := h.2 e10
          refine Y_iconst (v := 0) i_13_31 (by decide) ?_
          refine Y_iret i_13_32 rt_13 (KKi ?_)
          refine Y_iadd i_12_70 ?_
          refine Y_is2 i_12_71 rfl ?_
          refine Y_ii4 (v := 1) i_12_72 (by decide) rfl ?_
          refine Y_goto i_12_75 ?_
          exact h
/- 13 Legs.countOnce(I)I -/
theorem t_13_0 {d : Nat} {F A : Nat → Nat → Int32} {J : Nat → Nat → Int64} {G : pG} {Q : pR → pM → Prop} {SL p q : Nat} {x1 : Int32} (hG : Geo G SL p q) (h : (((x1 + 36) < 0 → Q (.inl (some (.int 0))) (F, A, J, G)) ∧ (¬ (x1 + 36) < 0 → (((x1 + 36) < 73 → inB (x1 + 36) 73 = true ∧ (((A 67 (x1 + 36).toNatClampNeg) = (F 66 3) → Q (.inl (some (.int 0))) (F, A, J, G)) ∧ (¬ (A 67 (x1 + 36).toNatClampNeg) = (F 66 3) → Q (.inl (some (.int 1))) (F, (wF A 67 (x1 + 36).toNatClampNeg (F 66 3)), J, G)))) ∧ (¬ (x1 + 36) < 73 → Q (.inl (some (.int 0))) (F, A, J, G)))))) : X d 13 0 [.ref 66, .int x1, .null] [] (F, A, J, G) Q := by
  refine Y_il1 i_13_0 ?_
  refine Y_bipush (v := 36) i_13_1 (by decide) ?_
  refine Y_iadd i_13_3 ?_
  refine Y_is2 i_13_4 rfl ?_
  refine Y_il2 i_13_5 ?_
  refine Y_zlt i_13_6 (fun e1 => ?_) (fun e1 => ?_)
  · replace h := h.1 e1
    refine Y_iconst (v := 0) i_13_31 (by decide) ?_
    exact Y_iret i_13_32 rt_13 h
  · replace h := h.2 e1
    refine Y_il2 i_13_9 ?_
    refine Y_al0 i_13_10 ?_
    refine Y_gR i_13_11 ow_13 lf_1_11 (k_66 hG) (r_66_2 hG) ?_
    refine Y_alen (v := 73) i_13_14 (Or.inl (k_67 hG)) (l_67 hG) (by decide) ?_
    refine Y_cge i_13_15 (fun e2 => ?_) (fun e2 => ?_)
    · replace h := h.1 e2
      refine Y_al0 i_13_18 ?_
      refine Y_gR i_13_19 ow_13 lf_1_11 (k_66 hG) (r_66_2 hG) ?_
      refine Y_il2 i_13_22 ?_
      have o3 := h.1
      replace h := h.2
      refine Y_iaload (k := (x1 + 36).toNatClampNeg) (v := (A 67 (x1 + 36).toNatClampNeg)) i_13_23 (k_67 hG) (l_67 hG) o3 rfl rfl ?_
      refine Y_al0 i_13_24 ?_
      refine Y_gI (v := (F 66 3)) i_13_25 ow_13 lf_1_52 (by decide) (k_66 hG) rfl ?_
      refine Y_cne i_13_28 (fun e4 => ?_) (fun e4 => ?_)
      · replace h := h.1 e4
        refine Y_iconst (v := 0) i_13_31 (by decide) ?_
        exact Y_iret i_13_32 rt_13 h
      · replace h := h.2 e4
        refine Y_al0 i_13_33 ?_
        refine Y_gR i_13_34 ow_13 lf_1_11 (k_66 hG) (r_66_2 hG) ?_
        refine Y_il2 i_13_37 ?_
        refine Y_al0 i_13_38 ?_
        refine Y_gI (v := (F 66 3)) i_13_39 ow_13 lf_1_52 (by decide) (k_66 hG) rfl ?_
        refine Y_iast i_13_42 (k_67 hG) (l_67 hG) o3 rfl ?_
        refine Y_iconst (v := 1) i_13_43 (by decide) ?_
        exact Y_iret i_13_44 rt_13 h
    · replace h := h.2 e2
      refine Y_iconst (v := 0) i_13_31 (by decide) ?_
      exact Y_iret i_13_32 rt_13 h
/- 14 Legs.mayBe(II)Z -/
theorem t_14_0 {d : Nat} {F A : Nat → Nat → Int32} {J : Nat → Nat → Int64} {G : pG} {Q : pR → pM → Prop} {SL p q : Nat} {x1 x2 : Int32} (hG : Geo G SL p q) (h : inB x1 10 = true ∧ inB (A 28 x1.toNatClampNeg) 10 = true ∧ ((x2 = (A 31 (A 28 x1.toNatClampNeg).toNatClampNeg) → Q (.inl (some (.int 0))) (F, A, J, G)) ∧ (¬ x2 = (A 31 (A 28 x1.toNatClampNeg).toNatClampNeg) → X (d + 1) 16 0 [.ref 66, .int x1, .int ((ltm (A 13 (A 28 x1.toNatClampNeg).toNatClampNeg)) * (x2 - (A 31 (A 28 x1.toNatClampNeg).toNatClampNeg))), .null, .null, .null, .null] [] (F, A, J, G) (KK (d + 2) 14 38 [.ref 66, .int x1, .int x2] [] Q)))) : X (d + 2) 14 0 [.ref 66, .int x1, .int x2] [] (F, A, J, G) Q := by
  refine Y_il2 i_14_0 ?_
  refine Y_al0 i_14_1 ?_
  refine Y_gR i_14_2 ow_14 lf_1_19 (k_66 hG) (r_66_1 hG) ?_
  refine Y_gR i_14_5 ow_14 lf_1_23 (k_21 hG) (r_21_0 hG) ?_
  refine Y_gR i_14_8 ow_14 lf_1_62 (k_27 hG) (r_27_7 hG) ?_
  refine Y_al0 i_14_11 ?_
  refine Y_gR i_14_12 ow_14 lf_1_19 (k_66 hG) (r_66_1 hG) ?_
  refine Y_gR i_14_15 ow_14 lf_1_23 (k_21 hG) (r_21_0 hG) ?_
  refine Y_gR i_14_18 ow_14 lf_1_45 (k_27 hG) (r_27_4 hG) ?_
  refine Y_il1 i_14_21 ?_
  have o1 := h.1
  replace h := h.2
  refine Y_iaload (k := x1.toNatClampNeg) (v := (A 28 x1.toNatClampNeg)) i_14_22 (k_28 hG) (l_28 hG) o1 rfl rfl ?_
  have o2 := h.1
  replace h := h.2
  refine Y_iaload (k := (A 28 x1.toNatClampNeg).toNatClampNeg) (v := (A 31 (A 28 x1.toNatClampNeg).toNatClampNeg)) i_14_23 (k_31 hG) (l_31 hG) o2 rfl rfl ?_
  refine Y_ceq i_14_24 (fun e3 => ?_) (fun e3 => ?_)
  · replace h := h.1 e3
    refine Y_iconst (v := 0) i_14_45 (by decide) ?_
    exact Y_bret i_14_46 rt_14 (by decide) h
  · replace h := h.2 e3
    refine Y_al0 i_14_27 ?_
    refine Y_il1 i_14_28 ?_
    refine Y_al0 i_14_29 ?_
    refine Y_il1 i_14_30 ?_
    refine Y_il2 i_14_31 ?_
    refine Y_iv2 (L0 := [.ref 66, .int x1, .int x2, .null]) i_14_32 ow_14 lm_1_55 ((k_66 hG).trans ow_15.symm) rfl mx_15 rfl rfl hd_14 ?_
    refine Y_al0 i_15_0 ?_
    refine Y_gR i_15_1 ow_15 lf_1_19 (k_66 hG) (r_66_1 hG) ?_
    refine Y_gR i_15_4 ow_15 lf_1_23 (k_21 hG) (r_21_0 hG) ?_
    refine Y_gR i_15_7 ow_15 lf_1_45 (k_27 hG) (r_27_4 hG) ?_
    refine Y_il1 i_15_10 ?_
    refine Y_iaload (k := x1.toNatClampNeg) (v := (A 28 x1.toNatClampNeg)) i_15_11 (k_28 hG) (l_28 hG) o1 rfl rfl ?_
    refine Y_is3 i_15_12 rfl ?_
    refine Y_al0 i_15_13 ?_
    refine Y_gR i_15_14 ow_15 lf_1_15 (k_66 hG) (r_66_0 hG) ?_
    refine Y_il3 i_15_17 ?_
    refine Y_iv1 (L0 := [.ref 12, .int (A 28 x1.toNatClampNeg)]) i_15_18 ow_15 lm_1_65 ((k_12 hG).trans ow_102.symm) rfl mx_102 rfl rfl hd_15 ?_
    refine c_102 hG o2 (KKi ?_)
    refine Y_il2 i_15_21 ?_
    refine Y_al0 i_15_22 ?_
    refine Y_gR i_15_23 ow_15 lf_1_19 (k_66 hG) (r_66_1 hG) ?_
    refine Y_gR i_15_26 ow_15 lf_1_23 (k_21 hG) (r_21_0 hG) ?_
    refine Y_gR i_15_29 ow_15 lf_1_62 (k_27 hG) (r_27_7 hG) ?_
    refine Y_il3 i_15_32 ?_
    refine Y_iaload (k := (A 28 x1.toNatClampNeg).toNatClampNeg) (v := (A 31 (A 28 x1.toNatClampNeg).toNatClampNeg)) i_15_33 (k_31 hG) (l_31 hG) o2 rfl rfl ?_
    refine Y_isub i_15_34 ?_
    refine Y_imul i_15_35 ?_
    refine Y_iret i_15_36 rt_15 (KKi ?_)
    exact Y_iv2 (L0 := [.ref 66, .int x1, .int ((ltm (A 13 (A 28 x1.toNatClampNeg).toNatClampNeg)) * (x2 - (A 31 (A 28 x1.toNatClampNeg).toNatClampNeg))), .null, .null, .null, .null]) i_14_35 ow_14 lm_1_34 ((k_66 hG).trans ow_16.symm) rfl mx_16 rfl rfl hd_14 h
theorem k_14_38 {d : Nat} {F A : Nat → Nat → Int32} {J : Nat → Nat → Int64} {G : pG} {Q : pR → pM → Prop} {SL p q : Nat} {x1 x2 r r : Int32} (hG : Geo G SL p q) (h : ((r = 0 → Q (.inl (some (.int 0))) (F, A, J, G)) ∧ (¬ r = 0 → Q (.inl (some (.int 1))) (F, A, J, G)))) : KK (d + 2) 14 38 [.ref 66, .int x1, .int x2] [] Q (.inl (some (.int r))) (F, A, J, G) := by
  refine KKi ?_
  refine Y_zeq i_14_38 (fun e1 => ?_) (fun e1 => ?_)
  · replace h := h.1 e1
    refine Y_iconst (v := 0) i_14_45 (by decide) ?_
    exact Y_bret i_14_46 rt_14 (by decide) h
  · replace h := h.2 e1
    refine Y_iconst (v := 1) i_14_41 (by decide) ?_
    refine Y_goto i_14_42 ?_
    exact Y_bret i_14_46 rt_14 (by decide) h
/- 15 Legs.shift(II)I -/
theorem t_15_0 {d : Nat} {F A : Nat → Nat → Int32} {J : Nat → Nat → Int64} {G : pG} {Q : pR → pM → Prop} {SL p q : Nat} {x1 x2 : Int32} (hG : Geo G SL p q) (h : inB x1 10 = true ∧ inB (A 28 x1.toNatClampNeg) 10 = true ∧ (Q (.inl (some (.int ((ltm (A 13 (A 28 x1.toNatClampNeg).toNatClampNeg)) * (x2 - (A 31 (A 28 x1.toNatClampNeg).toNatClampNeg)))))) (F, A, J, G))) : X (d + 1) 15 0 [.ref 66, .int x1, .int x2, .null] [] (F, A, J, G) Q := by
  refine Y_al0 i_15_0 ?_
  refine Y_gR i_15_1 ow_15 lf_1_19 (k_66 hG) (r_66_1 hG) ?_
  refine Y_gR i_15_4 ow_15 lf_1_23 (k_21 hG) (r_21_0 hG) ?_
  refine Y_gR i_15_7 ow_15 lf_1_45 (k_27 hG) (r_27_4 hG) ?_
  refine Y_il1 i_15_10 ?_
  have o1 := h.1
  replace h := h.2
  refine Y_iaload (k := x1.toNatClampNeg) (v := (A 28 x1.toNatClampNeg)) i_15_11 (k_28 hG) (l_28 hG) o1 rfl rfl ?_
  refine Y_is3 i_15_12 rfl ?_
  refine Y_al0 i_15_13 ?_
  refine Y_gR i_15_14 ow_15 lf_1_15 (k_66 hG) (r_66_0 hG) ?_
  refine Y_il3 i_15_17 ?_
  have o2 := h.1
  replace h := h.2
  refine Y_iv1 (L0 := [.ref 12, .int (A 28 x1.toNatClampNeg)]) i_15_18 ow_15 lm_1_65 ((k_12 hG).trans ow_102.symm) rfl mx_102 rfl rfl hd_15 ?_
  refine c_102 hG o2 (KKi ?_)
  refine Y_il2 i_15_21 ?_
  refine Y_al0 i_15_22 ?_
  refine Y_gR i_15_23 ow_15 lf_1_19 (k_66 hG) (r_66_1 hG) ?_
  refine Y_gR i_15_26 ow_15 lf_1_23 (k_21 hG) (r_21_0 hG) ?_
  refine Y_gR i_15_29 ow_15 lf_1_62 (k_27 hG) (r_27_7 hG) ?_
  refine Y_il3 i_15_32 ?_
  refine Y_iaload (k := (A 28 x1.toNatClampNeg).toNatClampNeg) (v := (A 31 (A 28 x1.toNatClampNeg).toNatClampNeg)) i_15_33 (k_31 hG) (l_31 hG) o2 rfl rfl ?_
  refine Y_isub i_15_34 ?_
  refine Y_imul i_15_35 ?_
  exact Y_iret i_15_36 rt_15 h
/- 16 Legs.allSo(II)Z -/
theorem t_16_0 {d : Nat} {F A : Nat → Nat → Int32} {J : Nat → Nat → Int64} {G : pG} {Q : pR → pM → Prop} {SL p q : Nat} {x1 x2 : Int32} (hG : Geo G SL p q) (h : X d 16 11 [.ref 66, .int x1, .int x2, .ref 27, .int 0, .null, .null] [] (F, A, J, G) Q) : X d 16 0 [.ref 66, .int x1, .int x2, .null, .null, .null, .null] [] (F, A, J, G) Q := by
  refine Y_al0 i_16_0 ?_
  refine Y_gR i_16_1 ow_16 lf_1_19 (k_66 hG) (r_66_1 hG) ?_
  refine Y_gR i_16_4 ow_16 lf_1_23 (k_21 hG) (r_21_0 hG) ?_
  refine Y_as3 i_16_7 rfl ?_
  refine Y_iconst (v := 0) i_16_8 (by decide) ?_
  refine Y_is4 i_16_9 rfl ?_
  exact h
theorem t_16_11 {d : Nat} {F A : Nat → Nat → Int32} {J : Nat → Nat → Int64} {G : pG} {Q : pR → pM → Prop} {SL p q : Nat} {x1 x2 x4 : Int32} {v5 v6 : Value} (hG : Geo G SL p q) (h : ((x4 < (F 21 2) → inB x4 8 = true ∧ (((A 24 x4.toNatClampNeg) < (F 27 1) → inB (A 24 x4.toNatClampNeg) 10 = true ∧ (((A 24 x4.toNatClampNeg) < x1 → ((((A 34 (A 24 x4.toNatClampNeg).toNatClampNeg) + 0) = (A 25 x4.toNatClampNeg) → X d 16 11 [.ref 66, .int x1, .int x2, .ref 27, .int (x4 + 1), .int (A 24 x4.toNatClampNeg), .int ((A 34 (A 24 x4.toNatClampNeg).toNatClampNeg) + 0)] [] (F, A, J, G) Q) ∧ (¬ ((A 34 (A 24 x4.toNatClampNeg).toNatClampNeg) + 0) = (A 25 x4.toNatClampNeg) → Q (.inl (some (.int 0))) (F, A, J, G)))) ∧ (¬ (A 24 x4.toNatClampNeg) < x1 → ((((A 34 (A 24 x4.toNatClampNeg).toNatClampNeg) + x2) = (A 25 x4.toNatClampNeg) → X d 16 11 [.ref 66, .int x1, .int x2, .ref 27, .int (x4 + 1), .int (A 24 x4.toNatClampNeg), .int ((A 34 (A 24 x4.toNatClampNeg).toNatClampNeg) + x2)] [] (F, A, J, G) Q) ∧ (¬ ((A 34 (A 24 x4.toNatClampNeg).toNatClampNeg) + x2) = (A 25 x4.toNatClampNeg) → Q (.inl (some (.int 0))) (F, A, J, G)))))) ∧ (¬ (A 24 x4.toNatClampNeg) < (F 27 1) → Q (.inl (some (.int 0))) (F, A, J, G)))) ∧ (¬ x4 < (F 21 2) → Q (.inl (some (.int 1))) (F, A, J, G)))) : X d 16 11 [.ref 66, .int x1, .int x2, .ref 27, .int x4, v5, v6] [] (F, A, J, G) Q := by
  refine Y_il4 i_16_11 ?_
  refine Y_al0 i_16_13 ?_
  refine Y_gR i_16_14 ow_16 lf_1_19 (k_66 hG) (r_66_1 hG) ?_
  refine Y_gI (v := (F 21 2)) i_16_17 ow_16 lf_1_70 (by decide) (k_21 hG) rfl ?_
  refine Y_cge i_16_20 (fun e1 => ?_) (fun e1 => ?_)
  · replace h := h.1 e1
    refine Y_al0 i_16_23 ?_
    refine Y_gR i_16_24 ow_16 lf_1_19 (k_66 hG) (r_66_1 hG) ?_
    refine Y_gR i_16_27 ow_16 lf_1_73 (k_21 hG) (r_21_3 hG) ?_
    refine Y_il4 i_16_30 ?_
    have o2 := h.1
    replace h := h.2
    refine Y_iaload (k := x4.toNatClampNeg) (v := (A 24 x4.toNatClampNeg)) i_16_32 (k_24 hG) (l_24 hG) o2 rfl rfl ?_
    refine Y_is5 i_16_33 rfl ?_
    refine Y_il5 i_16_35 ?_
    refine Y_al3 i_16_37 ?_
    refine Y_gI (v := (F 27 1)) i_16_38 ow_16 lf_1_38 (by decide) (k_27 hG) rfl ?_
    refine Y_clt i_16_41 (fun e3 => ?_) (fun e3 => ?_)
    · replace h := h.1 e3
      refine Y_al3 i_16_46 ?_
      refine Y_gR i_16_47 ow_16 lf_1_76 (k_27 hG) (r_27_10 hG) ?_
      refine Y_il5 i_16_50 ?_
      have o4 := h.1
      replace h := h.2
      refine Y_iaload (k := (A 24 x4.toNatClampNeg).toNatClampNeg) (v := (A 34 (A 24 x4.toNatClampNeg).toNatClampNeg)) i_16_52 (k_34 hG) (l_34 hG) o4 rfl rfl ?_
      refine Y_il5 i_16_53 ?_
      refine Y_il1 i_16_55 ?_
      refine Y_clt i_16_56 (fun e5 => ?_) (fun e5 => ?_)
      · replace h := h.1 e5
        refine Y_iconst (v := 0) i_16_63 (by decide) ?_
        refine Y_iadd i_16_64 ?_
        refine Y_is6 i_16_65 rfl ?_
        refine Y_il6 i_16_67 ?_
        refine Y_al0 i_16_69 ?_
        refine Y_gR i_16_70 ow_16 lf_1_19 (k_66 hG) (r_66_1 hG) ?_
        refine Y_gR i_16_73 ow_16 lf_1_79 (k_21 hG) (r_21_4 hG) ?_
        refine Y_il4 i_16_76 ?_
        refine Y_iaload (k := x4.toNatClampNeg) (v := (A 25 x4.toNatClampNeg)) i_16_78 (k_25 hG) (l_25 hG) o2 rfl rfl ?_
        refine Y_ceq i_16_79 (fun e6 => ?_) (fun e6 => ?_)
        · replace h := h.1 e6
          refine Y_ii4 (v := 1) i_16_84 (by decide) rfl ?_
          refine Y_goto i_16_87 ?_
          exact h
        · replace h := h.2 e6
          refine Y_iconst (v := 0) i_16_82 (by decide) ?_
          exact Y_bret i_16_83 rt_16 (by decide) h
      · replace h := h.2 e5
        refine Y_il2 i_16_59 ?_
        refine Y_goto i_16_60 ?_
        refine Y_iadd i_16_64 ?_
        refine Y_is6 i_16_65 rfl ?_
        refine Y_il6 i_16_67 ?_
        refine Y_al0 i_16_69 ?_
        refine Y_gR i_16_70 ow_16 lf_1_19 (k_66 hG) (r_66_1 hG) ?_
        refine Y_gR i_16_73 ow_16 lf_1_79 (k_21 hG) (r_21_4 hG) ?_
        refine Y_il4 i_16_76 ?_
        refine Y_iaload (k := x4.toNatClampNeg) (v := (A 25 x4.toNatClampNeg)) i_16_78 (k_25 hG) (l_25 hG) o2 rfl rfl ?_
        refine Y_ceq i_16_79 (fun e7 => ?_) (fun e7 => ?_)
        · replace h := h.1 e7
          refine Y_ii4 (v := 1) i_16_84 (by decide) rfl ?_
          refine Y_goto i_16_87 ?_
          exact h
        · replace h := h.2 e7
          refine Y_iconst (v := 0) i_16_82 (by decide) ?_
          exact Y_bret i_16_83 rt_16 (by decide) h
    · replace h := h.2 e3
      refine Y_iconst (v := 0) i_16_44 (by decide) ?_
      exact Y_bret i_16_45 rt_16 (by decide) h
  · replace h := h.2 e1
    refine Y_iconst (v := 1) i_16_90 (by decide) ?_
    exact Y_bret i_16_91 rt_16 (by decide) h
/- 18 Piles.findMost()V -/
theorem t_18_0 {d : Nat} {F A : Nat → Nat → Int32} {J : Nat → Nat → Int64} {G : pG} {Q : pR → pM → Prop} {SL p q : Nat} (hG : Geo G SL p q) (h : (((F 21 6) = 0 → Q (.inl none) (F, A, J, G)) ∧ (¬ (F 21 6) = 0 → X (d + 5) 22 0 [.ref 61, .null, .null, .null, .null] [] ((wF F 21 6 0), A, J, G) (KK (d + 6) 18 23 [.ref 61] [] Q)))) : X (d + 6) 18 0 [.ref 61] [] (F, A, J, G) Q := by
  refine Y_al0 i_18_0 ?_
  refine Y_gR i_18_1 ow_18 lf_2_28 (k_61 hG) (r_61_1 hG) ?_
  refine Y_gI (v := (F 21 6)) i_18_4 ow_18 lf_2_32 (by decide) (k_21 hG) rfl ?_
  refine Y_zne i_18_7 (fun e1 => ?_) (fun e1 => ?_)
  · replace h := h.1 e1
    exact Y_vret i_18_10 rt_18 h
  · replace h := h.2 e1
    refine Y_al0 i_18_11 ?_
    refine Y_gR i_18_12 ow_18 lf_2_28 (k_61 hG) (r_61_1 hG) ?_
    refine Y_iconst (v := 0) i_18_15 (by decide) ?_
    refine Y_pB i_18_16 ow_18 lf_2_32 (k_21 hG) (by decide) ?_
    refine Y_al0 i_18_19 ?_
    exact Y_iv0 (L0 := [.ref 61, .null, .null, .null, .null]) i_18_20 ow_18 lm_2_38 ((k_61 hG).trans ow_22.symm) rfl mx_22 rfl rfl hd_18 h
theorem k_18_23 {d : Nat} {F A : Nat → Nat → Int32} {J : Nat → Nat → Int64} {G : pG} {Q : pR → pM → Prop} {SL p q : Nat} (hG : Geo G SL p q) (h : X (d + 5) 20 0 [.ref 61, .null, .null] [] (F, A, J, G) (KK (d + 6) 18 28 [.ref 61] [.ref 61] Q)) : KK (d + 6) 18 23 [.ref 61] [] Q (.inl none) (F, A, J, G) := by
  refine KKv ?_
  refine Y_al0 i_18_23 ?_
  refine Y_al0 i_18_24 ?_
  exact Y_iv0 (L0 := [.ref 61, .null, .null]) i_18_25 ow_18 lm_2_41 ((k_61 hG).trans ow_20.symm) rfl mx_20 rfl rfl hd_18 h
theorem k_18_28 {d : Nat} {F A : Nat → Nat → Int32} {J : Nat → Nat → Int64} {G : pG} {Q : pR → pM → Prop} {SL p q : Nat} {r r : Int32} (hG : Geo G SL p q) (h : X (d + 5) 23 0 [.ref 61, .int r, .int 0, .int 0, .null, .null] [] ((wF F 61 2 r), A, J, G) (KK (d + 6) 18 41 [.ref 61] [] Q)) : KK (d + 6) 18 28 [.ref 61] [.ref 61] Q (.inl (some (.int r))) (F, A, J, G) := by
  refine KKi ?_
  refine Y_pI i_18_28 ow_18 lf_2_45 (k_61 hG) ?_
  refine Y_al0 i_18_31 ?_
  refine Y_al0 i_18_32 ?_
  refine Y_gI (v := r) i_18_33 ow_18 lf_2_45 (by decide) (k_61 hG) (by simp [wF, wJ, va_up, cpR, bF, bA]) ?_
  refine Y_iconst (v := 0) i_18_36 (by decide) ?_
  refine Y_iconst (v := 0) i_18_37 (by decide) ?_
  exact Y_iv3 (L0 := [.ref 61, .int r, .int 0, .int 0, .null, .null]) i_18_38 ow_18 lm_2_49 ((k_61 hG).trans ow_23.symm) rfl mx_23 rfl rfl hd_18 h
theorem k_18_41 {d : Nat} {F A : Nat → Nat → Int32} {J : Nat → Nat → Int64} {G : pG} {Q : pR → pM → Prop} {SL p q : Nat} {r r : Int32} (hG : Geo G SL p q) (h : X (d + 5) 21 0 [.ref 61, .null, .null, .null, .null, .null] [] (F, A, J, G) (KK (d + 6) 18 46 [.ref 61] [] Q)) : KK (d + 6) 18 41 [.ref 61] [] Q (.inl (some (.int r))) (F, A, J, G) := by
  refine KKi ?_
  refine Y_pop i_18_41 rfl ?_
  refine Y_al0 i_18_42 ?_
  exact Y_iv0 (L0 := [.ref 61, .null, .null, .null, .null, .null]) i_18_43 ow_18 lm_2_53 ((k_61 hG).trans ow_21.symm) rfl mx_21 rfl rfl hd_18 h
theorem k_18_46 {d : Nat} {F A : Nat → Nat → Int32} {J : Nat → Nat → Int64} {G : pG} {Q : pR → pM → Prop} {SL p q : Nat} (hG : Geo G SL p q) (h : Q (.inl none) (F, A, J, G)) : KK (d + 6) 18 46 [.ref 61] [] Q (.inl none) (F, A, J, G) := by
  refine KKv ?_
  exact Y_vret i_18_46 rt_18 h
/- 19 Piles.ordersOfTower(II)J -/
theorem t_19_0 {d : Nat} {F A : Nat → Nat → Int32} {J : Nat → Nat → Int64} {G : pG} {Q : pR → pM → Prop} {SL p q : Nat} {x1 x2 : Int32} (hG : Geo G SL p q) (h : X (d + 4) 22 0 [.ref 61, .null, .null, .null, .null] [] (F, A, J, G) (KK (d + 5) 19 4 [.ref 61, .int x1, .int x2] [] Q)) : X (d + 5) 19 0 [.ref 61, .int x1, .int x2] [] (F, A, J, G) Q := by
  refine Y_al0 i_19_0 ?_
  exact Y_iv0 (L0 := [.ref 61, .null, .null, .null, .null]) i_19_1 ow_19 lm_2_38 ((k_61 hG).trans ow_22.symm) rfl mx_22 rfl rfl hd_19 h
theorem k_19_4 {d : Nat} {F A : Nat → Nat → Int32} {J : Nat → Nat → Int64} {G : pG} {Q : pR → pM → Prop} {SL p q : Nat} {x1 x2 : Int32} (hG : Geo G SL p q) (h : hB (F 27 1) = true ∧ (X (d + 4) 23 0 [.ref 61, .int (bitsI (A 28) (F 27 1)), .int x1, .int x2, .null, .null] [] (F, A, J, G) (KK (d + 5) 19 20 [.ref 61, .int x1, .int x2] [] Q))) : KK (d + 5) 19 4 [.ref 61, .int x1, .int x2] [] Q (.inl none) (F, A, J, G) := by
  refine KKv ?_
  refine Y_al0 i_19_4 ?_
  refine Y_al0 i_19_5 ?_
  refine Y_gR i_19_6 ow_19 lf_2_28 (k_61 hG) (r_61_1 hG) ?_
  refine Y_gR i_19_9 ow_19 lf_2_56 (k_21 hG) (r_21_0 hG) ?_
  have o1 := h.1
  replace h := h.2
  refine Y_iv0 (L0 := [.ref 27, .null, .null]) i_19_12 ow_19 lm_2_60 ((k_27 hG).trans ow_78.symm) rfl mx_78 rfl rfl hd_19 ?_
  refine c_78 hG tw_27 o1 (KKi' (v' := (bitsI (A 28) (F 27 1))) (by simp [wF, wJ, va_up, cpR, bF, bA]) ?_)
  refine Y_il1 i_19_15 ?_
  refine Y_il2 i_19_16 ?_
  exact Y_iv3 (L0 := [.ref 61, .int (bitsI (A 28) (F 27 1)), .int x1, .int x2, .null, .null]) i_19_17 ow_19 lm_2_49 ((k_61 hG).trans ow_23.symm) rfl mx_23 rfl rfl hd_19 h
theorem k_19_20 {d : Nat} {F A : Nat → Nat → Int32} {J : Nat → Nat → Int64} {G : pG} {Q : pR → pM → Prop} {SL p q : Nat} {x1 x2 r r : Int32} (hG : Geo G SL p q) (h : Q (.inl (some (.long r.toInt64))) (F, A, J, G)) : KK (d + 5) 19 20 [.ref 61, .int x1, .int x2] [] Q (.inl (some (.int r))) (F, A, J, G) := by
  refine KKi ?_
  refine Y_i2l i_19_20 ?_
  exact Y_lret i_19_21 rt_19 h
/- 20 Piles.greatestSet()I -/
theorem t_20_0 {d : Nat} {F A : Nat → Nat → Int32} {J : Nat → Nat → Int64} {G : pG} {Q : pR → pM → Prop} {SL p q : Nat} (hG : Geo G SL p q) (h : X (d + 5) 20 8 [.ref 61, .int (F 12 0), .null] [] (F, A, J, G) Q) : X (d + 5) 20 0 [.ref 61, .null, .null] [] (F, A, J, G) Q := by
  refine Y_al0 i_20_0 ?_
  refine Y_gR i_20_1 ow_20 lf_2_24 (k_61 hG) (r_61_0 hG) ?_
  refine Y_gI (v := (F 12 0)) i_20_4 ow_20 lf_2_65 (by decide) (k_12 hG) rfl ?_
  refine Y_is1 i_20_7 rfl ?_
  exact h
theorem t_20_8 {d : Nat} {F A : Nat → Nat → Int32} {J : Nat → Nat → Int64} {G : pG} {Q : pR → pM → Prop} {SL p q : Nat} {x1 : Int32} {v2 : Value} (hG : Geo G SL p q) (h : ((0 < x1 → X (d + 5) 20 14 [.ref 61, .int x1, .int 0] [] (F, A, J, G) Q) ∧ (¬ 0 < x1 → Q (.inl (some (.int 0))) (F, A, J, G)))) : X (d + 5) 20 8 [.ref 61, .int x1, v2] [] (F, A, J, G) Q := by
  refine Y_il1 i_20_8 ?_
  refine Y_zle i_20_9 (fun e1 => ?_) (fun e1 => ?_)
  · replace h := h.1 e1
    refine Y_iconst (v := 0) i_20_12 (by decide) ?_
    refine Y_is2 i_20_13 rfl ?_
    exact h
  · replace h := h.2 e1
    refine Y_iconst (v := 0) i_20_57 (by decide) ?_
    exact Y_iret i_20_58 rt_20 h
theorem t_20_14 {d : Nat} {F A : Nat → Nat → Int32} {J : Nat → Nat → Int64} {G : pG} {Q : pR → pM → Prop} {SL p q : Nat} {x1 x2 : Int32} (hG : Geo G SL p q) (h : (((((1 : Int32) <<< ((F 12 0) &&& 31)) - 1) < x2 → X (d + 5) 20 8 [.ref 61, .int (x1 + (-1)), .int x2] [] (F, A, J, G) Q) ∧ (¬ (((1 : Int32) <<< ((F 12 0) &&& 31)) - 1) < x2 → inB x2 1024 = true ∧ (((nI (pcn x2.toNatClampNeg)) = x1 → X (d + 4) 23 0 [.ref 61, .int x2, .int 0, .int 0, .null, .null] [] (F, A, J, G) (KK (d + 5) 20 40 [.ref 61, .int x1, .int x2] [] Q)) ∧ (¬ (nI (pcn x2.toNatClampNeg)) = x1 → X (d + 5) 20 14 [.ref 61, .int x1, .int (x2 + 1)] [] (F, A, J, G) Q))))) : X (d + 5) 20 14 [.ref 61, .int x1, .int x2] [] (F, A, J, G) Q := by
  refine Y_il2 i_20_14 ?_
  refine Y_al0 i_20_15 ?_
  refine Y_gR i_20_16 ow_20 lf_2_24 (k_61 hG) (r_61_0 hG) ?_
  refine Y_iv0 (L0 := [.ref 12]) i_20_19 ow_20 lm_2_70 ((k_12 hG).trans ow_100.symm) rfl mx_100 rfl rfl hd_20 ?_
  refine Y_iconst (v := 1) i_100_0 (by decide) ?_
  refine Y_al0 i_100_1 ?_
  refine Y_gI (v := (F 12 0)) i_100_2 ow_100 lf_7_37 (by decide) (k_12 hG) rfl ?_
  refine Y_ishl i_100_5 ?_
  refine Y_iconst (v := 1) i_100_6 (by decide) ?_
  refine Y_isub i_100_7 ?_
  refine Y_iret i_100_8 rt_100 (KKi ?_)
  refine Y_cgt i_20_22 (fun e1 => ?_) (fun e1 => ?_)
  · replace h := h.1 e1
    refine Y_ii1 (v := (-1)) i_20_51 (by decide) rfl ?_
    refine Y_goto i_20_54 ?_
    exact h
  · replace h := h.2 e1
    refine Y_il2 i_20_25 ?_
    have o2 := h.1
    replace h := h.2
    refine Y_is_1 (L0 := [.int x2]) i_20_26 ow_20 lm_2_73 rfl mx_289 rfl rfl hd_20 ?_
    refine c_289 hG o2 (KKi ?_)
    refine Y_il1 i_20_29 ?_
    refine Y_cne i_20_30 (fun e3 => ?_) (fun e3 => ?_)
    · replace h := h.1 e3
      refine Y_al0 i_20_33 ?_
      refine Y_il2 i_20_34 ?_
      refine Y_iconst (v := 0) i_20_35 (by decide) ?_
      refine Y_iconst (v := 0) i_20_36 (by decide) ?_
      exact Y_iv3 (L0 := [.ref 61, .int x2, .int 0, .int 0, .null, .null]) i_20_37 ow_20 lm_2_49 ((k_61 hG).trans ow_23.symm) rfl mx_23 rfl rfl hd_20 h
    · replace h := h.2 e3
      refine Y_ii2 (v := 1) i_20_45 (by decide) rfl ?_
      refine Y_goto i_20_48 ?_
      exact h
theorem k_20_40 {d : Nat} {F A : Nat → Nat → Int32} {J : Nat → Nat → Int64} {G : pG} {Q : pR → pM → Prop} {SL p q : Nat} {x1 x2 r r : Int32} (hG : Geo G SL p q) (h : ((0 < r → Q (.inl (some (.int x2))) (F, A, J, G)) ∧ (¬ 0 < r → X (d + 5) 20 14 [.ref 61, .int x1, .int (x2 + 1)] [] (F, A, J, G) Q))) : KK (d + 5) 20 40 [.ref 61, .int x1, .int x2] [] Q (.inl (some (.int r))) (F, A, J, G) := by
  refine KKi ?_
  refine Y_zle i_20_40 (fun e1 => ?_) (fun e1 => ?_)
  · replace h := h.1 e1
    refine Y_il2 i_20_43 ?_
    exact Y_iret i_20_44 rt_20 h
  · replace h := h.2 e1
    refine Y_ii2 (v := 1) i_20_45 (by decide) rfl ?_
    refine Y_goto i_20_48 ?_
    exact h
/- 21 Piles.fillRow()V -/
theorem t_21_0 {d : Nat} {F A : Nat → Nat → Int32} {J : Nat → Nat → Int64} {G : pG} {Q : pR → pM → Prop} {SL p q : Nat} (hG : Geo G SL p q) (h : X (d + 3) 21 4 [.ref 61, .int 0, .int 0, .null, .null, .null] [] (F, A, J, G) Q) : X (d + 3) 21 0 [.ref 61, .null, .null, .null, .null, .null] [] (F, A, J, G) Q := by
  refine Y_iconst (v := 0) i_21_0 (by decide) ?_
  refine Y_is1 i_21_1 rfl ?_
  refine Y_iconst (v := 0) i_21_2 (by decide) ?_
  refine Y_is2 i_21_3 rfl ?_
  exact h
theorem t_21_4 {d : Nat} {F A : Nat → Nat → Int32} {J : Nat → Nat → Int64} {G : pG} {Q : pR → pM → Prop} {SL p q : Nat} {x1 x2 : Int32} {v3 v4 v5 : Value} (hG : Geo G SL p q) (h : ((x2 < 10 → ((x1 = (F 61 7) → Q (.inl none) (F, A, J, G)) ∧ (¬ x1 = (F 61 7) → X (d + 3) 21 31 [.ref 61, .int x1, .int x2, .int 0, .int ((F 12 0) - 1), v5] [] (F, A, J, G) Q))) ∧ (¬ x2 < 10 → Q (.inl none) (F, A, J, G)))) : X (d + 3) 21 4 [.ref 61, .int x1, .int x2, v3, v4, v5] [] (F, A, J, G) Q := by
  refine Y_il2 i_21_4 ?_
  refine Y_bipush (v := 10) i_21_5 (by decide) ?_
  refine Y_cge i_21_7 (fun e1 => ?_) (fun e1 => ?_)
  · replace h := h.1 e1
    refine Y_il1 i_21_10 ?_
    refine Y_al0 i_21_11 ?_
    refine Y_gI (v := (F 61 7)) i_21_12 ow_21 lf_2_79 (by decide) (k_61 hG) rfl ?_
    refine Y_ceq i_21_15 (fun e2 => ?_) (fun e2 => ?_)
    · replace h := h.1 e2
      exact Y_vret i_21_106 rt_21 h
    · replace h := h.2 e2
      refine Y_iconst (v := 0) i_21_18 (by decide) ?_
      refine Y_is3 i_21_19 rfl ?_
      refine Y_al0 i_21_20 ?_
      refine Y_gR i_21_21 ow_21 lf_2_24 (k_61 hG) (r_61_0 hG) ?_
      refine Y_gI (v := (F 12 0)) i_21_24 ow_21 lf_2_65 (by decide) (k_12 hG) rfl ?_
      refine Y_iconst (v := 1) i_21_27 (by decide) ?_
      refine Y_isub i_21_28 ?_
      refine Y_is4 i_21_29 rfl ?_
      exact h
  · replace h := h.2 e1
    exact Y_vret i_21_106 rt_21 h
theorem t_21_31 {d : Nat} {F A : Nat → Nat → Int32} {J : Nat → Nat → Int64} {G : pG} {Q : pR → pM → Prop} {SL p q : Nat} {x1 x2 x3 x4 : Int32} {v5 : Value} (hG : Geo G SL p q) (h : ((x4 < 0 → inB x2 10 = true ∧ (X (d + 3) 21 4 [.ref 61, .int (x1 ||| ((1 : Int32) <<< (x3 &&& 31))), .int (x2 + 1), .int x3, .int x4, v5] [] (F, (wF A 62 x2.toNatClampNeg x3), J, G) Q)) ∧ (¬ x4 < 0 → (((((F 61 7) &&& (x1 ^^^ (-1))) &&& ((1 : Int32) <<< (x4 &&& 31))) = 0 → X (d + 3) 21 31 [.ref 61, .int x1, .int x2, .int x3, .int (x4 + (-1)), .int 0] [] (F, A, J, G) Q) ∧ (¬ (((F 61 7) &&& (x1 ^^^ (-1))) &&& ((1 : Int32) <<< (x4 &&& 31))) = 0 → X (d + 2) 25 0 [.ref 61, .int x1, .int x4, .null, .null, .null, .null] [] (F, A, J, G) (KK (d + 3) 21 71 [.ref 61, .int x1, .int x2, .int x3, .int x4, .int 1] [] Q)))))) : X (d + 3) 21 31 [.ref 61, .int x1, .int x2, .int x3, .int x4, v5] [] (F, A, J, G) Q := by
  refine Y_il4 i_21_31 ?_
  refine Y_zlt i_21_33 (fun e1 => ?_) (fun e1 => ?_)
  · replace h := h.1 e1
    refine Y_al0 i_21_87 ?_
    refine Y_gR i_21_88 ow_21 lf_2_9 (k_61 hG) (r_61_3 hG) ?_
    refine Y_il2 i_21_91 ?_
    refine Y_il3 i_21_92 ?_
    have o2 := h.1
    replace h := h.2
    refine Y_iast i_21_93 (k_62 hG) (l_62 hG) o2 rfl ?_
    refine Y_il1 i_21_94 ?_
    refine Y_iconst (v := 1) i_21_95 (by decide) ?_
    refine Y_il3 i_21_96 ?_
    refine Y_ishl i_21_97 ?_
    refine Y_ior i_21_98 ?_
    refine Y_is1 i_21_99 rfl ?_
    refine Y_ii2 (v := 1) i_21_100 (by decide) rfl ?_
    refine Y_goto i_21_103 ?_
    exact h
  · replace h := h.2 e1
    refine Y_al0 i_21_36 ?_
    refine Y_gI (v := (F 61 7)) i_21_37 ow_21 lf_2_79 (by decide) (k_61 hG) rfl ?_
    refine Y_il1 i_21_40 ?_
    refine Y_iconst (v := (-1)) i_21_41 (by decide) ?_
    refine Y_ixor i_21_42 ?_
    refine Y_iand i_21_43 ?_
    refine Y_iconst (v := 1) i_21_44 (by decide) ?_
    refine Y_il4 i_21_45 ?_
    refine Y_ishl i_21_47 ?_
    refine Y_iand i_21_48 ?_
    refine Y_zeq i_21_49 (fun e3 => ?_) (fun e3 => ?_)
    · replace h := h.1 e3
      refine Y_iconst (v := 0) i_21_56 (by decide) ?_
      refine Y_is5 i_21_57 rfl ?_
      refine Y_il5 i_21_59 ?_
      refine Y_zT i_21_61 (by decide) ?_
      refine Y_il3 i_21_79 ?_
      refine Y_is3 i_21_80 rfl ?_
      refine Y_ii4 (v := (-1)) i_21_81 (by decide) rfl ?_
      refine Y_goto i_21_84 ?_
      exact h
    · replace h := h.2 e3
      refine Y_iconst (v := 1) i_21_52 (by decide) ?_
      refine Y_goto i_21_53 ?_
      refine Y_is5 i_21_57 rfl ?_
      refine Y_il5 i_21_59 ?_
      refine Y_zF i_21_61 (by decide) ?_
      refine Y_al0 i_21_64 ?_
      refine Y_il1 i_21_65 ?_
      refine Y_il4 i_21_66 ?_
      exact Y_iv2 (L0 := [.ref 61, .int x1, .int x4, .null, .null, .null, .null]) i_21_68 ow_21 lm_2_82 ((k_61 hG).trans ow_25.symm) rfl mx_25 rfl rfl hd_21 h
theorem k_21_71 {d : Nat} {F A : Nat → Nat → Int32} {J : Nat → Nat → Int64} {G : pG} {Q : pR → pM → Prop} {SL p q : Nat} {x1 x2 x3 x4 x5 r r : Int32} (hG : Geo G SL p q) (h : ((0 < r → X (d + 3) 21 31 [.ref 61, .int x1, .int x2, .int x4, .int (x4 + (-1)), .int x5] [] (F, A, J, G) Q) ∧ (¬ 0 < r → X (d + 3) 21 31 [.ref 61, .int x1, .int x2, .int x3, .int (x4 + (-1)), .int x5] [] (F, A, J, G) Q))) : KK (d + 3) 21 71 [.ref 61, .int x1, .int x2, .int x3, .int x4, .int x5] [] Q (.inl (some (.int r))) (F, A, J, G) := by
  refine KKi ?_
  refine Y_zle i_21_71 (fun e1 => ?_) (fun e1 => ?_)
  · replace h := h.1 e1
    refine Y_il4 i_21_74 ?_
    refine Y_goto i_21_76 ?_
    refine Y_is3 i_21_80 rfl ?_
    refine Y_ii4 (v := (-1)) i_21_81 (by decide) rfl ?_
    refine Y_goto i_21_84 ?_
    exact h
  · replace h := h.2 e1
    refine Y_il3 i_21_79 ?_
    refine Y_is3 i_21_80 rfl ?_
    refine Y_ii4 (v := (-1)) i_21_81 (by decide) rfl ?_
    refine Y_goto i_21_84 ?_
    exact h
/- 22 Piles.weighSets()V -/
theorem t_22_0 {d : Nat} {F A : Nat → Nat → Int32} {J : Nat → Nat → Int64} {G : pG} {Q : pR → pM → Prop} {SL p q : Nat} (hG : Geo G SL p q) (h : X (d + 2) 22 10 [.ref 61, .ref 27, .int 0, .null, .null] [] (F, A, J, G) Q) : X (d + 2) 22 0 [.ref 61, .null, .null, .null, .null] [] (F, A, J, G) Q := by
  refine Y_al0 i_22_0 ?_
  refine Y_gR i_22_1 ow_22 lf_2_28 (k_61 hG) (r_61_1 hG) ?_
  refine Y_gR i_22_4 ow_22 lf_2_56 (k_21 hG) (r_21_0 hG) ?_
  refine Y_as1 i_22_7 rfl ?_
  refine Y_iconst (v := 0) i_22_8 (by decide) ?_
  refine Y_is2 i_22_9 rfl ?_
  exact h
theorem t_22_10 {d : Nat} {F A : Nat → Nat → Int32} {J : Nat → Nat → Int64} {G : pG} {Q : pR → pM → Prop} {SL p q : Nat} {x2 : Int32} {v3 v4 : Value} (hG : Geo G SL p q) (h : ((x2 < (F 12 0) → X (d + 2) 22 28 [.ref 61, .ref 27, .int x2, .int ((1 : Int32) <<< (x2 &&& 31)), .int 0] [] (F, A, J, G) Q) ∧ (¬ x2 < (F 12 0) → Q (.inl none) (F, A, J, G)))) : X (d + 2) 22 10 [.ref 61, .ref 27, .int x2, v3, v4] [] (F, A, J, G) Q := by
  refine Y_il2 i_22_10 ?_
  refine Y_al0 i_22_11 ?_
  refine Y_gR i_22_12 ow_22 lf_2_24 (k_61 hG) (r_61_0 hG) ?_
  refine Y_gI (v := (F 12 0)) i_22_15 ow_22 lf_2_65 (by decide) (k_12 hG) rfl ?_
  refine Y_cge i_22_18 (fun e1 => ?_) (fun e1 => ?_)
  · replace h := h.1 e1
    refine Y_iconst (v := 1) i_22_21 (by decide) ?_
    refine Y_il2 i_22_22 ?_
    refine Y_ishl i_22_23 ?_
    refine Y_is3 i_22_24 rfl ?_
    refine Y_iconst (v := 0) i_22_25 (by decide) ?_
    refine Y_is4 i_22_26 rfl ?_
    exact h
  · replace h := h.2 e1
    exact Y_vret i_22_101 rt_22 h
theorem t_22_28 {d : Nat} {F A : Nat → Nat → Int32} {J : Nat → Nat → Int64} {G : pG} {Q : pR → pM → Prop} {SL p q : Nat} {x2 x3 x4 : Int32} (hG : Geo G SL p q) (h : ((x4 < x3 → inB x4 1024 = true ∧ inB x2 10 = true ∧ inB (x4 ||| x3) 1024 = true ∧ (X (d + 2) 22 28 [.ref 61, .ref 27, .int x2, .int x3, .int (x4 + 1)] [] (F, (wF (wF A 63 (x4 ||| x3).toNatClampNeg (((A 63 x4.toNatClampNeg) + (A 14 x2.toNatClampNeg)) + (A 29 x2.toNatClampNeg))) 64 (x4 ||| x3).toNatClampNeg ((A 64 x4.toNatClampNeg) + (lnS (A 13 x2.toNatClampNeg) (A 31 x2.toNatClampNeg) (A 30 x2.toNatClampNeg)))), J, G) Q)) ∧ (¬ x4 < x3 → X (d + 2) 22 10 [.ref 61, .ref 27, .int (x2 + 1), .int x3, .int x4] [] (F, A, J, G) Q))) : X (d + 2) 22 28 [.ref 61, .ref 27, .int x2, .int x3, .int x4] [] (F, A, J, G) Q := by
  refine Y_il4 i_22_28 ?_
  refine Y_il3 i_22_30 ?_
  refine Y_cge i_22_31 (fun e1 => ?_) (fun e1 => ?_)
  · replace h := h.1 e1
    refine Y_al0 i_22_34 ?_
    refine Y_gR i_22_35 ow_22 lf_2_15 (k_61 hG) (r_61_4 hG) ?_
    refine Y_il4 i_22_38 ?_
    refine Y_il3 i_22_40 ?_
    refine Y_ior i_22_41 ?_
    refine Y_al0 i_22_42 ?_
    refine Y_gR i_22_43 ow_22 lf_2_15 (k_61 hG) (r_61_4 hG) ?_
    refine Y_il4 i_22_46 ?_
    have o2 := h.1
    replace h := h.2
    refine Y_iaload (k := x4.toNatClampNeg) (v := (A 63 x4.toNatClampNeg)) i_22_48 (k_63 hG) (l_63 hG) o2 rfl rfl ?_
    refine Y_al0 i_22_49 ?_
    refine Y_gR i_22_50 ow_22 lf_2_24 (k_61 hG) (r_61_0 hG) ?_
    refine Y_gR i_22_53 ow_22 lf_2_86 (k_12 hG) (r_12_4 hG) ?_
    refine Y_il2 i_22_56 ?_
    have o3 := h.1
    replace h := h.2
    refine Y_iaload (k := x2.toNatClampNeg) (v := (A 14 x2.toNatClampNeg)) i_22_57 (k_14 hG) (l_14 hG) o3 rfl rfl ?_
    refine Y_iadd i_22_58 ?_
    refine Y_al1 i_22_59 ?_
    refine Y_gR i_22_60 ow_22 lf_2_89 (k_27 hG) (r_27_5 hG) ?_
    refine Y_il2 i_22_63 ?_
    refine Y_iaload (k := x2.toNatClampNeg) (v := (A 29 x2.toNatClampNeg)) i_22_64 (k_29 hG) (l_29 hG) o3 rfl rfl ?_
    refine Y_iadd i_22_65 ?_
    have o4 := h.1
    replace h := h.2
    refine Y_iast i_22_66 (k_63 hG) (l_63 hG) o4 rfl ?_
    refine Y_al0 i_22_67 ?_
    refine Y_gR i_22_68 ow_22 lf_2_18 (k_61 hG) (r_61_5 hG) ?_
    refine Y_il4 i_22_71 ?_
    refine Y_il3 i_22_73 ?_
    refine Y_ior i_22_74 ?_
    refine Y_al0 i_22_75 ?_
    refine Y_gR i_22_76 ow_22 lf_2_18 (k_61 hG) (r_61_5 hG) ?_
    refine Y_il4 i_22_79 ?_
    refine Y_iaload (k := x4.toNatClampNeg) (v := (A 64 x4.toNatClampNeg)) i_22_81 (k_64 hG) (l_64 hG) o2 rfl (by simp [wF, wJ, va_up, cpR, bF, bA]) ?_
    refine Y_al1 i_22_82 ?_
    refine Y_il2 i_22_83 ?_
    refine Y_iv1 (L0 := [.ref 27, .int x2]) i_22_84 ow_22 lm_2_92 ((k_27 hG).trans ow_83.symm) rfl mx_83 rfl rfl hd_22 ?_
    refine c_83 hG tw_27 o3 (KKi' (v' := (lnS (A 13 x2.toNatClampNeg) (A 31 x2.toNatClampNeg) (A 30 x2.toNatClampNeg))) (by simp [wF, wJ, va_up, cpR, bF, bA]) ?_)
    refine Y_iadd i_22_87 ?_
    refine Y_iast i_22_88 (k_64 hG) (l_64 hG) o4 rfl ?_
    refine Y_ii4 (v := 1) i_22_89 (by decide) rfl ?_
    refine Y_goto i_22_92 ?_
    exact h
  · replace h := h.2 e1
    refine Y_ii2 (v := 1) i_22_95 (by decide) rfl ?_
    refine Y_goto i_22_98 ?_
    exact h
/- 23 Piles.ordersOf(III)I -/
theorem t_23_0 {d : Nat} {F A : Nat → Nat → Int32} {J : Nat → Nat → Int64} {G : pG} {Q : pR → pM → Prop} {SL p q : Nat} {x1 x2 x3 : Int32} (hG : Geo G SL p q) (h : inB x1 1024 = true ∧ (((limB (F 12 1) (A 64 x1.toNatClampNeg)) = true → X (d + 4) 23 55 [.ref 61, .int x1, .int x2, .int x3, .int x1, .int 0] [] ((wF (wF (wF F 61 7 x1) 61 8 x2) 61 9 x3), (wF A 65 x1.toNatClampNeg 1), J, G) Q) ∧ ((limB (F 12 1) (A 64 x1.toNatClampNeg)) = false → Q (.inl (some (.int 0))) ((wF (wF (wF F 61 7 x1) 61 8 x2) 61 9 x3), (wF A 65 x1.toNatClampNeg 1), J, G)))) : X (d + 4) 23 0 [.ref 61, .int x1, .int x2, .int x3, .null, .null] [] (F, A, J, G) Q := by
  refine Y_al0 i_23_0 ?_
  refine Y_il1 i_23_1 ?_
  refine Y_pI i_23_2 ow_23 lf_2_79 (k_61 hG) ?_
  refine Y_al0 i_23_5 ?_
  refine Y_il2 i_23_6 ?_
  refine Y_pI i_23_7 ow_23 lf_2_95 (k_61 hG) ?_
  refine Y_al0 i_23_10 ?_
  refine Y_il3 i_23_11 ?_
  refine Y_pI i_23_12 ow_23 lf_2_98 (k_61 hG) ?_
  refine Y_al0 i_23_15 ?_
  refine Y_gR i_23_16 ow_23 lf_2_21 (k_61 hG) (r_61_6 hG) ?_
  refine Y_al0 i_23_19 ?_
  refine Y_gI (v := x1) i_23_20 ow_23 lf_2_79 (by decide) (k_61 hG) (by simp [wF, wJ, va_up, cpR, bF, bA]) ?_
  refine Y_iconst (v := 1) i_23_23 (by decide) ?_
  have o1 := h.1
  replace h := h.2
  refine Y_iast i_23_24 (k_65 hG) (l_65 hG) o1 rfl ?_
  refine Y_al0 i_23_25 ?_
  refine Y_gR i_23_26 ow_23 lf_2_24 (k_61 hG) (r_61_0 hG) ?_
  refine Y_al0 i_23_29 ?_
  refine Y_gR i_23_30 ow_23 lf_2_18 (k_61 hG) (r_61_5 hG) ?_
  refine Y_al0 i_23_33 ?_
  refine Y_gI (v := x1) i_23_34 ow_23 lf_2_79 (by decide) (k_61 hG) (by simp [wF, wJ, va_up, cpR, bF, bA]) ?_
  refine Y_iaload (k := x1.toNatClampNeg) (v := (A 64 x1.toNatClampNeg)) i_23_37 (k_64 hG) (l_64 hG) o1 rfl (by simp [wF, wJ, va_up, cpR, bF, bA]) ?_
  refine Y_iv1 (L0 := [.ref 12, .int (A 64 x1.toNatClampNeg)]) i_23_38 ow_23 lm_2_101 ((k_12 hG).trans ow_103.symm) rfl mx_103 rfl rfl hd_23 ?_
  refine c_103 hG (KKi' (v' := (bI (limB (F 12 1) (A 64 x1.toNatClampNeg)))) (by simp [wF, wJ, va_up, cpR, bF, bA]) ?_)
  refine Y_bne i_23_41 (fun e2 => ?_) (fun e2 => ?_)
  · replace h := h.1 e2
    refine Y_al0 i_23_46 ?_
    refine Y_gI (v := x1) i_23_47 ow_23 lf_2_79 (by decide) (k_61 hG) (by simp [wF, wJ, va_up, cpR, bF, bA]) ?_
    refine Y_is4 i_23_50 rfl ?_
    refine Y_iconst (v := 0) i_23_52 (by decide) ?_
    refine Y_is5 i_23_53 rfl ?_
    exact h
  · replace h := h.2 e2
    refine Y_iconst (v := 0) i_23_44 (by decide) ?_
    exact Y_iret i_23_45 rt_23 h
theorem t_23_55 {d : Nat} {F A : Nat → Nat → Int32} {J : Nat → Nat → Int64} {G : pG} {Q : pR → pM → Prop} {SL p q : Nat} {x1 x2 x3 x4 x5 : Int32} (hG : Geo G SL p q) (h : ((x5 < 1024 → ((0 < x4 → X (d + 3) 24 0 [.ref 61, .int ((x4 - 1) &&& (F 61 7)), .null, .null, .null] [] (F, A, J, G) (KK (d + 4) 23 91 [.ref 61, .int x1, .int x2, .int x3, .int ((x4 - 1) &&& (F 61 7)), .int x5] [.int ((x4 - 1) &&& (F 61 7)), .ref 65] Q)) ∧ (¬ 0 < x4 → Q (.inl (some (.int (A 65 0)))) (F, A, J, G)))) ∧ (¬ x5 < 1024 → Q (.inl (some (.int (A 65 0)))) (F, A, J, G)))) : X (d + 4) 23 55 [.ref 61, .int x1, .int x2, .int x3, .int x4, .int x5] [] (F, A, J, G) Q := by
  refine Y_il5 i_23_55 ?_
  refine Y_sipush (v := 1024) i_23_57 (by decide) ?_
  refine Y_cge i_23_60 (fun e1 => ?_) (fun e1 => ?_)
  · replace h := h.1 e1
    refine Y_il4 i_23_63 ?_
    refine Y_zle i_23_65 (fun e2 => ?_) (fun e2 => ?_)
    · replace h := h.1 e2
      refine Y_il4 i_23_68 ?_
      refine Y_iconst (v := 1) i_23_70 (by decide) ?_
      refine Y_isub i_23_71 ?_
      refine Y_al0 i_23_72 ?_
      refine Y_gI (v := (F 61 7)) i_23_73 ow_23 lf_2_79 (by decide) (k_61 hG) rfl ?_
      refine Y_iand i_23_76 ?_
      refine Y_is4 i_23_77 rfl ?_
      refine Y_al0 i_23_79 ?_
      refine Y_gR i_23_80 ow_23 lf_2_21 (k_61 hG) (r_61_6 hG) ?_
      refine Y_il4 i_23_83 ?_
      refine Y_al0 i_23_85 ?_
      refine Y_il4 i_23_86 ?_
      exact Y_iv1 (L0 := [.ref 61, .int ((x4 - 1) &&& (F 61 7)), .null, .null, .null]) i_23_88 ow_23 lm_2_105 ((k_61 hG).trans ow_24.symm) rfl mx_24 rfl rfl hd_23 h
    · replace h := h.2 e2
      refine Y_al0 i_23_98 ?_
      refine Y_gR i_23_99 ow_23 lf_2_21 (k_61 hG) (r_61_6 hG) ?_
      refine Y_iconst (v := 0) i_23_102 (by decide) ?_
      refine Y_iaload (k := 0) (v := (A 65 0)) i_23_103 (k_65 hG) (l_65 hG) (by decide) (by decide) rfl ?_
      exact Y_iret i_23_104 rt_23 h
  · replace h := h.2 e1
    refine Y_al0 i_23_98 ?_
    refine Y_gR i_23_99 ow_23 lf_2_21 (k_61 hG) (r_61_6 hG) ?_
    refine Y_iconst (v := 0) i_23_102 (by decide) ?_
    refine Y_iaload (k := 0) (v := (A 65 0)) i_23_103 (k_65 hG) (l_65 hG) (by decide) (by decide) rfl ?_
    exact Y_iret i_23_104 rt_23 h
theorem k_23_91 {d : Nat} {F A : Nat → Nat → Int32} {J : Nat → Nat → Int64} {G : pG} {Q : pR → pM → Prop} {SL p q : Nat} {x1 x2 x3 x4 x5 r s0 r : Int32} (hG : Geo G SL p q) (h : inB s0 1024 = true ∧ (X (d + 4) 23 55 [.ref 61, .int x1, .int x2, .int x3, .int x4, .int (x5 + 1)] [] (F, (wF A 65 s0.toNatClampNeg r), J, G) Q)) : KK (d + 4) 23 91 [.ref 61, .int x1, .int x2, .int x3, .int x4, .int x5] [.int s0, .ref 65] Q (.inl (some (.int r))) (F, A, J, G) := by
  refine KKi ?_
  have o1 := h.1
  replace h := h.2
  refine Y_iast i_23_91 (k_65 hG) (l_65 hG) o1 rfl ?_
  refine Y_ii5 (v := 1) i_23_92 (by decide) rfl ?_
  refine Y_goto i_23_95 ?_
  exact h
/- 24 Piles.waysUpon(I)I -/
theorem t_24_0 {d : Nat} {F A : Nat → Nat → Int32} {J : Nat → Nat → Int64} {G : pG} {Q : pR → pM → Prop} {SL p q : Nat} {x1 : Int32} (hG : Geo G SL p q) (h : X (d + 3) 24 14 [.ref 61, .int x1, .int 0, .int ((F 61 7) &&& (x1 ^^^ (-1))), .int 0] [] (F, A, J, G) Q) : X (d + 3) 24 0 [.ref 61, .int x1, .null, .null, .null] [] (F, A, J, G) Q := by
  refine Y_iconst (v := 0) i_24_0 (by decide) ?_
  refine Y_is2 i_24_1 rfl ?_
  refine Y_al0 i_24_2 ?_
  refine Y_gI (v := (F 61 7)) i_24_3 ow_24 lf_2_79 (by decide) (k_61 hG) rfl ?_
  refine Y_il1 i_24_6 ?_
  refine Y_iconst (v := (-1)) i_24_7 (by decide) ?_
  refine Y_ixor i_24_8 ?_
  refine Y_iand i_24_9 ?_
  refine Y_is3 i_24_10 rfl ?_
  refine Y_iconst (v := 0) i_24_11 (by decide) ?_
  refine Y_is4 i_24_12 rfl ?_
  exact h
theorem t_24_14 {d : Nat} {F A : Nat → Nat → Int32} {J : Nat → Nat → Int64} {G : pG} {Q : pR → pM → Prop} {SL p q : Nat} {x1 x2 x3 x4 : Int32} (hG : Geo G SL p q) (h : ((x4 < (F 12 0) → ((((x3 >>> (x4 &&& 31)) &&& 1) = 0 → X (d + 3) 24 14 [.ref 61, .int x1, .int x2, .int x3, .int (x4 + 1)] [] (F, A, J, G) Q) ∧ (¬ ((x3 >>> (x4 &&& 31)) &&& 1) = 0 → X (d + 2) 25 0 [.ref 61, .int x1, .int x4, .null, .null, .null, .null] [] (F, A, J, G) (KK (d + 3) 24 43 [.ref 61, .int x1, .int x2, .int x3, .int x4] [.int x2] Q)))) ∧ (¬ x4 < (F 12 0) → Q (.inl (some (.int x2))) (F, A, J, G)))) : X (d + 3) 24 14 [.ref 61, .int x1, .int x2, .int x3, .int x4] [] (F, A, J, G) Q := by
  refine Y_il4 i_24_14 ?_
  refine Y_al0 i_24_16 ?_
  refine Y_gR i_24_17 ow_24 lf_2_24 (k_61 hG) (r_61_0 hG) ?_
  refine Y_gI (v := (F 12 0)) i_24_20 ow_24 lf_2_65 (by decide) (k_12 hG) rfl ?_
  refine Y_cge i_24_23 (fun e1 => ?_) (fun e1 => ?_)
  · replace h := h.1 e1
    refine Y_il3 i_24_26 ?_
    refine Y_il4 i_24_27 ?_
    refine Y_ishr i_24_29 ?_
    refine Y_iconst (v := 1) i_24_30 (by decide) ?_
    refine Y_iand i_24_31 ?_
    refine Y_zeq i_24_32 (fun e2 => ?_) (fun e2 => ?_)
    · replace h := h.1 e2
      refine Y_ii4 (v := 1) i_24_45 (by decide) rfl ?_
      refine Y_goto i_24_48 ?_
      exact h
    · replace h := h.2 e2
      refine Y_il2 i_24_35 ?_
      refine Y_al0 i_24_36 ?_
      refine Y_il1 i_24_37 ?_
      refine Y_il4 i_24_38 ?_
      exact Y_iv2 (L0 := [.ref 61, .int x1, .int x4, .null, .null, .null, .null]) i_24_40 ow_24 lm_2_82 ((k_61 hG).trans ow_25.symm) rfl mx_25 rfl rfl hd_24 h
  · replace h := h.2 e1
    refine Y_il2 i_24_51 ?_
    exact Y_iret i_24_52 rt_24 h
theorem k_24_43 {d : Nat} {F A : Nat → Nat → Int32} {J : Nat → Nat → Int64} {G : pG} {Q : pR → pM → Prop} {SL p q : Nat} {x1 x2 x3 x4 r s0 r : Int32} (hG : Geo G SL p q) (h : X (d + 3) 24 14 [.ref 61, .int x1, .int (s0 + r), .int x3, .int (x4 + 1)] [] (F, A, J, G) Q) : KK (d + 3) 24 43 [.ref 61, .int x1, .int x2, .int x3, .int x4] [.int s0] Q (.inl (some (.int r))) (F, A, J, G) := by
  refine KKi ?_
  refine Y_iadd i_24_43 ?_
  refine Y_is2 i_24_44 rfl ?_
  refine Y_ii4 (v := 1) i_24_45 (by decide) rfl ?_
  refine Y_goto i_24_48 ?_
  exact h
/- 25 Piles.waysWith(II)I -/
theorem t_25_0 {d : Nat} {F A : Nat → Nat → Int32} {J : Nat → Nat → Int64} {G : pG} {Q : pR → pM → Prop} {SL p q : Nat} {x1 x2 : Int32} (hG : Geo G SL p q) (h : inB (x1 ||| ((1 : Int32) <<< (x2 &&& 31))) 1024 = true ∧ (((A 65 (x1 ||| ((1 : Int32) <<< (x2 &&& 31))).toNatClampNeg) = 0 → Q (.inl (some (.int 0))) (F, A, J, G)) ∧ (¬ (A 65 (x1 ||| ((1 : Int32) <<< (x2 &&& 31))).toNatClampNeg) = 0 → (((limB (F 12 1) (A 64 (x1 ||| ((1 : Int32) <<< (x2 &&& 31))).toNatClampNeg)) = true → ((((F 61 8) &&& ((1 : Int32) <<< (x2 &&& 31))) = 0 → inB ((F 61 7) &&& ((x1 ||| ((1 : Int32) <<< (x2 &&& 31))) ^^^ (-1))) 1024 = true ∧ inB x2 10 = true ∧ ((((F 61 7) &&& ((x1 ||| ((1 : Int32) <<< (x2 &&& 31))) ^^^ (-1))) = 0 → (((carS (A 13 x2.toNatClampNeg) (A 15 x2.toNatClampNeg) (F 27 2) 1) < ((A 63 ((F 61 7) &&& ((x1 ||| ((1 : Int32) <<< (x2 &&& 31))) ^^^ (-1))).toNatClampNeg) + (A 29 x2.toNatClampNeg)) → Q (.inl (some (.int 0))) (F, A, J, G)) ∧ (¬ (carS (A 13 x2.toNatClampNeg) (A 15 x2.toNatClampNeg) (F 27 2) 1) < ((A 63 ((F 61 7) &&& ((x1 ||| ((1 : Int32) <<< (x2 &&& 31))) ^^^ (-1))).toNatClampNeg) + (A 29 x2.toNatClampNeg)) → Q (.inl (some (.int (A 65 (x1 ||| ((1 : Int32) <<< (x2 &&& 31))).toNatClampNeg)))) (F, A, J, G)))) ∧ (¬ ((F 61 7) &&& ((x1 ||| ((1 : Int32) <<< (x2 &&& 31))) ^^^ (-1))) = 0 → (((carS (A 13 x2.toNatClampNeg) (A 15 x2.toNatClampNeg) (F 27 2) 0) < ((A 63 ((F 61 7) &&& ((x1 ||| ((1 : Int32) <<< (x2 &&& 31))) ^^^ (-1))).toNatClampNeg) + (A 29 x2.toNatClampNeg)) → Q (.inl (some (.int 0))) (F, A, J, G)) ∧ (¬ (carS (A 13 x2.toNatClampNeg) (A 15 x2.toNatClampNeg) (F 27 2) 0) < ((A 63 ((F 61 7) &&& ((x1 ||| ((1 : Int32) <<< (x2 &&& 31))) ^^^ (-1))).toNatClampNeg) + (A 29 x2.toNatClampNeg)) → Q (.inl (some (.int (A 65 (x1 ||| ((1 : Int32) <<< (x2 &&& 31))).toNatClampNeg)))) (F, A, J, G)))))) ∧ (¬ ((F 61 8) &&& ((1 : Int32) <<< (x2 &&& 31))) = 0 → inB x1 1024 = true ∧ (((nI (pcn x1.toNatClampNeg)) < (F 61 9) → Q (.inl (some (.int 0))) (F, A, J, G)) ∧ (¬ (nI (pcn x1.toNatClampNeg)) < (F 61 9) → inB ((F 61 7) &&& ((x1 ||| ((1 : Int32) <<< (x2 &&& 31))) ^^^ (-1))) 1024 = true ∧ inB x2 10 = true ∧ ((((F 61 7) &&& ((x1 ||| ((1 : Int32) <<< (x2 &&& 31))) ^^^ (-1))) = 0 → (((carS (A 13 x2.toNatClampNeg) (A 15 x2.toNatClampNeg) (F 27 2) 1) < ((A 63 ((F 61 7) &&& ((x1 ||| ((1 : Int32) <<< (x2 &&& 31))) ^^^ (-1))).toNatClampNeg) + (A 29 x2.toNatClampNeg)) → Q (.inl (some (.int 0))) (F, A, J, G)) ∧ (¬ (carS (A 13 x2.toNatClampNeg) (A 15 x2.toNatClampNeg) (F 27 2) 1) < ((A 63 ((F 61 7) &&& ((x1 ||| ((1 : Int32) <<< (x2 &&& 31))) ^^^ (-1))).toNatClampNeg) + (A 29 x2.toNatClampNeg)) → Q (.inl (some (.int (A 65 (x1 ||| ((1 : Int32) <<< (x2 &&& 31))).toNatClampNeg)))) (F, A, J, G)))) ∧ (¬ ((F 61 7) &&& ((x1 ||| ((1 : Int32) <<< (x2 &&& 31))) ^^^ (-1))) = 0 → (((carS (A 13 x2.toNatClampNeg) (A 15 x2.toNatClampNeg) (F 27 2) 0) < ((A 63 ((F 61 7) &&& ((x1 ||| ((1 : Int32) <<< (x2 &&& 31))) ^^^ (-1))).toNatClampNeg) + (A 29 x2.toNatClampNeg)) → Q (.inl (some (.int 0))) (F, A, J, G)) ∧ (¬ (carS (A 13 x2.toNatClampNeg) (A 15 x2.toNatClampNeg) (F 27 2) 0) < ((A 63 ((F 61 7) &&& ((x1 ||| ((1 : Int32) <<< (x2 &&& 31))) ^^^ (-1))).toNatClampNeg) + (A 29 x2.toNatClampNeg)) → Q (.inl (some (.int (A 65 (x1 ||| ((1 : Int32) <<< (x2 &&& 31))).toNatClampNeg)))) (F, A, J, G)))))))))) ∧ ((limB (F 12 1) (A 64 (x1 ||| ((1 : Int32) <<< (x2 &&& 31))).toNatClampNeg)) = false → Q (.inl (some (.int 0))) (F, A, J, G)))))) : X (d + 2) 25 0 [.ref 61, .int x1, .int x2, .null, .null, .null, .null] [] (F, A, J, G) Q := by
  refine Y_iconst (v := 1) i_25_0 (by decide) ?_
  refine Y_il2 i_25_1 ?_
  refine Y_ishl i_25_2 ?_
  refine Y_is3 i_25_3 rfl ?_
  refine Y_il1 i_25_4 ?_
  refine Y_il3 i_25_5 ?_
  refine Y_ior i_25_6 ?_
  refine Y_is4 i_25_7 rfl ?_
  refine Y_al0 i_25_9 ?_
  refine Y_gR i_25_10 ow_25 lf_2_21 (k_61 hG) (r_61_6 hG) ?_
  refine Y_il4 i_25_13 ?_
  have o1 := h.1
  replace h := h.2
  refine Y_iaload (k := (x1 ||| ((1 : Int32) <<< (x2 &&& 31))).toNatClampNeg) (v := (A 65 (x1 ||| ((1 : Int32) <<< (x2 &&& 31))).toNatClampNeg)) i_25_15 (k_65 hG) (l_65 hG) o1 rfl rfl ?_
  refine Y_zeq i_25_16 (fun e2 => ?_) (fun e2 => ?_)
  · replace h := h.1 e2
    refine Y_iconst (v := 0) i_25_36 (by decide) ?_
    exact Y_iret i_25_37 rt_25 h
  · replace h := h.2 e2
    refine Y_al0 i_25_19 ?_
    refine Y_gR i_25_20 ow_25 lf_2_24 (k_61 hG) (r_61_0 hG) ?_
    refine Y_al0 i_25_23 ?_
    refine Y_gR i_25_24 ow_25 lf_2_18 (k_61 hG) (r_61_5 hG) ?_
    refine Y_il4 i_25_27 ?_
    refine Y_iaload (k := (x1 ||| ((1 : Int32) <<< (x2 &&& 31))).toNatClampNeg) (v := (A 64 (x1 ||| ((1 : Int32) <<< (x2 &&& 31))).toNatClampNeg)) i_25_29 (k_64 hG) (l_64 hG) o1 rfl rfl ?_
    refine Y_iv1 (L0 := [.ref 12, .int (A 64 (x1 ||| ((1 : Int32) <<< (x2 &&& 31))).toNatClampNeg)]) i_25_30 ow_25 lm_2_101 ((k_12 hG).trans ow_103.symm) rfl mx_103 rfl rfl hd_25 ?_
    refine c_103 hG (KKi ?_)
    refine Y_bne i_25_33 (fun e3 => ?_) (fun e3 => ?_)
    · replace h := h.1 e3
      refine Y_al0 i_25_38 ?_
      refine Y_gI (v := (F 61 8)) i_25_39 ow_25 lf_2_95 (by decide) (k_61 hG) rfl ?_
      refine Y_il3 i_25_42 ?_
      refine Y_iand i_25_43 ?_
      refine Y_zeq i_25_44 (fun e4 => ?_) (fun e4 => ?_)
      · replace h := h.1 e4
        refine Y_al0 i_25_60 ?_
        refine Y_gI (v := (F 61 7)) i_25_61 ow_25 lf_2_79 (by decide) (k_61 hG) rfl ?_
        refine Y_il4 i_25_64 ?_
        refine Y_iconst (v := (-1)) i_25_66 (by decide) ?_
        refine Y_ixor i_25_67 ?_
        refine Y_iand i_25_68 ?_
        refine Y_is5 i_25_69 rfl ?_
        refine Y_al0 i_25_71 ?_
        refine Y_gR i_25_72 ow_25 lf_2_15 (k_61 hG) (r_61_4 hG) ?_
        refine Y_il5 i_25_75 ?_
        have o5 := h.1
        replace h := h.2
        refine Y_iaload (k := ((F 61 7) &&& ((x1 ||| ((1 : Int32) <<< (x2 &&& 31))) ^^^ (-1))).toNatClampNeg) (v := (A 63 ((F 61 7) &&& ((x1 ||| ((1 : Int32) <<< (x2 &&& 31))) ^^^ (-1))).toNatClampNeg)) i_25_77 (k_63 hG) (l_63 hG) o5 rfl rfl ?_
        refine Y_al0 i_25_78 ?_
        refine Y_gR i_25_79 ow_25 lf_2_28 (k_61 hG) (r_61_1 hG) ?_
        refine Y_gR i_25_82 ow_25 lf_2_56 (k_21 hG) (r_21_0 hG) ?_
        refine Y_gR i_25_85 ow_25 lf_2_89 (k_27 hG) (r_27_5 hG) ?_
        refine Y_il2 i_25_88 ?_
        have o6 := h.1
        replace h := h.2
        refine Y_iaload (k := x2.toNatClampNeg) (v := (A 29 x2.toNatClampNeg)) i_25_89 (k_29 hG) (l_29 hG) o6 rfl rfl ?_
        refine Y_iadd i_25_90 ?_
        refine Y_is6 i_25_91 rfl ?_
        refine Y_il6 i_25_93 ?_
        refine Y_al0 i_25_95 ?_
        refine Y_gR i_25_96 ow_25 lf_2_28 (k_61 hG) (r_61_1 hG) ?_
        refine Y_gR i_25_99 ow_25 lf_2_56 (k_21 hG) (r_21_0 hG) ?_
        refine Y_il2 i_25_102 ?_
        refine Y_il5 i_25_103 ?_
        refine Y_zne i_25_105 (fun e7 => ?_) (fun e7 => ?_)
        · replace h := h.1 e7
          refine Y_iconst (v := 1) i_25_108 (by decide) ?_
          refine Y_goto i_25_109 ?_
          refine Y_iv2 (L0 := [.ref 27, .int x2, .int 1, .null]) i_25_113 ow_25 lm_2_108 ((k_27 hG).trans ow_82.symm) rfl mx_82 rfl rfl hd_25 ?_
          refine c_82 hG tw_27 o6 (KKi ?_)
          refine Y_cgt i_25_116 (fun e8 => ?_) (fun e8 => ?_)
          · replace h := h.1 e8
            refine Y_iconst (v := 0) i_25_129 (by decide) ?_
            exact Y_iret i_25_130 rt_25 h
          · replace h := h.2 e8
            refine Y_al0 i_25_119 ?_
            refine Y_gR i_25_120 ow_25 lf_2_21 (k_61 hG) (r_61_6 hG) ?_
            refine Y_il4 i_25_123 ?_
            refine Y_iaload (k := (x1 ||| ((1 : Int32) <<< (x2 &&& 31))).toNatClampNeg) (v := (A 65 (x1 ||| ((1 : Int32) <<< (x2 &&& 31))).toNatClampNeg)) i_25_125 (k_65 hG) (l_65 hG) o1 rfl rfl ?_
            refine Y_goto i_25_126 ?_
            exact Y_iret i_25_130 rt_25 h
        · replace h := h.2 e7
          refine Y_iconst (v := 0) i_25_112 (by decide) ?_
          refine Y_iv2 (L0 := [.ref 27, .int x2, .int 0, .null]) i_25_113 ow_25 lm_2_108 ((k_27 hG).trans ow_82.symm) rfl mx_82 rfl rfl hd_25 ?_
          refine c_82 hG tw_27 o6 (KKi ?_)
          refine Y_cgt i_25_116 (fun e9 => ?_) (fun e9 => ?_)
          · replace h := h.1 e9
            refine Y_iconst (v := 0) i_25_129 (by decide) ?_
            exact Y_iret i_25_130 rt_25 h
          · replace h := h.2 e9
            refine Y_al0 i_25_119 ?_
            refine Y_gR i_25_120 ow_25 lf_2_21 (k_61 hG) (r_61_6 hG) ?_
            refine Y_il4 i_25_123 ?_
            refine Y_iaload (k := (x1 ||| ((1 : Int32) <<< (x2 &&& 31))).toNatClampNeg) (v := (A 65 (x1 ||| ((1 : Int32) <<< (x2 &&& 31))).toNatClampNeg)) i_25_125 (k_65 hG) (l_65 hG) o1 rfl rfl ?_
            refine Y_goto i_25_126 ?_
            exact Y_iret i_25_130 rt_25 h
      · replace h := h.2 e4
        refine Y_il1 i_25_47 ?_
        have o10 := h.1
        replace h := h.2
        refine Y_is_1 (L0 := [.int x1]) i_25_48 ow_25 lm_2_73 rfl mx_289 rfl rfl hd_25 ?_
        refine c_289 hG o10 (KKi ?_)
        refine Y_al0 i_25_51 ?_
        refine Y_gI (v := (F 61 9)) i_25_52 ow_25 lf_2_98 (by decide) (k_61 hG) rfl ?_
        refine Y_cge i_25_55 (fun e11 => ?_) (fun e11 => ?_)
        · replace h := h.1 e11
          refine Y_iconst (v := 0) i_25_58 (by decide) ?_
          exact Y_iret i_25_59 rt_25 h
        · replace h := h.2 e11
          refine Y_al0 i_25_60 ?_
          refine Y_gI (v := (F 61 7)) i_25_61 ow_25 lf_2_79 (by decide) (k_61 hG) rfl ?_
          refine Y_il4 i_25_64 ?_
          refine Y_iconst (v := (-1)) i_25_66 (by decide) ?_
          refine Y_ixor i_25_67 ?_
          refine Y_iand i_25_68 ?_
          refine Y_is5 i_25_69 rfl ?_
          refine Y_al0 i_25_71 ?_
          refine Y_gR i_25_72 ow_25 lf_2_15 (k_61 hG) (r_61_4 hG) ?_
          refine Y_il5 i_25_75 ?_
          have o12 := h.1
          replace h := h.2
          refine Y_iaload (k := ((F 61 7) &&& ((x1 ||| ((1 : Int32) <<< (x2 &&& 31))) ^^^ (-1))).toNatClampNeg) (v := (A 63 ((F 61 7) &&& ((x1 ||| ((1 : Int32) <<< (x2 &&& 31))) ^^^ (-1))).toNatClampNeg)) i_25_77 (k_63 hG) (l_63 hG) o12 rfl rfl ?_
          refine Y_al0 i_25_78 ?_
          refine Y_gR i_25_79 ow_25 lf_2_28 (k_61 hG) (r_61_1 hG) ?_
          refine Y_gR i_25_82 ow_25 lf_2_56 (k_21 hG) (r_21_0 hG) ?_
          refine Y_gR i_25_85 ow_25 lf_2_89 (k_27 hG) (r_27_5 hG) ?_
          refine Y_il2 i_25_88 ?_
          have o13 := h.1
          replace h := h.2
          refine Y_iaload (k := x2.toNatClampNeg) (v := (A 29 x2.toNatClampNeg)) i_25_89 (k_29 hG) (l_29 hG) o13 rfl rfl ?_
          refine Y_iadd i_25_90 ?_
          refine Y_is6 i_25_91 rfl ?_
          refine Y_il6 i_25_93 ?_
          refine Y_al0 i_25_95 ?_
          refine Y_gR i_25_96 ow_25 lf_2_28 (k_61 hG) (r_61_1 hG) ?_
          refine Y_gR i_25_99 ow_25 lf_2_56 (k_21 hG) (r_21_0 hG) ?_
          refine Y_il2 i_25_102 ?_
          refine Y_il5 i_25_103 ?_
          refine Y_zne i_25_105 (fun e14 => ?_) (fun e14 => ?_)
          · replace h := h.1 e14
            refine Y_iconst (v := 1) i_25_108 (by decide) ?_
            refine Y_goto i_25_109 ?_
            refine Y_iv2 (L0 := [.ref 27, .int x2, .int 1, .null]) i_25_113 ow_25 lm_2_108 ((k_27 hG).trans ow_82.symm) rfl mx_82 rfl rfl hd_25 ?_
            refine c_82 hG tw_27 o13 (KKi ?_)
            refine Y_cgt i_25_116 (fun e15 => ?_) (fun e15 => ?_)
            · replace h := h.1 e15
              refine Y_iconst (v := 0) i_25_129 (by decide) ?_
              exact Y_iret i_25_130 rt_25 h
            · replace h := h.2 e15
              refine Y_al0 i_25_119 ?_
              refine Y_gR i_25_120 ow_25 lf_2_21 (k_61 hG) (r_61_6 hG) ?_
              refine Y_il4 i_25_123 ?_
              refine Y_iaload (k := (x1 ||| ((1 : Int32) <<< (x2 &&& 31))).toNatClampNeg) (v := (A 65 (x1 ||| ((1 : Int32) <<< (x2 &&& 31))).toNatClampNeg)) i_25_125 (k_65 hG) (l_65 hG) o1 rfl rfl ?_
              refine Y_goto i_25_126 ?_
              exact Y_iret i_25_130 rt_25 h
          · replace h := h.2 e14
            refine Y_iconst (v := 0) i_25_112 (by decide) ?_
            refine Y_iv2 (L0 := [.ref 27, .int x2, .int 0, .null]) i_25_113 ow_25 lm_2_108 ((k_27 hG).trans ow_82.symm) rfl mx_82 rfl rfl hd_25 ?_
            refine c_82 hG tw_27 o13 (KKi ?_)
            refine Y_cgt i_25_116 (fun e16 => ?_) (fun e16 => ?_)
            · replace h := h.1 e16
              refine Y_iconst (v := 0) i_25_129 (by decide) ?_
              exact Y_iret i_25_130 rt_25 h
            · replace h := h.2 e16
              refine Y_al0 i_25_119 ?_
              refine Y_gR i_25_120 ow_25 lf_2_21 (k_61 hG) (r_61_6 hG) ?_
              refine Y_il4 i_25_123 ?_
              refine Y_iaload (k := (x1 ||| ((1 : Int32) <<< (x2 &&& 31))).toNatClampNeg) (v := (A 65 (x1 ||| ((1 : Int32) <<< (x2 &&& 31))).toNatClampNeg)) i_25_125 (k_65 hG) (l_65 hG) o1 rfl rfl ?_
              refine Y_goto i_25_126 ?_
              exact Y_iret i_25_130 rt_25 h
    · replace h := h.2 e3
      refine Y_iconst (v := 0) i_25_36 (by decide) ?_
      exact Y_iret i_25_37 rt_25 h
/- 26 Piles.mostCouples()I -/
theorem t_26_0 {d : Nat} {F A : Nat → Nat → Int32} {J : Nat → Nat → Int64} {G : pG} {Q : pR → pM → Prop} {SL p q : Nat} (hG : Geo G SL p q) (h : X (d + 4) 26 9 [.ref 61, .int 0, .null, .null] [] (F, (wF A 65 0 0), J, G) Q) : X (d + 4) 26 0 [.ref 61, .null, .null, .null] [] (F, A, J, G) Q := by
  refine Y_al0 i_26_0 ?_
  refine Y_gR i_26_1 ow_26 lf_2_21 (k_61 hG) (r_61_6 hG) ?_
  refine Y_iconst (v := 0) i_26_4 (by decide) ?_
  refine Y_iconst (v := 0) i_26_5 (by decide) ?_
  refine Y_iast (k := 0) i_26_6 (k_65 hG) (l_65 hG) (by decide) (by decide) ?_
  refine Y_iconst (v := 0) i_26_7 (by decide) ?_
  refine Y_is1 i_26_8 rfl ?_
  exact h
theorem t_26_9 {d : Nat} {F A : Nat → Nat → Int32} {J : Nat → Nat → Int64} {G : pG} {Q : pR → pM → Prop} {SL p q : Nat} {x1 : Int32} {v2 v3 : Value} (hG : Geo G SL p q) (h : ((x1 < (F 12 0) → X (d + 4) 26 26 [.ref 61, .int x1, .int ((1 : Int32) <<< (x1 &&& 31)), .int 0] [] (F, A, J, G) Q) ∧ (¬ x1 < (F 12 0) → inB (((1 : Int32) <<< ((F 12 0) &&& 31)) - 1) 1024 = true ∧ (Q (.inl (some (.int (A 65 (((1 : Int32) <<< ((F 12 0) &&& 31)) - 1).toNatClampNeg)))) (F, A, J, G))))) : X (d + 4) 26 9 [.ref 61, .int x1, v2, v3] [] (F, A, J, G) Q := by
  refine Y_il1 i_26_9 ?_
  refine Y_al0 i_26_10 ?_
  refine Y_gR i_26_11 ow_26 lf_2_24 (k_61 hG) (r_61_0 hG) ?_
  refine Y_gI (v := (F 12 0)) i_26_14 ow_26 lf_2_65 (by decide) (k_12 hG) rfl ?_
  refine Y_cge i_26_17 (fun e1 => ?_) (fun e1 => ?_)
  · replace h := h.1 e1
    refine Y_iconst (v := 1) i_26_20 (by decide) ?_
    refine Y_il1 i_26_21 ?_
    refine Y_ishl i_26_22 ?_
    refine Y_is2 i_26_23 rfl ?_
    refine Y_iconst (v := 0) i_26_24 (by decide) ?_
    refine Y_is3 i_26_25 rfl ?_
    exact h
  · replace h := h.2 e1
    refine Y_al0 i_26_57 ?_
    refine Y_gR i_26_58 ow_26 lf_2_21 (k_61 hG) (r_61_6 hG) ?_
    refine Y_al0 i_26_61 ?_
    refine Y_gR i_26_62 ow_26 lf_2_24 (k_61 hG) (r_61_0 hG) ?_
    refine Y_iv0 (L0 := [.ref 12]) i_26_65 ow_26 lm_2_70 ((k_12 hG).trans ow_100.symm) rfl mx_100 rfl rfl hd_26 ?_
    refine Y_iconst (v := 1) i_100_0 (by decide) ?_
    refine Y_al0 i_100_1 ?_
    refine Y_gI (v := (F 12 0)) i_100_2 ow_100 lf_7_37 (by decide) (k_12 hG) rfl ?_
    refine Y_ishl i_100_5 ?_
    refine Y_iconst (v := 1) i_100_6 (by decide) ?_
    refine Y_isub i_100_7 ?_
    refine Y_iret i_100_8 rt_100 (KKi ?_)
    have o2 := h.1
    replace h := h.2
    refine Y_iaload (k := (((1 : Int32) <<< ((F 12 0) &&& 31)) - 1).toNatClampNeg) (v := (A 65 (((1 : Int32) <<< ((F 12 0) &&& 31)) - 1).toNatClampNeg)) i_26_68 (k_65 hG) (l_65 hG) o2 rfl rfl ?_
    exact Y_iret i_26_69 rt_26 h
theorem t_26_26 {d : Nat} {F A : Nat → Nat → Int32} {J : Nat → Nat → Int64} {G : pG} {Q : pR → pM → Prop} {SL p q : Nat} {x1 x2 x3 : Int32} (hG : Geo G SL p q) (h : ((x3 < x2 → X (d + 3) 27 0 [.ref 61, .int x3, .int x1, .null, .null] [] (F, A, J, G) (KK (d + 4) 26 44 [.ref 61, .int x1, .int x2, .int x3] [.int (x3 ||| x2), .ref 65] Q)) ∧ (¬ x3 < x2 → X (d + 4) 26 9 [.ref 61, .int (x1 + 1), .int x2, .int x3] [] (F, A, J, G) Q))) : X (d + 4) 26 26 [.ref 61, .int x1, .int x2, .int x3] [] (F, A, J, G) Q := by
  refine Y_il3 i_26_26 ?_
  refine Y_il2 i_26_27 ?_
  refine Y_cge i_26_28 (fun e1 => ?_) (fun e1 => ?_)
  · replace h := h.1 e1
    refine Y_al0 i_26_31 ?_
    refine Y_gR i_26_32 ow_26 lf_2_21 (k_61 hG) (r_61_6 hG) ?_
    refine Y_il3 i_26_35 ?_
    refine Y_il2 i_26_36 ?_
    refine Y_ior i_26_37 ?_
    refine Y_al0 i_26_38 ?_
    refine Y_il3 i_26_39 ?_
    refine Y_il1 i_26_40 ?_
    exact Y_iv2 (L0 := [.ref 61, .int x3, .int x1, .null, .null]) i_26_41 ow_26 lm_2_112 ((k_61 hG).trans ow_27.symm) rfl mx_27 rfl rfl hd_26 h
  · replace h := h.2 e1
    refine Y_ii1 (v := 1) i_26_51 (by decide) rfl ?_
    refine Y_goto i_26_54 ?_
    exact h
theorem k_26_44 {d : Nat} {F A : Nat → Nat → Int32} {J : Nat → Nat → Int64} {G : pG} {Q : pR → pM → Prop} {SL p q : Nat} {x1 x2 x3 r s0 r : Int32} (hG : Geo G SL p q) (h : inB s0 1024 = true ∧ (X (d + 4) 26 26 [.ref 61, .int x1, .int x2, .int (x3 + 1)] [] (F, (wF A 65 s0.toNatClampNeg r), J, G) Q)) : KK (d + 4) 26 44 [.ref 61, .int x1, .int x2, .int x3] [.int s0, .ref 65] Q (.inl (some (.int r))) (F, A, J, G) := by
  refine KKi ?_
  have o1 := h.1
  replace h := h.2
  refine Y_iast i_26_44 (k_65 hG) (l_65 hG) o1 rfl ?_
  refine Y_ii3 (v := 1) i_26_45 (by decide) rfl ?_
  refine Y_goto i_26_48 ?_
  exact h
/- 27 Piles.couplesWith(II)I -/
theorem t_27_0 {d : Nat} {F A : Nat → Nat → Int32} {J : Nat → Nat → Int64} {G : pG} {Q : pR → pM → Prop} {SL p q : Nat} {x1 x2 : Int32} (hG : Geo G SL p q) (h : inB x1 1024 = true ∧ (X (d + 3) 27 10 [.ref 61, .int x1, .int x2, .int (A 65 x1.toNatClampNeg), .int 0] [] (F, A, J, G) Q)) : X (d + 3) 27 0 [.ref 61, .int x1, .int x2, .null, .null] [] (F, A, J, G) Q := by
  refine Y_al0 i_27_0 ?_
  refine Y_gR i_27_1 ow_27 lf_2_21 (k_61 hG) (r_61_6 hG) ?_
  refine Y_il1 i_27_4 ?_
  have o1 := h.1
  replace h := h.2
  refine Y_iaload (k := x1.toNatClampNeg) (v := (A 65 x1.toNatClampNeg)) i_27_5 (k_65 hG) (l_65 hG) o1 rfl rfl ?_
  refine Y_is3 i_27_6 rfl ?_
  refine Y_iconst (v := 0) i_27_7 (by decide) ?_
  refine Y_is4 i_27_8 rfl ?_
  exact h
theorem t_27_10 {d : Nat} {F A : Nat → Nat → Int32} {J : Nat → Nat → Int64} {G : pG} {Q : pR → pM → Prop} {SL p q : Nat} {x1 x2 x3 x4 : Int32} (hG : Geo G SL p q) (h : ((x4 < x2 → ((((x1 >>> (x4 &&& 31)) &&& 1) = 0 → X (d + 3) 27 10 [.ref 61, .int x1, .int x2, .int x3, .int (x4 + 1)] [] (F, A, J, G) Q) ∧ (¬ ((x1 >>> (x4 &&& 31)) &&& 1) = 0 → inB x2 10 = true ∧ inB x4 10 = true ∧ (((marB (carS (A 13 x2.toNatClampNeg) (A 15 x2.toNatClampNeg) (F 27 2) 0) (A 14 x4.toNatClampNeg) (carS (A 13 x4.toNatClampNeg) (A 15 x4.toNatClampNeg) (F 27 2) 0) (A 14 x2.toNatClampNeg)) = true → inB (x1 &&& (((1 : Int32) <<< (x4 &&& 31)) ^^^ (-1))) 1024 = true ∧ (X (d + 3) 27 10 [.ref 61, .int x1, .int x2, .int (jmax x3 ((1 : Int32) + (A 65 (x1 &&& (((1 : Int32) <<< (x4 &&& 31)) ^^^ (-1))).toNatClampNeg))), .int (x4 + 1)] [] (F, A, J, G) Q)) ∧ ((marB (carS (A 13 x2.toNatClampNeg) (A 15 x2.toNatClampNeg) (F 27 2) 0) (A 14 x4.toNatClampNeg) (carS (A 13 x4.toNatClampNeg) (A 15 x4.toNatClampNeg) (F 27 2) 0) (A 14 x2.toNatClampNeg)) = false → X (d + 3) 27 10 [.ref 61, .int x1, .int x2, .int x3, .int (x4 + 1)] [] (F, A, J, G) Q))))) ∧ (¬ x4 < x2 → Q (.inl (some (.int x3))) (F, A, J, G)))) : X (d + 3) 27 10 [.ref 61, .int x1, .int x2, .int x3, .int x4] [] (F, A, J, G) Q := by
  refine Y_il4 i_27_10 ?_
  refine Y_il2 i_27_12 ?_
  refine Y_cge i_27_13 (fun e1 => ?_) (fun e1 => ?_)
  · replace h := h.1 e1
    refine Y_il1 i_27_16 ?_
    refine Y_il4 i_27_17 ?_
    refine Y_ishr i_27_19 ?_
    refine Y_iconst (v := 1) i_27_20 (by decide) ?_
    refine Y_iand i_27_21 ?_
    refine Y_zeq i_27_22 (fun e2 => ?_) (fun e2 => ?_)
    · replace h := h.1 e2
      refine Y_ii4 (v := 1) i_27_61 (by decide) rfl ?_
      refine Y_goto i_27_64 ?_
      exact h
    · replace h := h.2 e2
      refine Y_al0 i_27_25 ?_
      refine Y_gR i_27_26 ow_27 lf_2_28 (k_61 hG) (r_61_1 hG) ?_
      refine Y_gR i_27_29 ow_27 lf_2_56 (k_21 hG) (r_21_0 hG) ?_
      refine Y_il2 i_27_32 ?_
      refine Y_il4 i_27_33 ?_
      have o3 := h.1
      replace h := h.2
      have o4 := h.1
      replace h := h.2
      refine Y_iv2 (L0 := [.ref 27, .int x2, .int x4]) i_27_35 ow_27 lm_2_115 ((k_27 hG).trans ow_96.symm) rfl mx_96 rfl rfl hd_27 ?_
      refine c_96 hG tw_27 o3 o4 (KKi ?_)
      refine Y_beq i_27_38 (fun e5 => ?_) (fun e5 => ?_)
      · replace h := h.1 e5
        refine Y_il3 i_27_41 ?_
        refine Y_iconst (v := 1) i_27_42 (by decide) ?_
        refine Y_al0 i_27_43 ?_
        refine Y_gR i_27_44 ow_27 lf_2_21 (k_61 hG) (r_61_6 hG) ?_
        refine Y_il1 i_27_47 ?_
        refine Y_iconst (v := 1) i_27_48 (by decide) ?_
        refine Y_il4 i_27_49 ?_
        refine Y_ishl i_27_51 ?_
        refine Y_iconst (v := (-1)) i_27_52 (by decide) ?_
        refine Y_ixor i_27_53 ?_
        refine Y_iand i_27_54 ?_
        have o6 := h.1
        replace h := h.2
        refine Y_iaload (k := (x1 &&& (((1 : Int32) <<< (x4 &&& 31)) ^^^ (-1))).toNatClampNeg) (v := (A 65 (x1 &&& (((1 : Int32) <<< (x4 &&& 31)) ^^^ (-1))).toNatClampNeg)) i_27_55 (k_65 hG) (l_65 hG) o6 rfl rfl ?_
        refine Y_iadd i_27_56 ?_
        refine Y_max i_27_57 ow_27 lm_2_119 rfl ?_
        refine Y_is3 i_27_60 rfl ?_
        refine Y_ii4 (v := 1) i_27_61 (by decide) rfl ?_
        refine Y_goto i_27_64 ?_
        exact h
      · replace h := h.2 e5
        refine Y_ii4 (v := 1) i_27_61 (by decide) rfl ?_
        refine Y_goto i_27_64 ?_
        exact h
  · replace h := h.2 e1
    refine Y_il3 i_27_67 ?_
    exact Y_iret i_27_68 rt_27 h
/- 29 Reader.read(I)I -/
theorem t_29_0 {d : Nat} {F A : Nat → Nat → Int32} {J : Nat → Nat → Int64} {G : pG} {Q : pR → pM → Prop} {SL p q : Nat} {x1 : Int32} (hG : Geo G SL p q) (h : X (d + 4) 49 0 [.ref 11] [] ((wF (wF (wF (wF (wF (wF (wF (wF (wF (wF F 11 3 (jmin x1 600)) 2 0 0) 2 1 9) 2 2 100) 8 1 0) 11 9 0) 11 10 0) 11 8 0) 11 0 (-1)) 11 6 0), A, J, G) (KK (d + 5) 29 49 [.ref 11, .int x1, .null] [] Q)) : X (d + 5) 29 0 [.ref 11, .int x1, .null] [] (F, A, J, G) Q := by
  refine Y_al0 i_29_0 ?_
  refine Y_il1 i_29_1 ?_
  refine Y_al0 i_29_2 ?_
  refine Y_gR i_29_3 ow_29 lf_3_9 (k_11 hG) (r_11_1 hG) ?_
  refine Y_alen (v := 600) i_29_6 (Or.inr (Or.inl (k_1 hG))) (l_1 hG) (by decide) ?_
  refine Y_min i_29_7 ow_29 lm_3_19 rfl ?_
  refine Y_pI i_29_10 ow_29 lf_3_25 (k_11 hG) ?_
  refine Y_al0 i_29_13 ?_
  refine Y_gR i_29_14 ow_29 lf_3_15 (k_11 hG) (r_11_2 hG) ?_
  refine Y_iv0 (L0 := [.ref 2]) i_29_17 ow_29 lm_3_29 ((k_2 hG).trans ow_98.symm) rfl mx_98 rfl rfl hd_29 ?_
  refine Y_al0 i_98_0 ?_
  refine Y_iconst (v := 0) i_98_1 (by decide) ?_
  refine Y_pI i_98_2 ow_98 lf_7_37 (k_2 hG) ?_
  refine Y_al0 i_98_5 ?_
  refine Y_bipush (v := 9) i_98_6 (by decide) ?_
  refine Y_pI i_98_8 ow_98 lf_7_41 (k_2 hG) ?_
  refine Y_al0 i_98_11 ?_
  refine Y_bipush (v := 100) i_98_12 (by decide) ?_
  refine Y_pI i_98_14 ow_98 lf_7_44 (k_2 hG) ?_
  refine Y_al0 i_98_17 ?_
  refine Y_gR i_98_18 ow_98 lf_7_30 (k_2 hG) (r_2_8 hG) ?_
  refine Y_iconst (v := 0) i_98_21 (by decide) ?_
  refine Y_pI i_98_22 ow_98 lf_7_47 (k_8 hG) ?_
  refine Y_vret i_98_25 rt_98 (KKv ?_)
  refine Y_al0 i_29_20 ?_
  refine Y_iconst (v := 0) i_29_21 (by decide) ?_
  refine Y_pB i_29_22 ow_29 lf_3_34 (k_11 hG) (by decide) ?_
  refine Y_al0 i_29_25 ?_
  refine Y_iconst (v := 0) i_29_26 (by decide) ?_
  refine Y_pB i_29_27 ow_29 lf_3_38 (k_11 hG) (by decide) ?_
  refine Y_al0 i_29_30 ?_
  refine Y_iconst (v := 0) i_29_31 (by decide) ?_
  refine Y_pI i_29_32 ow_29 lf_3_41 (k_11 hG) ?_
  refine Y_al0 i_29_35 ?_
  refine Y_iconst (v := (-1)) i_29_36 (by decide) ?_
  refine Y_pI i_29_37 ow_29 lf_3_44 (k_11 hG) ?_
  refine Y_al0 i_29_40 ?_
  refine Y_iconst (v := 0) i_29_41 (by decide) ?_
  refine Y_pI i_29_42 ow_29 lf_3_47 (k_11 hG) ?_
  refine Y_al0 i_29_45 ?_
  exact Y_iv0 (L0 := [.ref 11]) i_29_46 ow_29 lm_3_50 ((k_11 hG).trans ow_49.symm) rfl mx_49 rfl rfl hd_29 h
theorem k_29_49 {d : Nat} {F A : Nat → Nat → Int32} {J : Nat → Nat → Int64} {G : pG} {Q : pR → pM → Prop} {SL p q : Nat} {x1 : Int32} (hG : Geo G SL p q) (h : X (d + 5) 29 51 [.ref 11, .int x1, .int 0] [] (F, A, J, G) Q) : KK (d + 5) 29 49 [.ref 11, .int x1, .null] [] Q (.inl none) (F, A, J, G) := by
  refine KKv ?_
  refine Y_iconst (v := 0) i_29_49 (by decide) ?_
  refine Y_is2 i_29_50 rfl ?_
  exact h
theorem t_29_51 {d : Nat} {F A : Nat → Nat → Int32} {J : Nat → Nat → Int64} {G : pG} {Q : pR → pM → Prop} {SL p q : Nat} {x1 x2 : Int32} (hG : Geo G SL p q) (h : ((x2 < 600 → (((F 11 4) = 0 → Q (.inl (some (.int 0))) (F, A, J, G)) ∧ (¬ (F 11 4) = 0 → X (d + 4) 30 0 [.ref 11, .null] [] (F, A, J, G) (KK (d + 5) 29 69 [.ref 11, .int x1, .int x2] [] Q)))) ∧ (¬ x2 < 600 → Q (.inl (some (.int 0))) (F, A, J, G)))) : X (d + 5) 29 51 [.ref 11, .int x1, .int x2] [] (F, A, J, G) Q := by
  refine Y_il2 i_29_51 ?_
  refine Y_sipush (v := 600) i_29_52 (by decide) ?_
  refine Y_cge i_29_55 (fun e1 => ?_) (fun e1 => ?_)
  · replace h := h.1 e1
    refine Y_al0 i_29_58 ?_
    refine Y_gI (v := (F 11 4)) i_29_59 ow_29 lf_3_53 (by decide) (k_11 hG) rfl ?_
    refine Y_zeq i_29_62 (fun e2 => ?_) (fun e2 => ?_)
    · replace h := h.1 e2
      refine Y_iconst (v := 0) i_29_83 (by decide) ?_
      exact Y_iret i_29_84 rt_29 h
    · replace h := h.2 e2
      refine Y_al0 i_29_65 ?_
      exact Y_iv0 (L0 := [.ref 11, .null]) i_29_66 ow_29 lm_3_56 ((k_11 hG).trans ow_30.symm) rfl mx_30 rfl rfl hd_29 h
  · replace h := h.2 e1
    refine Y_iconst (v := 0) i_29_83 (by decide) ?_
    exact Y_iret i_29_84 rt_29 h
theorem k_29_69 {d : Nat} {F A : Nat → Nat → Int32} {J : Nat → Nat → Int64} {G : pG} {Q : pR → pM → Prop} {SL p q : Nat} {x1 x2 r r : Int32} (hG : Geo G SL p q) (h : ((r = 0 → Q (.inl (some (.int (F 11 8)))) (F, A, J, G)) ∧ (¬ r = 0 → X (d + 5) 29 51 [.ref 11, .int x1, .int (x2 + 1)] [] (F, A, J, G) Q))) : KK (d + 5) 29 69 [.ref 11, .int x1, .int x2] [] Q (.inl (some (.int r))) (F, A, J, G) := by
  refine KKi ?_
  refine Y_zne i_29_69 (fun e1 => ?_) (fun e1 => ?_)
  · replace h := h.1 e1
    refine Y_al0 i_29_72 ?_
    refine Y_gI (v := (F 11 8)) i_29_73 ow_29 lf_3_41 (by decide) (k_11 hG) rfl ?_
    exact Y_iret i_29_76 rt_29 h
  · replace h := h.2 e1
    refine Y_ii2 (v := 1) i_29_77 (by decide) rfl ?_
    refine Y_goto i_29_80 ?_
    exact h
/- 30 Reader.line()Z -/
theorem t_30_0 {d : Nat} {F A : Nat → Nat → Int32} {J : Nat → Nat → Int64} {G : pG} {Q : pR → pM → Prop} {SL p q : Nat} (hG : Geo G SL p q) (h : X (d + 3) 44 0 [.ref 11] [] (F, A, J, G) (KK (d + 4) 30 4 [.ref 11, .null] [] Q)) : X (d + 4) 30 0 [.ref 11, .null] [] (F, A, J, G) Q := by
  refine Y_al0 i_30_0 ?_
  exact Y_iv0 (L0 := [.ref 11]) i_30_1 ow_30 lm_3_60 ((k_11 hG).trans ow_44.symm) rfl mx_44 rfl rfl hd_30 h
theorem k_30_4 {d : Nat} {F A : Nat → Nat → Int32} {J : Nat → Nat → Int64} {G : pG} {Q : pR → pM → Prop} {SL p q : Nat} {r r : Int32} (hG : Geo G SL p q) (h : ((r = (-1) → X (d + 3) 46 0 [.ref 11, .ref 1006, .null] [] (F, A, J, G) (KK (d + 4) 30 37 [.ref 11, .int r] [] Q)) ∧ (¬ r = (-1) → X (d + 3) 31 0 [.ref 11, .int r, .null, .null, .null, .null, .null, .null] [] (F, A, J, G) (KK (d + 4) 30 15 [.ref 11, .int r] [] Q)))) : KK (d + 4) 30 4 [.ref 11, .null] [] Q (.inl (some (.int r))) (F, A, J, G) := by
  refine KKi ?_
  refine Y_is1 i_30_4 rfl ?_
  refine Y_il1 i_30_5 ?_
  refine Y_iconst (v := (-1)) i_30_6 (by decide) ?_
  refine Y_ceq i_30_7 (fun e1 => ?_) (fun e1 => ?_)
  · replace h := h.1 e1
    refine Y_al0 i_30_31 ?_
    refine Y_ldcS (r := 1006) i_30_32 ow_30 li_3_71 ls_3_71 rfl ?_
    exact Y_iv1 (L0 := [.ref 11, .ref 1006, .null]) i_30_34 ow_30 lm_3_73 ((k_11 hG).trans ow_46.symm) rfl mx_46 rfl rfl hd_30 h
  · replace h := h.2 e1
    refine Y_al0 i_30_10 ?_
    refine Y_il1 i_30_11 ?_
    exact Y_iv1 (L0 := [.ref 11, .int r, .null, .null, .null, .null, .null, .null]) i_30_12 ow_30 lm_3_64 ((k_11 hG).trans ow_31.symm) rfl mx_31 rfl rfl hd_30 h
theorem k_30_15 {d : Nat} {F A : Nat → Nat → Int32} {J : Nat → Nat → Int64} {G : pG} {Q : pR → pM → Prop} {SL p q : Nat} {x1 r r : Int32} (hG : Geo G SL p q) (h : ((r = 0 → Q (.inl (some (.int 0))) (F, A, J, G)) ∧ (¬ r = 0 → X (d + 3) 35 0 [.ref 11] [] (F, A, J, G) (KK (d + 4) 30 22 [.ref 11, .int x1] [] Q)))) : KK (d + 4) 30 15 [.ref 11, .int x1] [] Q (.inl (some (.int r))) (F, A, J, G) := by
  refine KKi ?_
  refine Y_zeq i_30_15 (fun e1 => ?_) (fun e1 => ?_)
  · replace h := h.1 e1
    refine Y_iconst (v := 0) i_30_29 (by decide) ?_
    exact Y_bret i_30_30 rt_30 (by decide) h
  · replace h := h.2 e1
    refine Y_al0 i_30_18 ?_
    exact Y_iv0 (L0 := [.ref 11]) i_30_19 ow_30 lm_3_68 ((k_11 hG).trans ow_35.symm) rfl mx_35 rfl rfl hd_30 h
theorem k_30_22 {d : Nat} {F A : Nat → Nat → Int32} {J : Nat → Nat → Int64} {G : pG} {Q : pR → pM → Prop} {SL p q : Nat} {x1 r r : Int32} (hG : Geo G SL p q) (h : ((r = 0 → Q (.inl (some (.int 0))) (F, A, J, G)) ∧ (¬ r = 0 → Q (.inl (some (.int 1))) (F, A, J, G)))) : KK (d + 4) 30 22 [.ref 11, .int x1] [] Q (.inl (some (.int r))) (F, A, J, G) := by
  refine KKi ?_
  refine Y_zeq i_30_22 (fun e1 => ?_) (fun e1 => ?_)
  · replace h := h.1 e1
    refine Y_iconst (v := 0) i_30_29 (by decide) ?_
    exact Y_bret i_30_30 rt_30 (by decide) h
  · replace h := h.2 e1
    refine Y_iconst (v := 1) i_30_25 (by decide) ?_
    refine Y_goto i_30_26 ?_
    exact Y_bret i_30_30 rt_30 (by decide) h
theorem k_30_37 {d : Nat} {F A : Nat → Nat → Int32} {J : Nat → Nat → Int64} {G : pG} {Q : pR → pM → Prop} {SL p q : Nat} {x1 r r : Int32} (hG : Geo G SL p q) (h : ((r = 0 → X (d + 3) 46 0 [.ref 11, .ref 1007, .null] [] (F, A, J, G) (KK (d + 4) 30 66 [.ref 11, .int x1] [] Q)) ∧ (¬ r = 0 → X (d + 3) 32 0 [.ref 11] [] (F, A, J, G) (KK (d + 4) 30 44 [.ref 11, .int x1] [] Q)))) : KK (d + 4) 30 37 [.ref 11, .int x1] [] Q (.inl (some (.int r))) (F, A, J, G) := by
  refine KKi ?_
  refine Y_zeq i_30_37 (fun e1 => ?_) (fun e1 => ?_)
  · replace h := h.1 e1
    refine Y_al0 i_30_60 ?_
    refine Y_ldcS (r := 1007) i_30_61 ow_30 li_3_80 ls_3_80 rfl ?_
    exact Y_iv1 (L0 := [.ref 11, .ref 1007, .null]) i_30_63 ow_30 lm_3_73 ((k_11 hG).trans ow_46.symm) rfl mx_46 rfl rfl hd_30 h
  · replace h := h.2 e1
    refine Y_al0 i_30_40 ?_
    exact Y_iv0 (L0 := [.ref 11]) i_30_41 ow_30 lm_3_77 ((k_11 hG).trans ow_32.symm) rfl mx_32 rfl rfl hd_30 h
theorem k_30_44 {d : Nat} {F A : Nat → Nat → Int32} {J : Nat → Nat → Int64} {G : pG} {Q : pR → pM → Prop} {SL p q : Nat} {x1 r r : Int32} (hG : Geo G SL p q) (h : ((r = 0 → Q (.inl (some (.int 0))) (F, A, J, G)) ∧ (¬ r = 0 → X (d + 3) 35 0 [.ref 11] [] (F, A, J, G) (KK (d + 4) 30 51 [.ref 11, .int x1] [] Q)))) : KK (d + 4) 30 44 [.ref 11, .int x1] [] Q (.inl (some (.int r))) (F, A, J, G) := by
  refine KKi ?_
  refine Y_zeq i_30_44 (fun e1 => ?_) (fun e1 => ?_)
  · replace h := h.1 e1
    refine Y_iconst (v := 0) i_30_58 (by decide) ?_
    exact Y_bret i_30_59 rt_30 (by decide) h
  · replace h := h.2 e1
    refine Y_al0 i_30_47 ?_
    exact Y_iv0 (L0 := [.ref 11]) i_30_48 ow_30 lm_3_68 ((k_11 hG).trans ow_35.symm) rfl mx_35 rfl rfl hd_30 h
theorem k_30_51 {d : Nat} {F A : Nat → Nat → Int32} {J : Nat → Nat → Int64} {G : pG} {Q : pR → pM → Prop} {SL p q : Nat} {x1 r r : Int32} (hG : Geo G SL p q) (h : ((r = 0 → Q (.inl (some (.int 0))) (F, A, J, G)) ∧ (¬ r = 0 → Q (.inl (some (.int 1))) (F, A, J, G)))) : KK (d + 4) 30 51 [.ref 11, .int x1] [] Q (.inl (some (.int r))) (F, A, J, G) := by
  refine KKi ?_
  refine Y_zeq i_30_51 (fun e1 => ?_) (fun e1 => ?_)
  · replace h := h.1 e1
    refine Y_iconst (v := 0) i_30_58 (by decide) ?_
    exact Y_bret i_30_59 rt_30 (by decide) h
  · replace h := h.2 e1
    refine Y_iconst (v := 1) i_30_54 (by decide) ?_
    refine Y_goto i_30_55 ?_
    exact Y_bret i_30_59 rt_30 (by decide) h
theorem k_30_66 {d : Nat} {F A : Nat → Nat → Int32} {J : Nat → Nat → Int64} {G : pG} {Q : pR → pM → Prop} {SL p q : Nat} {x1 r r : Int32} (hG : Geo G SL p q) (h : ((r = 0 → X (d + 3) 46 0 [.ref 11, .ref 1008, .null] [] (F, A, J, G) (KK (d + 4) 30 95 [.ref 11, .int x1] [] Q)) ∧ (¬ r = 0 → X (d + 3) 33 0 [.ref 11] [] (F, A, J, G) (KK (d + 4) 30 73 [.ref 11, .int x1] [] Q)))) : KK (d + 4) 30 66 [.ref 11, .int x1] [] Q (.inl (some (.int r))) (F, A, J, G) := by
  refine KKi ?_
  refine Y_zeq i_30_66 (fun e1 => ?_) (fun e1 => ?_)
  · replace h := h.1 e1
    refine Y_al0 i_30_89 ?_
    refine Y_ldcS (r := 1008) i_30_90 ow_30 li_3_85 ls_3_85 rfl ?_
    exact Y_iv1 (L0 := [.ref 11, .ref 1008, .null]) i_30_92 ow_30 lm_3_73 ((k_11 hG).trans ow_46.symm) rfl mx_46 rfl rfl hd_30 h
  · replace h := h.2 e1
    refine Y_al0 i_30_69 ?_
    exact Y_iv0 (L0 := [.ref 11]) i_30_70 ow_30 lm_3_82 ((k_11 hG).trans ow_33.symm) rfl mx_33 rfl rfl hd_30 h
theorem k_30_73 {d : Nat} {F A : Nat → Nat → Int32} {J : Nat → Nat → Int64} {G : pG} {Q : pR → pM → Prop} {SL p q : Nat} {x1 r r : Int32} (hG : Geo G SL p q) (h : ((r = 0 → Q (.inl (some (.int 0))) (F, A, J, G)) ∧ (¬ r = 0 → X (d + 3) 35 0 [.ref 11] [] (F, A, J, G) (KK (d + 4) 30 80 [.ref 11, .int x1] [] Q)))) : KK (d + 4) 30 73 [.ref 11, .int x1] [] Q (.inl (some (.int r))) (F, A, J, G) := by
  refine KKi ?_
  refine Y_zeq i_30_73 (fun e1 => ?_) (fun e1 => ?_)
  · replace h := h.1 e1
    refine Y_iconst (v := 0) i_30_87 (by decide) ?_
    exact Y_bret i_30_88 rt_30 (by decide) h
  · replace h := h.2 e1
    refine Y_al0 i_30_76 ?_
    exact Y_iv0 (L0 := [.ref 11]) i_30_77 ow_30 lm_3_68 ((k_11 hG).trans ow_35.symm) rfl mx_35 rfl rfl hd_30 h
theorem k_30_80 {d : Nat} {F A : Nat → Nat → Int32} {J : Nat → Nat → Int64} {G : pG} {Q : pR → pM → Prop} {SL p q : Nat} {x1 r r : Int32} (hG : Geo G SL p q) (h : ((r = 0 → Q (.inl (some (.int 0))) (F, A, J, G)) ∧ (¬ r = 0 → Q (.inl (some (.int 1))) (F, A, J, G)))) : KK (d + 4) 30 80 [.ref 11, .int x1] [] Q (.inl (some (.int r))) (F, A, J, G) := by
  refine KKi ?_
  refine Y_zeq i_30_80 (fun e1 => ?_) (fun e1 => ?_)
  · replace h := h.1 e1
    refine Y_iconst (v := 0) i_30_87 (by decide) ?_
    exact Y_bret i_30_88 rt_30 (by decide) h
  · replace h := h.2 e1
    refine Y_iconst (v := 1) i_30_83 (by decide) ?_
    refine Y_goto i_30_84 ?_
    exact Y_bret i_30_88 rt_30 (by decide) h
theorem k_30_95 {d : Nat} {F A : Nat → Nat → Int32} {J : Nat → Nat → Int64} {G : pG} {Q : pR → pM → Prop} {SL p q : Nat} {x1 r r : Int32} (hG : Geo G SL p q) (h : ((r = 0 → Q (.inl (some (.int 0))) ((wF (wF F 11 8 1) 11 0 (F 11 5)), A, J, G)) ∧ (¬ r = 0 → X (d + 3) 34 0 [.ref 11] [] (F, A, J, G) (KK (d + 4) 30 102 [.ref 11, .int x1] [] Q)))) : KK (d + 4) 30 95 [.ref 11, .int x1] [] Q (.inl (some (.int r))) (F, A, J, G) := by
  refine KKi ?_
  refine Y_zeq i_30_95 (fun e1 => ?_) (fun e1 => ?_)
  · replace h := h.1 e1
    refine Y_al0 i_30_118 ?_
    refine Y_iconst (v := 1) i_30_119 (by decide) ?_
    refine Y_iv1 (L0 := [.ref 11, .int 1]) i_30_120 ow_30 lm_3_90 ((k_11 hG).trans ow_48.symm) rfl mx_48 rfl rfl hd_30 ?_
    refine Y_al0 i_48_0 ?_
    refine Y_il1 i_48_1 ?_
    refine Y_pI i_48_2 ow_48 lf_3_41 (k_11 hG) ?_
    refine Y_al0 i_48_5 ?_
    refine Y_al0 i_48_6 ?_
    refine Y_gI (v := (F 11 5)) i_48_7 ow_48 lf_3_158 (by decide) (k_11 hG) (by simp [wF, wJ, va_up, cpR, bF, bA]) ?_
    refine Y_pI i_48_10 ow_48 lf_3_44 (k_11 hG) ?_
    refine Y_iconst (v := 0) i_48_13 (by decide) ?_
    refine Y_bret i_48_14 rt_48 (by decide) (KKi ?_)
    exact Y_bret i_30_123 rt_30 (by decide) h
  · replace h := h.2 e1
    refine Y_al0 i_30_98 ?_
    exact Y_iv0 (L0 := [.ref 11]) i_30_99 ow_30 lm_3_87 ((k_11 hG).trans ow_34.symm) rfl mx_34 rfl rfl hd_30 h
theorem k_30_102 {d : Nat} {F A : Nat → Nat → Int32} {J : Nat → Nat → Int64} {G : pG} {Q : pR → pM → Prop} {SL p q : Nat} {x1 r r : Int32} (hG : Geo G SL p q) (h : ((r = 0 → Q (.inl (some (.int 0))) (F, A, J, G)) ∧ (¬ r = 0 → X (d + 3) 35 0 [.ref 11] [] (F, A, J, G) (KK (d + 4) 30 109 [.ref 11, .int x1] [] Q)))) : KK (d + 4) 30 102 [.ref 11, .int x1] [] Q (.inl (some (.int r))) (F, A, J, G) := by
  refine KKi ?_
  refine Y_zeq i_30_102 (fun e1 => ?_) (fun e1 => ?_)
  · replace h := h.1 e1
    refine Y_iconst (v := 0) i_30_116 (by decide) ?_
    exact Y_bret i_30_117 rt_30 (by decide) h
  · replace h := h.2 e1
    refine Y_al0 i_30_105 ?_
    exact Y_iv0 (L0 := [.ref 11]) i_30_106 ow_30 lm_3_68 ((k_11 hG).trans ow_35.symm) rfl mx_35 rfl rfl hd_30 h
theorem k_30_109 {d : Nat} {F A : Nat → Nat → Int32} {J : Nat → Nat → Int64} {G : pG} {Q : pR → pM → Prop} {SL p q : Nat} {x1 r r : Int32} (hG : Geo G SL p q) (h : ((r = 0 → Q (.inl (some (.int 0))) (F, A, J, G)) ∧ (¬ r = 0 → Q (.inl (some (.int 1))) (F, A, J, G)))) : KK (d + 4) 30 109 [.ref 11, .int x1] [] Q (.inl (some (.int r))) (F, A, J, G) := by
  refine KKi ?_
  refine Y_zeq i_30_109 (fun e1 => ?_) (fun e1 => ?_)
  · replace h := h.1 e1
    refine Y_iconst (v := 0) i_30_116 (by decide) ?_
    exact Y_bret i_30_117 rt_30 (by decide) h
  · replace h := h.2 e1
    refine Y_iconst (v := 1) i_30_112 (by decide) ?_
    refine Y_goto i_30_113 ?_
    exact Y_bret i_30_117 rt_30 (by decide) h
/- 31 Reader.tableLine(I)Z -/
theorem t_31_0 {d : Nat} {F A : Nat → Nat → Int32} {J : Nat → Nat → Int64} {G : pG} {Q : pR → pM → Prop} {SL p q : Nat} {x1 : Int32} (hG : Geo G SL p q) (h : (((F 2 0) < 10 → X (d + 2) 49 0 [.ref 11] [] (F, A, J, G) (KK (d + 3) 31 24 [.ref 11, .int x1, .int (F 2 0), .null, .null, .null, .null, .null] [] Q)) ∧ (¬ (F 2 0) < 10 → Q (.inl (some (.int 0))) ((wF (wF F 11 8 2) 11 0 (F 11 5)), A, J, G)))) : X (d + 3) 31 0 [.ref 11, .int x1, .null, .null, .null, .null, .null, .null] [] (F, A, J, G) Q := by
  refine Y_al0 i_31_0 ?_
  refine Y_gR i_31_1 ow_31 lf_3_15 (k_11 hG) (r_11_2 hG) ?_
  refine Y_gI (v := (F 2 0)) i_31_4 ow_31 lf_3_93 (by decide) (k_2 hG) rfl ?_
  refine Y_is2 i_31_7 rfl ?_
  refine Y_il2 i_31_8 ?_
  refine Y_bipush (v := 10) i_31_9 (by decide) ?_
  refine Y_clt i_31_11 (fun e1 => ?_) (fun e1 => ?_)
  · replace h := h.1 e1
    refine Y_al0 i_31_20 ?_
    exact Y_iv0 (L0 := [.ref 11]) i_31_21 ow_31 lm_3_50 ((k_11 hG).trans ow_49.symm) rfl mx_49 rfl rfl hd_31 h
  · replace h := h.2 e1
    refine Y_al0 i_31_14 ?_
    refine Y_iconst (v := 2) i_31_15 (by decide) ?_
    refine Y_iv1 (L0 := [.ref 11, .int 2]) i_31_16 ow_31 lm_3_90 ((k_11 hG).trans ow_48.symm) rfl mx_48 rfl rfl hd_31 ?_
    refine Y_al0 i_48_0 ?_
    refine Y_il1 i_48_1 ?_
    refine Y_pI i_48_2 ow_48 lf_3_41 (k_11 hG) ?_
    refine Y_al0 i_48_5 ?_
    refine Y_al0 i_48_6 ?_
    refine Y_gI (v := (F 11 5)) i_48_7 ow_48 lf_3_158 (by decide) (k_11 hG) (by simp [wF, wJ, va_up, cpR, bF, bA]) ?_
    refine Y_pI i_48_10 ow_48 lf_3_44 (k_11 hG) ?_
    refine Y_iconst (v := 0) i_48_13 (by decide) ?_
    refine Y_bret i_48_14 rt_48 (by decide) (KKi ?_)
    exact Y_bret i_31_19 rt_31 (by decide) h
theorem k_31_24 {d : Nat} {F A : Nat → Nat → Int32} {J : Nat → Nat → Int64} {G : pG} {Q : pR → pM → Prop} {SL p q : Nat} {x1 x2 : Int32} (hG : Geo G SL p q) (h : X (d + 2) 43 0 [.ref 11, .int 1, .int 99, .null] [] (F, A, J, G) (KK (d + 3) 31 31 [.ref 11, .int x1, .int x2, .null, .null, .null, .null, .null] [] Q)) : KK (d + 3) 31 24 [.ref 11, .int x1, .int x2, .null, .null, .null, .null, .null] [] Q (.inl none) (F, A, J, G) := by
  refine KKv ?_
  refine Y_al0 i_31_24 ?_
  refine Y_iconst (v := 1) i_31_25 (by decide) ?_
  refine Y_bipush (v := 99) i_31_26 (by decide) ?_
  exact Y_iv2 (L0 := [.ref 11, .int 1, .int 99, .null]) i_31_28 ow_31 lm_3_96 ((k_11 hG).trans ow_43.symm) rfl mx_43 rfl rfl hd_31 h
theorem k_31_31 {d : Nat} {F A : Nat → Nat → Int32} {J : Nat → Nat → Int64} {G : pG} {Q : pR → pM → Prop} {SL p q : Nat} {x1 x2 r r : Int32} (hG : Geo G SL p q) (h : (((F 11 8) = 0 → X (d + 2) 43 0 [.ref 11, .int 0, .int 999, .null] [] (F, A, J, G) (KK (d + 3) 31 47 [.ref 11, .int x1, .int x2, .int r, .null, .null, .null, .null] [] Q)) ∧ (¬ (F 11 8) = 0 → (((F 11 8) = 0 → (((F 11 4) = 4 → inB (F 11 5) 600 = true ∧ (((A 1 (F 11 5).toNatClampNeg) = 45 → X (d + 2) 49 0 [.ref 11] [] (F, A, J, G) (KK (d + 3) 31 85 [.ref 11, .int x1, .int x2, .int r, .int (-1), .int (-1), .null, .null] [] Q)) ∧ (¬ (A 1 (F 11 5).toNatClampNeg) = 45 → (((F 11 8) = 0 → X (d + 2) 43 0 [.ref 11, .int 0, .int 9, .null] [] (F, A, J, G) (KK (d + 3) 31 99 [.ref 11, .int x1, .int x2, .int r, .int (-1), .int 1, .null, .null] [] Q)) ∧ (¬ (F 11 8) = 0 → (((F 11 8) = 0 → X (d + 2) 43 0 [.ref 11, .int 0, .int 99, .null] [] (F, A, J, G) (KK (d + 3) 31 119 [.ref 11, .int x1, .int x2, .int r, .int (-1), .int 1, .int (-1), .null] [] Q)) ∧ (¬ (F 11 8) = 0 → (((F 11 8) = 0 → inB x2 10 = true ∧ (Q (.inl (some (.int 1))) ((wF F 2 0 (x2 + 1)), (wF (wF (wF (wF (wF A 3 x2.toNatClampNeg x1) 4 x2.toNatClampNeg r) 5 x2.toNatClampNeg (-1)) 6 x2.toNatClampNeg ((1 : Int32) * (-1))) 7 x2.toNatClampNeg (-1)), J, G))) ∧ (¬ (F 11 8) = 0 → Q (.inl (some (.int 0))) (F, A, J, G)))))))))) ∧ (¬ (F 11 4) = 4 → (((F 11 8) = 0 → X (d + 2) 43 0 [.ref 11, .int 0, .int 9, .null] [] (F, A, J, G) (KK (d + 3) 31 99 [.ref 11, .int x1, .int x2, .int r, .int (-1), .int 1, .null, .null] [] Q)) ∧ (¬ (F 11 8) = 0 → (((F 11 8) = 0 → X (d + 2) 43 0 [.ref 11, .int 0, .int 99, .null] [] (F, A, J, G) (KK (d + 3) 31 119 [.ref 11, .int x1, .int x2, .int r, .int (-1), .int 1, .int (-1), .null] [] Q)) ∧ (¬ (F 11 8) = 0 → (((F 11 8) = 0 → inB x2 10 = true ∧ (Q (.inl (some (.int 1))) ((wF F 2 0 (x2 + 1)), (wF (wF (wF (wF (wF A 3 x2.toNatClampNeg x1) 4 x2.toNatClampNeg r) 5 x2.toNatClampNeg (-1)) 6 x2.toNatClampNeg ((1 : Int32) * (-1))) 7 x2.toNatClampNeg (-1)), J, G))) ∧ (¬ (F 11 8) = 0 → Q (.inl (some (.int 0))) (F, A, J, G)))))))))) ∧ (¬ (F 11 8) = 0 → (((F 11 8) = 0 → X (d + 2) 43 0 [.ref 11, .int 0, .int 9, .null] [] (F, A, J, G) (KK (d + 3) 31 99 [.ref 11, .int x1, .int x2, .int r, .int (-1), .int 1, .null, .null] [] Q)) ∧ (¬ (F 11 8) = 0 → (((F 11 8) = 0 → X (d + 2) 43 0 [.ref 11, .int 0, .int 99, .null] [] (F, A, J, G) (KK (d + 3) 31 119 [.ref 11, .int x1, .int x2, .int r, .int (-1), .int 1, .int (-1), .null] [] Q)) ∧ (¬ (F 11 8) = 0 → (((F 11 8) = 0 → inB x2 10 = true ∧ (Q (.inl (some (.int 1))) ((wF F 2 0 (x2 + 1)), (wF (wF (wF (wF (wF A 3 x2.toNatClampNeg x1) 4 x2.toNatClampNeg r) 5 x2.toNatClampNeg (-1)) 6 x2.toNatClampNeg ((1 : Int32) * (-1))) 7 x2.toNatClampNeg (-1)), J, G))) ∧ (¬ (F 11 8) = 0 → Q (.inl (some (.int 0))) (F, A, J, G)))))))))))) : KK (d + 3) 31 31 [.ref 11, .int x1, .int x2, .null, .null, .null, .null, .null] [] Q (.inl (some (.int r))) (F, A, J, G) := by
  refine KKi ?_
  refine Y_is3 i_31_31 rfl ?_
  refine Y_al0 i_31_32 ?_
  refine Y_gI (v := (F 11 8)) i_31_33 ow_31 lf_3_41 (by decide) (k_11 hG) rfl ?_
  refine Y_zne i_31_36 (fun e1 => ?_) (fun e1 => ?_)
  · replace h := h.1 e1
    refine Y_al0 i_31_39 ?_
    refine Y_iconst (v := 0) i_31_40 (by decide) ?_
    refine Y_sipush (v := 999) i_31_41 (by decide) ?_
    exact Y_iv2 (L0 := [.ref 11, .int 0, .int 999, .null]) i_31_44 ow_31 lm_3_96 ((k_11 hG).trans ow_43.symm) rfl mx_43 rfl rfl hd_31 h
  · replace h := h.2 e1
    refine Y_iconst (v := (-1)) i_31_50 (by decide) ?_
    refine Y_is4 i_31_51 rfl ?_
    refine Y_al0 i_31_53 ?_
    refine Y_gI (v := (F 11 8)) i_31_54 ow_31 lf_3_41 (by decide) (k_11 hG) rfl ?_
    refine Y_zne i_31_57 (fun e2 => ?_) (fun e2 => ?_)
    · replace h := h.1 e2
      refine Y_al0 i_31_60 ?_
      refine Y_bipush (v := 45) i_31_61 (by decide) ?_
      refine Y_iv1 (L0 := [.ref 11, .int 45]) i_31_63 ow_31 lm_3_99 ((k_11 hG).trans ow_47.symm) rfl mx_47 rfl rfl hd_31 ?_
      refine Y_al0 i_47_0 ?_
      refine Y_gI (v := (F 11 4)) i_47_1 ow_47 lf_3_53 (by decide) (k_11 hG) rfl ?_
      refine Y_iconst (v := 4) i_47_4 (by decide) ?_
      refine Y_cne i_47_5 (fun e3 => ?_) (fun e3 => ?_)
      · replace h := h.1 e3
        refine Y_al0 i_47_8 ?_
        refine Y_gR i_47_9 ow_47 lf_3_9 (k_11 hG) (r_11_1 hG) ?_
        refine Y_al0 i_47_12 ?_
        refine Y_gI (v := (F 11 5)) i_47_13 ow_47 lf_3_158 (by decide) (k_11 hG) rfl ?_
        have o4 := h.1
        replace h := h.2
        refine Y_baload (k := (F 11 5).toNatClampNeg) (v := (A 1 (F 11 5).toNatClampNeg)) i_47_16 (k_1 hG) (l_1 hG) o4 rfl rfl ?_
        refine Y_il1 i_47_17 ?_
        refine Y_cne i_47_18 (fun e5 => ?_) (fun e5 => ?_)
        · replace h := h.1 e5
          refine Y_iconst (v := 1) i_47_21 (by decide) ?_
          refine Y_goto i_47_22 ?_
          refine Y_bret i_47_26 rt_47 (by decide) (KKi ?_)
          refine Y_zF i_31_66 (by decide) ?_
          refine Y_iconst (v := (-1)) i_31_69 (by decide) ?_
          refine Y_goto i_31_70 ?_
          refine Y_is5 i_31_74 rfl ?_
          refine Y_il5 i_31_76 ?_
          refine Y_zF i_31_78 (by decide) ?_
          refine Y_al0 i_31_81 ?_
          exact Y_iv0 (L0 := [.ref 11]) i_31_82 ow_31 lm_3_50 ((k_11 hG).trans ow_49.symm) rfl mx_49 rfl rfl hd_31 h
        · replace h := h.2 e5
          refine Y_iconst (v := 0) i_47_25 (by decide) ?_
          refine Y_bret i_47_26 rt_47 (by decide) (KKi ?_)
          refine Y_zT i_31_66 (by decide) ?_
          refine Y_iconst (v := 1) i_31_73 (by decide) ?_
          refine Y_is5 i_31_74 rfl ?_
          refine Y_il5 i_31_76 ?_
          refine Y_zT i_31_78 (by decide) ?_
          refine Y_al0 i_31_85 ?_
          refine Y_gI (v := (F 11 8)) i_31_86 ow_31 lf_3_41 (by decide) (k_11 hG) rfl ?_
          refine Y_zne i_31_89 (fun e6 => ?_) (fun e6 => ?_)
          · replace h := h.1 e6
            refine Y_al0 i_31_92 ?_
            refine Y_iconst (v := 0) i_31_93 (by decide) ?_
            refine Y_bipush (v := 9) i_31_94 (by decide) ?_
            exact Y_iv2 (L0 := [.ref 11, .int 0, .int 9, .null]) i_31_96 ow_31 lm_3_96 ((k_11 hG).trans ow_43.symm) rfl mx_43 rfl rfl hd_31 h
          · replace h := h.2 e6
            refine Y_iconst (v := (-1)) i_31_102 (by decide) ?_
            refine Y_is6 i_31_103 rfl ?_
            refine Y_al0 i_31_105 ?_
            refine Y_gI (v := (F 11 8)) i_31_106 ow_31 lf_3_41 (by decide) (k_11 hG) rfl ?_
            refine Y_zne i_31_109 (fun e7 => ?_) (fun e7 => ?_)
            · replace h := h.1 e7
              refine Y_al0 i_31_112 ?_
              refine Y_iconst (v := 0) i_31_113 (by decide) ?_
              refine Y_bipush (v := 99) i_31_114 (by decide) ?_
              exact Y_iv2 (L0 := [.ref 11, .int 0, .int 99, .null]) i_31_116 ow_31 lm_3_96 ((k_11 hG).trans ow_43.symm) rfl mx_43 rfl rfl hd_31 h
            · replace h := h.2 e7
              refine Y_iconst (v := (-1)) i_31_122 (by decide) ?_
              refine Y_is7 i_31_123 rfl ?_
              refine Y_al0 i_31_125 ?_
              refine Y_gI (v := (F 11 8)) i_31_126 ow_31 lf_3_41 (by decide) (k_11 hG) rfl ?_
              refine Y_zeq i_31_129 (fun e8 => ?_) (fun e8 => ?_)
              · replace h := h.1 e8
                refine Y_al0 i_31_134 ?_
                refine Y_gR i_31_135 ow_31 lf_3_15 (k_11 hG) (r_11_2 hG) ?_
                refine Y_gR i_31_138 ow_31 lf_3_103 (k_2 hG) (r_2_3 hG) ?_
                refine Y_il2 i_31_141 ?_
                refine Y_il1 i_31_142 ?_
                have o9 := h.1
                replace h := h.2
                refine Y_iast i_31_143 (k_3 hG) (l_3 hG) o9 rfl ?_
                refine Y_al0 i_31_144 ?_
                refine Y_gR i_31_145 ow_31 lf_3_15 (k_11 hG) (r_11_2 hG) ?_
                refine Y_gR i_31_148 ow_31 lf_3_107 (k_2 hG) (r_2_4 hG) ?_
                refine Y_il2 i_31_151 ?_
                refine Y_il3 i_31_152 ?_
                refine Y_iast i_31_153 (k_4 hG) (l_4 hG) o9 rfl ?_
                refine Y_al0 i_31_154 ?_
                refine Y_gR i_31_155 ow_31 lf_3_15 (k_11 hG) (r_11_2 hG) ?_
                refine Y_gR i_31_158 ow_31 lf_3_110 (k_2 hG) (r_2_5 hG) ?_
                refine Y_il2 i_31_161 ?_
                refine Y_il4 i_31_162 ?_
                refine Y_iast i_31_164 (k_5 hG) (l_5 hG) o9 rfl ?_
                refine Y_al0 i_31_165 ?_
                refine Y_gR i_31_166 ow_31 lf_3_15 (k_11 hG) (r_11_2 hG) ?_
                refine Y_gR i_31_169 ow_31 lf_3_113 (k_2 hG) (r_2_6 hG) ?_
                refine Y_il2 i_31_172 ?_
                refine Y_il5 i_31_173 ?_
                refine Y_il6 i_31_175 ?_
                refine Y_imul i_31_177 ?_
                refine Y_iast i_31_178 (k_6 hG) (l_6 hG) o9 rfl ?_
                refine Y_al0 i_31_179 ?_
                refine Y_gR i_31_180 ow_31 lf_3_15 (k_11 hG) (r_11_2 hG) ?_
                refine Y_gR i_31_183 ow_31 lf_3_116 (k_2 hG) (r_2_7 hG) ?_
                refine Y_il2 i_31_186 ?_
                refine Y_il7 i_31_187 ?_
                refine Y_iast i_31_189 (k_7 hG) (l_7 hG) o9 rfl ?_
                refine Y_al0 i_31_190 ?_
                refine Y_gR i_31_191 ow_31 lf_3_15 (k_11 hG) (r_11_2 hG) ?_
                refine Y_il2 i_31_194 ?_
                refine Y_iconst (v := 1) i_31_195 (by decide) ?_
                refine Y_iadd i_31_196 ?_
                refine Y_pI i_31_197 ow_31 lf_3_93 (k_2 hG) ?_
                refine Y_iconst (v := 1) i_31_200 (by decide) ?_
                exact Y_bret i_31_201 rt_31 (by decide) h
              · replace h := h.2 e8
                refine Y_iconst (v := 0) i_31_132 (by decide) ?_
                exact Y_bret i_31_133 rt_31 (by decide) h
      · replace h := h.2 e3
        refine Y_iconst (v := 0) i_47_25 (by decide) ?_
        refine Y_bret i_47_26 rt_47 (by decide) (KKi ?_)
        refine Y_zT i_31_66 (by decide) ?_
        refine Y_iconst (v := 1) i_31_73 (by decide) ?_
        refine Y_is5 i_31_74 rfl ?_
        refine Y_il5 i_31_76 ?_
        refine Y_zT i_31_78 (by decide) ?_
        refine Y_al0 i_31_85 ?_
        refine Y_gI (v := (F 11 8)) i_31_86 ow_31 lf_3_41 (by decide) (k_11 hG) rfl ?_
        refine Y_zne i_31_89 (fun e10 => ?_) (fun e10 => ?_)
        · replace h := h.1 e10
          refine Y_al0 i_31_92 ?_
          refine Y_iconst (v := 0) i_31_93 (by decide) ?_
          refine Y_bipush (v := 9) i_31_94 (by decide) ?_
          exact Y_iv2 (L0 := [.ref 11, .int 0, .int 9, .null]) i_31_96 ow_31 lm_3_96 ((k_11 hG).trans ow_43.symm) rfl mx_43 rfl rfl hd_31 h
        · replace h := h.2 e10
          refine Y_iconst (v := (-1)) i_31_102 (by decide) ?_
          refine Y_is6 i_31_103 rfl ?_
          refine Y_al0 i_31_105 ?_
          refine Y_gI (v := (F 11 8)) i_31_106 ow_31 lf_3_41 (by decide) (k_11 hG) rfl ?_
          refine Y_zne i_31_109 (fun e11 => ?_) (fun e11 => ?_)
          · replace h := h.1 e11
            refine Y_al0 i_31_112 ?_
            refine Y_iconst (v := 0) i_31_113 (by decide) ?_
            refine Y_bipush (v := 99) i_31_114 (by decide) ?_
            exact Y_iv2 (L0 := [.ref 11, .int 0, .int 99, .null]) i_31_116 ow_31 lm_3_96 ((k_11 hG).trans ow_43.symm) rfl mx_43 rfl rfl hd_31 h
          · replace h := h.2 e11
            refine Y_iconst (v := (-1)) i_31_122 (by decide) ?_
            refine Y_is7 i_31_123 rfl ?_
            refine Y_al0 i_31_125 ?_
            refine Y_gI (v := (F 11 8)) i_31_126 ow_31 lf_3_41 (by decide) (k_11 hG) rfl ?_
            refine Y_zeq i_31_129 (fun e12 => ?_) (fun e12 => ?_)
            · replace h := h.1 e12
              refine Y_al0 i_31_134 ?_
              refine Y_gR i_31_135 ow_31 lf_3_15 (k_11 hG) (r_11_2 hG) ?_
              refine Y_gR i_31_138 ow_31 lf_3_103 (k_2 hG) (r_2_3 hG) ?_
              refine Y_il2 i_31_141 ?_
              refine Y_il1 i_31_142 ?_
              have o13 := h.1
              replace h := h.2
              refine Y_iast i_31_143 (k_3 hG) (l_3 hG) o13 rfl ?_
              refine Y_al0 i_31_144 ?_
              refine Y_gR i_31_145 ow_31 lf_3_15 (k_11 hG) (r_11_2 hG) ?_
              refine Y_gR i_31_148 ow_31 lf_3_107 (k_2 hG) (r_2_4 hG) ?_
              refine Y_il2 i_31_151 ?_
              refine Y_il3 i_31_152 ?_
              refine Y_iast i_31_153 (k_4 hG) (l_4 hG) o13 rfl ?_
              refine Y_al0 i_31_154 ?_
              refine Y_gR i_31_155 ow_31 lf_3_15 (k_11 hG) (r_11_2 hG) ?_
              refine Y_gR i_31_158 ow_31 lf_3_110 (k_2 hG) (r_2_5 hG) ?_
              refine Y_il2 i_31_161 ?_
              refine Y_il4 i_31_162 ?_
              refine Y_iast i_31_164 (k_5 hG) (l_5 hG) o13 rfl ?_
              refine Y_al0 i_31_165 ?_
              refine Y_gR i_31_166 ow_31 lf_3_15 (k_11 hG) (r_11_2 hG) ?_
              refine Y_gR i_31_169 ow_31 lf_3_113 (k_2 hG) (r_2_6 hG) ?_
              refine Y_il2 i_31_172 ?_
              refine Y_il5 i_31_173 ?_
              refine Y_il6 i_31_175 ?_
              refine Y_imul i_31_177 ?_
              refine Y_iast i_31_178 (k_6 hG) (l_6 hG) o13 rfl ?_
              refine Y_al0 i_31_179 ?_
              refine Y_gR i_31_180 ow_31 lf_3_15 (k_11 hG) (r_11_2 hG) ?_
              refine Y_gR i_31_183 ow_31 lf_3_116 (k_2 hG) (r_2_7 hG) ?_
              refine Y_il2 i_31_186 ?_
              refine Y_il7 i_31_187 ?_
              refine Y_iast i_31_189 (k_7 hG) (l_7 hG) o13 rfl ?_
              refine Y_al0 i_31_190 ?_
              refine Y_gR i_31_191 ow_31 lf_3_15 (k_11 hG) (r_11_2 hG) ?_
              refine Y_il2 i_31_194 ?_
              refine Y_iconst (v := 1) i_31_195 (by decide) ?_
              refine Y_iadd i_31_196 ?_
              refine Y_pI i_31_197 ow_31 lf_3_93 (k_2 hG) ?_
              refine Y_iconst (v := 1) i_31_200 (by decide) ?_
              exact Y_bret i_31_201 rt_31 (by decide) h
            · replace h := h.2 e12
              refine Y_iconst (v := 0) i_31_132 (by decide) ?_
              exact Y_bret i_31_133 rt_31 (by decide) h
    · replace h := h.2 e2
      refine Y_iconst (v := 1) i_31_73 (by decide) ?_
      refine Y_is5 i_31_74 rfl ?_
      refine Y_il5 i_31_76 ?_
      refine Y_zT i_31_78 (by decide) ?_
      refine Y_al0 i_31_85 ?_
      refine Y_gI (v := (F 11 8)) i_31_86 ow_31 lf_3_41 (by decide) (k_11 hG) rfl ?_
      refine Y_zne i_31_89 (fun e14 => ?_) (fun e14 => ?_)
      · replace h := h.1 e14
        refine Y_al0 i_31_92 ?_
        refine Y_iconst (v := 0) i_31_93 (by decide) ?_
        refine Y_bipush (v := 9) i_31_94 (by decide) ?_
        exact Y_iv2 (L0 := [.ref 11, .int 0, .int 9, .null]) i_31_96 ow_31 lm_3_96 ((k_11 hG).trans ow_43.symm) rfl mx_43 rfl rfl hd_31 h
      · replace h := h.2 e14
        refine Y_iconst (v := (-1)) i_31_102 (by decide) ?_
        refine Y_is6 i_31_103 rfl ?_
        refine Y_al0 i_31_105 ?_
        refine Y_gI (v := (F 11 8)) i_31_106 ow_31 lf_3_41 (by decide) (k_11 hG) rfl ?_
        refine Y_zne i_31_109 (fun e15 => ?_) (fun e15 => ?_)
        · replace h := h.1 e15
          refine Y_al0 i_31_112 ?_
          refine Y_iconst (v := 0) i_31_113 (by decide) ?_
          refine Y_bipush (v := 99) i_31_114 (by decide) ?_
          exact Y_iv2 (L0 := [.ref 11, .int 0, .int 99, .null]) i_31_116 ow_31 lm_3_96 ((k_11 hG).trans ow_43.symm) rfl mx_43 rfl rfl hd_31 h
        · replace h := h.2 e15
          refine Y_iconst (v := (-1)) i_31_122 (by decide) ?_
          refine Y_is7 i_31_123 rfl ?_
          refine Y_al0 i_31_125 ?_
          refine Y_gI (v := (F 11 8)) i_31_126 ow_31 lf_3_41 (by decide) (k_11 hG) rfl ?_
          refine Y_zeq i_31_129 (fun e16 => ?_) (fun e16 => ?_)
          · replace h := h.1 e16
            refine Y_al0 i_31_134 ?_
            refine Y_gR i_31_135 ow_31 lf_3_15 (k_11 hG) (r_11_2 hG) ?_
            refine Y_gR i_31_138 ow_31 lf_3_103 (k_2 hG) (r_2_3 hG) ?_
            refine Y_il2 i_31_141 ?_
            refine Y_il1 i_31_142 ?_
            have o17 := h.1
            replace h := h.2
            refine Y_iast i_31_143 (k_3 hG) (l_3 hG) o17 rfl ?_
            refine Y_al0 i_31_144 ?_
            refine Y_gR i_31_145 ow_31 lf_3_15 (k_11 hG) (r_11_2 hG) ?_
            refine Y_gR i_31_148 ow_31 lf_3_107 (k_2 hG) (r_2_4 hG) ?_
            refine Y_il2 i_31_151 ?_
            refine Y_il3 i_31_152 ?_
            refine Y_iast i_31_153 (k_4 hG) (l_4 hG) o17 rfl ?_
            refine Y_al0 i_31_154 ?_
            refine Y_gR i_31_155 ow_31 lf_3_15 (k_11 hG) (r_11_2 hG) ?_
            refine Y_gR i_31_158 ow_31 lf_3_110 (k_2 hG) (r_2_5 hG) ?_
            refine Y_il2 i_31_161 ?_
            refine Y_il4 i_31_162 ?_
            refine Y_iast i_31_164 (k_5 hG) (l_5 hG) o17 rfl ?_
            refine Y_al0 i_31_165 ?_
            refine Y_gR i_31_166 ow_31 lf_3_15 (k_11 hG) (r_11_2 hG) ?_
            refine Y_gR i_31_169 ow_31 lf_3_113 (k_2 hG) (r_2_6 hG) ?_
            refine Y_il2 i_31_172 ?_
            refine Y_il5 i_31_173 ?_
            refine Y_il6 i_31_175 ?_
            refine Y_imul i_31_177 ?_
            refine Y_iast i_31_178 (k_6 hG) (l_6 hG) o17 rfl ?_
            refine Y_al0 i_31_179 ?_
            refine Y_gR i_31_180 ow_31 lf_3_15 (k_11 hG) (r_11_2 hG) ?_
            refine Y_gR i_31_183 ow_31 lf_3_116 (k_2 hG) (r_2_7 hG) ?_
            refine Y_il2 i_31_186 ?_
            refine Y_il7 i_31_187 ?_
            refine Y_iast i_31_189 (k_7 hG) (l_7 hG) o17 rfl ?_
            refine Y_al0 i_31_190 ?_
            refine Y_gR i_31_191 ow_31 lf_3_15 (k_11 hG) (r_11_2 hG) ?_
            refine Y_il2 i_31_194 ?_
            refine Y_iconst (v := 1) i_31_195 (by decide) ?_
            refine Y_iadd i_31_196 ?_
            refine Y_pI i_31_197 ow_31 lf_3_93 (k_2 hG) ?_
            refine Y_iconst (v := 1) i_31_200 (by decide) ?_
            exact Y_bret i_31_201 rt_31 (by decide) h
          · replace h := h.2 e16
            refine Y_iconst (v := 0) i_31_132 (by decide) ?_
            exact Y_bret i_31_133 rt_31 (by decide) h
theorem k_31_47 {d : Nat} {F A : Nat → Nat → Int32} {J : Nat → Nat → Int64} {G : pG} {Q : pR → pM → Prop} {SL p q : Nat} {x1 x2 x3 r r : Int32} (hG : Geo G SL p q) (h : (((F 11 8) = 0 → (((F 11 4) = 4 → inB (F 11 5) 600 = true ∧ (((A 1 (F 11 5).toNatClampNeg) = 45 → X (d + 2) 49 0 [.ref 11] [] (F, A, J, G) (KK (d + 3) 31 85 [.ref 11, .int x1, .int x2, .int x3, .int r, .int (-1), .null, .null] [] Q)) ∧ (¬ (A 1 (F 11 5).toNatClampNeg) = 45 → (((F 11 8) = 0 → X (d + 2) 43 0 [.ref 11, .int 0, .int 9, .null] [] (F, A, J, G) (KK (d + 3) 31 99 [.ref 11, .int x1, .int x2, .int x3, .int r, .int 1, .null, .null] [] Q)) ∧ (¬ (F 11 8) = 0 → (((F 11 8) = 0 → X (d + 2) 43 0 [.ref 11, .int 0, .int 99, .null] [] (F, A, J, G) (KK (d + 3) 31 119 [.ref 11, .int x1, .int x2, .int x3, .int r, .int 1, .int (-1), .null] [] Q)) ∧ (¬ (F 11 8) = 0 → (((F 11 8) = 0 → inB x2 10 = true ∧ (Q (.inl (some (.int 1))) ((wF F 2 0 (x2 + 1)), (wF (wF (wF (wF (wF A 3 x2.toNatClampNeg x1) 4 x2.toNatClampNeg x3) 5 x2.toNatClampNeg r) 6 x2.toNatClampNeg ((1 : Int32) * (-1))) 7 x2.toNatClampNeg (-1)), J, G))) ∧ (¬ (F 11 8) = 0 → Q (.inl (some (.int 0))) (F, A, J, G)))))))))) ∧ (¬ (F 11 4) = 4 → (((F 11 8) = 0 → X (d + 2) 43 0 [.ref 11, .int 0, .int 9, .null] [] (F, A, J, G) (KK (d + 3) 31 99 [.ref 11, .int x1, .int x2, .int x3, .int r, .int 1, .null, .null] [] Q)) ∧ (¬ (F 11 8) = 0 → (((F 11 8) = 0 → X (d + 2) 43 0 [.ref 11, .int 0, .int 99, .null] [] (F, A, J, G) (KK (d + 3) 31 119 [.ref 11, .int x1, .int x2, .int x3, .int r, .int 1, .int (-1), .null] [] Q)) ∧ (¬ (F 11 8) = 0 → (((F 11 8) = 0 → inB x2 10 = true ∧ (Q (.inl (some (.int 1))) ((wF F 2 0 (x2 + 1)), (wF (wF (wF (wF (wF A 3 x2.toNatClampNeg x1) 4 x2.toNatClampNeg x3) 5 x2.toNatClampNeg r) 6 x2.toNatClampNeg ((1 : Int32) * (-1))) 7 x2.toNatClampNeg (-1)), J, G))) ∧ (¬ (F 11 8) = 0 → Q (.inl (some (.int 0))) (F, A, J, G)))))))))) ∧ (¬ (F 11 8) = 0 → (((F 11 8) = 0 → X (d + 2) 43 0 [.ref 11, .int 0, .int 9, .null] [] (F, A, J, G) (KK (d + 3) 31 99 [.ref 11, .int x1, .int x2, .int x3, .int r, .int 1, .null, .null] [] Q)) ∧ (¬ (F 11 8) = 0 → (((F 11 8) = 0 → X (d + 2) 43 0 [.ref 11, .int 0, .int 99, .null] [] (F, A, J, G) (KK (d + 3) 31 119 [.ref 11, .int x1, .int x2, .int x3, .int r, .int 1, .int (-1), .null] [] Q)) ∧ (¬ (F 11 8) = 0 → (((F 11 8) = 0 → inB x2 10 = true ∧ (Q (.inl (some (.int 1))) ((wF F 2 0 (x2 + 1)), (wF (wF (wF (wF (wF A 3 x2.toNatClampNeg x1) 4 x2.toNatClampNeg x3) 5 x2.toNatClampNeg r) 6 x2.toNatClampNeg ((1 : Int32) * (-1))) 7 x2.toNatClampNeg (-1)), J, G))) ∧ (¬ (F 11 8) = 0 → Q (.inl (some (.int 0))) (F, A, J, G)))))))))) : KK (d + 3) 31 47 [.ref 11, .int x1, .int x2, .int x3, .null, .null, .null, .null] [] Q (.inl (some (.int r))) (F, A, J, G) := by
  refine KKi ?_
  refine Y_goto i_31_47 ?_
  refine Y_is4 i_31_51 rfl ?_
  refine Y_al0 i_31_53 ?_
  refine Y_gI (v := (F 11 8)) i_31_54 ow_31 lf_3_41 (by decide) (k_11 hG) rfl ?_
  refine Y_zne i_31_57 (fun e1 => ?_) (fun e1 => ?_)
  · replace h := h.1 e1
    refine Y_al0 i_31_60 ?_
    refine Y_bipush (v := 45) i_31_61 (by decide) ?_
    refine Y_iv1 (L0 := [.ref 11, .int 45]) i_31_63 ow_31 lm_3_99 ((k_11 hG).trans ow_47.symm) rfl mx_47 rfl rfl hd_31 ?_
    refine Y_al0 i_47_0 ?_
    refine Y_gI (v := (F 11 4)) i_47_1 ow_47 lf_3_53 (by decide) (k_11 hG) rfl ?_
    refine Y_iconst (v := 4) i_47_4 (by decide) ?_
    refine Y_cne i_47_5 (fun e2 => ?_) (fun e2 => ?_)
    · replace h := h.1 e2
      refine Y_al0 i_47_8 ?_
      refine Y_gR i_47_9 ow_47 lf_3_9 (k_11 hG) (r_11_1 hG) ?_
      refine Y_al0 i_47_12 ?_
      refine Y_gI (v := (F 11 5)) i_47_13 ow_47 lf_3_158 (by decide) (k_11 hG) rfl ?_
      have o3 := h.1
      replace h := h.2
      refine Y_baload (k := (F 11 5).toNatClampNeg) (v := (A 1 (F 11 5).toNatClampNeg)) i_47_16 (k_1 hG) (l_1 hG) o3 rfl rfl ?_
      refine Y_il1 i_47_17 ?_
      refine Y_cne i_47_18 (fun e4 => ?_) (fun e4 => ?_)
      · replace h := h.1 e4
        refine Y_iconst (v := 1) i_47_21 (by decide) ?_
        refine Y_goto i_47_22 ?_
        refine Y_bret i_47_26 rt_47 (by decide) (KKi ?_)
        refine Y_zF i_31_66 (by decide) ?_
        refine Y_iconst (v := (-1)) i_31_69 (by decide) ?_
        refine Y_goto i_31_70 ?_
        refine Y_is5 i_31_74 rfl ?_
        refine Y_il5 i_31_76 ?_
        refine Y_zF i_31_78 (by decide) ?_
        refine Y_al0 i_31_81 ?_
        exact Y_iv0 (L0 := [.ref 11]) i_31_82 ow_31 lm_3_50 ((k_11 hG).trans ow_49.symm) rfl mx_49 rfl rfl hd_31 h
      · replace h := h.2 e4
        refine Y_iconst (v := 0) i_47_25 (by decide) ?_
        refine Y_bret i_47_26 rt_47 (by decide) (KKi ?_)
        refine Y_zT i_31_66 (by decide) ?_
        refine Y_iconst (v := 1) i_31_73 (by decide) ?_
        refine Y_is5 i_31_74 rfl ?_
        refine Y_il5 i_31_76 ?_
        refine Y_zT i_31_78 (by decide) ?_
        refine Y_al0 i_31_85 ?_
        refine Y_gI (v := (F 11 8)) i_31_86 ow_31 lf_3_41 (by decide) (k_11 hG) rfl ?_
        refine Y_zne i_31_89 (fun e5 => ?_) (fun e5 => ?_)
        · replace h := h.1 e5
          refine Y_al0 i_31_92 ?_
          refine Y_iconst (v := 0) i_31_93 (by decide) ?_
          refine Y_bipush (v := 9) i_31_94 (by decide) ?_
          exact Y_iv2 (L0 := [.ref 11, .int 0, .int 9, .null]) i_31_96 ow_31 lm_3_96 ((k_11 hG).trans ow_43.symm) rfl mx_43 rfl rfl hd_31 h
        · replace h := h.2 e5
          refine Y_iconst (v := (-1)) i_31_102 (by decide) ?_
          refine Y_is6 i_31_103 rfl ?_
          refine Y_al0 i_31_105 ?_
          refine Y_gI (v := (F 11 8)) i_31_106 ow_31 lf_3_41 (by decide) (k_11 hG) rfl ?_
          refine Y_zne i_31_109 (fun e6 => ?_) (fun e6 => ?_)
          · replace h := h.1 e6
            refine Y_al0 i_31_112 ?_
            refine Y_iconst (v := 0) i_31_113 (by decide) ?_
            refine Y_bipush (v := 99) i_31_114 (by decide) ?_
            exact Y_iv2 (L0 := [.ref 11, .int 0, .int 99, .null]) i_31_116 ow_31 lm_3_96 ((k_11 hG).trans ow_43.symm) rfl mx_43 rfl rfl hd_31 h
          · replace h := h.2 e6
            refine Y_iconst (v := (-1)) i_31_122 (by decide) ?_
            refine Y_is7 i_31_123 rfl ?_
            refine Y_al0 i_31_125 ?_
            refine Y_gI (v := (F 11 8)) i_31_126 ow_31 lf_3_41 (by decide) (k_11 hG) rfl ?_
            refine Y_zeq i_31_129 (fun e7 => ?_) (fun e7 => ?_)
            · replace h := h.1 e7
              refine Y_al0 i_31_134 ?_
              refine Y_gR i_31_135 ow_31 lf_3_15 (k_11 hG) (r_11_2 hG) ?_
              refine Y_gR i_31_138 ow_31 lf_3_103 (k_2 hG) (r_2_3 hG) ?_
              refine Y_il2 i_31_141 ?_
              refine Y_il1 i_31_142 ?_
              have o8 := h.1
              replace h := h.2
              refine Y_iast i_31_143 (k_3 hG) (l_3 hG) o8 rfl ?_
              refine Y_al0 i_31_144 ?_
              refine Y_gR i_31_145 ow_31 lf_3_15 (k_11 hG) (r_11_2 hG) ?_
              refine Y_gR i_31_148 ow_31 lf_3_107 (k_2 hG) (r_2_4 hG) ?_
              refine Y_il2 i_31_151 ?_
              refine Y_il3 i_31_152 ?_
              refine Y_iast i_31_153 (k_4 hG) (l_4 hG) o8 rfl ?_
              refine Y_al0 i_31_154 ?_
              refine Y_gR i_31_155 ow_31 lf_3_15 (k_11 hG) (r_11_2 hG) ?_
              refine Y_gR i_31_158 ow_31 lf_3_110 (k_2 hG) (r_2_5 hG) ?_
              refine Y_il2 i_31_161 ?_
              refine Y_il4 i_31_162 ?_
              refine Y_iast i_31_164 (k_5 hG) (l_5 hG) o8 rfl ?_
              refine Y_al0 i_31_165 ?_
              refine Y_gR i_31_166 ow_31 lf_3_15 (k_11 hG) (r_11_2 hG) ?_
              refine Y_gR i_31_169 ow_31 lf_3_113 (k_2 hG) (r_2_6 hG) ?_
              refine Y_il2 i_31_172 ?_
              refine Y_il5 i_31_173 ?_
              refine Y_il6 i_31_175 ?_
              refine Y_imul i_31_177 ?_
              refine Y_iast i_31_178 (k_6 hG) (l_6 hG) o8 rfl ?_
              refine Y_al0 i_31_179 ?_
              refine Y_gR i_31_180 ow_31 lf_3_15 (k_11 hG) (r_11_2 hG) ?_
              refine Y_gR i_31_183 ow_31 lf_3_116 (k_2 hG) (r_2_7 hG) ?_
              refine Y_il2 i_31_186 ?_
              refine Y_il7 i_31_187 ?_
              refine Y_iast i_31_189 (k_7 hG) (l_7 hG) o8 rfl ?_
              refine Y_al0 i_31_190 ?_
              refine Y_gR i_31_191 ow_31 lf_3_15 (k_11 hG) (r_11_2 hG) ?_
              refine Y_il2 i_31_194 ?_
              refine Y_iconst (v := 1) i_31_195 (by decide) ?_
              refine Y_iadd i_31_196 ?_
              refine Y_pI i_31_197 ow_31 lf_3_93 (k_2 hG) ?_
              refine Y_iconst (v := 1) i_31_200 (by decide) ?_
              exact Y_bret i_31_201 rt_31 (by decide) h
            · replace h := h.2 e7
              refine Y_iconst (v := 0) i_31_132 (by decide) ?_
              exact Y_bret i_31_133 rt_31 (by decide) h
    · replace h := h.2 e2
      refine Y_iconst (v := 0) i_47_25 (by decide) ?_
      refine Y_bret i_47_26 rt_47 (by decide) (KKi ?_)
      refine Y_zT i_31_66 (by decide) ?_
      refine Y_iconst (v := 1) i_31_73 (by decide) ?_
      refine Y_is5 i_31_74 rfl ?_
      refine Y_il5 i_31_76 ?_
      refine Y_zT i_31_78 (by decide) ?_
      refine Y_al0 i_31_85 ?_
      refine Y_gI (v := (F 11 8)) i_31_86 ow_31 lf_3_41 (by decide) (k_11 hG) rfl ?_
      refine Y_zne i_31_89 (fun e9 => ?_) (fun e9 => ?_)
      · replace h := h.1 e9
        refine Y_al0 i_31_92 ?_
        refine Y_iconst (v := 0) i_31_93 (by decide) ?_
        refine Y_bipush (v := 9) i_31_94 (by decide) ?_
        exact Y_iv2 (L0 := [.ref 11, .int 0, .int 9, .null]) i_31_96 ow_31 lm_3_96 ((k_11 hG).trans ow_43.symm) rfl mx_43 rfl rfl hd_31 h
      · replace h := h.2 e9
        refine Y_iconst (v := (-1)) i_31_102 (by decide) ?_
        refine Y_is6 i_31_103 rfl ?_
        refine Y_al0 i_31_105 ?_
        refine Y_gI (v := (F 11 8)) i_31_106 ow_31 lf_3_41 (by decide) (k_11 hG) rfl ?_
        refine Y_zne i_31_109 (fun e10 => ?_) (fun e10 => ?_)
        · replace h := h.1 e10
          refine Y_al0 i_31_112 ?_
          refine Y_iconst (v := 0) i_31_113 (by decide) ?_
          refine Y_bipush (v := 99) i_31_114 (by decide) ?_
          exact Y_iv2 (L0 := [.ref 11, .int 0, .int 99, .null]) i_31_116 ow_31 lm_3_96 ((k_11 hG).trans ow_43.symm) rfl mx_43 rfl rfl hd_31 h
        · replace h := h.2 e10
          refine Y_iconst (v := (-1)) i_31_122 (by decide) ?_
          refine Y_is7 i_31_123 rfl ?_
          refine Y_al0 i_31_125 ?_
          refine Y_gI (v := (F 11 8)) i_31_126 ow_31 lf_3_41 (by decide) (k_11 hG) rfl ?_
          refine Y_zeq i_31_129 (fun e11 => ?_) (fun e11 => ?_)
          · replace h := h.1 e11
            refine Y_al0 i_31_134 ?_
            refine Y_gR i_31_135 ow_31 lf_3_15 (k_11 hG) (r_11_2 hG) ?_
            refine Y_gR i_31_138 ow_31 lf_3_103 (k_2 hG) (r_2_3 hG) ?_
            refine Y_il2 i_31_141 ?_
            refine Y_il1 i_31_142 ?_
            have o12 := h.1
            replace h := h.2
            refine Y_iast i_31_143 (k_3 hG) (l_3 hG) o12 rfl ?_
            refine Y_al0 i_31_144 ?_
            refine Y_gR i_31_145 ow_31 lf_3_15 (k_11 hG) (r_11_2 hG) ?_
            refine Y_gR i_31_148 ow_31 lf_3_107 (k_2 hG) (r_2_4 hG) ?_
            refine Y_il2 i_31_151 ?_
            refine Y_il3 i_31_152 ?_
            refine Y_iast i_31_153 (k_4 hG) (l_4 hG) o12 rfl ?_
            refine Y_al0 i_31_154 ?_
            refine Y_gR i_31_155 ow_31 lf_3_15 (k_11 hG) (r_11_2 hG) ?_
            refine Y_gR i_31_158 ow_31 lf_3_110 (k_2 hG) (r_2_5 hG) ?_
            refine Y_il2 i_31_161 ?_
            refine Y_il4 i_31_162 ?_
            refine Y_iast i_31_164 (k_5 hG) (l_5 hG) o12 rfl ?_
            refine Y_al0 i_31_165 ?_
            refine Y_gR i_31_166 ow_31 lf_3_15 (k_11 hG) (r_11_2 hG) ?_
            refine Y_gR i_31_169 ow_31 lf_3_113 (k_2 hG) (r_2_6 hG) ?_
            refine Y_il2 i_31_172 ?_
            refine Y_il5 i_31_173 ?_
            refine Y_il6 i_31_175 ?_
            refine Y_imul i_31_177 ?_
            refine Y_iast i_31_178 (k_6 hG) (l_6 hG) o12 rfl ?_
            refine Y_al0 i_31_179 ?_
            refine Y_gR i_31_180 ow_31 lf_3_15 (k_11 hG) (r_11_2 hG) ?_
            refine Y_gR i_31_183 ow_31 lf_3_116 (k_2 hG) (r_2_7 hG) ?_
            refine Y_il2 i_31_186 ?_
            refine Y_il7 i_31_187 ?_
            refine Y_iast i_31_189 (k_7 hG) (l_7 hG) o12 rfl ?_
            refine Y_al0 i_31_190 ?_
            refine Y_gR i_31_191 ow_31 lf_3_15 (k_11 hG) (r_11_2 hG) ?_
            refine Y_il2 i_31_194 ?_
            refine Y_iconst (v := 1) i_31_195 (by decide) ?_
            refine Y_iadd i_31_196 ?_
            refine Y_pI i_31_197 ow_31 lf_3_93 (k_2 hG) ?_
            refine Y_iconst (v := 1) i_31_200 (by decide) ?_
            exact Y_bret i_31_201 rt_31 (by decide) h
          · replace h := h.2 e11
            refine Y_iconst (v := 0) i_31_132 (by decide) ?_
            exact Y_bret i_31_133 rt_31 (by decide) h
  · replace h := h.2 e1
    refine Y_iconst (v := 1) i_31_73 (by decide) ?_
    refine Y_is5 i_31_74 rfl ?_
    refine Y_il5 i_31_76 ?_
    refine Y_zT i_31_78 (by decide) ?_
    refine Y_al0 i_31_85 ?_
    refine Y_gI (v := (F 11 8)) i_31_86 ow_31 lf_3_41 (by decide) (k_11 hG) rfl ?_
    refine Y_zne i_31_89 (fun e13 => ?_) (fun e13 => ?_)
    · replace h := h.1 e13
      refine Y_al0 i_31_92 ?_
      refine Y_iconst (v := 0) i_31_93 (by decide) ?_
      refine Y_bipush (v := 9) i_31_94 (by decide) ?_
      exact Y_iv2 (L0 := [.ref 11, .int 0, .int 9, .null]) i_31_96 ow_31 lm_3_96 ((k_11 hG).trans ow_43.symm) rfl mx_43 rfl rfl hd_31 h
    · replace h := h.2 e13
      refine Y_iconst (v := (-1)) i_31_102 (by decide) ?_
      refine Y_is6 i_31_103 rfl ?_
      refine Y_al0 i_31_105 ?_
      refine Y_gI (v := (F 11 8)) i_31_106 ow_31 lf_3_41 (by decide) (k_11 hG) rfl ?_
      refine Y_zne i_31_109 (fun e14 => ?_) (fun e14 => ?_)
      · replace h := h.1 e14
        refine Y_al0 i_31_112 ?_
        refine Y_iconst (v := 0) i_31_113 (by decide) ?_
        refine Y_bipush (v := 99) i_31_114 (by decide) ?_
        exact Y_iv2 (L0 := [.ref 11, .int 0, .int 99, .null]) i_31_116 ow_31 lm_3_96 ((k_11 hG).trans ow_43.symm) rfl mx_43 rfl rfl hd_31 h
      · replace h := h.2 e14
        refine Y_iconst (v := (-1)) i_31_122 (by decide) ?_
        refine Y_is7 i_31_123 rfl ?_
        refine Y_al0 i_31_125 ?_
        refine Y_gI (v := (F 11 8)) i_31_126 ow_31 lf_3_41 (by decide) (k_11 hG) rfl ?_
        refine Y_zeq i_31_129 (fun e15 => ?_) (fun e15 => ?_)
        · replace h := h.1 e15
          refine Y_al0 i_31_134 ?_
          refine Y_gR i_31_135 ow_31 lf_3_15 (k_11 hG) (r_11_2 hG) ?_
          refine Y_gR i_31_138 ow_31 lf_3_103 (k_2 hG) (r_2_3 hG) ?_
          refine Y_il2 i_31_141 ?_
          refine Y_il1 i_31_142 ?_
          have o16 := h.1
          replace h := h.2
          refine Y_iast i_31_143 (k_3 hG) (l_3 hG) o16 rfl ?_
          refine Y_al0 i_31_144 ?_
          refine Y_gR i_31_145 ow_31 lf_3_15 (k_11 hG) (r_11_2 hG) ?_
          refine Y_gR i_31_148 ow_31 lf_3_107 (k_2 hG) (r_2_4 hG) ?_
          refine Y_il2 i_31_151 ?_
          refine Y_il3 i_31_152 ?_
          refine Y_iast i_31_153 (k_4 hG) (l_4 hG) o16 rfl ?_
          refine Y_al0 i_31_154 ?_
          refine Y_gR i_31_155 ow_31 lf_3_15 (k_11 hG) (r_11_2 hG) ?_
          refine Y_gR i_31_158 ow_31 lf_3_110 (k_2 hG) (r_2_5 hG) ?_
          refine Y_il2 i_31_161 ?_
          refine Y_il4 i_31_162 ?_
          refine Y_iast i_31_164 (k_5 hG) (l_5 hG) o16 rfl ?_
          refine Y_al0 i_31_165 ?_
          refine Y_gR i_31_166 ow_31 lf_3_15 (k_11 hG) (r_11_2 hG) ?_
          refine Y_gR i_31_169 ow_31 lf_3_113 (k_2 hG) (r_2_6 hG) ?_
          refine Y_il2 i_31_172 ?_
          refine Y_il5 i_31_173 ?_
          refine Y_il6 i_31_175 ?_
          refine Y_imul i_31_177 ?_
          refine Y_iast i_31_178 (k_6 hG) (l_6 hG) o16 rfl ?_
          refine Y_al0 i_31_179 ?_
          refine Y_gR i_31_180 ow_31 lf_3_15 (k_11 hG) (r_11_2 hG) ?_
          refine Y_gR i_31_183 ow_31 lf_3_116 (k_2 hG) (r_2_7 hG) ?_
          refine Y_il2 i_31_186 ?_
          refine Y_il7 i_31_187 ?_
          refine Y_iast i_31_189 (k_7 hG) (l_7 hG) o16 rfl ?_
          refine Y_al0 i_31_190 ?_
          refine Y_gR i_31_191 ow_31 lf_3_15 (k_11 hG) (r_11_2 hG) ?_
          refine Y_il2 i_31_194 ?_
          refine Y_iconst (v := 1) i_31_195 (by decide) ?_
          refine Y_iadd i_31_196 ?_
          refine Y_pI i_31_197 ow_31 lf_3_93 (k_2 hG) ?_
          refine Y_iconst (v := 1) i_31_200 (by decide) ?_
          exact Y_bret i_31_201 rt_31 (by decide) h
        · replace h := h.2 e15
          refine Y_iconst (v := 0) i_31_132 (by decide) ?_
          exact Y_bret i_31_133 rt_31 (by decide) h
theorem k_31_85 {d : Nat} {F A : Nat → Nat → Int32} {J : Nat → Nat → Int64} {G : pG} {Q : pR → pM → Prop} {SL p q : Nat} {x1 x2 x3 x4 x5 : Int32} (hG : Geo G SL p q) (h : (((F 11 8) = 0 → X (d + 2) 43 0 [.ref 11, .int 0, .int 9, .null] [] (F, A, J, G) (KK (d + 3) 31 99 [.ref 11, .int x1, .int x2, .int x3, .int x4, .int x5, .null, .null] [] Q)) ∧ (¬ (F 11 8) = 0 → (((F 11 8) = 0 → X (d + 2) 43 0 [.ref 11, .int 0, .int 99, .null] [] (F, A, J, G) (KK (d + 3) 31 119 [.ref 11, .int x1, .int x2, .int x3, .int x4, .int x5, .int (-1), .null] [] Q)) ∧ (¬ (F 11 8) = 0 → (((F 11 8) = 0 → inB x2 10 = true ∧ (Q (.inl (some (.int 1))) ((wF F 2 0 (x2 + 1)), (wF (wF (wF (wF (wF A 3 x2.toNatClampNeg x1) 4 x2.toNatClampNeg x3) 5 x2.toNatClampNeg x4) 6 x2.toNatClampNeg (x5 * (-1))) 7 x2.toNatClampNeg (-1)), J, G))) ∧ (¬ (F 11 8) = 0 → Q (.inl (some (.int 0))) (F, A, J, G)))))))) : KK (d + 3) 31 85 [.ref 11, .int x1, .int x2, .int x3, .int x4, .int x5, .null, .null] [] Q (.inl none) (F, A, J, G) := by
  refine KKv ?_
  refine Y_al0 i_31_85 ?_
  refine Y_gI (v := (F 11 8)) i_31_86 ow_31 lf_3_41 (by decide) (k_11 hG) rfl ?_
  refine Y_zne i_31_89 (fun e1 => ?_) (fun e1 => ?_)
  · replace h := h.1 e1
    refine Y_al0 i_31_92 ?_
    refine Y_iconst (v := 0) i_31_93 (by decide) ?_
    refine Y_bipush (v := 9) i_31_94 (by decide) ?_
    exact Y_iv2 (L0 := [.ref 11, .int 0, .int 9, .null]) i_31_96 ow_31 lm_3_96 ((k_11 hG).trans ow_43.symm) rfl mx_43 rfl rfl hd_31 h
  · replace h := h.2 e1
    refine Y_iconst (v := (-1)) i_31_102 (by decide) ?_
    refine Y_is6 i_31_103 rfl ?_
    refine Y_al0 i_31_105 ?_
    refine Y_gI (v := (F 11 8)) i_31_106 ow_31 lf_3_41 (by decide) (k_11 hG) rfl ?_
    refine Y_zne i_31_109 (fun e2 => ?_) (fun e2 => ?_)
    · replace h := h.1 e2
      refine Y_al0 i_31_112 ?_
      refine Y_iconst (v := 0) i_31_113 (by decide) ?_
      refine Y_bipush (v := 99) i_31_114 (by decide) ?_
      exact Y_iv2 (L0 := [.ref 11, .int 0, .int 99, .null]) i_31_116 ow_31 lm_3_96 ((k_11 hG).trans ow_43.symm) rfl mx_43 rfl rfl hd_31 h
    · replace h := h.2 e2
      refine Y_iconst (v := (-1)) i_31_122 (by decide) ?_
      refine Y_is7 i_31_123 rfl ?_
      refine Y_al0 i_31_125 ?_
      refine Y_gI (v := (F 11 8)) i_31_126 ow_31 lf_3_41 (by decide) (k_11 hG) rfl ?_
      refine Y_zeq i_31_129 (fun e3 => ?_) (fun e3 => ?_)
      · replace h := h.1 e3
        refine Y_al0 i_31_134 ?_
        refine Y_gR i_31_135 ow_31 lf_3_15 (k_11 hG) (r_11_2 hG) ?_
        refine Y_gR i_31_138 ow_31 lf_3_103 (k_2 hG) (r_2_3 hG) ?_
        refine Y_il2 i_31_141 ?_
        refine Y_il1 i_31_142 ?_
        have o4 := h.1
        replace h := h.2
        refine Y_iast i_31_143 (k_3 hG) (l_3 hG) o4 rfl ?_
        refine Y_al0 i_31_144 ?_
        refine Y_gR i_31_145 ow_31 lf_3_15 (k_11 hG) (r_11_2 hG) ?_
        refine Y_gR i_31_148 ow_31 lf_3_107 (k_2 hG) (r_2_4 hG) ?_
        refine Y_il2 i_31_151 ?_
        refine Y_il3 i_31_152 ?_
        refine Y_iast i_31_153 (k_4 hG) (l_4 hG) o4 rfl ?_
        refine Y_al0 i_31_154 ?_
        refine Y_gR i_31_155 ow_31 lf_3_15 (k_11 hG) (r_11_2 hG) ?_
        refine Y_gR i_31_158 ow_31 lf_3_110 (k_2 hG) (r_2_5 hG) ?_
        refine Y_il2 i_31_161 ?_
        refine Y_il4 i_31_162 ?_
        refine Y_iast i_31_164 (k_5 hG) (l_5 hG) o4 rfl ?_
        refine Y_al0 i_31_165 ?_
        refine Y_gR i_31_166 ow_31 lf_3_15 (k_11 hG) (r_11_2 hG) ?_
        refine Y_gR i_31_169 ow_31 lf_3_113 (k_2 hG) (r_2_6 hG) ?_
        refine Y_il2 i_31_172 ?_
        refine Y_il5 i_31_173 ?_
        refine Y_il6 i_31_175 ?_
        refine Y_imul i_31_177 ?_
        refine Y_iast i_31_178 (k_6 hG) (l_6 hG) o4 rfl ?_
        refine Y_al0 i_31_179 ?_
        refine Y_gR i_31_180 ow_31 lf_3_15 (k_11 hG) (r_11_2 hG) ?_
        refine Y_gR i_31_183 ow_31 lf_3_116 (k_2 hG) (r_2_7 hG) ?_
        refine Y_il2 i_31_186 ?_
        refine Y_il7 i_31_187 ?_
        refine Y_iast i_31_189 (k_7 hG) (l_7 hG) o4 rfl ?_
        refine Y_al0 i_31_190 ?_
        refine Y_gR i_31_191 ow_31 lf_3_15 (k_11 hG) (r_11_2 hG) ?_
        refine Y_il2 i_31_194 ?_
        refine Y_iconst (v := 1) i_31_195 (by decide) ?_
        refine Y_iadd i_31_196 ?_
        refine Y_pI i_31_197 ow_31 lf_3_93 (k_2 hG) ?_
        refine Y_iconst (v := 1) i_31_200 (by decide) ?_
        exact Y_bret i_31_201 rt_31 (by decide) h
      · replace h := h.2 e3
        refine Y_iconst (v := 0) i_31_132 (by decide) ?_
        exact Y_bret i_31_133 rt_31 (by decide) h
theorem k_31_99 {d : Nat} {F A : Nat → Nat → Int32} {J : Nat → Nat → Int64} {G : pG} {Q : pR → pM → Prop} {SL p q : Nat} {x1 x2 x3 x4 x5 r r : Int32} (hG : Geo G SL p q) (h : (((F 11 8) = 0 → X (d + 2) 43 0 [.ref 11, .int 0, .int 99, .null] [] (F, A, J, G) (KK (d + 3) 31 119 [.ref 11, .int x1, .int x2, .int x3, .int x4, .int x5, .int r, .null] [] Q)) ∧ (¬ (F 11 8) = 0 → (((F 11 8) = 0 → inB x2 10 = true ∧ (Q (.inl (some (.int 1))) ((wF F 2 0 (x2 + 1)), (wF (wF (wF (wF (wF A 3 x2.toNatClampNeg x1) 4 x2.toNatClampNeg x3) 5 x2.toNatClampNeg x4) 6 x2.toNatClampNeg (x5 * r)) 7 x2.toNatClampNeg (-1)), J, G))) ∧ (¬ (F 11 8) = 0 → Q (.inl (some (.int 0))) (F, A, J, G)))))) : KK (d + 3) 31 99 [.ref 11, .int x1, .int x2, .int x3, .int x4, .int x5, .null, .null] [] Q (.inl (some (.int r))) (F, A, J, G) := by
  refine KKi ?_
  refine Y_goto i_31_99 ?_
  refine Y_is6 i_31_103 rfl ?_
  refine Y_al0 i_31_105 ?_
  refine Y_gI (v := (F 11 8)) i_31_106 ow_31 lf_3_41 (by decide) (k_11 hG) rfl ?_
  refine Y_zne i_31_109 (fun e1 => ?_) (fun e1 => ?_)
  · replace h := h.1 e1
    refine Y_al0 i_31_112 ?_
    refine Y_iconst (v := 0) i_31_113 (by decide) ?_
    refine Y_bipush (v := 99) i_31_114 (by decide) ?_
    exact Y_iv2 (L0 := [.ref 11, .int 0, .int 99, .null]) i_31_116 ow_31 lm_3_96 ((k_11 hG).trans ow_43.symm) rfl mx_43 rfl rfl hd_31 h
  · replace h := h.2 e1
    refine Y_iconst (v := (-1)) i_31_122 (by decide) ?_
    refine Y_is7 i_31_123 rfl ?_
    refine Y_al0 i_31_125 ?_
    refine Y_gI (v := (F 11 8)) i_31_126 ow_31 lf_3_41 (by decide) (k_11 hG) rfl ?_
    refine Y_zeq i_31_129 (fun e2 => ?_) (fun e2 => ?_)
    · replace h := h.1 e2
      refine Y_al0 i_31_134 ?_
      refine Y_gR i_31_135 ow_31 lf_3_15 (k_11 hG) (r_11_2 hG) ?_
      refine Y_gR i_31_138 ow_31 lf_3_103 (k_2 hG) (r_2_3 hG) ?_
      refine Y_il2 i_31_141 ?_
      refine Y_il1 i_31_142 ?_
      have o3 := h.1
      replace h := h.2
      refine Y_iast i_31_143 (k_3 hG) (l_3 hG) o3 rfl ?_
      refine Y_al0 i_31_144 ?_
      refine Y_gR i_31_145 ow_31 lf_3_15 (k_11 hG) (r_11_2 hG) ?_
      refine Y_gR i_31_148 ow_31 lf_3_107 (k_2 hG) (r_2_4 hG) ?_
      refine Y_il2 i_31_151 ?_
      refine Y_il3 i_31_152 ?_
      refine Y_iast i_31_153 (k_4 hG) (l_4 hG) o3 rfl ?_
      refine Y_al0 i_31_154 ?_
      refine Y_gR i_31_155 ow_31 lf_3_15 (k_11 hG) (r_11_2 hG) ?_
      refine Y_gR i_31_158 ow_31 lf_3_110 (k_2 hG) (r_2_5 hG) ?_
      refine Y_il2 i_31_161 ?_
      refine Y_il4 i_31_162 ?_
      refine Y_iast i_31_164 (k_5 hG) (l_5 hG) o3 rfl ?_
      refine Y_al0 i_31_165 ?_
      refine Y_gR i_31_166 ow_31 lf_3_15 (k_11 hG) (r_11_2 hG) ?_
      refine Y_gR i_31_169 ow_31 lf_3_113 (k_2 hG) (r_2_6 hG) ?_
      refine Y_il2 i_31_172 ?_
      refine Y_il5 i_31_173 ?_
      refine Y_il6 i_31_175 ?_
      refine Y_imul i_31_177 ?_
      refine Y_iast i_31_178 (k_6 hG) (l_6 hG) o3 rfl ?_
      refine Y_al0 i_31_179 ?_
      refine Y_gR i_31_180 ow_31 lf_3_15 (k_11 hG) (r_11_2 hG) ?_
      refine Y_gR i_31_183 ow_31 lf_3_116 (k_2 hG) (r_2_7 hG) ?_
      refine Y_il2 i_31_186 ?_
      refine Y_il7 i_31_187 ?_
      refine Y_iast i_31_189 (k_7 hG) (l_7 hG) o3 rfl ?_
      refine Y_al0 i_31_190 ?_
      refine Y_gR i_31_191 ow_31 lf_3_15 (k_11 hG) (r_11_2 hG) ?_
      refine Y_il2 i_31_194 ?_
      refine Y_iconst (v := 1) i_31_195 (by decide) ?_
      refine Y_iadd i_31_196 ?_
      refine Y_pI i_31_197 ow_31 lf_3_93 (k_2 hG) ?_
      refine Y_iconst (v := 1) i_31_200 (by decide) ?_
      exact Y_bret i_31_201 rt_31 (by decide) h
    · replace h := h.2 e2
      refine Y_iconst (v := 0) i_31_132 (by decide) ?_
      exact Y_bret i_31_133 rt_31 (by decide) h
theorem k_31_119 {d : Nat} {F A : Nat → Nat → Int32} {J : Nat → Nat → Int64} {G : pG} {Q : pR → pM → Prop} {SL p q : Nat} {x1 x2 x3 x4 x5 x6 r r : Int32} (hG : Geo G SL p q) (h : (((F 11 8) = 0 → inB x2 10 = true ∧ (Q (.inl (some (.int 1))) ((wF F 2 0 (x2 + 1)), (wF (wF (wF (wF (wF A 3 x2.toNatClampNeg x1) 4 x2.toNatClampNeg x3) 5 x2.toNatClampNeg x4) 6 x2.toNatClampNeg (x5 * x6)) 7 x2.toNatClampNeg r), J, G))) ∧ (¬ (F 11 8) = 0 → Q (.inl (some (.int 0))) (F, A, J, G)))) : KK (d + 3) 31 119 [.ref 11, .int x1, .int x2, .int x3, .int x4, .int x5, .int x6, .null] [] Q (.inl (some (.int r))) (F, A, J, G) := by
  refine KKi ?_
  refine Y_goto i_31_119 ?_
  refine Y_is7 i_31_123 rfl ?_
  refine Y_al0 i_31_125 ?_
  refine Y_gI (v := (F 11 8)) i_31_126 ow_31 lf_3_41 (by decide) (k_11 hG) rfl ?_
  refine Y_zeq i_31_129 (fun e1 => ?_) (fun e1 => ?_)
  · replace h := h.1 e1
    refine Y_al0 i_31_134 ?_
    refine Y_gR i_31_135 ow_31 lf_3_15 (k_11 hG) (r_11_2 hG) ?_
    refine Y_gR i_31_138 ow_31 lf_3_103 (k_2 hG) (r_2_3 hG) ?_
    refine Y_il2 i_31_141 ?_
    refine Y_il1 i_31_142 ?_
    have o2 := h.1
    replace h := h.2
    refine Y_iast i_31_143 (k_3 hG) (l_3 hG) o2 rfl ?_
    refine Y_al0 i_31_144 ?_
    refine Y_gR i_31_145 ow_31 lf_3_15 (k_11 hG) (r_11_2 hG) ?_
    refine Y_gR i_31_148 ow_31 lf_3_107 (k_2 hG) (r_2_4 hG) ?_
    refine Y_il2 i_31_151 ?_
    refine Y_il3 i_31_152 ?_
    refine Y_iast i_31_153 (k_4 hG) (l_4 hG) o2 rfl ?_
    refine Y_al0 i_31_154 ?_
    refine Y_gR i_31_155 ow_31 lf_3_15 (k_11 hG) (r_11_2 hG) ?_
    refine Y_gR i_31_158 ow_31 lf_3_110 (k_2 hG) (r_2_5 hG) ?_
    refine Y_il2 i_31_161 ?_
    refine Y_il4 i_31_162 ?_
    refine Y_iast i_31_164 (k_5 hG) (l_5 hG) o2 rfl ?_
    refine Y_al0 i_31_165 ?_
    refine Y_gR i_31_166 ow_31 lf_3_15 (k_11 hG) (r_11_2 hG) ?_
    refine Y_gR i_31_169 ow_31 lf_3_113 (k_2 hG) (r_2_6 hG) ?_
    refine Y_il2 i_31_172 ?_
    refine Y_il5 i_31_173 ?_
    refine Y_il6 i_31_175 ?_
    refine Y_imul i_31_177 ?_
    refine Y_iast i_31_178 (k_6 hG) (l_6 hG) o2 rfl ?_
    refine Y_al0 i_31_179 ?_
    refine Y_gR i_31_180 ow_31 lf_3_15 (k_11 hG) (r_11_2 hG) ?_
    refine Y_gR i_31_183 ow_31 lf_3_116 (k_2 hG) (r_2_7 hG) ?_
    refine Y_il2 i_31_186 ?_
    refine Y_il7 i_31_187 ?_
    refine Y_iast i_31_189 (k_7 hG) (l_7 hG) o2 rfl ?_
    refine Y_al0 i_31_190 ?_
    refine Y_gR i_31_191 ow_31 lf_3_15 (k_11 hG) (r_11_2 hG) ?_
    refine Y_il2 i_31_194 ?_
    refine Y_iconst (v := 1) i_31_195 (by decide) ?_
    refine Y_iadd i_31_196 ?_
    refine Y_pI i_31_197 ow_31 lf_3_93 (k_2 hG) ?_
    refine Y_iconst (v := 1) i_31_200 (by decide) ?_
    exact Y_bret i_31_201 rt_31 (by decide) h
  · replace h := h.2 e1
    refine Y_iconst (v := 0) i_31_132 (by decide) ?_
    exact Y_bret i_31_133 rt_31 (by decide) h
/- 32 Reader.limitLine()Z -/
theorem t_32_0 {d : Nat} {F A : Nat → Nat → Int32} {J : Nat → Nat → Int64} {G : pG} {Q : pR → pM → Prop} {SL p q : Nat} (hG : Geo G SL p q) (h : (((F 11 9) = 0 → X (d + 2) 49 0 [.ref 11] [] ((wF F 11 9 1), A, J, G) (KK (d + 3) 32 22 [.ref 11] [] Q)) ∧ (¬ (F 11 9) = 0 → Q (.inl (some (.int 0))) ((wF (wF F 11 8 4) 11 0 (F 11 5)), A, J, G)))) : X (d + 3) 32 0 [.ref 11] [] (F, A, J, G) Q := by
  refine Y_al0 i_32_0 ?_
  refine Y_gI (v := (F 11 9)) i_32_1 ow_32 lf_3_34 (by decide) (k_11 hG) rfl ?_
  refine Y_zeq i_32_4 (fun e1 => ?_) (fun e1 => ?_)
  · replace h := h.1 e1
    refine Y_al0 i_32_13 ?_
    refine Y_iconst (v := 1) i_32_14 (by decide) ?_
    refine Y_pB i_32_15 ow_32 lf_3_34 (k_11 hG) (by decide) ?_
    refine Y_al0 i_32_18 ?_
    exact Y_iv0 (L0 := [.ref 11]) i_32_19 ow_32 lm_3_50 ((k_11 hG).trans ow_49.symm) rfl mx_49 rfl rfl hd_32 h
  · replace h := h.2 e1
    refine Y_al0 i_32_7 ?_
    refine Y_iconst (v := 4) i_32_8 (by decide) ?_
    refine Y_iv1 (L0 := [.ref 11, .int 4]) i_32_9 ow_32 lm_3_90 ((k_11 hG).trans ow_48.symm) rfl mx_48 rfl rfl hd_32 ?_
    refine Y_al0 i_48_0 ?_
    refine Y_il1 i_48_1 ?_
    refine Y_pI i_48_2 ow_48 lf_3_41 (k_11 hG) ?_
    refine Y_al0 i_48_5 ?_
    refine Y_al0 i_48_6 ?_
    refine Y_gI (v := (F 11 5)) i_48_7 ow_48 lf_3_158 (by decide) (k_11 hG) (by simp [wF, wJ, va_up, cpR, bF, bA]) ?_
    refine Y_pI i_48_10 ow_48 lf_3_44 (k_11 hG) ?_
    refine Y_iconst (v := 0) i_48_13 (by decide) ?_
    refine Y_bret i_48_14 rt_48 (by decide) (KKi ?_)
    exact Y_bret i_32_12 rt_32 (by decide) h
theorem k_32_22 {d : Nat} {F A : Nat → Nat → Int32} {J : Nat → Nat → Int64} {G : pG} {Q : pR → pM → Prop} {SL p q : Nat} (hG : Geo G SL p q) (h : X (d + 2) 43 0 [.ref 11, .int 0, .int 40, .null] [] (F, A, J, G) (KK (d + 3) 32 33 [.ref 11] [.ref 2] Q)) : KK (d + 3) 32 22 [.ref 11] [] Q (.inl none) (F, A, J, G) := by
  refine KKv ?_
  refine Y_al0 i_32_22 ?_
  refine Y_gR i_32_23 ow_32 lf_3_15 (k_11 hG) (r_11_2 hG) ?_
  refine Y_al0 i_32_26 ?_
  refine Y_iconst (v := 0) i_32_27 (by decide) ?_
  refine Y_bipush (v := 40) i_32_28 (by decide) ?_
  exact Y_iv2 (L0 := [.ref 11, .int 0, .int 40, .null]) i_32_30 ow_32 lm_3_96 ((k_11 hG).trans ow_43.symm) rfl mx_43 rfl rfl hd_32 h
theorem k_32_33 {d : Nat} {F A : Nat → Nat → Int32} {J : Nat → Nat → Int64} {G : pG} {Q : pR → pM → Prop} {SL p q : Nat} {r r : Int32} (hG : Geo G SL p q) (h : (((F 11 8) = 0 → Q (.inl (some (.int 1))) ((wF F 2 1 r), A, J, G)) ∧ (¬ (F 11 8) = 0 → Q (.inl (some (.int 0))) ((wF F 2 1 r), A, J, G)))) : KK (d + 3) 32 33 [.ref 11] [.ref 2] Q (.inl (some (.int r))) (F, A, J, G) := by
  refine KKi ?_
  refine Y_pI i_32_33 ow_32 lf_3_119 (k_2 hG) ?_
  refine Y_al0 i_32_36 ?_
  refine Y_gI (v := (F 11 8)) i_32_37 ow_32 lf_3_41 (by decide) (k_11 hG) (by simp [wF, wJ, va_up, cpR, bF, bA]) ?_
  refine Y_zne i_32_40 (fun e1 => ?_) (fun e1 => ?_)
  · replace h := h.1 e1
    refine Y_iconst (v := 1) i_32_43 (by decide) ?_
    refine Y_goto i_32_44 ?_
    exact Y_bret i_32_48 rt_32 (by decide) h
  · replace h := h.2 e1
    refine Y_iconst (v := 0) i_32_47 (by decide) ?_
    exact Y_bret i_32_48 rt_32 (by decide) h
/- 33 Reader.foodLine()Z -/
theorem t_33_0 {d : Nat} {F A : Nat → Nat → Int32} {J : Nat → Nat → Int64} {G : pG} {Q : pR → pM → Prop} {SL p q : Nat} (hG : Geo G SL p q) (h : (((F 11 10) = 0 → X (d + 2) 49 0 [.ref 11] [] ((wF F 11 10 1), A, J, G) (KK (d + 3) 33 22 [.ref 11] [] Q)) ∧ (¬ (F 11 10) = 0 → Q (.inl (some (.int 0))) ((wF (wF F 11 8 4) 11 0 (F 11 5)), A, J, G)))) : X (d + 3) 33 0 [.ref 11] [] (F, A, J, G) Q := by
  refine Y_al0 i_33_0 ?_
  refine Y_gI (v := (F 11 10)) i_33_1 ow_33 lf_3_38 (by decide) (k_11 hG) rfl ?_
  refine Y_zeq i_33_4 (fun e1 => ?_) (fun e1 => ?_)
  · replace h := h.1 e1
    refine Y_al0 i_33_13 ?_
    refine Y_iconst (v := 1) i_33_14 (by decide) ?_
    refine Y_pB i_33_15 ow_33 lf_3_38 (k_11 hG) (by decide) ?_
    refine Y_al0 i_33_18 ?_
    exact Y_iv0 (L0 := [.ref 11]) i_33_19 ow_33 lm_3_50 ((k_11 hG).trans ow_49.symm) rfl mx_49 rfl rfl hd_33 h
  · replace h := h.2 e1
    refine Y_al0 i_33_7 ?_
    refine Y_iconst (v := 4) i_33_8 (by decide) ?_
    refine Y_iv1 (L0 := [.ref 11, .int 4]) i_33_9 ow_33 lm_3_90 ((k_11 hG).trans ow_48.symm) rfl mx_48 rfl rfl hd_33 ?_
    refine Y_al0 i_48_0 ?_
    refine Y_il1 i_48_1 ?_
    refine Y_pI i_48_2 ow_48 lf_3_41 (k_11 hG) ?_
    refine Y_al0 i_48_5 ?_
    refine Y_al0 i_48_6 ?_
    refine Y_gI (v := (F 11 5)) i_48_7 ow_48 lf_3_158 (by decide) (k_11 hG) (by simp [wF, wJ, va_up, cpR, bF, bA]) ?_
    refine Y_pI i_48_10 ow_48 lf_3_44 (k_11 hG) ?_
    refine Y_iconst (v := 0) i_48_13 (by decide) ?_
    refine Y_bret i_48_14 rt_48 (by decide) (KKi ?_)
    exact Y_bret i_33_12 rt_33 (by decide) h
theorem k_33_22 {d : Nat} {F A : Nat → Nat → Int32} {J : Nat → Nat → Int64} {G : pG} {Q : pR → pM → Prop} {SL p q : Nat} (hG : Geo G SL p q) (h : X (d + 2) 43 0 [.ref 11, .int 0, .int 999, .null] [] (F, A, J, G) (KK (d + 3) 33 34 [.ref 11] [.ref 2] Q)) : KK (d + 3) 33 22 [.ref 11] [] Q (.inl none) (F, A, J, G) := by
  refine KKv ?_
  refine Y_al0 i_33_22 ?_
  refine Y_gR i_33_23 ow_33 lf_3_15 (k_11 hG) (r_11_2 hG) ?_
  refine Y_al0 i_33_26 ?_
  refine Y_iconst (v := 0) i_33_27 (by decide) ?_
  refine Y_sipush (v := 999) i_33_28 (by decide) ?_
  exact Y_iv2 (L0 := [.ref 11, .int 0, .int 999, .null]) i_33_31 ow_33 lm_3_96 ((k_11 hG).trans ow_43.symm) rfl mx_43 rfl rfl hd_33 h
theorem k_33_34 {d : Nat} {F A : Nat → Nat → Int32} {J : Nat → Nat → Int64} {G : pG} {Q : pR → pM → Prop} {SL p q : Nat} {r r : Int32} (hG : Geo G SL p q) (h : (((F 11 8) = 0 → Q (.inl (some (.int 1))) ((wF F 2 2 r), A, J, G)) ∧ (¬ (F 11 8) = 0 → Q (.inl (some (.int 0))) ((wF F 2 2 r), A, J, G)))) : KK (d + 3) 33 34 [.ref 11] [.ref 2] Q (.inl (some (.int r))) (F, A, J, G) := by
  refine KKi ?_
  refine Y_pI i_33_34 ow_33 lf_3_121 (k_2 hG) ?_
  refine Y_al0 i_33_37 ?_
  refine Y_gI (v := (F 11 8)) i_33_38 ow_33 lf_3_41 (by decide) (k_11 hG) (by simp [wF, wJ, va_up, cpR, bF, bA]) ?_
  refine Y_zne i_33_41 (fun e1 => ?_) (fun e1 => ?_)
  · replace h := h.1 e1
    refine Y_iconst (v := 1) i_33_44 (by decide) ?_
    refine Y_goto i_33_45 ?_
    exact Y_bret i_33_49 rt_33 (by decide) h
  · replace h := h.2 e1
    refine Y_iconst (v := 0) i_33_48 (by decide) ?_
    exact Y_bret i_33_49 rt_33 (by decide) h
/- 34 Reader.takesLine()Z -/
theorem t_34_0 {d : Nat} {F A : Nat → Nat → Int32} {J : Nat → Nat → Int64} {G : pG} {Q : pR → pM → Prop} {SL p q : Nat} (hG : Geo G SL p q) (h : ((0 < (F 8 1) → Q (.inl (some (.int 0))) ((wF (wF F 11 8 4) 11 0 (F 11 5)), A, J, G)) ∧ (¬ 0 < (F 8 1) → X (d + 2) 49 0 [.ref 11] [] (F, A, J, G) (KK (d + 3) 34 23 [.ref 11] [] Q)))) : X (d + 3) 34 0 [.ref 11] [] (F, A, J, G) Q := by
  refine Y_al0 i_34_0 ?_
  refine Y_gR i_34_1 ow_34 lf_3_15 (k_11 hG) (r_11_2 hG) ?_
  refine Y_gR i_34_4 ow_34 lf_3_123 (k_2 hG) (r_2_8 hG) ?_
  refine Y_gI (v := (F 8 1)) i_34_7 ow_34 lf_3_126 (by decide) (k_8 hG) rfl ?_
  refine Y_zle i_34_10 (fun e1 => ?_) (fun e1 => ?_)
  · replace h := h.1 e1
    refine Y_al0 i_34_13 ?_
    refine Y_iconst (v := 4) i_34_14 (by decide) ?_
    refine Y_iv1 (L0 := [.ref 11, .int 4]) i_34_15 ow_34 lm_3_90 ((k_11 hG).trans ow_48.symm) rfl mx_48 rfl rfl hd_34 ?_
    refine Y_al0 i_48_0 ?_
    refine Y_il1 i_48_1 ?_
    refine Y_pI i_48_2 ow_48 lf_3_41 (k_11 hG) ?_
    refine Y_al0 i_48_5 ?_
    refine Y_al0 i_48_6 ?_
    refine Y_gI (v := (F 11 5)) i_48_7 ow_48 lf_3_158 (by decide) (k_11 hG) (by simp [wF, wJ, va_up, cpR, bF, bA]) ?_
    refine Y_pI i_48_10 ow_48 lf_3_44 (k_11 hG) ?_
    refine Y_iconst (v := 0) i_48_13 (by decide) ?_
    refine Y_bret i_48_14 rt_48 (by decide) (KKi ?_)
    exact Y_bret i_34_18 rt_34 (by decide) h
  · replace h := h.2 e1
    refine Y_al0 i_34_19 ?_
    exact Y_iv0 (L0 := [.ref 11]) i_34_20 ow_34 lm_3_50 ((k_11 hG).trans ow_49.symm) rfl mx_49 rfl rfl hd_34 h
theorem k_34_23 {d : Nat} {F A : Nat → Nat → Int32} {J : Nat → Nat → Int64} {G : pG} {Q : pR → pM → Prop} {SL p q : Nat} (hG : Geo G SL p q) (h : X (d + 2) 36 0 [.ref 11, .int 0, .null] [] (F, A, J, G) (KK (d + 3) 34 28 [.ref 11] [] Q)) : KK (d + 3) 34 23 [.ref 11] [] Q (.inl none) (F, A, J, G) := by
  refine KKv ?_
  refine Y_al0 i_34_23 ?_
  refine Y_iconst (v := 0) i_34_24 (by decide) ?_
  exact Y_iv1 (L0 := [.ref 11, .int 0, .null]) i_34_25 ow_34 lm_3_129 ((k_11 hG).trans ow_36.symm) rfl mx_36 rfl rfl hd_34 h
theorem k_34_28 {d : Nat} {F A : Nat → Nat → Int32} {J : Nat → Nat → Int64} {G : pG} {Q : pR → pM → Prop} {SL p q : Nat} {r r : Int32} (hG : Geo G SL p q) (h : (r = 0 ∨ r = 1) ∧ (Q (.inl (some (.int r))) (F, A, J, G))) : KK (d + 3) 34 28 [.ref 11] [] Q (.inl (some (.int r))) (F, A, J, G) := by
  refine KKi ?_
  have o1 := h.1
  replace h := h.2
  exact Y_bret i_34_28 rt_34 o1 h
/- 35 Reader.close()Z -/
theorem t_35_0 {d : Nat} {F A : Nat → Nat → Int32} {J : Nat → Nat → Int64} {G : pG} {Q : pR → pM → Prop} {SL p q : Nat} (hG : Geo G SL p q) (h : (((F 11 4) = 4 → inB (F 11 5) 600 = true ∧ (((A 1 (F 11 5).toNatClampNeg) = 59 → X (d + 1) 49 0 [.ref 11] [] (F, A, J, G) (KK (d + 2) 35 19 [.ref 11] [] Q)) ∧ (¬ (A 1 (F 11 5).toNatClampNeg) = 59 → Q (.inl (some (.int 0))) ((wF (wF F 11 8 1) 11 0 (F 11 5)), A, J, G)))) ∧ (¬ (F 11 4) = 4 → Q (.inl (some (.int 0))) ((wF (wF F 11 8 1) 11 0 (F 11 5)), A, J, G)))) : X (d + 2) 35 0 [.ref 11] [] (F, A, J, G) Q := by
  refine Y_al0 i_35_0 ?_
  refine Y_bipush (v := 59) i_35_1 (by decide) ?_
  refine Y_iv1 (L0 := [.ref 11, .int 59]) i_35_3 ow_35 lm_3_99 ((k_11 hG).trans ow_47.symm) rfl mx_47 rfl rfl hd_35 ?_
  refine Y_al0 i_47_0 ?_
  refine Y_gI (v := (F 11 4)) i_47_1 ow_47 lf_3_53 (by decide) (k_11 hG) rfl ?_
  refine Y_iconst (v := 4) i_47_4 (by decide) ?_
  refine Y_cne i_47_5 (fun e1 => ?_) (fun e1 => ?_)
  · replace h := h.1 e1
    refine Y_al0 i_47_8 ?_
    refine Y_gR i_47_9 ow_47 lf_3_9 (k_11 hG) (r_11_1 hG) ?_
    refine Y_al0 i_47_12 ?_
    refine Y_gI (v := (F 11 5)) i_47_13 ow_47 lf_3_158 (by decide) (k_11 hG) rfl ?_
    have o2 := h.1
    replace h := h.2
    refine Y_baload (k := (F 11 5).toNatClampNeg) (v := (A 1 (F 11 5).toNatClampNeg)) i_47_16 (k_1 hG) (l_1 hG) o2 rfl rfl ?_
    refine Y_il1 i_47_17 ?_
    refine Y_cne i_47_18 (fun e3 => ?_) (fun e3 => ?_)
    · replace h := h.1 e3
      refine Y_iconst (v := 1) i_47_21 (by decide) ?_
      refine Y_goto i_47_22 ?_
      refine Y_bret i_47_26 rt_47 (by decide) (KKi ?_)
      refine Y_zT i_35_6 (by decide) ?_
      refine Y_al0 i_35_15 ?_
      exact Y_iv0 (L0 := [.ref 11]) i_35_16 ow_35 lm_3_50 ((k_11 hG).trans ow_49.symm) rfl mx_49 rfl rfl hd_35 h
    · replace h := h.2 e3
      refine Y_iconst (v := 0) i_47_25 (by decide) ?_
      refine Y_bret i_47_26 rt_47 (by decide) (KKi ?_)
      refine Y_zF i_35_6 (by decide) ?_
      refine Y_al0 i_35_9 ?_
      refine Y_iconst (v := 1) i_35_10 (by decide) ?_
      refine Y_iv1 (L0 := [.ref 11, .int 1]) i_35_11 ow_35 lm_3_90 ((k_11 hG).trans ow_48.symm) rfl mx_48 rfl rfl hd_35 ?_
      refine Y_al0 i_48_0 ?_
      refine Y_il1 i_48_1 ?_
      refine Y_pI i_48_2 ow_48 lf_3_41 (k_11 hG) ?_
      refine Y_al0 i_48_5 ?_
      refine Y_al0 i_48_6 ?_
      refine Y_gI (v := (F 11 5)) i_48_7 ow_48 lf_3_158 (by decide) (k_11 hG) (by simp [wF, wJ, va_up, cpR, bF, bA]) ?_
      refine Y_pI i_48_10 ow_48 lf_3_44 (k_11 hG) ?_
      refine Y_iconst (v := 0) i_48_13 (by decide) ?_
      refine Y_bret i_48_14 rt_48 (by decide) (KKi ?_)
      exact Y_bret i_35_14 rt_35 (by decide) h
  · replace h := h.2 e1
    refine Y_iconst (v := 0) i_47_25 (by decide) ?_
    refine Y_bret i_47_26 rt_47 (by decide) (KKi ?_)
    refine Y_zF i_35_6 (by decide) ?_
    refine Y_al0 i_35_9 ?_
    refine Y_iconst (v := 1) i_35_10 (by decide) ?_
    refine Y_iv1 (L0 := [.ref 11, .int 1]) i_35_11 ow_35 lm_3_90 ((k_11 hG).trans ow_48.symm) rfl mx_48 rfl rfl hd_35 ?_
    refine Y_al0 i_48_0 ?_
    refine Y_il1 i_48_1 ?_
    refine Y_pI i_48_2 ow_48 lf_3_41 (k_11 hG) ?_
    refine Y_al0 i_48_5 ?_
    refine Y_al0 i_48_6 ?_
    refine Y_gI (v := (F 11 5)) i_48_7 ow_48 lf_3_158 (by decide) (k_11 hG) (by simp [wF, wJ, va_up, cpR, bF, bA]) ?_
    refine Y_pI i_48_10 ow_48 lf_3_44 (k_11 hG) ?_
    refine Y_iconst (v := 0) i_48_13 (by decide) ?_
    refine Y_bret i_48_14 rt_48 (by decide) (KKi ?_)
    exact Y_bret i_35_14 rt_35 (by decide) h
theorem k_35_19 {d : Nat} {F A : Nat → Nat → Int32} {J : Nat → Nat → Int64} {G : pG} {Q : pR → pM → Prop} {SL p q : Nat} (hG : Geo G SL p q) (h : Q (.inl (some (.int 1))) (F, A, J, G)) : KK (d + 2) 35 19 [.ref 11] [] Q (.inl none) (F, A, J, G) := by
  refine KKv ?_
  refine Y_iconst (v := 1) i_35_19 (by decide) ?_
  exact Y_bret i_35_20 rt_35 (by decide) h
/- 36 Reader.expr(I)Z -/
theorem t_36_0 {d : Nat} {F A : Nat → Nat → Int32} {J : Nat → Nat → Int64} {G : pG} {Q : pR → pM → Prop} {SL p q : Nat} {x1 : Int32} (hG : Geo G SL p q) (h : ((x1 < 6 → X (d + 1) 37 0 [.ref 11, .int x1, .null] [] (F, A, J, G) (KK (d + 2) 36 46 [.ref 11, .int x1, .null] [] Q)) ∧ (¬ x1 < 6 → (((F 11 4) = 3 → Q (.inl (some (.int 0))) ((wF (wF F 11 8 2) 11 0 (F 11 5)), A, J, G)) ∧ (¬ (F 11 4) = 3 → (((F 11 4) = 2 → Q (.inl (some (.int 0))) ((wF (wF F 11 8 2) 11 0 (F 11 5)), A, J, G)) ∧ (¬ (F 11 4) = 2 → (((F 11 4) = 4 → inB (F 11 5) 600 = true ∧ (((A 1 (F 11 5).toNatClampNeg) = 40 → Q (.inl (some (.int 0))) ((wF (wF F 11 8 2) 11 0 (F 11 5)), A, J, G)) ∧ (¬ (A 1 (F 11 5).toNatClampNeg) = 40 → Q (.inl (some (.int 0))) ((wF (wF F 11 8 1) 11 0 (F 11 5)), A, J, G)))) ∧ (¬ (F 11 4) = 4 → Q (.inl (some (.int 0))) ((wF (wF F 11 8 1) 11 0 (F 11 5)), A, J, G)))))))))) : X (d + 2) 36 0 [.ref 11, .int x1, .null] [] (F, A, J, G) Q := by
  refine Y_il1 i_36_0 ?_
  refine Y_bipush (v := 6) i_36_1 (by decide) ?_
  refine Y_clt i_36_3 (fun e1 => ?_) (fun e1 => ?_)
  · replace h := h.1 e1
    refine Y_al0 i_36_41 ?_
    refine Y_il1 i_36_42 ?_
    exact Y_iv1 (L0 := [.ref 11, .int x1, .null]) i_36_43 ow_36 lm_3_132 ((k_11 hG).trans ow_37.symm) rfl mx_37 rfl rfl hd_36 h
  · replace h := h.2 e1
    refine Y_al0 i_36_6 ?_
    refine Y_al0 i_36_7 ?_
    refine Y_gI (v := (F 11 4)) i_36_8 ow_36 lf_3_53 (by decide) (k_11 hG) rfl ?_
    refine Y_iconst (v := 3) i_36_11 (by decide) ?_
    refine Y_ceq i_36_12 (fun e2 => ?_) (fun e2 => ?_)
    · replace h := h.1 e2
      refine Y_iconst (v := 2) i_36_32 (by decide) ?_
      refine Y_goto i_36_33 ?_
      refine Y_iv1 (L0 := [.ref 11, .int 2]) i_36_37 ow_36 lm_3_90 ((k_11 hG).trans ow_48.symm) rfl mx_48 rfl rfl hd_36 ?_
      refine Y_al0 i_48_0 ?_
      refine Y_il1 i_48_1 ?_
      refine Y_pI i_48_2 ow_48 lf_3_41 (k_11 hG) ?_
      refine Y_al0 i_48_5 ?_
      refine Y_al0 i_48_6 ?_
      refine Y_gI (v := (F 11 5)) i_48_7 ow_48 lf_3_158 (by decide) (k_11 hG) (by simp [wF, wJ, va_up, cpR, bF, bA]) ?_
      refine Y_pI i_48_10 ow_48 lf_3_44 (k_11 hG) ?_
      refine Y_iconst (v := 0) i_48_13 (by decide) ?_
      refine Y_bret i_48_14 rt_48 (by decide) (KKi ?_)
      exact Y_bret i_36_40 rt_36 (by decide) h
    · replace h := h.2 e2
      refine Y_al0 i_36_15 ?_
      refine Y_gI (v := (F 11 4)) i_36_16 ow_36 lf_3_53 (by decide) (k_11 hG) rfl ?_
      refine Y_iconst (v := 2) i_36_19 (by decide) ?_
      refine Y_ceq i_36_20 (fun e3 => ?_) (fun e3 => ?_)
      · replace h := h.1 e3
        refine Y_iconst (v := 2) i_36_32 (by decide) ?_
        refine Y_goto i_36_33 ?_
        refine Y_iv1 (L0 := [.ref 11, .int 2]) i_36_37 ow_36 lm_3_90 ((k_11 hG).trans ow_48.symm) rfl mx_48 rfl rfl hd_36 ?_
        refine Y_al0 i_48_0 ?_
        refine Y_il1 i_48_1 ?_
        refine Y_pI i_48_2 ow_48 lf_3_41 (k_11 hG) ?_
        refine Y_al0 i_48_5 ?_
        refine Y_al0 i_48_6 ?_
        refine Y_gI (v := (F 11 5)) i_48_7 ow_48 lf_3_158 (by decide) (k_11 hG) (by simp [wF, wJ, va_up, cpR, bF, bA]) ?_
        refine Y_pI i_48_10 ow_48 lf_3_44 (k_11 hG) ?_
        refine Y_iconst (v := 0) i_48_13 (by decide) ?_
        refine Y_bret i_48_14 rt_48 (by decide) (KKi ?_)
        exact Y_bret i_36_40 rt_36 (by decide) h
      · replace h := h.2 e3
        refine Y_al0 i_36_23 ?_
        refine Y_bipush (v := 40) i_36_24 (by decide) ?_
        refine Y_iv1 (L0 := [.ref 11, .int 40]) i_36_26 ow_36 lm_3_99 ((k_11 hG).trans ow_47.symm) rfl mx_47 rfl rfl hd_36 ?_
        refine Y_al0 i_47_0 ?_
        refine Y_gI (v := (F 11 4)) i_47_1 ow_47 lf_3_53 (by decide) (k_11 hG) rfl ?_
        refine Y_iconst (v := 4) i_47_4 (by decide) ?_
        refine Y_cne i_47_5 (fun e4 => ?_) (fun e4 => ?_)
        · replace h := h.1 e4
          refine Y_al0 i_47_8 ?_
          refine Y_gR i_47_9 ow_47 lf_3_9 (k_11 hG) (r_11_1 hG) ?_
          refine Y_al0 i_47_12 ?_
          refine Y_gI (v := (F 11 5)) i_47_13 ow_47 lf_3_158 (by decide) (k_11 hG) rfl ?_
          have o5 := h.1
          replace h := h.2
          refine Y_baload (k := (F 11 5).toNatClampNeg) (v := (A 1 (F 11 5).toNatClampNeg)) i_47_16 (k_1 hG) (l_1 hG) o5 rfl rfl ?_
          refine Y_il1 i_47_17 ?_
          refine Y_cne i_47_18 (fun e6 => ?_) (fun e6 => ?_)
          · replace h := h.1 e6
            refine Y_iconst (v := 1) i_47_21 (by decide) ?_
            refine Y_goto i_47_22 ?_
            refine Y_bret i_47_26 rt_47 (by decide) (KKi ?_)
            refine Y_zF i_36_29 (by decide) ?_
            refine Y_iconst (v := 2) i_36_32 (by decide) ?_
            refine Y_goto i_36_33 ?_
            refine Y_iv1 (L0 := [.ref 11, .int 2]) i_36_37 ow_36 lm_3_90 ((k_11 hG).trans ow_48.symm) rfl mx_48 rfl rfl hd_36 ?_
            refine Y_al0 i_48_0 ?_
            refine Y_il1 i_48_1 ?_
            refine Y_pI i_48_2 ow_48 lf_3_41 (k_11 hG) ?_
            refine Y_al0 i_48_5 ?_
            refine Y_al0 i_48_6 ?_
            refine Y_gI (v := (F 11 5)) i_48_7 ow_48 lf_3_158 (by decide) (k_11 hG) (by simp [wF, wJ, va_up, cpR, bF, bA]) ?_
            refine Y_pI i_48_10 ow_48 lf_3_44 (k_11 hG) ?_
            refine Y_iconst (v := 0) i_48_13 (by decide) ?_
            refine Y_bret i_48_14 rt_48 (by decide) (KKi ?_)
            exact Y_bret i_36_40 rt_36 (by decide) h
          · replace h := h.2 e6
            refine Y_iconst (v := 0) i_47_25 (by decide) ?_
            refine Y_bret i_47_26 rt_47 (by decide) (KKi ?_)
            refine Y_zT i_36_29 (by decide) ?_
            refine Y_iconst (v := 1) i_36_36 (by decide) ?_
            refine Y_iv1 (L0 := [.ref 11, .int 1]) i_36_37 ow_36 lm_3_90 ((k_11 hG).trans ow_48.symm) rfl mx_48 rfl rfl hd_36 ?_
            refine Y_al0 i_48_0 ?_
            refine Y_il1 i_48_1 ?_
            refine Y_pI i_48_2 ow_48 lf_3_41 (k_11 hG) ?_
            refine Y_al0 i_48_5 ?_
            refine Y_al0 i_48_6 ?_
            refine Y_gI (v := (F 11 5)) i_48_7 ow_48 lf_3_158 (by decide) (k_11 hG) (by simp [wF, wJ, va_up, cpR, bF, bA]) ?_
            refine Y_pI i_48_10 ow_48 lf_3_44 (k_11 hG) ?_
            refine Y_iconst (v := 0) i_48_13 (by decide) ?_
            refine Y_bret i_48_14 rt_48 (by decide) (KKi ?_)
            exact Y_bret i_36_40 rt_36 (by decide) h
        · replace h := h.2 e4
          refine Y_iconst (v := 0) i_47_25 (by decide) ?_
          refine Y_bret i_47_26 rt_47 (by decide) (KKi ?_)
          refine Y_zT i_36_29 (by decide) ?_
          refine Y_iconst (v := 1) i_36_36 (by decide) ?_
          refine Y_iv1 (L0 := [.ref 11, .int 1]) i_36_37 ow_36 lm_3_90 ((k_11 hG).trans ow_48.symm) rfl mx_48 rfl rfl hd_36 ?_
          refine Y_al0 i_48_0 ?_
          refine Y_il1 i_48_1 ?_
          refine Y_pI i_48_2 ow_48 lf_3_41 (k_11 hG) ?_
          refine Y_al0 i_48_5 ?_
          refine Y_al0 i_48_6 ?_
          refine Y_gI (v := (F 11 5)) i_48_7 ow_48 lf_3_158 (by decide) (k_11 hG) (by simp [wF, wJ, va_up, cpR, bF, bA]) ?_
          refine Y_pI i_48_10 ow_48 lf_3_44 (k_11 hG) ?_
          refine Y_iconst (v := 0) i_48_13 (by decide) ?_
          refine Y_bret i_48_14 rt_48 (by decide) (KKi ?_)
          exact Y_bret i_36_40 rt_36 (by decide) h
theorem k_36_46 {d : Nat} {F A : Nat → Nat → Int32} {J : Nat → Nat → Int64} {G : pG} {Q : pR → pM → Prop} {SL p q : Nat} {x1 r r : Int32} (hG : Geo G SL p q) (h : ((r = 0 → Q (.inl (some (.int 0))) (F, A, J, G)) ∧ (¬ r = 0 → X (d + 2) 36 53 [.ref 11, .int x1, .int 0] [] (F, A, J, G) Q))) : KK (d + 2) 36 46 [.ref 11, .int x1, .null] [] Q (.inl (some (.int r))) (F, A, J, G) := by
  refine KKi ?_
  refine Y_zne i_36_46 (fun e1 => ?_) (fun e1 => ?_)
  · replace h := h.1 e1
    refine Y_iconst (v := 0) i_36_49 (by decide) ?_
    exact Y_bret i_36_50 rt_36 (by decide) h
  · replace h := h.2 e1
    refine Y_iconst (v := 0) i_36_51 (by decide) ?_
    refine Y_is2 i_36_52 rfl ?_
    exact h
theorem t_36_53 {d : Nat} {F A : Nat → Nat → Int32} {J : Nat → Nat → Int64} {G : pG} {Q : pR → pM → Prop} {SL p q : Nat} {x1 x2 : Int32} (hG : Geo G SL p q) (h : ((x2 < 600 → X (d + 1) 46 0 [.ref 11, .ref 1017, .null] [] (F, A, J, G) (KK (d + 2) 36 66 [.ref 11, .int x1, .int x2] [] Q)) ∧ (¬ x2 < 600 → Q (.inl (some (.int 1))) (F, A, J, G)))) : X (d + 2) 36 53 [.ref 11, .int x1, .int x2] [] (F, A, J, G) Q := by
  refine Y_il2 i_36_53 ?_
  refine Y_sipush (v := 600) i_36_54 (by decide) ?_
  refine Y_cge i_36_57 (fun e1 => ?_) (fun e1 => ?_)
  · replace h := h.1 e1
    refine Y_al0 i_36_60 ?_
    refine Y_ldcS (r := 1017) i_36_61 ow_36 li_3_135 ls_3_135 rfl ?_
    exact Y_iv1 (L0 := [.ref 11, .ref 1017, .null]) i_36_63 ow_36 lm_3_73 ((k_11 hG).trans ow_46.symm) rfl mx_46 rfl rfl hd_36 h
  · replace h := h.2 e1
    refine Y_iconst (v := 1) i_36_101 (by decide) ?_
    exact Y_bret i_36_102 rt_36 (by decide) h
theorem k_36_66 {d : Nat} {F A : Nat → Nat → Int32} {J : Nat → Nat → Int64} {G : pG} {Q : pR → pM → Prop} {SL p q : Nat} {x1 x2 r r : Int32} (hG : Geo G SL p q) (h : ((r = 0 → Q (.inl (some (.int 1))) (F, A, J, G)) ∧ (¬ r = 0 → X (d + 1) 49 0 [.ref 11] [] (F, A, J, G) (KK (d + 2) 36 73 [.ref 11, .int x1, .int x2] [] Q)))) : KK (d + 2) 36 66 [.ref 11, .int x1, .int x2] [] Q (.inl (some (.int r))) (F, A, J, G) := by
  refine KKi ?_
  refine Y_zeq i_36_66 (fun e1 => ?_) (fun e1 => ?_)
  · replace h := h.1 e1
    refine Y_iconst (v := 1) i_36_101 (by decide) ?_
    exact Y_bret i_36_102 rt_36 (by decide) h
  · replace h := h.2 e1
    refine Y_al0 i_36_69 ?_
    exact Y_iv0 (L0 := [.ref 11]) i_36_70 ow_36 lm_3_50 ((k_11 hG).trans ow_49.symm) rfl mx_49 rfl rfl hd_36 h
theorem k_36_73 {d : Nat} {F A : Nat → Nat → Int32} {J : Nat → Nat → Int64} {G : pG} {Q : pR → pM → Prop} {SL p q : Nat} {x1 x2 : Int32} (hG : Geo G SL p q) (h : X (d + 1) 37 0 [.ref 11, .int x1, .null] [] (F, A, J, G) (KK (d + 2) 36 78 [.ref 11, .int x1, .int x2] [] Q)) : KK (d + 2) 36 73 [.ref 11, .int x1, .int x2] [] Q (.inl none) (F, A, J, G) := by
  refine KKv ?_
  refine Y_al0 i_36_73 ?_
  refine Y_il1 i_36_74 ?_
  exact Y_iv1 (L0 := [.ref 11, .int x1, .null]) i_36_75 ow_36 lm_3_132 ((k_11 hG).trans ow_37.symm) rfl mx_37 rfl rfl hd_36 h
theorem k_36_78 {d : Nat} {F A : Nat → Nat → Int32} {J : Nat → Nat → Int64} {G : pG} {Q : pR → pM → Prop} {SL p q : Nat} {x1 x2 r r : Int32} (hG : Geo G SL p q) (h : ((r = 0 → Q (.inl (some (.int 0))) (F, A, J, G)) ∧ (¬ r = 0 → (((F 8 1) < 600 → inB (F 8 1) 600 = true ∧ (X (d + 2) 36 53 [.ref 11, .int x1, .int (x2 + 1)] [] ((wF F 8 1 ((F 8 1) + 1)), (wF A 9 (F 8 1).toNatClampNeg (-15)), J, G) Q)) ∧ (¬ (F 8 1) < 600 → X (d + 2) 36 53 [.ref 11, .int x1, .int (x2 + 1)] [] (F, A, J, G) Q))))) : KK (d + 2) 36 78 [.ref 11, .int x1, .int x2] [] Q (.inl (some (.int r))) (F, A, J, G) := by
  refine KKi ?_
  refine Y_zne i_36_78 (fun e1 => ?_) (fun e1 => ?_)
  · replace h := h.1 e1
    refine Y_iconst (v := 0) i_36_81 (by decide) ?_
    exact Y_bret i_36_82 rt_36 (by decide) h
  · replace h := h.2 e1
    refine Y_al0 i_36_83 ?_
    refine Y_gR i_36_84 ow_36 lf_3_15 (k_11 hG) (r_11_2 hG) ?_
    refine Y_gR i_36_87 ow_36 lf_3_123 (k_2 hG) (r_2_8 hG) ?_
    refine Y_bipush (v := (-15)) i_36_90 (by decide) ?_
    refine Y_iv1 (L0 := [.ref 8, .int (-15)]) i_36_92 ow_36 lm_3_137 ((k_8 hG).trans ow_54.symm) rfl mx_54 rfl rfl hd_36 ?_
    refine Y_al0 i_54_0 ?_
    refine Y_gI (v := (F 8 1)) i_54_1 ow_54 lf_4_18 (by decide) (k_8 hG) rfl ?_
    refine Y_al0 i_54_4 ?_
    refine Y_gR i_54_5 ow_54 lf_4_9 (k_8 hG) (r_8_0 hG) ?_
    refine Y_alen (v := 600) i_54_8 (Or.inl (k_9 hG)) (l_9 hG) (by decide) ?_
    refine Y_cge i_54_9 (fun e2 => ?_) (fun e2 => ?_)
    · replace h := h.1 e2
      refine Y_al0 i_54_12 ?_
      refine Y_gR i_54_13 ow_54 lf_4_9 (k_8 hG) (r_8_0 hG) ?_
      refine Y_al0 i_54_16 ?_
      refine Y_gI (v := (F 8 1)) i_54_17 ow_54 lf_4_18 (by decide) (k_8 hG) rfl ?_
      refine Y_il1 i_54_20 ?_
      have o3 := h.1
      replace h := h.2
      refine Y_iast i_54_21 (k_9 hG) (l_9 hG) o3 rfl ?_
      refine Y_al0 i_54_22 ?_
      refine Y_dup i_54_23 rfl ?_
      refine Y_gI (v := (F 8 1)) i_54_24 ow_54 lf_4_18 (by decide) (k_8 hG) rfl ?_
      refine Y_iconst (v := 1) i_54_27 (by decide) ?_
      refine Y_iadd i_54_28 ?_
      refine Y_pI i_54_29 ow_54 lf_4_18 (k_8 hG) ?_
      refine Y_vret i_54_32 rt_54 (KKv ?_)
      refine Y_ii2 (v := 1) i_36_95 (by decide) rfl ?_
      refine Y_goto i_36_98 ?_
      exact h
    · replace h := h.2 e2
      refine Y_vret i_54_32 rt_54 (KKv ?_)
      refine Y_ii2 (v := 1) i_36_95 (by decide) rfl ?_
      refine Y_goto i_36_98 ?_
      exact h
/- 37 Reader.and(I)Z -/
theorem t_37_0 {d : Nat} {F A : Nat → Nat → Int32} {J : Nat → Nat → Int64} {G : pG} {Q : pR → pM → Prop} {SL p q : Nat} {x1 : Int32} (hG : Geo G SL p q) (h : X (d + 1) 38 0 [.ref 11, .int x1, .null, .null] [] (F, A, J, G) (KK (d + 2) 37 5 [.ref 11, .int x1, .null] [] Q)) : X (d + 2) 37 0 [.ref 11, .int x1, .null] [] (F, A, J, G) Q := by
  refine Y_al0 i_37_0 ?_
  refine Y_il1 i_37_1 ?_
  exact Y_iv1 (L0 := [.ref 11, .int x1, .null, .null]) i_37_2 ow_37 lm_3_141 ((k_11 hG).trans ow_38.symm) rfl mx_38 rfl rfl hd_37 h
theorem k_37_5 {d : Nat} {F A : Nat → Nat → Int32} {J : Nat → Nat → Int64} {G : pG} {Q : pR → pM → Prop} {SL p q : Nat} {x1 r r : Int32} (hG : Geo G SL p q) (h : ((r = 0 → Q (.inl (some (.int 0))) (F, A, J, G)) ∧ (¬ r = 0 → X (d + 2) 37 12 [.ref 11, .int x1, .int 0] [] (F, A, J, G) Q))) : KK (d + 2) 37 5 [.ref 11, .int x1, .null] [] Q (.inl (some (.int r))) (F, A, J, G) := by
  refine KKi ?_
  refine Y_zne i_37_5 (fun e1 => ?_) (fun e1 => ?_)
  · replace h := h.1 e1
    refine Y_iconst (v := 0) i_37_8 (by decide) ?_
    exact Y_bret i_37_9 rt_37 (by decide) h
  · replace h := h.2 e1
    refine Y_iconst (v := 0) i_37_10 (by decide) ?_
    refine Y_is2 i_37_11 rfl ?_
    exact h
theorem t_37_12 {d : Nat} {F A : Nat → Nat → Int32} {J : Nat → Nat → Int64} {G : pG} {Q : pR → pM → Prop} {SL p q : Nat} {x1 x2 : Int32} (hG : Geo G SL p q) (h : ((x2 < 600 → X (d + 1) 46 0 [.ref 11, .ref 1016, .null] [] (F, A, J, G) (KK (d + 2) 37 25 [.ref 11, .int x1, .int x2] [] Q)) ∧ (¬ x2 < 600 → Q (.inl (some (.int 1))) (F, A, J, G)))) : X (d + 2) 37 12 [.ref 11, .int x1, .int x2] [] (F, A, J, G) Q := by
  refine Y_il2 i_37_12 ?_
  refine Y_sipush (v := 600) i_37_13 (by decide) ?_
  refine Y_cge i_37_16 (fun e1 => ?_) (fun e1 => ?_)
  · replace h := h.1 e1
    refine Y_al0 i_37_19 ?_
    refine Y_ldcS (r := 1016) i_37_20 ow_37 li_3_144 ls_3_144 rfl ?_
    exact Y_iv1 (L0 := [.ref 11, .ref 1016, .null]) i_37_22 ow_37 lm_3_73 ((k_11 hG).trans ow_46.symm) rfl mx_46 rfl rfl hd_37 h
  · replace h := h.2 e1
    refine Y_iconst (v := 1) i_37_60 (by decide) ?_
    exact Y_bret i_37_61 rt_37 (by decide) h
theorem k_37_25 {d : Nat} {F A : Nat → Nat → Int32} {J : Nat → Nat → Int64} {G : pG} {Q : pR → pM → Prop} {SL p q : Nat} {x1 x2 r r : Int32} (hG : Geo G SL p q) (h : ((r = 0 → Q (.inl (some (.int 1))) (F, A, J, G)) ∧ (¬ r = 0 → X (d + 1) 49 0 [.ref 11] [] (F, A, J, G) (KK (d + 2) 37 32 [.ref 11, .int x1, .int x2] [] Q)))) : KK (d + 2) 37 25 [.ref 11, .int x1, .int x2] [] Q (.inl (some (.int r))) (F, A, J, G) := by
  refine KKi ?_
  refine Y_zeq i_37_25 (fun e1 => ?_) (fun e1 => ?_)
  · replace h := h.1 e1
    refine Y_iconst (v := 1) i_37_60 (by decide) ?_
    exact Y_bret i_37_61 rt_37 (by decide) h
  · replace h := h.2 e1
    refine Y_al0 i_37_28 ?_
    exact Y_iv0 (L0 := [.ref 11]) i_37_29 ow_37 lm_3_50 ((k_11 hG).trans ow_49.symm) rfl mx_49 rfl rfl hd_37 h
theorem k_37_32 {d : Nat} {F A : Nat → Nat → Int32} {J : Nat → Nat → Int64} {G : pG} {Q : pR → pM → Prop} {SL p q : Nat} {x1 x2 : Int32} (hG : Geo G SL p q) (h : X (d + 1) 38 0 [.ref 11, .int x1, .null, .null] [] (F, A, J, G) (KK (d + 2) 37 37 [.ref 11, .int x1, .int x2] [] Q)) : KK (d + 2) 37 32 [.ref 11, .int x1, .int x2] [] Q (.inl none) (F, A, J, G) := by
  refine KKv ?_
  refine Y_al0 i_37_32 ?_
  refine Y_il1 i_37_33 ?_
  exact Y_iv1 (L0 := [.ref 11, .int x1, .null, .null]) i_37_34 ow_37 lm_3_141 ((k_11 hG).trans ow_38.symm) rfl mx_38 rfl rfl hd_37 h
theorem k_37_37 {d : Nat} {F A : Nat → Nat → Int32} {J : Nat → Nat → Int64} {G : pG} {Q : pR → pM → Prop} {SL p q : Nat} {x1 x2 r r : Int32} (hG : Geo G SL p q) (h : ((r = 0 → Q (.inl (some (.int 0))) (F, A, J, G)) ∧ (¬ r = 0 → (((F 8 1) < 600 → inB (F 8 1) 600 = true ∧ (X (d + 2) 37 12 [.ref 11, .int x1, .int (x2 + 1)] [] ((wF F 8 1 ((F 8 1) + 1)), (wF A 9 (F 8 1).toNatClampNeg (-14)), J, G) Q)) ∧ (¬ (F 8 1) < 600 → X (d + 2) 37 12 [.ref 11, .int x1, .int (x2 + 1)] [] (F, A, J, G) Q))))) : KK (d + 2) 37 37 [.ref 11, .int x1, .int x2] [] Q (.inl (some (.int r))) (F, A, J, G) := by
  refine KKi ?_
  refine Y_zne i_37_37 (fun e1 => ?_) (fun e1 => ?_)
  · replace h := h.1 e1
    refine Y_iconst (v := 0) i_37_40 (by decide) ?_
    exact Y_bret i_37_41 rt_37 (by decide) h
  · replace h := h.2 e1
    refine Y_al0 i_37_42 ?_
    refine Y_gR i_37_43 ow_37 lf_3_15 (k_11 hG) (r_11_2 hG) ?_
    refine Y_gR i_37_46 ow_37 lf_3_123 (k_2 hG) (r_2_8 hG) ?_
    refine Y_bipush (v := (-14)) i_37_49 (by decide) ?_
    refine Y_iv1 (L0 := [.ref 8, .int (-14)]) i_37_51 ow_37 lm_3_137 ((k_8 hG).trans ow_54.symm) rfl mx_54 rfl rfl hd_37 ?_
    refine Y_al0 i_54_0 ?_
    refine Y_gI (v := (F 8 1)) i_54_1 ow_54 lf_4_18 (by decide) (k_8 hG) rfl ?_
    refine Y_al0 i_54_4 ?_
    refine Y_gR i_54_5 ow_54 lf_4_9 (k_8 hG) (r_8_0 hG) ?_
    refine Y_alen (v := 600) i_54_8 (Or.inl (k_9 hG)) (l_9 hG) (by decide) ?_
    refine Y_cge i_54_9 (fun e2 => ?_) (fun e2 => ?_)
    · replace h := h.1 e2
      refine Y_al0 i_54_12 ?_
      refine Y_gR i_54_13 ow_54 lf_4_9 (k_8 hG) (r_8_0 hG) ?_
      refine Y_al0 i_54_16 ?_
      refine Y_gI (v := (F 8 1)) i_54_17 ow_54 lf_4_18 (by decide) (k_8 hG) rfl ?_
      refine Y_il1 i_54_20 ?_
      have o3 := h.1
      replace h := h.2
      refine Y_iast i_54_21 (k_9 hG) (l_9 hG) o3 rfl ?_
      refine Y_al0 i_54_22 ?_
      refine Y_dup i_54_23 rfl ?_
      refine Y_gI (v := (F 8 1)) i_54_24 ow_54 lf_4_18 (by decide) (k_8 hG) rfl ?_
      refine Y_iconst (v := 1) i_54_27 (by decide) ?_
      refine Y_iadd i_54_28 ?_
      refine Y_pI i_54_29 ow_54 lf_4_18 (k_8 hG) ?_
      refine Y_vret i_54_32 rt_54 (KKv ?_)
      refine Y_ii2 (v := 1) i_37_54 (by decide) rfl ?_
      refine Y_goto i_37_57 ?_
      exact h
    · replace h := h.2 e2
      refine Y_vret i_54_32 rt_54 (KKv ?_)
      refine Y_ii2 (v := 1) i_37_54 (by decide) rfl ?_
      refine Y_goto i_37_57 ?_
      exact h
/- 38 Reader.not(I)Z -/
theorem t_38_0 {d : Nat} {F A : Nat → Nat → Int32} {J : Nat → Nat → Int64} {G : pG} {Q : pR → pM → Prop} {SL p q : Nat} {x1 : Int32} (hG : Geo G SL p q) (h : X (d + 2) 38 4 [.ref 11, .int x1, .int 0, .int 0] [] (F, A, J, G) Q) : X (d + 2) 38 0 [.ref 11, .int x1, .null, .null] [] (F, A, J, G) Q := by
  refine Y_iconst (v := 0) i_38_0 (by decide) ?_
  refine Y_is2 i_38_1 rfl ?_
  refine Y_iconst (v := 0) i_38_2 (by decide) ?_
  refine Y_is3 i_38_3 rfl ?_
  exact h
theorem t_38_4 {d : Nat} {F A : Nat → Nat → Int32} {J : Nat → Nat → Int64} {G : pG} {Q : pR → pM → Prop} {SL p q : Nat} {x1 x2 x3 : Int32} (hG : Geo G SL p q) (h : ((6 < x3 → X (d + 1) 39 0 [.ref 11, .int x1, .null] [] (F, A, J, G) (KK (d + 2) 38 49 [.ref 11, .int x1, .int x2, .int x3] [] Q)) ∧ (¬ 6 < x3 → X (d + 1) 46 0 [.ref 11, .ref 1009, .null] [] (F, A, J, G) (KK (d + 2) 38 16 [.ref 11, .int x1, .int x2, .int x3] [] Q)))) : X (d + 2) 38 4 [.ref 11, .int x1, .int x2, .int x3] [] (F, A, J, G) Q := by
  refine Y_il3 i_38_4 ?_
  refine Y_bipush (v := 6) i_38_5 (by decide) ?_
  refine Y_cgt i_38_7 (fun e1 => ?_) (fun e1 => ?_)
  · replace h := h.1 e1
    refine Y_al0 i_38_44 ?_
    refine Y_il1 i_38_45 ?_
    exact Y_iv1 (L0 := [.ref 11, .int x1, .null]) i_38_46 ow_38 lm_3_146 ((k_11 hG).trans ow_39.symm) rfl mx_39 rfl rfl hd_38 h
  · replace h := h.2 e1
    refine Y_al0 i_38_10 ?_
    refine Y_ldcS (r := 1009) i_38_11 ow_38 li_3_145 ls_3_145 rfl ?_
    exact Y_iv1 (L0 := [.ref 11, .ref 1009, .null]) i_38_13 ow_38 lm_3_73 ((k_11 hG).trans ow_46.symm) rfl mx_46 rfl rfl hd_38 h
theorem k_38_16 {d : Nat} {F A : Nat → Nat → Int32} {J : Nat → Nat → Int64} {G : pG} {Q : pR → pM → Prop} {SL p q : Nat} {x1 x2 x3 r r : Int32} (hG : Geo G SL p q) (h : ((r = 0 → X (d + 1) 39 0 [.ref 11, .int x1, .null] [] (F, A, J, G) (KK (d + 2) 38 49 [.ref 11, .int x1, .int x2, .int x3] [] Q)) ∧ (¬ r = 0 → ((6 < (x2 + 1) → Q (.inl (some (.int 0))) ((wF (wF F 11 8 2) 11 0 (F 11 5)), A, J, G)) ∧ (¬ 6 < (x2 + 1) → X (d + 1) 49 0 [.ref 11] [] (F, A, J, G) (KK (d + 2) 38 38 [.ref 11, .int x1, .int (x2 + 1), .int x3] [] Q)))))) : KK (d + 2) 38 16 [.ref 11, .int x1, .int x2, .int x3] [] Q (.inl (some (.int r))) (F, A, J, G) := by
  refine KKi ?_
  refine Y_zeq i_38_16 (fun e1 => ?_) (fun e1 => ?_)
  · replace h := h.1 e1
    refine Y_al0 i_38_44 ?_
    refine Y_il1 i_38_45 ?_
    exact Y_iv1 (L0 := [.ref 11, .int x1, .null]) i_38_46 ow_38 lm_3_146 ((k_11 hG).trans ow_39.symm) rfl mx_39 rfl rfl hd_38 h
  · replace h := h.2 e1
    refine Y_ii2 (v := 1) i_38_19 (by decide) rfl ?_
    refine Y_il2 i_38_22 ?_
    refine Y_bipush (v := 6) i_38_23 (by decide) ?_
    refine Y_cle i_38_25 (fun e2 => ?_) (fun e2 => ?_)
    · replace h := h.1 e2
      refine Y_al0 i_38_28 ?_
      refine Y_iconst (v := 2) i_38_29 (by decide) ?_
      refine Y_iv1 (L0 := [.ref 11, .int 2]) i_38_30 ow_38 lm_3_90 ((k_11 hG).trans ow_48.symm) rfl mx_48 rfl rfl hd_38 ?_
      refine Y_al0 i_48_0 ?_
      refine Y_il1 i_48_1 ?_
      refine Y_pI i_48_2 ow_48 lf_3_41 (k_11 hG) ?_
      refine Y_al0 i_48_5 ?_
      refine Y_al0 i_48_6 ?_
      refine Y_gI (v := (F 11 5)) i_48_7 ow_48 lf_3_158 (by decide) (k_11 hG) (by simp [wF, wJ, va_up, cpR, bF, bA]) ?_
      refine Y_pI i_48_10 ow_48 lf_3_44 (k_11 hG) ?_
      refine Y_iconst (v := 0) i_48_13 (by decide) ?_
      refine Y_bret i_48_14 rt_48 (by decide) (KKi ?_)
      exact Y_bret i_38_33 rt_38 (by decide) h
    · replace h := h.2 e2
      refine Y_al0 i_38_34 ?_
      exact Y_iv0 (L0 := [.ref 11]) i_38_35 ow_38 lm_3_50 ((k_11 hG).trans ow_49.symm) rfl mx_49 rfl rfl hd_38 h
theorem k_38_38 {d : Nat} {F A : Nat → Nat → Int32} {J : Nat → Nat → Int64} {G : pG} {Q : pR → pM → Prop} {SL p q : Nat} {x1 x2 x3 : Int32} (hG : Geo G SL p q) (h : X (d + 2) 38 4 [.ref 11, .int x1, .int x2, .int (x3 + 1)] [] (F, A, J, G) Q) : KK (d + 2) 38 38 [.ref 11, .int x1, .int x2, .int x3] [] Q (.inl none) (F, A, J, G) := by
  refine KKv ?_
  refine Y_ii3 (v := 1) i_38_38 (by decide) rfl ?_
  refine Y_goto i_38_41 ?_
  exact h
theorem k_38_49 {d : Nat} {F A : Nat → Nat → Int32} {J : Nat → Nat → Int64} {G : pG} {Q : pR → pM → Prop} {SL p q : Nat} {x1 x2 x3 r r : Int32} (hG : Geo G SL p q) (h : ((r = 0 → Q (.inl (some (.int 0))) (F, A, J, G)) ∧ (¬ r = 0 → X (d + 2) 38 56 [.ref 11, .int x1, .int x2, .int 0] [] (F, A, J, G) Q))) : KK (d + 2) 38 49 [.ref 11, .int x1, .int x2, .int x3] [] Q (.inl (some (.int r))) (F, A, J, G) := by
  refine KKi ?_
  refine Y_zne i_38_49 (fun e1 => ?_) (fun e1 => ?_)
  · replace h := h.1 e1
    refine Y_iconst (v := 0) i_38_52 (by decide) ?_
    exact Y_bret i_38_53 rt_38 (by decide) h
  · replace h := h.2 e1
    refine Y_iconst (v := 0) i_38_54 (by decide) ?_
    refine Y_is3 i_38_55 rfl ?_
    exact h
theorem t_38_56 {d : Nat} {F A : Nat → Nat → Int32} {J : Nat → Nat → Int64} {G : pG} {Q : pR → pM → Prop} {SL p q : Nat} {x1 x2 x3 : Int32} (hG : Geo G SL p q) (h : ((x3 < x2 → (((F 8 1) < 600 → inB (F 8 1) 600 = true ∧ (X (d + 2) 38 56 [.ref 11, .int x1, .int x2, .int (x3 + 1)] [] ((wF F 8 1 ((F 8 1) + 1)), (wF A 9 (F 8 1).toNatClampNeg (-7)), J, G) Q)) ∧ (¬ (F 8 1) < 600 → X (d + 2) 38 56 [.ref 11, .int x1, .int x2, .int (x3 + 1)] [] (F, A, J, G) Q))) ∧ (¬ x3 < x2 → Q (.inl (some (.int 1))) (F, A, J, G)))) : X (d + 2) 38 56 [.ref 11, .int x1, .int x2, .int x3] [] (F, A, J, G) Q := by
  refine Y_il3 i_38_56 ?_
  refine Y_il2 i_38_57 ?_
  refine Y_cge i_38_58 (fun e1 => ?_) (fun e1 => ?_)
  · replace h := h.1 e1
    refine Y_al0 i_38_61 ?_
    refine Y_gR i_38_62 ow_38 lf_3_15 (k_11 hG) (r_11_2 hG) ?_
    refine Y_gR i_38_65 ow_38 lf_3_123 (k_2 hG) (r_2_8 hG) ?_
    refine Y_bipush (v := (-7)) i_38_68 (by decide) ?_
    refine Y_iv1 (L0 := [.ref 8, .int (-7)]) i_38_70 ow_38 lm_3_137 ((k_8 hG).trans ow_54.symm) rfl mx_54 rfl rfl hd_38 ?_
    refine Y_al0 i_54_0 ?_
    refine Y_gI (v := (F 8 1)) i_54_1 ow_54 lf_4_18 (by decide) (k_8 hG) rfl ?_
    refine Y_al0 i_54_4 ?_
    refine Y_gR i_54_5 ow_54 lf_4_9 (k_8 hG) (r_8_0 hG) ?_
    refine Y_alen (v := 600) i_54_8 (Or.inl (k_9 hG)) (l_9 hG) (by decide) ?_
    refine Y_cge i_54_9 (fun e2 => ?_) (fun e2 => ?_)
    · replace h := h.1 e2
      refine Y_al0 i_54_12 ?_
      refine Y_gR i_54_13 ow_54 lf_4_9 (k_8 hG) (r_8_0 hG) ?_
      refine Y_al0 i_54_16 ?_
      refine Y_gI (v := (F 8 1)) i_54_17 ow_54 lf_4_18 (by decide) (k_8 hG) rfl ?_
      refine Y_il1 i_54_20 ?_
      have o3 := h.1
      replace h := h.2
      refine Y_iast i_54_21 (k_9 hG) (l_9 hG) o3 rfl ?_
      refine Y_al0 i_54_22 ?_
      refine Y_dup i_54_23 rfl ?_
      refine Y_gI (v := (F 8 1)) i_54_24 ow_54 lf_4_18 (by decide) (k_8 hG) rfl ?_
      refine Y_iconst (v := 1) i_54_27 (by decide) ?_
      refine Y_iadd i_54_28 ?_
      refine Y_pI i_54_29 ow_54 lf_4_18 (k_8 hG) ?_
      refine Y_vret i_54_32 rt_54 (KKv ?_)
      refine Y_ii3 (v := 1) i_38_73 (by decide) rfl ?_
      refine Y_goto i_38_76 ?_
      exact h
    · replace h := h.2 e2
      refine Y_vret i_54_32 rt_54 (KKv ?_)
      refine Y_ii3 (v := 1) i_38_73 (by decide) rfl ?_
      refine Y_goto i_38_76 ?_
      exact h
  · replace h := h.2 e1
    refine Y_iconst (v := 1) i_38_79 (by decide) ?_
    exact Y_bret i_38_80 rt_38 (by decide) h
/- 39 Reader.test(I)Z -/
theorem t_39_0 {d : Nat} {F A : Nat → Nat → Int32} {J : Nat → Nat → Int64} {G : pG} {Q : pR → pM → Prop} {SL p q : Nat} {x1 : Int32} (hG : Geo G SL p q) (h : X (d + 1) 40 0 [.ref 11, .int x1, .null, .null] [] (F, A, J, G) (KK (d + 2) 39 5 [.ref 11, .int x1, .null] [] Q)) : X (d + 2) 39 0 [.ref 11, .int x1, .null] [] (F, A, J, G) Q := by
  refine Y_al0 i_39_0 ?_
  refine Y_il1 i_39_1 ?_
  exact Y_iv1 (L0 := [.ref 11, .int x1, .null, .null]) i_39_2 ow_39 lm_3_149 ((k_11 hG).trans ow_40.symm) rfl mx_40 rfl rfl hd_39 h
theorem k_39_5 {d : Nat} {F A : Nat → Nat → Int32} {J : Nat → Nat → Int64} {G : pG} {Q : pR → pM → Prop} {SL p q : Nat} {x1 r r : Int32} (hG : Geo G SL p q) (h : ((r = 0 → Q (.inl (some (.int 0))) (F, A, J, G)) ∧ (¬ r = 0 → (((F 11 4) = 4 → inB (F 11 5) 600 = true ∧ (((A 1 (F 11 5).toNatClampNeg) = 60 → X (d + 1) 49 0 [.ref 11] [] (F, A, J, G) (KK (d + 2) 39 50 [.ref 11, .int x1, .int (-12)] [] Q)) ∧ (¬ (A 1 (F 11 5).toNatClampNeg) = 60 → (((F 11 4) = 4 → (((A 1 (F 11 5).toNatClampNeg) = 61 → X (d + 1) 49 0 [.ref 11] [] (F, A, J, G) (KK (d + 2) 39 50 [.ref 11, .int x1, .int (-13)] [] Q)) ∧ (¬ (A 1 (F 11 5).toNatClampNeg) = 61 → Q (.inl (some (.int 1))) (F, A, J, G)))) ∧ (¬ (F 11 4) = 4 → Q (.inl (some (.int 1))) (F, A, J, G)))))) ∧ (¬ (F 11 4) = 4 → (((F 11 4) = 4 → inB (F 11 5) 600 = true ∧ (((A 1 (F 11 5).toNatClampNeg) = 61 → X (d + 1) 49 0 [.ref 11] [] (F, A, J, G) (KK (d + 2) 39 50 [.ref 11, .int x1, .int (-13)] [] Q)) ∧ (¬ (A 1 (F 11 5).toNatClampNeg) = 61 → Q (.inl (some (.int 1))) (F, A, J, G)))) ∧ (¬ (F 11 4) = 4 → Q (.inl (some (.int 1))) (F, A, J, G)))))))) : KK (d + 2) 39 5 [.ref 11, .int x1, .null] [] Q (.inl (some (.int r))) (F, A, J, G) := by
  refine KKi ?_
  refine Y_zne i_39_5 (fun e1 => ?_) (fun e1 => ?_)
  · replace h := h.1 e1
    refine Y_iconst (v := 0) i_39_8 (by decide) ?_
    exact Y_bret i_39_9 rt_39 (by decide) h
  · replace h := h.2 e1
    refine Y_al0 i_39_10 ?_
    refine Y_bipush (v := 60) i_39_11 (by decide) ?_
    refine Y_iv1 (L0 := [.ref 11, .int 60]) i_39_13 ow_39 lm_3_99 ((k_11 hG).trans ow_47.symm) rfl mx_47 rfl rfl hd_39 ?_
    refine Y_al0 i_47_0 ?_
    refine Y_gI (v := (F 11 4)) i_47_1 ow_47 lf_3_53 (by decide) (k_11 hG) rfl ?_
    refine Y_iconst (v := 4) i_47_4 (by decide) ?_
    refine Y_cne i_47_5 (fun e2 => ?_) (fun e2 => ?_)
    · replace h := h.1 e2
      refine Y_al0 i_47_8 ?_
      refine Y_gR i_47_9 ow_47 lf_3_9 (k_11 hG) (r_11_1 hG) ?_
      refine Y_al0 i_47_12 ?_
      refine Y_gI (v := (F 11 5)) i_47_13 ow_47 lf_3_158 (by decide) (k_11 hG) rfl ?_
      have o3 := h.1
      replace h := h.2
      refine Y_baload (k := (F 11 5).toNatClampNeg) (v := (A 1 (F 11 5).toNatClampNeg)) i_47_16 (k_1 hG) (l_1 hG) o3 rfl rfl ?_
      refine Y_il1 i_47_17 ?_
      refine Y_cne i_47_18 (fun e4 => ?_) (fun e4 => ?_)
      · replace h := h.1 e4
        refine Y_iconst (v := 1) i_47_21 (by decide) ?_
        refine Y_goto i_47_22 ?_
        refine Y_bret i_47_26 rt_47 (by decide) (KKi ?_)
        refine Y_zF i_39_16 (by decide) ?_
        refine Y_bipush (v := (-12)) i_39_19 (by decide) ?_
        refine Y_goto i_39_21 ?_
        refine Y_is2 i_39_39 rfl ?_
        refine Y_il2 i_39_40 ?_
        refine Y_zT i_39_41 (by decide) ?_
        refine Y_al0 i_39_46 ?_
        exact Y_iv0 (L0 := [.ref 11]) i_39_47 ow_39 lm_3_50 ((k_11 hG).trans ow_49.symm) rfl mx_49 rfl rfl hd_39 h
      · replace h := h.2 e4
        refine Y_iconst (v := 0) i_47_25 (by decide) ?_
        refine Y_bret i_47_26 rt_47 (by decide) (KKi ?_)
        refine Y_zT i_39_16 (by decide) ?_
        refine Y_al0 i_39_24 ?_
        refine Y_bipush (v := 61) i_39_25 (by decide) ?_
        refine Y_iv1 (L0 := [.ref 11, .int 61]) i_39_27 ow_39 lm_3_99 ((k_11 hG).trans ow_47.symm) rfl mx_47 rfl rfl hd_39 ?_
        refine Y_al0 i_47_0 ?_
        refine Y_gI (v := (F 11 4)) i_47_1 ow_47 lf_3_53 (by decide) (k_11 hG) rfl ?_
        refine Y_iconst (v := 4) i_47_4 (by decide) ?_
        refine Y_cne i_47_5 (fun e5 => ?_) (fun e5 => ?_)
        · replace h := h.1 e5
          refine Y_al0 i_47_8 ?_
          refine Y_gR i_47_9 ow_47 lf_3_9 (k_11 hG) (r_11_1 hG) ?_
          refine Y_al0 i_47_12 ?_
          refine Y_gI (v := (F 11 5)) i_47_13 ow_47 lf_3_158 (by decide) (k_11 hG) rfl ?_
          refine Y_baload (k := (F 11 5).toNatClampNeg) (v := (A 1 (F 11 5).toNatClampNeg)) i_47_16 (k_1 hG) (l_1 hG) o3 rfl rfl ?_
          refine Y_il1 i_47_17 ?_
          refine Y_cne i_47_18 (fun e6 => ?_) (fun e6 => ?_)
          · replace h := h.1 e6
            refine Y_iconst (v := 1) i_47_21 (by decide) ?_
            refine Y_goto i_47_22 ?_
            refine Y_bret i_47_26 rt_47 (by decide) (KKi ?_)
            refine Y_zF i_39_30 (by decide) ?_
            refine Y_bipush (v := (-13)) i_39_33 (by decide) ?_
            refine Y_goto i_39_35 ?_
            refine Y_is2 i_39_39 rfl ?_
            refine Y_il2 i_39_40 ?_
            refine Y_zT i_39_41 (by decide) ?_
            refine Y_al0 i_39_46 ?_
            exact Y_iv0 (L0 := [.ref 11]) i_39_47 ow_39 lm_3_50 ((k_11 hG).trans ow_49.symm) rfl mx_49 rfl rfl hd_39 h
          · replace h := h.2 e6
            refine Y_iconst (v := 0) i_47_25 (by decide) ?_
            refine Y_bret i_47_26 rt_47 (by decide) (KKi ?_)
            refine Y_zT i_39_30 (by decide) ?_
            refine Y_iconst (v := 0) i_39_38 (by decide) ?_
            refine Y_is2 i_39_39 rfl ?_
            refine Y_il2 i_39_40 ?_
            refine Y_zF i_39_41 (by decide) ?_
            refine Y_iconst (v := 1) i_39_44 (by decide) ?_
            exact Y_bret i_39_45 rt_39 (by decide) h
        · replace h := h.2 e5
          refine Y_iconst (v := 0) i_47_25 (by decide) ?_
          refine Y_bret i_47_26 rt_47 (by decide) (KKi ?_)
          refine Y_zT i_39_30 (by decide) ?_
          refine Y_iconst (v := 0) i_39_38 (by decide) ?_
          refine Y_is2 i_39_39 rfl ?_
          refine Y_il2 i_39_40 ?_
          refine Y_zF i_39_41 (by decide) ?_
          refine Y_iconst (v := 1) i_39_44 (by decide) ?_
          exact Y_bret i_39_45 rt_39 (by decide) h
    · replace h := h.2 e2
      refine Y_iconst (v := 0) i_47_25 (by decide) ?_
      refine Y_bret i_47_26 rt_47 (by decide) (KKi ?_)
      refine Y_zT i_39_16 (by decide) ?_
      refine Y_al0 i_39_24 ?_
      refine Y_bipush (v := 61) i_39_25 (by decide) ?_
      refine Y_iv1 (L0 := [.ref 11, .int 61]) i_39_27 ow_39 lm_3_99 ((k_11 hG).trans ow_47.symm) rfl mx_47 rfl rfl hd_39 ?_
      refine Y_al0 i_47_0 ?_
      refine Y_gI (v := (F 11 4)) i_47_1 ow_47 lf_3_53 (by decide) (k_11 hG) rfl ?_
      refine Y_iconst (v := 4) i_47_4 (by decide) ?_
      refine Y_cne i_47_5 (fun e7 => ?_) (fun e7 => ?_)
      · replace h := h.1 e7
        refine Y_al0 i_47_8 ?_
        refine Y_gR i_47_9 ow_47 lf_3_9 (k_11 hG) (r_11_1 hG) ?_
        refine Y_al0 i_47_12 ?_
        refine Y_gI (v := (F 11 5)) i_47_13 ow_47 lf_3_158 (by decide) (k_11 hG) rfl ?_
        have o8 := h.1
        replace h := h.2
        refine Y_baload (k := (F 11 5).toNatClampNeg) (v := (A 1 (F 11 5).toNatClampNeg)) i_47_16 (k_1 hG) (l_1 hG) o8 rfl rfl ?_
        refine Y_il1 i_47_17 ?_
        refine Y_cne i_47_18 (fun e9 => ?_) (fun e9 => ?_)
        · replace h := h.1 e9
          refine Y_iconst (v := 1) i_47_21 (by decide) ?_
          refine Y_goto i_47_22 ?_
          refine Y_bret i_47_26 rt_47 (by decide) (KKi ?_)
          refine Y_zF i_39_30 (by decide) ?_
          refine Y_bipush (v := (-13)) i_39_33 (by decide) ?_
          refine Y_goto i_39_35 ?_
          refine Y_is2 i_39_39 rfl ?_
          refine Y_il2 i_39_40 ?_
          refine Y_zT i_39_41 (by decide) ?_
          refine Y_al0 i_39_46 ?_
          exact Y_iv0 (L0 := [.ref 11]) i_39_47 ow_39 lm_3_50 ((k_11 hG).trans ow_49.symm) rfl mx_49 rfl rfl hd_39 h
        · replace h := h.2 e9
          refine Y_iconst (v := 0) i_47_25 (by decide) ?_
          refine Y_bret i_47_26 rt_47 (by decide) (KKi ?_)
          refine Y_zT i_39_30 (by decide) ?_
          refine Y_iconst (v := 0) i_39_38 (by decide) ?_
          refine Y_is2 i_39_39 rfl ?_
          refine Y_il2 i_39_40 ?_
          refine Y_zF i_39_41 (by decide) ?_
          refine Y_iconst (v := 1) i_39_44 (by decide) ?_
          exact Y_bret i_39_45 rt_39 (by decide) h
      · replace h := h.2 e7
        refine Y_iconst (v := 0) i_47_25 (by decide) ?_
        refine Y_bret i_47_26 rt_47 (by decide) (KKi ?_)
        refine Y_zT i_39_30 (by decide) ?_
        refine Y_iconst (v := 0) i_39_38 (by decide) ?_
        refine Y_is2 i_39_39 rfl ?_
        refine Y_il2 i_39_40 ?_
        refine Y_zF i_39_41 (by decide) ?_
        refine Y_iconst (v := 1) i_39_44 (by decide) ?_
        exact Y_bret i_39_45 rt_39 (by decide) h
theorem k_39_50 {d : Nat} {F A : Nat → Nat → Int32} {J : Nat → Nat → Int64} {G : pG} {Q : pR → pM → Prop} {SL p q : Nat} {x1 x2 : Int32} (hG : Geo G SL p q) (h : X (d + 1) 40 0 [.ref 11, .int x1, .null, .null] [] (F, A, J, G) (KK (d + 2) 39 55 [.ref 11, .int x1, .int x2] [] Q)) : KK (d + 2) 39 50 [.ref 11, .int x1, .int x2] [] Q (.inl none) (F, A, J, G) := by
  refine KKv ?_
  refine Y_al0 i_39_50 ?_
  refine Y_il1 i_39_51 ?_
  exact Y_iv1 (L0 := [.ref 11, .int x1, .null, .null]) i_39_52 ow_39 lm_3_149 ((k_11 hG).trans ow_40.symm) rfl mx_40 rfl rfl hd_39 h
theorem k_39_55 {d : Nat} {F A : Nat → Nat → Int32} {J : Nat → Nat → Int64} {G : pG} {Q : pR → pM → Prop} {SL p q : Nat} {x1 x2 r r : Int32} (hG : Geo G SL p q) (h : ((r = 0 → Q (.inl (some (.int 0))) (F, A, J, G)) ∧ (¬ r = 0 → (((F 8 1) < 600 → inB (F 8 1) 600 = true ∧ (Q (.inl (some (.int 1))) ((wF F 8 1 ((F 8 1) + 1)), (wF A 9 (F 8 1).toNatClampNeg x2), J, G))) ∧ (¬ (F 8 1) < 600 → Q (.inl (some (.int 1))) (F, A, J, G)))))) : KK (d + 2) 39 55 [.ref 11, .int x1, .int x2] [] Q (.inl (some (.int r))) (F, A, J, G) := by
  refine KKi ?_
  refine Y_zne i_39_55 (fun e1 => ?_) (fun e1 => ?_)
  · replace h := h.1 e1
    refine Y_iconst (v := 0) i_39_58 (by decide) ?_
    exact Y_bret i_39_59 rt_39 (by decide) h
  · replace h := h.2 e1
    refine Y_al0 i_39_60 ?_
    refine Y_gR i_39_61 ow_39 lf_3_15 (k_11 hG) (r_11_2 hG) ?_
    refine Y_gR i_39_64 ow_39 lf_3_123 (k_2 hG) (r_2_8 hG) ?_
    refine Y_il2 i_39_67 ?_
    refine Y_iv1 (L0 := [.ref 8, .int x2]) i_39_68 ow_39 lm_3_137 ((k_8 hG).trans ow_54.symm) rfl mx_54 rfl rfl hd_39 ?_
    refine Y_al0 i_54_0 ?_
    refine Y_gI (v := (F 8 1)) i_54_1 ow_54 lf_4_18 (by decide) (k_8 hG) rfl ?_
    refine Y_al0 i_54_4 ?_
    refine Y_gR i_54_5 ow_54 lf_4_9 (k_8 hG) (r_8_0 hG) ?_
    refine Y_alen (v := 600) i_54_8 (Or.inl (k_9 hG)) (l_9 hG) (by decide) ?_
    refine Y_cge i_54_9 (fun e2 => ?_) (fun e2 => ?_)
    · replace h := h.1 e2
      refine Y_al0 i_54_12 ?_
      refine Y_gR i_54_13 ow_54 lf_4_9 (k_8 hG) (r_8_0 hG) ?_
      refine Y_al0 i_54_16 ?_
      refine Y_gI (v := (F 8 1)) i_54_17 ow_54 lf_4_18 (by decide) (k_8 hG) rfl ?_
      refine Y_il1 i_54_20 ?_
      have o3 := h.1
      replace h := h.2
      refine Y_iast i_54_21 (k_9 hG) (l_9 hG) o3 rfl ?_
      refine Y_al0 i_54_22 ?_
      refine Y_dup i_54_23 rfl ?_
      refine Y_gI (v := (F 8 1)) i_54_24 ow_54 lf_4_18 (by decide) (k_8 hG) rfl ?_
      refine Y_iconst (v := 1) i_54_27 (by decide) ?_
      refine Y_iadd i_54_28 ?_
      refine Y_pI i_54_29 ow_54 lf_4_18 (k_8 hG) ?_
      refine Y_vret i_54_32 rt_54 (KKv ?_)
      refine Y_iconst (v := 1) i_39_71 (by decide) ?_
      exact Y_bret i_39_72 rt_39 (by decide) h
    · replace h := h.2 e2
      refine Y_vret i_54_32 rt_54 (KKv ?_)
      refine Y_iconst (v := 1) i_39_71 (by decide) ?_
      exact Y_bret i_39_72 rt_39 (by decide) h
/- 40 Reader.sum(I)Z -/
theorem t_40_0 {d : Nat} {F A : Nat → Nat → Int32} {J : Nat → Nat → Int64} {G : pG} {Q : pR → pM → Prop} {SL p q : Nat} {x1 : Int32} (hG : Geo G SL p q) (h : X (d + 1) 41 0 [.ref 11, .int x1, .null, .null] [] (F, A, J, G) (KK (d + 2) 40 5 [.ref 11, .int x1, .null, .null] [] Q)) : X (d + 2) 40 0 [.ref 11, .int x1, .null, .null] [] (F, A, J, G) Q := by
  refine Y_al0 i_40_0 ?_
  refine Y_il1 i_40_1 ?_
  exact Y_iv1 (L0 := [.ref 11, .int x1, .null, .null]) i_40_2 ow_40 lm_3_152 ((k_11 hG).trans ow_41.symm) rfl mx_41 rfl rfl hd_40 h
theorem k_40_5 {d : Nat} {F A : Nat → Nat → Int32} {J : Nat → Nat → Int64} {G : pG} {Q : pR → pM → Prop} {SL p q : Nat} {x1 r r : Int32} (hG : Geo G SL p q) (h : ((r = 0 → Q (.inl (some (.int 0))) (F, A, J, G)) ∧ (¬ r = 0 → X (d + 2) 40 12 [.ref 11, .int x1, .int 0, .null] [] (F, A, J, G) Q))) : KK (d + 2) 40 5 [.ref 11, .int x1, .null, .null] [] Q (.inl (some (.int r))) (F, A, J, G) := by
  refine KKi ?_
  refine Y_zne i_40_5 (fun e1 => ?_) (fun e1 => ?_)
  · replace h := h.1 e1
    refine Y_iconst (v := 0) i_40_8 (by decide) ?_
    exact Y_bret i_40_9 rt_40 (by decide) h
  · replace h := h.2 e1
    refine Y_iconst (v := 0) i_40_10 (by decide) ?_
    refine Y_is2 i_40_11 rfl ?_
    exact h
theorem t_40_12 {d : Nat} {F A : Nat → Nat → Int32} {J : Nat → Nat → Int64} {G : pG} {Q : pR → pM → Prop} {SL p q : Nat} {x1 x2 : Int32} {v3 : Value} (hG : Geo G SL p q) (h : ((x2 < 600 → (((F 11 4) = 4 → inB (F 11 5) 600 = true ∧ (((A 1 (F 11 5).toNatClampNeg) = 43 → (((F 11 4) = 4 → (((A 1 (F 11 5).toNatClampNeg) = 43 → X (d + 1) 49 0 [.ref 11] [] (F, A, J, G) (KK (d + 2) 40 58 [.ref 11, .int x1, .int x2, .int (-8)] [] Q)) ∧ (¬ (A 1 (F 11 5).toNatClampNeg) = 43 → X (d + 1) 49 0 [.ref 11] [] (F, A, J, G) (KK (d + 2) 40 58 [.ref 11, .int x1, .int x2, .int (-9)] [] Q)))) ∧ (¬ (F 11 4) = 4 → X (d + 1) 49 0 [.ref 11] [] (F, A, J, G) (KK (d + 2) 40 58 [.ref 11, .int x1, .int x2, .int (-9)] [] Q)))) ∧ (¬ (A 1 (F 11 5).toNatClampNeg) = 43 → (((F 11 4) = 4 → (((A 1 (F 11 5).toNatClampNeg) = 45 → (((F 11 4) = 4 → (((A 1 (F 11 5).toNatClampNeg) = 43 → X (d + 1) 49 0 [.ref 11] [] (F, A, J, G) (KK (d + 2) 40 58 [.ref 11, .int x1, .int x2, .int (-8)] [] Q)) ∧ (¬ (A 1 (F 11 5).toNatClampNeg) = 43 → X (d + 1) 49 0 [.ref 11] [] (F, A, J, G) (KK (d + 2) 40 58 [.ref 11, .int x1, .int x2, .int (-9)] [] Q)))) ∧ (¬ (F 11 4) = 4 → X (d + 1) 49 0 [.ref 11] [] (F, A, J, G) (KK (d + 2) 40 58 [.ref 11, .int x1, .int x2, .int (-9)] [] Q)))) ∧ (¬ (A 1 (F 11 5).toNatClampNeg) = 45 → Q (.inl (some (.int 1))) (F, A, J, G)))) ∧ (¬ (F 11 4) = 4 → Q (.inl (some (.int 1))) (F, A, J, G)))))) ∧ (¬ (F 11 4) = 4 → (((F 11 4) = 4 → inB (F 11 5) 600 = true ∧ (((A 1 (F 11 5).toNatClampNeg) = 45 → (((F 11 4) = 4 → (((A 1 (F 11 5).toNatClampNeg) = 43 → X (d + 1) 49 0 [.ref 11] [] (F, A, J, G) (KK (d + 2) 40 58 [.ref 11, .int x1, .int x2, .int (-8)] [] Q)) ∧ (¬ (A 1 (F 11 5).toNatClampNeg) = 43 → X (d + 1) 49 0 [.ref 11] [] (F, A, J, G) (KK (d + 2) 40 58 [.ref 11, .int x1, .int x2, .int (-9)] [] Q)))) ∧ (¬ (F 11 4) = 4 → X (d + 1) 49 0 [.ref 11] [] (F, A, J, G) (KK (d + 2) 40 58 [.ref 11, .int x1, .int x2, .int (-9)] [] Q)))) ∧ (¬ (A 1 (F 11 5).toNatClampNeg) = 45 → Q (.inl (some (.int 1))) (F, A, J, G)))) ∧ (¬ (F 11 4) = 4 → Q (.inl (some (.int 1))) (F, A, J, G)))))) ∧ (¬ x2 < 600 → Q (.inl (some (.int 1))) (F, A, J, G)))) : X (d + 2) 40 12 [.ref 11, .int x1, .int x2, v3] [] (F, A, J, G) Q := by
  refine Y_il2 i_40_12 ?_
  refine Y_sipush (v := 600) i_40_13 (by decide) ?_
  refine Y_cge i_40_16 (fun e1 => ?_) (fun e1 => ?_)
  · replace h := h.1 e1
    refine Y_al0 i_40_19 ?_
    refine Y_bipush (v := 43) i_40_20 (by decide) ?_
    refine Y_iv1 (L0 := [.ref 11, .int 43]) i_40_22 ow_40 lm_3_99 ((k_11 hG).trans ow_47.symm) rfl mx_47 rfl rfl hd_40 ?_
    refine Y_al0 i_47_0 ?_
    refine Y_gI (v := (F 11 4)) i_47_1 ow_47 lf_3_53 (by decide) (k_11 hG) rfl ?_
    refine Y_iconst (v := 4) i_47_4 (by decide) ?_
    refine Y_cne i_47_5 (fun e2 => ?_) (fun e2 => ?_)
    · replace h := h.1 e2
      refine Y_al0 i_47_8 ?_
      refine Y_gR i_47_9 ow_47 lf_3_9 (k_11 hG) (r_11_1 hG) ?_
      refine Y_al0 i_47_12 ?_
      refine Y_gI (v := (F 11 5)) i_47_13 ow_47 lf_3_158 (by decide) (k_11 hG) rfl ?_
      have o3 := h.1
      replace h := h.2
      refine Y_baload (k := (F 11 5).toNatClampNeg) (v := (A 1 (F 11 5).toNatClampNeg)) i_47_16 (k_1 hG) (l_1 hG) o3 rfl rfl ?_
      refine Y_il1 i_47_17 ?_
      refine Y_cne i_47_18 (fun e4 => ?_) (fun e4 => ?_)
      · replace h := h.1 e4
        refine Y_iconst (v := 1) i_47_21 (by decide) ?_
        refine Y_goto i_47_22 ?_
        refine Y_bret i_47_26 rt_47 (by decide) (KKi ?_)
        refine Y_zT i_40_25 (by decide) ?_
        refine Y_al0 i_40_37 ?_
        refine Y_bipush (v := 43) i_40_38 (by decide) ?_
        refine Y_iv1 (L0 := [.ref 11, .int 43]) i_40_40 ow_40 lm_3_99 ((k_11 hG).trans ow_47.symm) rfl mx_47 rfl rfl hd_40 ?_
        refine Y_al0 i_47_0 ?_
        refine Y_gI (v := (F 11 4)) i_47_1 ow_47 lf_3_53 (by decide) (k_11 hG) rfl ?_
        refine Y_iconst (v := 4) i_47_4 (by decide) ?_
        refine Y_cne i_47_5 (fun e5 => ?_) (fun e5 => ?_)
        · replace h := h.1 e5
          refine Y_al0 i_47_8 ?_
          refine Y_gR i_47_9 ow_47 lf_3_9 (k_11 hG) (r_11_1 hG) ?_
          refine Y_al0 i_47_12 ?_
          refine Y_gI (v := (F 11 5)) i_47_13 ow_47 lf_3_158 (by decide) (k_11 hG) rfl ?_
          refine Y_baload (k := (F 11 5).toNatClampNeg) (v := (A 1 (F 11 5).toNatClampNeg)) i_47_16 (k_1 hG) (l_1 hG) o3 rfl rfl ?_
          refine Y_il1 i_47_17 ?_
          refine Y_cne i_47_18 (fun e6 => ?_) (fun e6 => ?_)
          · replace h := h.1 e6
            refine Y_iconst (v := 1) i_47_21 (by decide) ?_
            refine Y_goto i_47_22 ?_
            refine Y_bret i_47_26 rt_47 (by decide) (KKi ?_)
            refine Y_zF i_40_43 (by decide) ?_
            refine Y_bipush (v := (-8)) i_40_46 (by decide) ?_
            refine Y_goto i_40_48 ?_
            refine Y_is3 i_40_53 rfl ?_
            refine Y_al0 i_40_54 ?_
            exact Y_iv0 (L0 := [.ref 11]) i_40_55 ow_40 lm_3_50 ((k_11 hG).trans ow_49.symm) rfl mx_49 rfl rfl hd_40 h
          · replace h := h.2 e6
            refine Y_iconst (v := 0) i_47_25 (by decide) ?_
            refine Y_bret i_47_26 rt_47 (by decide) (KKi ?_)
            refine Y_zT i_40_43 (by decide) ?_
            refine Y_bipush (v := (-9)) i_40_51 (by decide) ?_
            refine Y_is3 i_40_53 rfl ?_
            refine Y_al0 i_40_54 ?_
            exact Y_iv0 (L0 := [.ref 11]) i_40_55 ow_40 lm_3_50 ((k_11 hG).trans ow_49.symm) rfl mx_49 rfl rfl hd_40 h
        · replace h := h.2 e5
          refine Y_iconst (v := 0) i_47_25 (by decide) ?_
          refine Y_bret i_47_26 rt_47 (by decide) (KKi ?_)
          refine Y_zT i_40_43 (by decide) ?_
          refine Y_bipush (v := (-9)) i_40_51 (by decide) ?_
          refine Y_is3 i_40_53 rfl ?_
          refine Y_al0 i_40_54 ?_
          exact Y_iv0 (L0 := [.ref 11]) i_40_55 ow_40 lm_3_50 ((k_11 hG).trans ow_49.symm) rfl mx_49 rfl rfl hd_40 h
      · replace h := h.2 e4
        refine Y_iconst (v := 0) i_47_25 (by decide) ?_
        refine Y_bret i_47_26 rt_47 (by decide) (KKi ?_)
        refine Y_zF i_40_25 (by decide) ?_
        refine Y_al0 i_40_28 ?_
        refine Y_bipush (v := 45) i_40_29 (by decide) ?_
        refine Y_iv1 (L0 := [.ref 11, .int 45]) i_40_31 ow_40 lm_3_99 ((k_11 hG).trans ow_47.symm) rfl mx_47 rfl rfl hd_40 ?_
        refine Y_al0 i_47_0 ?_
        refine Y_gI (v := (F 11 4)) i_47_1 ow_47 lf_3_53 (by decide) (k_11 hG) rfl ?_
        refine Y_iconst (v := 4) i_47_4 (by decide) ?_
        refine Y_cne i_47_5 (fun e7 => ?_) (fun e7 => ?_)
        · replace h := h.1 e7
          refine Y_al0 i_47_8 ?_
          refine Y_gR i_47_9 ow_47 lf_3_9 (k_11 hG) (r_11_1 hG) ?_
          refine Y_al0 i_47_12 ?_
          refine Y_gI (v := (F 11 5)) i_47_13 ow_47 lf_3_158 (by decide) (k_11 hG) rfl ?_
          refine Y_baload (k := (F 11 5).toNatClampNeg) (v := (A 1 (F 11 5).toNatClampNeg)) i_47_16 (k_1 hG) (l_1 hG) o3 rfl rfl ?_
          refine Y_il1 i_47_17 ?_
          refine Y_cne i_47_18 (fun e8 => ?_) (fun e8 => ?_)
          · replace h := h.1 e8
            refine Y_iconst (v := 1) i_47_21 (by decide) ?_
            refine Y_goto i_47_22 ?_
            refine Y_bret i_47_26 rt_47 (by decide) (KKi ?_)
            refine Y_zF i_40_34 (by decide) ?_
            refine Y_al0 i_40_37 ?_
            refine Y_bipush (v := 43) i_40_38 (by decide) ?_
            refine Y_iv1 (L0 := [.ref 11, .int 43]) i_40_40 ow_40 lm_3_99 ((k_11 hG).trans ow_47.symm) rfl mx_47 rfl rfl hd_40 ?_
            refine Y_al0 i_47_0 ?_
            refine Y_gI (v := (F 11 4)) i_47_1 ow_47 lf_3_53 (by decide) (k_11 hG) rfl ?_
            refine Y_iconst (v := 4) i_47_4 (by decide) ?_
            refine Y_cne i_47_5 (fun e9 => ?_) (fun e9 => ?_)
            · replace h := h.1 e9
              refine Y_al0 i_47_8 ?_
              refine Y_gR i_47_9 ow_47 lf_3_9 (k_11 hG) (r_11_1 hG) ?_
              refine Y_al0 i_47_12 ?_
              refine Y_gI (v := (F 11 5)) i_47_13 ow_47 lf_3_158 (by decide) (k_11 hG) rfl ?_
              refine Y_baload (k := (F 11 5).toNatClampNeg) (v := (A 1 (F 11 5).toNatClampNeg)) i_47_16 (k_1 hG) (l_1 hG) o3 rfl rfl ?_
              refine Y_il1 i_47_17 ?_
              refine Y_cne i_47_18 (fun e10 => ?_) (fun e10 => ?_)
              · replace h := h.1 e10
                refine Y_iconst (v := 1) i_47_21 (by decide) ?_
                refine Y_goto i_47_22 ?_
                refine Y_bret i_47_26 rt_47 (by decide) (KKi ?_)
                refine Y_zF i_40_43 (by decide) ?_
                refine Y_bipush (v := (-8)) i_40_46 (by decide) ?_
                refine Y_goto i_40_48 ?_
                refine Y_is3 i_40_53 rfl ?_
                refine Y_al0 i_40_54 ?_
                exact Y_iv0 (L0 := [.ref 11]) i_40_55 ow_40 lm_3_50 ((k_11 hG).trans ow_49.symm) rfl mx_49 rfl rfl hd_40 h
              · replace h := h.2 e10
                refine Y_iconst (v := 0) i_47_25 (by decide) ?_
                refine Y_bret i_47_26 rt_47 (by decide) (KKi ?_)
                refine Y_zT i_40_43 (by decide) ?_
                refine Y_bipush (v := (-9)) i_40_51 (by decide) ?_
                refine Y_is3 i_40_53 rfl ?_
                refine Y_al0 i_40_54 ?_
                exact Y_iv0 (L0 := [.ref 11]) i_40_55 ow_40 lm_3_50 ((k_11 hG).trans ow_49.symm) rfl mx_49 rfl rfl hd_40 h
            · replace h := h.2 e9
              refine Y_iconst (v := 0) i_47_25 (by decide) ?_
              refine Y_bret i_47_26 rt_47 (by decide) (KKi ?_)
              refine Y_zT i_40_43 (by decide) ?_
              refine Y_bipush (v := (-9)) i_40_51 (by decide) ?_
              refine Y_is3 i_40_53 rfl ?_
              refine Y_al0 i_40_54 ?_
              exact Y_iv0 (L0 := [.ref 11]) i_40_55 ow_40 lm_3_50 ((k_11 hG).trans ow_49.symm) rfl mx_49 rfl rfl hd_40 h
          · replace h := h.2 e8
            refine Y_iconst (v := 0) i_47_25 (by decide) ?_
            refine Y_bret i_47_26 rt_47 (by decide) (KKi ?_)
            refine Y_zT i_40_34 (by decide) ?_
            refine Y_iconst (v := 1) i_40_85 (by decide) ?_
            exact Y_bret i_40_86 rt_40 (by decide) h
        · replace h := h.2 e7
          refine Y_iconst (v := 0) i_47_25 (by decide) ?_
          refine Y_bret i_47_26 rt_47 (by decide) (KKi ?_)
          refine Y_zT i_40_34 (by decide) ?_
          refine Y_iconst (v := 1) i_40_85 (by decide) ?_
          exact Y_bret i_40_86 rt_40 (by decide) h
    · replace h := h.2 e2
      refine Y_iconst (v := 0) i_47_25 (by decide) ?_
      refine Y_bret i_47_26 rt_47 (by decide) (KKi ?_)
      refine Y_zF i_40_25 (by decide) ?_
      refine Y_al0 i_40_28 ?_
      refine Y_bipush (v := 45) i_40_29 (by decide) ?_
      refine Y_iv1 (L0 := [.ref 11, .int 45]) i_40_31 ow_40 lm_3_99 ((k_11 hG).trans ow_47.symm) rfl mx_47 rfl rfl hd_40 ?_
      refine Y_al0 i_47_0 ?_
      refine Y_gI (v := (F 11 4)) i_47_1 ow_47 lf_3_53 (by decide) (k_11 hG) rfl ?_
      refine Y_iconst (v := 4) i_47_4 (by decide) ?_
      refine Y_cne i_47_5 (fun e11 => ?_) (fun e11 => ?_)
      · replace h := h.1 e11
        refine Y_al0 i_47_8 ?_
        refine Y_gR i_47_9 ow_47 lf_3_9 (k_11 hG) (r_11_1 hG) ?_
        refine Y_al0 i_47_12 ?_
        refine Y_gI (v := (F 11 5)) i_47_13 ow_47 lf_3_158 (by decide) (k_11 hG) rfl ?_
        have o12 := h.1
        replace h := h.2
        refine Y_baload (k := (F 11 5).toNatClampNeg) (v := (A 1 (F 11 5).toNatClampNeg)) i_47_16 (k_1 hG) (l_1 hG) o12 rfl rfl ?_
        refine Y_il1 i_47_17 ?_
        refine Y_cne i_47_18 (fun e13 => ?_) (fun e13 => ?_)
        · replace h := h.1 e13
          refine Y_iconst (v := 1) i_47_21 (by decide) ?_
          refine Y_goto i_47_22 ?_
          refine Y_bret i_47_26 rt_47 (by decide) (KKi ?_)
          refine Y_zF i_40_34 (by decide) ?_
          refine Y_al0 i_40_37 ?_
          refine Y_bipush (v := 43) i_40_38 (by decide) ?_
          refine Y_iv1 (L0 := [.ref 11, .int 43]) i_40_40 ow_40 lm_3_99 ((k_11 hG).trans ow_47.symm) rfl mx_47 rfl rfl hd_40 ?_
          refine Y_al0 i_47_0 ?_
          refine Y_gI (v := (F 11 4)) i_47_1 ow_47 lf_3_53 (by decide) (k_11 hG) rfl ?_
          refine Y_iconst (v := 4) i_47_4 (by decide) ?_
          refine Y_cne i_47_5 (fun e14 => ?_) (fun e14 => ?_)
          · replace h := h.1 e14
            refine Y_al0 i_47_8 ?_
            refine Y_gR i_47_9 ow_47 lf_3_9 (k_11 hG) (r_11_1 hG) ?_
            refine Y_al0 i_47_12 ?_
            refine Y_gI (v := (F 11 5)) i_47_13 ow_47 lf_3_158 (by decide) (k_11 hG) rfl ?_
            refine Y_baload (k := (F 11 5).toNatClampNeg) (v := (A 1 (F 11 5).toNatClampNeg)) i_47_16 (k_1 hG) (l_1 hG) o12 rfl rfl ?_
            refine Y_il1 i_47_17 ?_
            refine Y_cne i_47_18 (fun e15 => ?_) (fun e15 => ?_)
            · replace h := h.1 e15
              refine Y_iconst (v := 1) i_47_21 (by decide) ?_
              refine Y_goto i_47_22 ?_
              refine Y_bret i_47_26 rt_47 (by decide) (KKi ?_)
              refine Y_zF i_40_43 (by decide) ?_
              refine Y_bipush (v := (-8)) i_40_46 (by decide) ?_
              refine Y_goto i_40_48 ?_
              refine Y_is3 i_40_53 rfl ?_
              refine Y_al0 i_40_54 ?_
              exact Y_iv0 (L0 := [.ref 11]) i_40_55 ow_40 lm_3_50 ((k_11 hG).trans ow_49.symm) rfl mx_49 rfl rfl hd_40 h
            · replace h := h.2 e15
              refine Y_iconst (v := 0) i_47_25 (by decide) ?_
              refine Y_bret i_47_26 rt_47 (by decide) (KKi ?_)
              refine Y_zT i_40_43 (by decide) ?_
              refine Y_bipush (v := (-9)) i_40_51 (by decide) ?_
              refine Y_is3 i_40_53 rfl ?_
              refine Y_al0 i_40_54 ?_
              exact Y_iv0 (L0 := [.ref 11]) i_40_55 ow_40 lm_3_50 ((k_11 hG).trans ow_49.symm) rfl mx_49 rfl rfl hd_40 h
          · replace h := h.2 e14
            refine Y_iconst (v := 0) i_47_25 (by decide) ?_
            refine Y_bret i_47_26 rt_47 (by decide) (KKi ?_)
            refine Y_zT i_40_43 (by decide) ?_
            refine Y_bipush (v := (-9)) i_40_51 (by decide) ?_
            refine Y_is3 i_40_53 rfl ?_
            refine Y_al0 i_40_54 ?_
            exact Y_iv0 (L0 := [.ref 11]) i_40_55 ow_40 lm_3_50 ((k_11 hG).trans ow_49.symm) rfl mx_49 rfl rfl hd_40 h
        · replace h := h.2 e13
          refine Y_iconst (v := 0) i_47_25 (by decide) ?_
          refine Y_bret i_47_26 rt_47 (by decide) (KKi ?_)
          refine Y_zT i_40_34 (by decide) ?_
          refine Y_iconst (v := 1) i_40_85 (by decide) ?_
          exact Y_bret i_40_86 rt_40 (by decide) h
      · replace h := h.2 e11
        refine Y_iconst (v := 0) i_47_25 (by decide) ?_
        refine Y_bret i_47_26 rt_47 (by decide) (KKi ?_)
        refine Y_zT i_40_34 (by decide) ?_
        refine Y_iconst (v := 1) i_40_85 (by decide) ?_
        exact Y_bret i_40_86 rt_40 (by decide) h
  · replace h := h.2 e1
    refine Y_iconst (v := 1) i_40_85 (by decide) ?_
    exact Y_bret i_40_86 rt_40 (by decide) h
theorem k_40_58 {d : Nat} {F A : Nat → Nat → Int32} {J : Nat → Nat → Int64} {G : pG} {Q : pR → pM → Prop} {SL p q : Nat} {x1 x2 x3 : Int32} (hG : Geo G SL p q) (h : X (d + 1) 41 0 [.ref 11, .int x1, .null, .null] [] (F, A, J, G) (KK (d + 2) 40 63 [.ref 11, .int x1, .int x2, .int x3] [] Q)) : KK (d + 2) 40 58 [.ref 11, .int x1, .int x2, .int x3] [] Q (.inl none) (F, A, J, G) := by
  refine KKv ?_
  refine Y_al0 i_40_58 ?_
  refine Y_il1 i_40_59 ?_
  exact Y_iv1 (L0 := [.ref 11, .int x1, .null, .null]) i_40_60 ow_40 lm_3_152 ((k_11 hG).trans ow_41.symm) rfl mx_41 rfl rfl hd_40 h
theorem k_40_63 {d : Nat} {F A : Nat → Nat → Int32} {J : Nat → Nat → Int64} {G : pG} {Q : pR → pM → Prop} {SL p q : Nat} {x1 x2 x3 r r : Int32} (hG : Geo G SL p q) (h : ((r = 0 → Q (.inl (some (.int 0))) (F, A, J, G)) ∧ (¬ r = 0 → (((F 8 1) < 600 → inB (F 8 1) 600 = true ∧ (X (d + 2) 40 12 [.ref 11, .int x1, .int (x2 + 1), .int x3] [] ((wF F 8 1 ((F 8 1) + 1)), (wF A 9 (F 8 1).toNatClampNeg x3), J, G) Q)) ∧ (¬ (F 8 1) < 600 → X (d + 2) 40 12 [.ref 11, .int x1, .int (x2 + 1), .int x3] [] (F, A, J, G) Q))))) : KK (d + 2) 40 63 [.ref 11, .int x1, .int x2, .int x3] [] Q (.inl (some (.int r))) (F, A, J, G) := by
  refine KKi ?_
  refine Y_zne i_40_63 (fun e1 => ?_) (fun e1 => ?_)
  · replace h := h.1 e1
    refine Y_iconst (v := 0) i_40_66 (by decide) ?_
    exact Y_bret i_40_67 rt_40 (by decide) h
  · replace h := h.2 e1
    refine Y_al0 i_40_68 ?_
    refine Y_gR i_40_69 ow_40 lf_3_15 (k_11 hG) (r_11_2 hG) ?_
    refine Y_gR i_40_72 ow_40 lf_3_123 (k_2 hG) (r_2_8 hG) ?_
    refine Y_il3 i_40_75 ?_
    refine Y_iv1 (L0 := [.ref 8, .int x3]) i_40_76 ow_40 lm_3_137 ((k_8 hG).trans ow_54.symm) rfl mx_54 rfl rfl hd_40 ?_
    refine Y_al0 i_54_0 ?_
    refine Y_gI (v := (F 8 1)) i_54_1 ow_54 lf_4_18 (by decide) (k_8 hG) rfl ?_
    refine Y_al0 i_54_4 ?_
    refine Y_gR i_54_5 ow_54 lf_4_9 (k_8 hG) (r_8_0 hG) ?_
    refine Y_alen (v := 600) i_54_8 (Or.inl (k_9 hG)) (l_9 hG) (by decide) ?_
    refine Y_cge i_54_9 (fun e2 => ?_) (fun e2 => ?_)
    · replace h := h.1 e2
      refine Y_al0 i_54_12 ?_
      refine Y_gR i_54_13 ow_54 lf_4_9 (k_8 hG) (r_8_0 hG) ?_
      refine Y_al0 i_54_16 ?_
      refine Y_gI (v := (F 8 1)) i_54_17 ow_54 lf_4_18 (by decide) (k_8 hG) rfl ?_
      refine Y_il1 i_54_20 ?_
      have o3 := h.1
      replace h := h.2
      refine Y_iast i_54_21 (k_9 hG) (l_9 hG) o3 rfl ?_
      refine Y_al0 i_54_22 ?_
      refine Y_dup i_54_23 rfl ?_
      refine Y_gI (v := (F 8 1)) i_54_24 ow_54 lf_4_18 (by decide) (k_8 hG) rfl ?_
      refine Y_iconst (v := 1) i_54_27 (by decide) ?_
      refine Y_iadd i_54_28 ?_
      refine Y_pI i_54_29 ow_54 lf_4_18 (k_8 hG) ?_
      refine Y_vret i_54_32 rt_54 (KKv ?_)
      refine Y_ii2 (v := 1) i_40_79 (by decide) rfl ?_
      refine Y_goto i_40_82 ?_
      exact h
    · replace h := h.2 e2
      refine Y_vret i_54_32 rt_54 (KKv ?_)
      refine Y_ii2 (v := 1) i_40_79 (by decide) rfl ?_
      refine Y_goto i_40_82 ?_
      exact h
/- 41 Reader.product(I)Z -/
theorem t_41_0 {d : Nat} {F A : Nat → Nat → Int32} {J : Nat → Nat → Int64} {G : pG} {Q : pR → pM → Prop} {SL p q : Nat} {x1 : Int32} (hG : Geo G SL p q) (h : X (d + 1) 42 0 [.ref 11, .int x1, .null] [] (F, A, J, G) (KK (d + 2) 41 5 [.ref 11, .int x1, .null, .null] [] Q)) : X (d + 2) 41 0 [.ref 11, .int x1, .null, .null] [] (F, A, J, G) Q := by
  refine Y_al0 i_41_0 ?_
  refine Y_il1 i_41_1 ?_
  exact Y_iv1 (L0 := [.ref 11, .int x1, .null]) i_41_2 ow_41 lm_3_155 ((k_11 hG).trans ow_42.symm) rfl mx_42 rfl rfl hd_41 h
theorem k_41_5 {d : Nat} {F A : Nat → Nat → Int32} {J : Nat → Nat → Int64} {G : pG} {Q : pR → pM → Prop} {SL p q : Nat} {x1 r r : Int32} (hG : Geo G SL p q) (h : ((r = 0 → Q (.inl (some (.int 0))) (F, A, J, G)) ∧ (¬ r = 0 → X (d + 2) 41 12 [.ref 11, .int x1, .int 0, .null] [] (F, A, J, G) Q))) : KK (d + 2) 41 5 [.ref 11, .int x1, .null, .null] [] Q (.inl (some (.int r))) (F, A, J, G) := by
  refine KKi ?_
  refine Y_zne i_41_5 (fun e1 => ?_) (fun e1 => ?_)
  · replace h := h.1 e1
    refine Y_iconst (v := 0) i_41_8 (by decide) ?_
    exact Y_bret i_41_9 rt_41 (by decide) h
  · replace h := h.2 e1
    refine Y_iconst (v := 0) i_41_10 (by decide) ?_
    refine Y_is2 i_41_11 rfl ?_
    exact h
theorem t_41_12 {d : Nat} {F A : Nat → Nat → Int32} {J : Nat → Nat → Int64} {G : pG} {Q : pR → pM → Prop} {SL p q : Nat} {x1 x2 : Int32} {v3 : Value} (hG : Geo G SL p q) (h : ((x2 < 600 → (((F 11 4) = 4 → inB (F 11 5) 600 = true ∧ (((A 1 (F 11 5).toNatClampNeg) = 42 → (((F 11 4) = 4 → (((A 1 (F 11 5).toNatClampNeg) = 42 → X (d + 1) 49 0 [.ref 11] [] (F, A, J, G) (KK (d + 2) 41 58 [.ref 11, .int x1, .int x2, .int (-10)] [] Q)) ∧ (¬ (A 1 (F 11 5).toNatClampNeg) = 42 → X (d + 1) 49 0 [.ref 11] [] (F, A, J, G) (KK (d + 2) 41 58 [.ref 11, .int x1, .int x2, .int (-11)] [] Q)))) ∧ (¬ (F 11 4) = 4 → X (d + 1) 49 0 [.ref 11] [] (F, A, J, G) (KK (d + 2) 41 58 [.ref 11, .int x1, .int x2, .int (-11)] [] Q)))) ∧ (¬ (A 1 (F 11 5).toNatClampNeg) = 42 → (((F 11 4) = 4 → (((A 1 (F 11 5).toNatClampNeg) = 47 → (((F 11 4) = 4 → (((A 1 (F 11 5).toNatClampNeg) = 42 → X (d + 1) 49 0 [.ref 11] [] (F, A, J, G) (KK (d + 2) 41 58 [.ref 11, .int x1, .int x2, .int (-10)] [] Q)) ∧ (¬ (A 1 (F 11 5).toNatClampNeg) = 42 → X (d + 1) 49 0 [.ref 11] [] (F, A, J, G) (KK (d + 2) 41 58 [.ref 11, .int x1, .int x2, .int (-11)] [] Q)))) ∧ (¬ (F 11 4) = 4 → X (d + 1) 49 0 [.ref 11] [] (F, A, J, G) (KK (d + 2) 41 58 [.ref 11, .int x1, .int x2, .int (-11)] [] Q)))) ∧ (¬ (A 1 (F 11 5).toNatClampNeg) = 47 → Q (.inl (some (.int 1))) (F, A, J, G)))) ∧ (¬ (F 11 4) = 4 → Q (.inl (some (.int 1))) (F, A, J, G)))))) ∧ (¬ (F 11 4) = 4 → (((F 11 4) = 4 → inB (F 11 5) 600 = true ∧ (((A 1 (F 11 5).toNatClampNeg) = 47 → (((F 11 4) = 4 → (((A 1 (F 11 5).toNatClampNeg) = 42 → X (d + 1) 49 0 [.ref 11] [] (F, A, J, G) (KK (d + 2) 41 58 [.ref 11, .int x1, .int x2, .int (-10)] [] Q)) ∧ (¬ (A 1 (F 11 5).toNatClampNeg) = 42 → X (d + 1) 49 0 [.ref 11] [] (F, A, J, G) (KK (d + 2) 41 58 [.ref 11, .int x1, .int x2, .int (-11)] [] Q)))) ∧ (¬ (F 11 4) = 4 → X (d + 1) 49 0 [.ref 11] [] (F, A, J, G) (KK (d + 2) 41 58 [.ref 11, .int x1, .int x2, .int (-11)] [] Q)))) ∧ (¬ (A 1 (F 11 5).toNatClampNeg) = 47 → Q (.inl (some (.int 1))) (F, A, J, G)))) ∧ (¬ (F 11 4) = 4 → Q (.inl (some (.int 1))) (F, A, J, G)))))) ∧ (¬ x2 < 600 → Q (.inl (some (.int 1))) (F, A, J, G)))) : X (d + 2) 41 12 [.ref 11, .int x1, .int x2, v3] [] (F, A, J, G) Q := by
  refine Y_il2 i_41_12 ?_
  refine Y_sipush (v := 600) i_41_13 (by decide) ?_
  refine Y_cge i_41_16 (fun e1 => ?_) (fun e1 => ?_)
  · replace h := h.1 e1
    refine Y_al0 i_41_19 ?_
    refine Y_bipush (v := 42) i_41_20 (by decide) ?_
    refine Y_iv1 (L0 := [.ref 11, .int 42]) i_41_22 ow_41 lm_3_99 ((k_11 hG).trans ow_47.symm) rfl mx_47 rfl rfl hd_41 ?_
    refine Y_al0 i_47_0 ?_
    refine Y_gI (v := (F 11 4)) i_47_1 ow_47 lf_3_53 (by decide) (k_11 hG) rfl ?_
    refine Y_iconst (v := 4) i_47_4 (by decide) ?_
    refine Y_cne i_47_5 (fun e2 => ?_) (fun e2 => ?_)
    · replace h := h.1 e2
      refine Y_al0 i_47_8 ?_
      refine Y_gR i_47_9 ow_47 lf_3_9 (k_11 hG) (r_11_1 hG) ?_
      refine Y_al0 i_47_12 ?_
      refine Y_gI (v := (F 11 5)) i_47_13 ow_47 lf_3_158 (by decide) (k_11 hG) rfl ?_
      have o3 := h.1
      replace h := h.2
      refine Y_baload (k := (F 11 5).toNatClampNeg) (v := (A 1 (F 11 5).toNatClampNeg)) i_47_16 (k_1 hG) (l_1 hG) o3 rfl rfl ?_
      refine Y_il1 i_47_17 ?_
      refine Y_cne i_47_18 (fun e4 => ?_) (fun e4 => ?_)
      · replace h := h.1 e4
        refine Y_iconst (v := 1) i_47_21 (by decide) ?_
        refine Y_goto i_47_22 ?_
        refine Y_bret i_47_26 rt_47 (by decide) (KKi ?_)
        refine Y_zT i_41_25 (by decide) ?_
        refine Y_al0 i_41_37 ?_
        refine Y_bipush (v := 42) i_41_38 (by decide) ?_
        refine Y_iv1 (L0 := [.ref 11, .int 42]) i_41_40 ow_41 lm_3_99 ((k_11 hG).trans ow_47.symm) rfl mx_47 rfl rfl hd_41 ?_
        refine Y_al0 i_47_0 ?_
        refine Y_gI (v := (F 11 4)) i_47_1 ow_47 lf_3_53 (by decide) (k_11 hG) rfl ?_
        refine Y_iconst (v := 4) i_47_4 (by decide) ?_
        refine Y_cne i_47_5 (fun e5 => ?_) (fun e5 => ?_)
        · replace h := h.1 e5
          refine Y_al0 i_47_8 ?_
          refine Y_gR i_47_9 ow_47 lf_3_9 (k_11 hG) (r_11_1 hG) ?_
          refine Y_al0 i_47_12 ?_
          refine Y_gI (v := (F 11 5)) i_47_13 ow_47 lf_3_158 (by decide) (k_11 hG) rfl ?_
          refine Y_baload (k := (F 11 5).toNatClampNeg) (v := (A 1 (F 11 5).toNatClampNeg)) i_47_16 (k_1 hG) (l_1 hG) o3 rfl rfl ?_
          refine Y_il1 i_47_17 ?_
          refine Y_cne i_47_18 (fun e6 => ?_) (fun e6 => ?_)
          · replace h := h.1 e6
            refine Y_iconst (v := 1) i_47_21 (by decide) ?_
            refine Y_goto i_47_22 ?_
            refine Y_bret i_47_26 rt_47 (by decide) (KKi ?_)
            refine Y_zF i_41_43 (by decide) ?_
            refine Y_bipush (v := (-10)) i_41_46 (by decide) ?_
            refine Y_goto i_41_48 ?_
            refine Y_is3 i_41_53 rfl ?_
            refine Y_al0 i_41_54 ?_
            exact Y_iv0 (L0 := [.ref 11]) i_41_55 ow_41 lm_3_50 ((k_11 hG).trans ow_49.symm) rfl mx_49 rfl rfl hd_41 h
          · replace h := h.2 e6
            refine Y_iconst (v := 0) i_47_25 (by decide) ?_
            refine Y_bret i_47_26 rt_47 (by decide) (KKi ?_)
            refine Y_zT i_41_43 (by decide) ?_
            refine Y_bipush (v := (-11)) i_41_51 (by decide) ?_
            refine Y_is3 i_41_53 rfl ?_
            refine Y_al0 i_41_54 ?_
            exact Y_iv0 (L0 := [.ref 11]) i_41_55 ow_41 lm_3_50 ((k_11 hG).trans ow_49.symm) rfl mx_49 rfl rfl hd_41 h
        · replace h := h.2 e5
          refine Y_iconst (v := 0) i_47_25 (by decide) ?_
          refine Y_bret i_47_26 rt_47 (by decide) (KKi ?_)
          refine Y_zT i_41_43 (by decide) ?_
          refine Y_bipush (v := (-11)) i_41_51 (by decide) ?_
          refine Y_is3 i_41_53 rfl ?_
          refine Y_al0 i_41_54 ?_
          exact Y_iv0 (L0 := [.ref 11]) i_41_55 ow_41 lm_3_50 ((k_11 hG).trans ow_49.symm) rfl mx_49 rfl rfl hd_41 h
      · replace h := h.2 e4
        refine Y_iconst (v := 0) i_47_25 (by decide) ?_
        refine Y_bret i_47_26 rt_47 (by decide) (KKi ?_)
        refine Y_zF i_41_25 (by decide) ?_
        refine Y_al0 i_41_28 ?_
        refine Y_bipush (v := 47) i_41_29 (by decide) ?_
        refine Y_iv1 (L0 := [.ref 11, .int 47]) i_41_31 ow_41 lm_3_99 ((k_11 hG).trans ow_47.symm) rfl mx_47 rfl rfl hd_41 ?_
        refine Y_al0 i_47_0 ?_
        refine Y_gI (v := (F 11 4)) i_47_1 ow_47 lf_3_53 (by decide) (k_11 hG) rfl ?_
        refine Y_iconst (v := 4) i_47_4 (by decide) ?_
        refine Y_cne i_47_5 (fun e7 => ?_) (fun e7 => ?_)
        · replace h := h.1 e7
          refine Y_al0 i_47_8 ?_
          refine Y_gR i_47_9 ow_47 lf_3_9 (k_11 hG) (r_11_1 hG) ?_
          refine Y_al0 i_47_12 ?_
          refine Y_gI (v := (F 11 5)) i_47_13 ow_47 lf_3_158 (by decide) (k_11 hG) rfl ?_
          refine Y_baload (k := (F 11 5).toNatClampNeg) (v := (A 1 (F 11 5).toNatClampNeg)) i_47_16 (k_1 hG) (l_1 hG) o3 rfl rfl ?_
          refine Y_il1 i_47_17 ?_
          refine Y_cne i_47_18 (fun e8 => ?_) (fun e8 => ?_)
          · replace h := h.1 e8
            refine Y_iconst (v := 1) i_47_21 (by decide) ?_
            refine Y_goto i_47_22 ?_
            refine Y_bret i_47_26 rt_47 (by decide) (KKi ?_)
            refine Y_zF i_41_34 (by decide) ?_
            refine Y_al0 i_41_37 ?_
            refine Y_bipush (v := 42) i_41_38 (by decide) ?_
            refine Y_iv1 (L0 := [.ref 11, .int 42]) i_41_40 ow_41 lm_3_99 ((k_11 hG).trans ow_47.symm) rfl mx_47 rfl rfl hd_41 ?_
            refine Y_al0 i_47_0 ?_
            refine Y_gI (v := (F 11 4)) i_47_1 ow_47 lf_3_53 (by decide) (k_11 hG) rfl ?_
            refine Y_iconst (v := 4) i_47_4 (by decide) ?_
            refine Y_cne i_47_5 (fun e9 => ?_) (fun e9 => ?_)
            · replace h := h.1 e9
              refine Y_al0 i_47_8 ?_
              refine Y_gR i_47_9 ow_47 lf_3_9 (k_11 hG) (r_11_1 hG) ?_
              refine Y_al0 i_47_12 ?_
              refine Y_gI (v := (F 11 5)) i_47_13 ow_47 lf_3_158 (by decide) (k_11 hG) rfl ?_
              refine Y_baload (k := (F 11 5).toNatClampNeg) (v := (A 1 (F 11 5).toNatClampNeg)) i_47_16 (k_1 hG) (l_1 hG) o3 rfl rfl ?_
              refine Y_il1 i_47_17 ?_
              refine Y_cne i_47_18 (fun e10 => ?_) (fun e10 => ?_)
              · replace h := h.1 e10
                refine Y_iconst (v := 1) i_47_21 (by decide) ?_
                refine Y_goto i_47_22 ?_
                refine Y_bret i_47_26 rt_47 (by decide) (KKi ?_)
                refine Y_zF i_41_43 (by decide) ?_
                refine Y_bipush (v := (-10)) i_41_46 (by decide) ?_
                refine Y_goto i_41_48 ?_
                refine Y_is3 i_41_53 rfl ?_
                refine Y_al0 i_41_54 ?_
                exact Y_iv0 (L0 := [.ref 11]) i_41_55 ow_41 lm_3_50 ((k_11 hG).trans ow_49.symm) rfl mx_49 rfl rfl hd_41 h
              · replace h := h.2 e10
                refine Y_iconst (v := 0) i_47_25 (by decide) ?_
                refine Y_bret i_47_26 rt_47 (by decide) (KKi ?_)
                refine Y_zT i_41_43 (by decide) ?_
                refine Y_bipush (v := (-11)) i_41_51 (by decide) ?_
                refine Y_is3 i_41_53 rfl ?_
                refine Y_al0 i_41_54 ?_
                exact Y_iv0 (L0 := [.ref 11]) i_41_55 ow_41 lm_3_50 ((k_11 hG).trans ow_49.symm) rfl mx_49 rfl rfl hd_41 h
            · replace h := h.2 e9
              refine Y_iconst (v := 0) i_47_25 (by decide) ?_
              refine Y_bret i_47_26 rt_47 (by decide) (KKi ?_)
              refine Y_zT i_41_43 (by decide) ?_
              refine Y_bipush (v := (-11)) i_41_51 (by decide) ?_
              refine Y_is3 i_41_53 rfl ?_
              refine Y_al0 i_41_54 ?_
              exact Y_iv0 (L0 := [.ref 11]) i_41_55 ow_41 lm_3_50 ((k_11 hG).trans ow_49.symm) rfl mx_49 rfl rfl hd_41 h
          · replace h := h.2 e8
            refine Y_iconst (v := 0) i_47_25 (by decide) ?_
            refine Y_bret i_47_26 rt_47 (by decide) (KKi ?_)
            refine Y_zT i_41_34 (by decide) ?_
            refine Y_iconst (v := 1) i_41_85 (by decide) ?_
            exact Y_bret i_41_86 rt_41 (by decide) h
        · replace h := h.2 e7
          refine Y_iconst (v := 0) i_47_25 (by decide) ?_
          refine Y_bret i_47_26 rt_47 (by decide) (KKi ?_)
          refine Y_zT i_41_34 (by decide) ?_
          refine Y_iconst (v := 1) i_41_85 (by decide) ?_
          exact Y_bret i_41_86 rt_41 (by decide) h
    · replace h := h.2 e2
      refine Y_iconst (v := 0) i_47_25 (by decide) ?_
      refine Y_bret i_47_26 rt_47 (by decide) (KKi ?_)
      refine Y_zF i_41_25 (by decide) ?_
      refine Y_al0 i_41_28 ?_
      refine Y_bipush (v := 47) i_41_29 (by decide) ?_
      refine Y_iv1 (L0 := [.ref 11, .int 47]) i_41_31 ow_41 lm_3_99 ((k_11 hG).trans ow_47.symm) rfl mx_47 rfl rfl hd_41 ?_
      refine Y_al0 i_47_0 ?_
      refine Y_gI (v := (F 11 4)) i_47_1 ow_47 lf_3_53 (by decide) (k_11 hG) rfl ?_
      refine Y_iconst (v := 4) i_47_4 (by decide) ?_
      refine Y_cne i_47_5 (fun e11 => ?_) (fun e11 => ?_)
      · replace h := h.1 e11
        refine Y_al0 i_47_8 ?_
        refine Y_gR i_47_9 ow_47 lf_3_9 (k_11 hG) (r_11_1 hG) ?_
        refine Y_al0 i_47_12 ?_
        refine Y_gI (v := (F 11 5)) i_47_13 ow_47 lf_3_158 (by decide) (k_11 hG) rfl ?_
        have o12 := h.1
        replace h := h.2
        refine Y_baload (k := (F 11 5).toNatClampNeg) (v := (A 1 (F 11 5).toNatClampNeg)) i_47_16 (k_1 hG) (l_1 hG) o12 rfl rfl ?_
        refine Y_il1 i_47_17 ?_
        refine Y_cne i_47_18 (fun e13 => ?_) (fun e13 => ?_)
        · replace h := h.1 e13
          refine Y_iconst (v := 1) i_47_21 (by decide) ?_
          refine Y_goto i_47_22 ?_
          refine Y_bret i_47_26 rt_47 (by decide) (KKi ?_)
          refine Y_zF i_41_34 (by decide) ?_
          refine Y_al0 i_41_37 ?_
          refine Y_bipush (v := 42) i_41_38 (by decide) ?_
          refine Y_iv1 (L0 := [.ref 11, .int 42]) i_41_40 ow_41 lm_3_99 ((k_11 hG).trans ow_47.symm) rfl mx_47 rfl rfl hd_41 ?_
          refine Y_al0 i_47_0 ?_
          refine Y_gI (v := (F 11 4)) i_47_1 ow_47 lf_3_53 (by decide) (k_11 hG) rfl ?_
          refine Y_iconst (v := 4) i_47_4 (by decide) ?_
          refine Y_cne i_47_5 (fun e14 => ?_) (fun e14 => ?_)
          · replace h := h.1 e14
            refine Y_al0 i_47_8 ?_
            refine Y_gR i_47_9 ow_47 lf_3_9 (k_11 hG) (r_11_1 hG) ?_
            refine Y_al0 i_47_12 ?_
            refine Y_gI (v := (F 11 5)) i_47_13 ow_47 lf_3_158 (by decide) (k_11 hG) rfl ?_
            refine Y_baload (k := (F 11 5).toNatClampNeg) (v := (A 1 (F 11 5).toNatClampNeg)) i_47_16 (k_1 hG) (l_1 hG) o12 rfl rfl ?_
            refine Y_il1 i_47_17 ?_
            refine Y_cne i_47_18 (fun e15 => ?_) (fun e15 => ?_)
            · replace h := h.1 e15
              refine Y_iconst (v := 1) i_47_21 (by decide) ?_
              refine Y_goto i_47_22 ?_
              refine Y_bret i_47_26 rt_47 (by decide) (KKi ?_)
              refine Y_zF i_41_43 (by decide) ?_
              refine Y_bipush (v := (-10)) i_41_46 (by decide) ?_
              refine Y_goto i_41_48 ?_
              refine Y_is3 i_41_53 rfl ?_
              refine Y_al0 i_41_54 ?_
              exact Y_iv0 (L0 := [.ref 11]) i_41_55 ow_41 lm_3_50 ((k_11 hG).trans ow_49.symm) rfl mx_49 rfl rfl hd_41 h
            · replace h := h.2 e15
              refine Y_iconst (v := 0) i_47_25 (by decide) ?_
              refine Y_bret i_47_26 rt_47 (by decide) (KKi ?_)
              refine Y_zT i_41_43 (by decide) ?_
              refine Y_bipush (v := (-11)) i_41_51 (by decide) ?_
              refine Y_is3 i_41_53 rfl ?_
              refine Y_al0 i_41_54 ?_
              exact Y_iv0 (L0 := [.ref 11]) i_41_55 ow_41 lm_3_50 ((k_11 hG).trans ow_49.symm) rfl mx_49 rfl rfl hd_41 h
          · replace h := h.2 e14
            refine Y_iconst (v := 0) i_47_25 (by decide) ?_
            refine Y_bret i_47_26 rt_47 (by decide) (KKi ?_)
            refine Y_zT i_41_43 (by decide) ?_
            refine Y_bipush (v := (-11)) i_41_51 (by decide) ?_
            refine Y_is3 i_41_53 rfl ?_
            refine Y_al0 i_41_54 ?_
            exact Y_iv0 (L0 := [.ref 11]) i_41_55 ow_41 lm_3_50 ((k_11 hG).trans ow_49.symm) rfl mx_49 rfl rfl hd_41 h
        · replace h := h.2 e13
          refine Y_iconst (v := 0) i_47_25 (by decide) ?_
          refine Y_bret i_47_26 rt_47 (by decide) (KKi ?_)
          refine Y_zT i_41_34 (by decide) ?_
          refine Y_iconst (v := 1) i_41_85 (by decide) ?_
          exact Y_bret i_41_86 rt_41 (by decide) h
      · replace h := h.2 e11
        refine Y_iconst (v := 0) i_47_25 (by decide) ?_
        refine Y_bret i_47_26 rt_47 (by decide) (KKi ?_)
        refine Y_zT i_41_34 (by decide) ?_
        refine Y_iconst (v := 1) i_41_85 (by decide) ?_
        exact Y_bret i_41_86 rt_41 (by decide) h
  · replace h := h.2 e1
    refine Y_iconst (v := 1) i_41_85 (by decide) ?_
    exact Y_bret i_41_86 rt_41 (by decide) h
theorem k_41_58 {d : Nat} {F A : Nat → Nat → Int32} {J : Nat → Nat → Int64} {G : pG} {Q : pR → pM → Prop} {SL p q : Nat} {x1 x2 x3 : Int32} (hG : Geo G SL p q) (h : X (d + 1) 42 0 [.ref 11, .int x1, .null] [] (F, A, J, G) (KK (d + 2) 41 63 [.ref 11, .int x1, .int x2, .int x3] [] Q)) : KK (d + 2) 41 58 [.ref 11, .int x1, .int x2, .int x3] [] Q (.inl none) (F, A, J, G) := by
  refine KKv ?_
  refine Y_al0 i_41_58 ?_
  refine Y_il1 i_41_59 ?_
  exact Y_iv1 (L0 := [.ref 11, .int x1, .null]) i_41_60 ow_41 lm_3_155 ((k_11 hG).trans ow_42.symm) rfl mx_42 rfl rfl hd_41 h
theorem k_41_63 {d : Nat} {F A : Nat → Nat → Int32} {J : Nat → Nat → Int64} {G : pG} {Q : pR → pM → Prop} {SL p q : Nat} {x1 x2 x3 r r : Int32} (hG : Geo G SL p q) (h : ((r = 0 → Q (.inl (some (.int 0))) (F, A, J, G)) ∧ (¬ r = 0 → (((F 8 1) < 600 → inB (F 8 1) 600 = true ∧ (X (d + 2) 41 12 [.ref 11, .int x1, .int (x2 + 1), .int x3] [] ((wF F 8 1 ((F 8 1) + 1)), (wF A 9 (F 8 1).toNatClampNeg x3), J, G) Q)) ∧ (¬ (F 8 1) < 600 → X (d + 2) 41 12 [.ref 11, .int x1, .int (x2 + 1), .int x3] [] (F, A, J, G) Q))))) : KK (d + 2) 41 63 [.ref 11, .int x1, .int x2, .int x3] [] Q (.inl (some (.int r))) (F, A, J, G) := by
  refine KKi ?_
  refine Y_zne i_41_63 (fun e1 => ?_) (fun e1 => ?_)
  · replace h := h.1 e1
    refine Y_iconst (v := 0) i_41_66 (by decide) ?_
    exact Y_bret i_41_67 rt_41 (by decide) h
  · replace h := h.2 e1
    refine Y_al0 i_41_68 ?_
    refine Y_gR i_41_69 ow_41 lf_3_15 (k_11 hG) (r_11_2 hG) ?_
    refine Y_gR i_41_72 ow_41 lf_3_123 (k_2 hG) (r_2_8 hG) ?_
    refine Y_il3 i_41_75 ?_
    refine Y_iv1 (L0 := [.ref 8, .int x3]) i_41_76 ow_41 lm_3_137 ((k_8 hG).trans ow_54.symm) rfl mx_54 rfl rfl hd_41 ?_
    refine Y_al0 i_54_0 ?_
    refine Y_gI (v := (F 8 1)) i_54_1 ow_54 lf_4_18 (by decide) (k_8 hG) rfl ?_
    refine Y_al0 i_54_4 ?_
    refine Y_gR i_54_5 ow_54 lf_4_9 (k_8 hG) (r_8_0 hG) ?_
    refine Y_alen (v := 600) i_54_8 (Or.inl (k_9 hG)) (l_9 hG) (by decide) ?_
    refine Y_cge i_54_9 (fun e2 => ?_) (fun e2 => ?_)
    · replace h := h.1 e2
      refine Y_al0 i_54_12 ?_
      refine Y_gR i_54_13 ow_54 lf_4_9 (k_8 hG) (r_8_0 hG) ?_
      refine Y_al0 i_54_16 ?_
      refine Y_gI (v := (F 8 1)) i_54_17 ow_54 lf_4_18 (by decide) (k_8 hG) rfl ?_
      refine Y_il1 i_54_20 ?_
      have o3 := h.1
      replace h := h.2
      refine Y_iast i_54_21 (k_9 hG) (l_9 hG) o3 rfl ?_
      refine Y_al0 i_54_22 ?_
      refine Y_dup i_54_23 rfl ?_
      refine Y_gI (v := (F 8 1)) i_54_24 ow_54 lf_4_18 (by decide) (k_8 hG) rfl ?_
      refine Y_iconst (v := 1) i_54_27 (by decide) ?_
      refine Y_iadd i_54_28 ?_
      refine Y_pI i_54_29 ow_54 lf_4_18 (k_8 hG) ?_
      refine Y_vret i_54_32 rt_54 (KKv ?_)
      refine Y_ii2 (v := 1) i_41_79 (by decide) rfl ?_
      refine Y_goto i_41_82 ?_
      exact h
    · replace h := h.2 e2
      refine Y_vret i_54_32 rt_54 (KKv ?_)
      refine Y_ii2 (v := 1) i_41_79 (by decide) rfl ?_
      refine Y_goto i_41_82 ?_
      exact h
/- 42 Reader.part(I)Z -/
theorem t_42_0 {d : Nat} {F A : Nat → Nat → Int32} {J : Nat → Nat → Int64} {G : pG} {Q : pR → pM → Prop} {SL p q : Nat} {x1 : Int32} (hG : Geo G SL p q) (h : (((F 11 4) = 3 → ((4 < ((F 11 6) - (F 11 5)) → Q (.inl (some (.int 0))) ((wF (wF F 11 8 2) 11 0 (F 11 5)), A, J, G)) ∧ (¬ 4 < ((F 11 6) - (F 11 5)) → (((F 8 1) < 600 → inB (F 8 1) 600 = true ∧ (X (d + 1) 49 0 [.ref 11] [] ((wF F 8 1 ((F 8 1) + 1)), (wF A 9 (F 8 1).toNatClampNeg (F 11 7)), J, G) (KK (d + 2) 42 45 [.ref 11, .int x1, .null] [] Q))) ∧ (¬ (F 8 1) < 600 → X (d + 1) 49 0 [.ref 11] [] (F, A, J, G) (KK (d + 2) 42 45 [.ref 11, .int x1, .null] [] Q)))))) ∧ (¬ (F 11 4) = 3 → (((F 11 4) = 2 → X (d + 1) 45 0 [.ref 11] [] (F, A, J, G) (KK (d + 2) 42 59 [.ref 11, .int x1, .null] [] Q)) ∧ (¬ (F 11 4) = 2 → (((F 11 4) = 4 → inB (F 11 5) 600 = true ∧ (((A 1 (F 11 5).toNatClampNeg) = 40 → X (d + 1) 49 0 [.ref 11] [] (F, A, J, G) (KK (d + 2) 42 106 [.ref 11, .int x1, .null] [] Q)) ∧ (¬ (A 1 (F 11 5).toNatClampNeg) = 40 → Q (.inl (some (.int 0))) ((wF (wF F 11 8 1) 11 0 (F 11 5)), A, J, G)))) ∧ (¬ (F 11 4) = 4 → Q (.inl (some (.int 0))) ((wF (wF F 11 8 1) 11 0 (F 11 5)), A, J, G)))))))) : X (d + 2) 42 0 [.ref 11, .int x1, .null] [] (F, A, J, G) Q := by
  refine Y_al0 i_42_0 ?_
  refine Y_gI (v := (F 11 4)) i_42_1 ow_42 lf_3_53 (by decide) (k_11 hG) rfl ?_
  refine Y_iconst (v := 3) i_42_4 (by decide) ?_
  refine Y_cne i_42_5 (fun e1 => ?_) (fun e1 => ?_)
  · replace h := h.1 e1
    refine Y_al0 i_42_8 ?_
    refine Y_gI (v := (F 11 6)) i_42_9 ow_42 lf_3_47 (by decide) (k_11 hG) rfl ?_
    refine Y_al0 i_42_12 ?_
    refine Y_gI (v := (F 11 5)) i_42_13 ow_42 lf_3_158 (by decide) (k_11 hG) rfl ?_
    refine Y_isub i_42_16 ?_
    refine Y_iconst (v := 4) i_42_17 (by decide) ?_
    refine Y_cle i_42_18 (fun e2 => ?_) (fun e2 => ?_)
    · replace h := h.1 e2
      refine Y_al0 i_42_21 ?_
      refine Y_iconst (v := 2) i_42_22 (by decide) ?_
      refine Y_iv1 (L0 := [.ref 11, .int 2]) i_42_23 ow_42 lm_3_90 ((k_11 hG).trans ow_48.symm) rfl mx_48 rfl rfl hd_42 ?_
      refine Y_al0 i_48_0 ?_
      refine Y_il1 i_48_1 ?_
      refine Y_pI i_48_2 ow_48 lf_3_41 (k_11 hG) ?_
      refine Y_al0 i_48_5 ?_
      refine Y_al0 i_48_6 ?_
      refine Y_gI (v := (F 11 5)) i_48_7 ow_48 lf_3_158 (by decide) (k_11 hG) (by simp [wF, wJ, va_up, cpR, bF, bA]) ?_
      refine Y_pI i_48_10 ow_48 lf_3_44 (k_11 hG) ?_
      refine Y_iconst (v := 0) i_48_13 (by decide) ?_
      refine Y_bret i_48_14 rt_48 (by decide) (KKi ?_)
      exact Y_bret i_42_26 rt_42 (by decide) h
    · replace h := h.2 e2
      refine Y_al0 i_42_27 ?_
      refine Y_gR i_42_28 ow_42 lf_3_15 (k_11 hG) (r_11_2 hG) ?_
      refine Y_gR i_42_31 ow_42 lf_3_123 (k_2 hG) (r_2_8 hG) ?_
      refine Y_al0 i_42_34 ?_
      refine Y_gI (v := (F 11 7)) i_42_35 ow_42 lf_3_161 (by decide) (k_11 hG) rfl ?_
      refine Y_iv1 (L0 := [.ref 8, .int (F 11 7)]) i_42_38 ow_42 lm_3_137 ((k_8 hG).trans ow_54.symm) rfl mx_54 rfl rfl hd_42 ?_
      refine Y_al0 i_54_0 ?_
      refine Y_gI (v := (F 8 1)) i_54_1 ow_54 lf_4_18 (by decide) (k_8 hG) rfl ?_
      refine Y_al0 i_54_4 ?_
      refine Y_gR i_54_5 ow_54 lf_4_9 (k_8 hG) (r_8_0 hG) ?_
      refine Y_alen (v := 600) i_54_8 (Or.inl (k_9 hG)) (l_9 hG) (by decide) ?_
      refine Y_cge i_54_9 (fun e3 => ?_) (fun e3 => ?_)
      · replace h := h.1 e3
        refine Y_al0 i_54_12 ?_
        refine Y_gR i_54_13 ow_54 lf_4_9 (k_8 hG) (r_8_0 hG) ?_
        refine Y_al0 i_54_16 ?_
        refine Y_gI (v := (F 8 1)) i_54_17 ow_54 lf_4_18 (by decide) (k_8 hG) rfl ?_
        refine Y_il1 i_54_20 ?_
        have o4 := h.1
        replace h := h.2
        refine Y_iast i_54_21 (k_9 hG) (l_9 hG) o4 rfl ?_
        refine Y_al0 i_54_22 ?_
        refine Y_dup i_54_23 rfl ?_
        refine Y_gI (v := (F 8 1)) i_54_24 ow_54 lf_4_18 (by decide) (k_8 hG) rfl ?_
        refine Y_iconst (v := 1) i_54_27 (by decide) ?_
        refine Y_iadd i_54_28 ?_
        refine Y_pI i_54_29 ow_54 lf_4_18 (k_8 hG) ?_
        refine Y_vret i_54_32 rt_54 (KKv ?_)
        refine Y_al0 i_42_41 ?_
        exact Y_iv0 (L0 := [.ref 11]) i_42_42 ow_42 lm_3_50 ((k_11 hG).trans ow_49.symm) rfl mx_49 rfl rfl hd_42 h
      · replace h := h.2 e3
        refine Y_vret i_54_32 rt_54 (KKv ?_)
        refine Y_al0 i_42_41 ?_
        exact Y_iv0 (L0 := [.ref 11]) i_42_42 ow_42 lm_3_50 ((k_11 hG).trans ow_49.symm) rfl mx_49 rfl rfl hd_42 h
  · replace h := h.2 e1
    refine Y_al0 i_42_47 ?_
    refine Y_gI (v := (F 11 4)) i_42_48 ow_42 lf_3_53 (by decide) (k_11 hG) rfl ?_
    refine Y_iconst (v := 2) i_42_51 (by decide) ?_
    refine Y_cne i_42_52 (fun e5 => ?_) (fun e5 => ?_)
    · replace h := h.1 e5
      refine Y_al0 i_42_55 ?_
      exact Y_iv0 (L0 := [.ref 11]) i_42_56 ow_42 lm_3_164 ((k_11 hG).trans ow_45.symm) rfl mx_45 rfl rfl hd_42 h
    · replace h := h.2 e5
      refine Y_al0 i_42_87 ?_
      refine Y_bipush (v := 40) i_42_88 (by decide) ?_
      refine Y_iv1 (L0 := [.ref 11, .int 40]) i_42_90 ow_42 lm_3_99 ((k_11 hG).trans ow_47.symm) rfl mx_47 rfl rfl hd_42 ?_
      refine Y_al0 i_47_0 ?_
      refine Y_gI (v := (F 11 4)) i_47_1 ow_47 lf_3_53 (by decide) (k_11 hG) rfl ?_
      refine Y_iconst (v := 4) i_47_4 (by decide) ?_
      refine Y_cne i_47_5 (fun e6 => ?_) (fun e6 => ?_)
      · replace h := h.1 e6
        refine Y_al0 i_47_8 ?_
        refine Y_gR i_47_9 ow_47 lf_3_9 (k_11 hG) (r_11_1 hG) ?_
        refine Y_al0 i_47_12 ?_
        refine Y_gI (v := (F 11 5)) i_47_13 ow_47 lf_3_158 (by decide) (k_11 hG) rfl ?_
        have o7 := h.1
        replace h := h.2
        refine Y_baload (k := (F 11 5).toNatClampNeg) (v := (A 1 (F 11 5).toNatClampNeg)) i_47_16 (k_1 hG) (l_1 hG) o7 rfl rfl ?_
        refine Y_il1 i_47_17 ?_
        refine Y_cne i_47_18 (fun e8 => ?_) (fun e8 => ?_)
        · replace h := h.1 e8
          refine Y_iconst (v := 1) i_47_21 (by decide) ?_
          refine Y_goto i_47_22 ?_
          refine Y_bret i_47_26 rt_47 (by decide) (KKi ?_)
          refine Y_zT i_42_93 (by decide) ?_
          refine Y_al0 i_42_102 ?_
          exact Y_iv0 (L0 := [.ref 11]) i_42_103 ow_42 lm_3_50 ((k_11 hG).trans ow_49.symm) rfl mx_49 rfl rfl hd_42 h
        · replace h := h.2 e8
          refine Y_iconst (v := 0) i_47_25 (by decide) ?_
          refine Y_bret i_47_26 rt_47 (by decide) (KKi ?_)
          refine Y_zF i_42_93 (by decide) ?_
          refine Y_al0 i_42_96 ?_
          refine Y_iconst (v := 1) i_42_97 (by decide) ?_
          refine Y_iv1 (L0 := [.ref 11, .int 1]) i_42_98 ow_42 lm_3_90 ((k_11 hG).trans ow_48.symm) rfl mx_48 rfl rfl hd_42 ?_
          refine Y_al0 i_48_0 ?_
          refine Y_il1 i_48_1 ?_
          refine Y_pI i_48_2 ow_48 lf_3_41 (k_11 hG) ?_
          refine Y_al0 i_48_5 ?_
          refine Y_al0 i_48_6 ?_
          refine Y_gI (v := (F 11 5)) i_48_7 ow_48 lf_3_158 (by decide) (k_11 hG) (by simp [wF, wJ, va_up, cpR, bF, bA]) ?_
          refine Y_pI i_48_10 ow_48 lf_3_44 (k_11 hG) ?_
          refine Y_iconst (v := 0) i_48_13 (by decide) ?_
          refine Y_bret i_48_14 rt_48 (by decide) (KKi ?_)
          exact Y_bret i_42_101 rt_42 (by decide) h
      · replace h := h.2 e6
        refine Y_iconst (v := 0) i_47_25 (by decide) ?_
        refine Y_bret i_47_26 rt_47 (by decide) (KKi ?_)
        refine Y_zF i_42_93 (by decide) ?_
        refine Y_al0 i_42_96 ?_
        refine Y_iconst (v := 1) i_42_97 (by decide) ?_
        refine Y_iv1 (L0 := [.ref 11, .int 1]) i_42_98 ow_42 lm_3_90 ((k_11 hG).trans ow_48.symm) rfl mx_48 rfl rfl hd_42 ?_
        refine Y_al0 i_48_0 ?_
        refine Y_il1 i_48_1 ?_
        refine Y_pI i_48_2 ow_48 lf_3_41 (k_11 hG) ?_
        refine Y_al0 i_48_5 ?_
        refine Y_al0 i_48_6 ?_
        refine Y_gI (v := (F 11 5)) i_48_7 ow_48 lf_3_158 (by decide) (k_11 hG) (by simp [wF, wJ, va_up, cpR, bF, bA]) ?_
        refine Y_pI i_48_10 ow_48 lf_3_44 (k_11 hG) ?_
        refine Y_iconst (v := 0) i_48_13 (by decide) ?_
        refine Y_bret i_48_14 rt_48 (by decide) (KKi ?_)
        exact Y_bret i_42_101 rt_42 (by decide) h
theorem k_42_45 {d : Nat} {F A : Nat → Nat → Int32} {J : Nat → Nat → Int64} {G : pG} {Q : pR → pM → Prop} {SL p q : Nat} {x1 : Int32} (hG : Geo G SL p q) (h : Q (.inl (some (.int 1))) (F, A, J, G)) : KK (d + 2) 42 45 [.ref 11, .int x1, .null] [] Q (.inl none) (F, A, J, G) := by
  refine KKv ?_
  refine Y_iconst (v := 1) i_42_45 (by decide) ?_
  exact Y_bret i_42_46 rt_42 (by decide) h
theorem k_42_59 {d : Nat} {F A : Nat → Nat → Int32} {J : Nat → Nat → Int64} {G : pG} {Q : pR → pM → Prop} {SL p q : Nat} {x1 r r : Int32} (hG : Geo G SL p q) (h : ((r = 0 → Q (.inl (some (.int 0))) ((wF (wF F 11 8 3) 11 0 (F 11 5)), A, J, G)) ∧ (¬ r = 0 → (((F 8 1) < 600 → inB (F 8 1) 600 = true ∧ (X (d + 1) 49 0 [.ref 11] [] ((wF F 8 1 ((F 8 1) + 1)), (wF A 9 (F 8 1).toNatClampNeg r), J, G) (KK (d + 2) 42 85 [.ref 11, .int x1, .int r] [] Q))) ∧ (¬ (F 8 1) < 600 → X (d + 1) 49 0 [.ref 11] [] (F, A, J, G) (KK (d + 2) 42 85 [.ref 11, .int x1, .int r] [] Q)))))) : KK (d + 2) 42 59 [.ref 11, .int x1, .null] [] Q (.inl (some (.int r))) (F, A, J, G) := by
  refine KKi ?_
  refine Y_is2 i_42_59 rfl ?_
  refine Y_il2 i_42_60 ?_
  refine Y_zne i_42_61 (fun e1 => ?_) (fun e1 => ?_)
  · replace h := h.1 e1
    refine Y_al0 i_42_64 ?_
    refine Y_iconst (v := 3) i_42_65 (by decide) ?_
    refine Y_iv1 (L0 := [.ref 11, .int 3]) i_42_66 ow_42 lm_3_90 ((k_11 hG).trans ow_48.symm) rfl mx_48 rfl rfl hd_42 ?_
    refine Y_al0 i_48_0 ?_
    refine Y_il1 i_48_1 ?_
    refine Y_pI i_48_2 ow_48 lf_3_41 (k_11 hG) ?_
    refine Y_al0 i_48_5 ?_
    refine Y_al0 i_48_6 ?_
    refine Y_gI (v := (F 11 5)) i_48_7 ow_48 lf_3_158 (by decide) (k_11 hG) (by simp [wF, wJ, va_up, cpR, bF, bA]) ?_
    refine Y_pI i_48_10 ow_48 lf_3_44 (k_11 hG) ?_
    refine Y_iconst (v := 0) i_48_13 (by decide) ?_
    refine Y_bret i_48_14 rt_48 (by decide) (KKi ?_)
    exact Y_bret i_42_69 rt_42 (by decide) h
  · replace h := h.2 e1
    refine Y_al0 i_42_70 ?_
    refine Y_gR i_42_71 ow_42 lf_3_15 (k_11 hG) (r_11_2 hG) ?_
    refine Y_gR i_42_74 ow_42 lf_3_123 (k_2 hG) (r_2_8 hG) ?_
    refine Y_il2 i_42_77 ?_
    refine Y_iv1 (L0 := [.ref 8, .int r]) i_42_78 ow_42 lm_3_137 ((k_8 hG).trans ow_54.symm) rfl mx_54 rfl rfl hd_42 ?_
    refine Y_al0 i_54_0 ?_
    refine Y_gI (v := (F 8 1)) i_54_1 ow_54 lf_4_18 (by decide) (k_8 hG) rfl ?_
    refine Y_al0 i_54_4 ?_
    refine Y_gR i_54_5 ow_54 lf_4_9 (k_8 hG) (r_8_0 hG) ?_
    refine Y_alen (v := 600) i_54_8 (Or.inl (k_9 hG)) (l_9 hG) (by decide) ?_
    refine Y_cge i_54_9 (fun e2 => ?_) (fun e2 => ?_)
    · replace h := h.1 e2
      refine Y_al0 i_54_12 ?_
      refine Y_gR i_54_13 ow_54 lf_4_9 (k_8 hG) (r_8_0 hG) ?_
      refine Y_al0 i_54_16 ?_
      refine Y_gI (v := (F 8 1)) i_54_17 ow_54 lf_4_18 (by decide) (k_8 hG) rfl ?_
      refine Y_il1 i_54_20 ?_
      have o3 := h.1
      replace h := h.2
      refine Y_iast i_54_21 (k_9 hG) (l_9 hG) o3 rfl ?_
      refine Y_al0 i_54_22 ?_
      refine Y_dup i_54_23 rfl ?_
      refine Y_gI (v := (F 8 1)) i_54_24 ow_54 lf_4_18 (by decide) (k_8 hG) rfl ?_
      refine Y_iconst (v := 1) i_54_27 (by decide) ?_
      refine Y_iadd i_54_28 ?_
      refine Y_pI i_54_29 ow_54 lf_4_18 (k_8 hG) ?_
      refine Y_vret i_54_32 rt_54 (KKv ?_)
      refine Y_al0 i_42_81 ?_
      exact Y_iv0 (L0 := [.ref 11]) i_42_82 ow_42 lm_3_50 ((k_11 hG).trans ow_49.symm) rfl mx_49 rfl rfl hd_42 h
    · replace h := h.2 e2
      refine Y_vret i_54_32 rt_54 (KKv ?_)
      refine Y_al0 i_42_81 ?_
      exact Y_iv0 (L0 := [.ref 11]) i_42_82 ow_42 lm_3_50 ((k_11 hG).trans ow_49.symm) rfl mx_49 rfl rfl hd_42 h
theorem k_42_85 {d : Nat} {F A : Nat → Nat → Int32} {J : Nat → Nat → Int64} {G : pG} {Q : pR → pM → Prop} {SL p q : Nat} {x1 x2 : Int32} (hG : Geo G SL p q) (h : Q (.inl (some (.int 1))) (F, A, J, G)) : KK (d + 2) 42 85 [.ref 11, .int x1, .int x2] [] Q (.inl none) (F, A, J, G) := by
  refine KKv ?_
  refine Y_iconst (v := 1) i_42_85 (by decide) ?_
  exact Y_bret i_42_86 rt_42 (by decide) h
theorem k_42_106 {d : Nat} {F A : Nat → Nat → Int32} {J : Nat → Nat → Int64} {G : pG} {Q : pR → pM → Prop} {SL p q : Nat} {x1 : Int32} (hG : Geo G SL p q) (h : X (d + 1) 36 0 [.ref 11, .int (x1 + 1), .null] [] (F, A, J, G) (KK (d + 2) 42 113 [.ref 11, .int x1, .null] [] Q)) : KK (d + 2) 42 106 [.ref 11, .int x1, .null] [] Q (.inl none) (F, A, J, G) := by
  refine KKv ?_
  refine Y_al0 i_42_106 ?_
  refine Y_il1 i_42_107 ?_
  refine Y_iconst (v := 1) i_42_108 (by decide) ?_
  refine Y_iadd i_42_109 ?_
  exact Y_iv1 (L0 := [.ref 11, .int (x1 + 1), .null]) i_42_110 ow_42 lm_3_129 ((k_11 hG).trans ow_36.symm) rfl mx_36 rfl rfl hd_42 h
theorem k_42_113 {d : Nat} {F A : Nat → Nat → Int32} {J : Nat → Nat → Int64} {G : pG} {Q : pR → pM → Prop} {SL p q : Nat} {x1 r r : Int32} (hG : Geo G SL p q) (h : ((r = 0 → Q (.inl (some (.int 0))) (F, A, J, G)) ∧ (¬ r = 0 → (((F 11 4) = 4 → inB (F 11 5) 600 = true ∧ (((A 1 (F 11 5).toNatClampNeg) = 41 → X (d + 1) 49 0 [.ref 11] [] (F, A, J, G) (KK (d + 2) 42 137 [.ref 11, .int x1, .null] [] Q)) ∧ (¬ (A 1 (F 11 5).toNatClampNeg) = 41 → Q (.inl (some (.int 0))) ((wF (wF F 11 8 1) 11 0 (F 11 5)), A, J, G)))) ∧ (¬ (F 11 4) = 4 → Q (.inl (some (.int 0))) ((wF (wF F 11 8 1) 11 0 (F 11 5)), A, J, G)))))) : KK (d + 2) 42 113 [.ref 11, .int x1, .null] [] Q (.inl (some (.int r))) (F, A, J, G) := by
  refine KKi ?_
  refine Y_zne i_42_113 (fun e1 => ?_) (fun e1 => ?_)
  · replace h := h.1 e1
    refine Y_iconst (v := 0) i_42_116 (by decide) ?_
    exact Y_bret i_42_117 rt_42 (by decide) h
  · replace h := h.2 e1
    refine Y_al0 i_42_118 ?_
    refine Y_bipush (v := 41) i_42_119 (by decide) ?_
    refine Y_iv1 (L0 := [.ref 11, .int 41]) i_42_121 ow_42 lm_3_99 ((k_11 hG).trans ow_47.symm) rfl mx_47 rfl rfl hd_42 ?_
    refine Y_al0 i_47_0 ?_
    refine Y_gI (v := (F 11 4)) i_47_1 ow_47 lf_3_53 (by decide) (k_11 hG) rfl ?_
    refine Y_iconst (v := 4) i_47_4 (by decide) ?_
    refine Y_cne i_47_5 (fun e2 => ?_) (fun e2 => ?_)
    · replace h := h.1 e2
      refine Y_al0 i_47_8 ?_
      refine Y_gR i_47_9 ow_47 lf_3_9 (k_11 hG) (r_11_1 hG) ?_
      refine Y_al0 i_47_12 ?_
      refine Y_gI (v := (F 11 5)) i_47_13 ow_47 lf_3_158 (by decide) (k_11 hG) rfl ?_
      have o3 := h.1
      replace h := h.2
      refine Y_baload (k := (F 11 5).toNatClampNeg) (v := (A 1 (F 11 5).toNatClampNeg)) i_47_16 (k_1 hG) (l_1 hG) o3 rfl rfl ?_
      refine Y_il1 i_47_17 ?_
      refine Y_cne i_47_18 (fun e4 => ?_) (fun e4 => ?_)
      · replace h := h.1 e4
        refine Y_iconst (v := 1) i_47_21 (by decide) ?_
        refine Y_goto i_47_22 ?_
        refine Y_bret i_47_26 rt_47 (by decide) (KKi ?_)
        refine Y_zT i_42_124 (by decide) ?_
        refine Y_al0 i_42_133 ?_
        exact Y_iv0 (L0 := [.ref 11]) i_42_134 ow_42 lm_3_50 ((k_11 hG).trans ow_49.symm) rfl mx_49 rfl rfl hd_42 h
      · replace h := h.2 e4
        refine Y_iconst (v := 0) i_47_25 (by decide) ?_
        refine Y_bret i_47_26 rt_47 (by decide) (KKi ?_)
        refine Y_zF i_42_124 (by decide) ?_
        refine Y_al0 i_42_127 ?_
        refine Y_iconst (v := 1) i_42_128 (by decide) ?_
        refine Y_iv1 (L0 := [.ref 11, .int 1]) i_42_129 ow_42 lm_3_90 ((k_11 hG).trans ow_48.symm) rfl mx_48 rfl rfl hd_42 ?_
        refine Y_al0 i_48_0 ?_
        refine Y_il1 i_48_1 ?_
        refine Y_pI i_48_2 ow_48 lf_3_41 (k_11 hG) ?_
        refine Y_al0 i_48_5 ?_
        refine Y_al0 i_48_6 ?_
        refine Y_gI (v := (F 11 5)) i_48_7 ow_48 lf_3_158 (by decide) (k_11 hG) (by simp [wF, wJ, va_up, cpR, bF, bA]) ?_
        refine Y_pI i_48_10 ow_48 lf_3_44 (k_11 hG) ?_
        refine Y_iconst (v := 0) i_48_13 (by decide) ?_
        refine Y_bret i_48_14 rt_48 (by decide) (KKi ?_)
        exact Y_bret i_42_132 rt_42 (by decide) h
    · replace h := h.2 e2
      refine Y_iconst (v := 0) i_47_25 (by decide) ?_
      refine Y_bret i_47_26 rt_47 (by decide) (KKi ?_)
      refine Y_zF i_42_124 (by decide) ?_
      refine Y_al0 i_42_127 ?_
      refine Y_iconst (v := 1) i_42_128 (by decide) ?_
      refine Y_iv1 (L0 := [.ref 11, .int 1]) i_42_129 ow_42 lm_3_90 ((k_11 hG).trans ow_48.symm) rfl mx_48 rfl rfl hd_42 ?_
      refine Y_al0 i_48_0 ?_
      refine Y_il1 i_48_1 ?_
      refine Y_pI i_48_2 ow_48 lf_3_41 (k_11 hG) ?_
      refine Y_al0 i_48_5 ?_
      refine Y_al0 i_48_6 ?_
      refine Y_gI (v := (F 11 5)) i_48_7 ow_48 lf_3_158 (by decide) (k_11 hG) (by simp [wF, wJ, va_up, cpR, bF, bA]) ?_
      refine Y_pI i_48_10 ow_48 lf_3_44 (k_11 hG) ?_
      refine Y_iconst (v := 0) i_48_13 (by decide) ?_
      refine Y_bret i_48_14 rt_48 (by decide) (KKi ?_)
      exact Y_bret i_42_132 rt_42 (by decide) h
theorem k_42_137 {d : Nat} {F A : Nat → Nat → Int32} {J : Nat → Nat → Int64} {G : pG} {Q : pR → pM → Prop} {SL p q : Nat} {x1 : Int32} (hG : Geo G SL p q) (h : Q (.inl (some (.int 1))) (F, A, J, G)) : KK (d + 2) 42 137 [.ref 11, .int x1, .null] [] Q (.inl none) (F, A, J, G) := by
  refine KKv ?_
  refine Y_iconst (v := 1) i_42_137 (by decide) ?_
  exact Y_bret i_42_138 rt_42 (by decide) h
/- 43 Reader.readNumber(II)I -/
theorem t_43_0 {d : Nat} {F A : Nat → Nat → Int32} {J : Nat → Nat → Int64} {G : pG} {Q : pR → pM → Prop} {SL p q : Nat} {x1 x2 : Int32} (hG : Geo G SL p q) (h : (((F 11 4) = 3 → ((4 < ((F 11 6) - (F 11 5)) → Q (.inl (some (.int (-1)))) ((wF (wF F 11 8 2) 11 0 (F 11 5)), A, J, G)) ∧ (¬ 4 < ((F 11 6) - (F 11 5)) → (((F 11 7) < x1 → Q (.inl (some (.int (-1)))) ((wF (wF F 11 8 2) 11 0 (F 11 5)), A, J, G)) ∧ (¬ (F 11 7) < x1 → ((x2 < (F 11 7) → Q (.inl (some (.int (-1)))) ((wF (wF F 11 8 2) 11 0 (F 11 5)), A, J, G)) ∧ (¬ x2 < (F 11 7) → X (d + 1) 49 0 [.ref 11] [] (F, A, J, G) (KK (d + 2) 43 56 [.ref 11, .int x1, .int x2, .int (F 11 7)] [] Q)))))))) ∧ (¬ (F 11 4) = 3 → Q (.inl (some (.int (-1)))) ((wF (wF F 11 8 1) 11 0 (F 11 5)), A, J, G)))) : X (d + 2) 43 0 [.ref 11, .int x1, .int x2, .null] [] (F, A, J, G) Q := by
  refine Y_al0 i_43_0 ?_
  refine Y_gI (v := (F 11 4)) i_43_1 ow_43 lf_3_53 (by decide) (k_11 hG) rfl ?_
  refine Y_iconst (v := 3) i_43_4 (by decide) ?_
  refine Y_ceq i_43_5 (fun e1 => ?_) (fun e1 => ?_)
  · replace h := h.1 e1
    refine Y_al0 i_43_16 ?_
    refine Y_gI (v := (F 11 7)) i_43_17 ow_43 lf_3_161 (by decide) (k_11 hG) rfl ?_
    refine Y_is3 i_43_20 rfl ?_
    refine Y_al0 i_43_21 ?_
    refine Y_gI (v := (F 11 6)) i_43_22 ow_43 lf_3_47 (by decide) (k_11 hG) rfl ?_
    refine Y_al0 i_43_25 ?_
    refine Y_gI (v := (F 11 5)) i_43_26 ow_43 lf_3_158 (by decide) (k_11 hG) rfl ?_
    refine Y_isub i_43_29 ?_
    refine Y_iconst (v := 4) i_43_30 (by decide) ?_
    refine Y_cgt i_43_31 (fun e2 => ?_) (fun e2 => ?_)
    · replace h := h.1 e2
      refine Y_al0 i_43_44 ?_
      refine Y_iconst (v := 2) i_43_45 (by decide) ?_
      refine Y_iv1 (L0 := [.ref 11, .int 2]) i_43_46 ow_43 lm_3_90 ((k_11 hG).trans ow_48.symm) rfl mx_48 rfl rfl hd_43 ?_
      refine Y_al0 i_48_0 ?_
      refine Y_il1 i_48_1 ?_
      refine Y_pI i_48_2 ow_48 lf_3_41 (k_11 hG) ?_
      refine Y_al0 i_48_5 ?_
      refine Y_al0 i_48_6 ?_
      refine Y_gI (v := (F 11 5)) i_48_7 ow_48 lf_3_158 (by decide) (k_11 hG) (by simp [wF, wJ, va_up, cpR, bF, bA]) ?_
      refine Y_pI i_48_10 ow_48 lf_3_44 (k_11 hG) ?_
      refine Y_iconst (v := 0) i_48_13 (by decide) ?_
      refine Y_bret i_48_14 rt_48 (by decide) (KKi ?_)
      refine Y_pop i_43_49 rfl ?_
      refine Y_iconst (v := (-1)) i_43_50 (by decide) ?_
      exact Y_iret i_43_51 rt_43 h
    · replace h := h.2 e2
      refine Y_il3 i_43_34 ?_
      refine Y_il1 i_43_35 ?_
      refine Y_clt i_43_36 (fun e3 => ?_) (fun e3 => ?_)
      · replace h := h.1 e3
        refine Y_al0 i_43_44 ?_
        refine Y_iconst (v := 2) i_43_45 (by decide) ?_
        refine Y_iv1 (L0 := [.ref 11, .int 2]) i_43_46 ow_43 lm_3_90 ((k_11 hG).trans ow_48.symm) rfl mx_48 rfl rfl hd_43 ?_
        refine Y_al0 i_48_0 ?_
        refine Y_il1 i_48_1 ?_
        refine Y_pI i_48_2 ow_48 lf_3_41 (k_11 hG) ?_
        refine Y_al0 i_48_5 ?_
        refine Y_al0 i_48_6 ?_
        refine Y_gI (v := (F 11 5)) i_48_7 ow_48 lf_3_158 (by decide) (k_11 hG) (by simp [wF, wJ, va_up, cpR, bF, bA]) ?_
        refine Y_pI i_48_10 ow_48 lf_3_44 (k_11 hG) ?_
        refine Y_iconst (v := 0) i_48_13 (by decide) ?_
        refine Y_bret i_48_14 rt_48 (by decide) (KKi ?_)
        refine Y_pop i_43_49 rfl ?_
        refine Y_iconst (v := (-1)) i_43_50 (by decide) ?_
        exact Y_iret i_43_51 rt_43 h
      · replace h := h.2 e3
        refine Y_il3 i_43_39 ?_
        refine Y_il2 i_43_40 ?_
        refine Y_cle i_43_41 (fun e4 => ?_) (fun e4 => ?_)
        · replace h := h.1 e4
          refine Y_al0 i_43_44 ?_
          refine Y_iconst (v := 2) i_43_45 (by decide) ?_
          refine Y_iv1 (L0 := [.ref 11, .int 2]) i_43_46 ow_43 lm_3_90 ((k_11 hG).trans ow_48.symm) rfl mx_48 rfl rfl hd_43 ?_
          refine Y_al0 i_48_0 ?_
          refine Y_il1 i_48_1 ?_
          refine Y_pI i_48_2 ow_48 lf_3_41 (k_11 hG) ?_
          refine Y_al0 i_48_5 ?_
          refine Y_al0 i_48_6 ?_
          refine Y_gI (v := (F 11 5)) i_48_7 ow_48 lf_3_158 (by decide) (k_11 hG) (by simp [wF, wJ, va_up, cpR, bF, bA]) ?_
          refine Y_pI i_48_10 ow_48 lf_3_44 (k_11 hG) ?_
          refine Y_iconst (v := 0) i_48_13 (by decide) ?_
          refine Y_bret i_48_14 rt_48 (by decide) (KKi ?_)
          refine Y_pop i_43_49 rfl ?_
          refine Y_iconst (v := (-1)) i_43_50 (by decide) ?_
          exact Y_iret i_43_51 rt_43 h
        · replace h := h.2 e4
          refine Y_al0 i_43_52 ?_
          exact Y_iv0 (L0 := [.ref 11]) i_43_53 ow_43 lm_3_50 ((k_11 hG).trans ow_49.symm) rfl mx_49 rfl rfl hd_43 h
  · replace h := h.2 e1
    refine Y_al0 i_43_8 ?_
    refine Y_iconst (v := 1) i_43_9 (by decide) ?_
    refine Y_iv1 (L0 := [.ref 11, .int 1]) i_43_10 ow_43 lm_3_90 ((k_11 hG).trans ow_48.symm) rfl mx_48 rfl rfl hd_43 ?_
    refine Y_al0 i_48_0 ?_
    refine Y_il1 i_48_1 ?_
    refine Y_pI i_48_2 ow_48 lf_3_41 (k_11 hG) ?_
    refine Y_al0 i_48_5 ?_
    refine Y_al0 i_48_6 ?_
    refine Y_gI (v := (F 11 5)) i_48_7 ow_48 lf_3_158 (by decide) (k_11 hG) (by simp [wF, wJ, va_up, cpR, bF, bA]) ?_
    refine Y_pI i_48_10 ow_48 lf_3_44 (k_11 hG) ?_
    refine Y_iconst (v := 0) i_48_13 (by decide) ?_
    refine Y_bret i_48_14 rt_48 (by decide) (KKi ?_)
    refine Y_pop i_43_13 rfl ?_
    refine Y_iconst (v := (-1)) i_43_14 (by decide) ?_
    exact Y_iret i_43_15 rt_43 h
theorem k_43_56 {d : Nat} {F A : Nat → Nat → Int32} {J : Nat → Nat → Int64} {G : pG} {Q : pR → pM → Prop} {SL p q : Nat} {x1 x2 x3 : Int32} (hG : Geo G SL p q) (h : Q (.inl (some (.int x3))) (F, A, J, G)) : KK (d + 2) 43 56 [.ref 11, .int x1, .int x2, .int x3] [] Q (.inl none) (F, A, J, G) := by
  refine KKv ?_
  refine Y_il3 i_43_56 ?_
  exact Y_iret i_43_57 rt_43 h
/- 44 Reader.kindTold()I -/
theorem t_44_0 {d : Nat} {F A : Nat → Nat → Int32} {J : Nat → Nat → Int64} {G : pG} {Q : pR → pM → Prop} {SL p q : Nat} (hG : Geo G SL p q) (h : X d 46 0 [.ref 11, .ref 1002, .null] [] (F, A, J, G) (KK (d + 1) 44 6 [.ref 11] [] Q)) : X (d + 1) 44 0 [.ref 11] [] (F, A, J, G) Q := by
  refine Y_al0 i_44_0 ?_
  refine Y_ldcS (r := 1002) i_44_1 ow_44 li_3_167 ls_3_167 rfl ?_
  exact Y_iv1 (L0 := [.ref 11, .ref 1002, .null]) i_44_3 ow_44 lm_3_73 ((k_11 hG).trans ow_46.symm) rfl mx_46 rfl rfl hd_44 h
theorem k_44_6 {d : Nat} {F A : Nat → Nat → Int32} {J : Nat → Nat → Int64} {G : pG} {Q : pR → pM → Prop} {SL p q : Nat} {r r : Int32} (hG : Geo G SL p q) (h : ((r = 0 → X d 46 0 [.ref 11, .ref 1003, .null] [] (F, A, J, G) (KK (d + 1) 44 17 [.ref 11] [] Q)) ∧ (¬ r = 0 → Q (.inl (some (.int 0))) (F, A, J, G)))) : KK (d + 1) 44 6 [.ref 11] [] Q (.inl (some (.int r))) (F, A, J, G) := by
  refine KKi ?_
  refine Y_zeq i_44_6 (fun e1 => ?_) (fun e1 => ?_)
  · replace h := h.1 e1
    refine Y_al0 i_44_11 ?_
    refine Y_ldcS (r := 1003) i_44_12 ow_44 li_3_169 ls_3_169 rfl ?_
    exact Y_iv1 (L0 := [.ref 11, .ref 1003, .null]) i_44_14 ow_44 lm_3_73 ((k_11 hG).trans ow_46.symm) rfl mx_46 rfl rfl hd_44 h
  · replace h := h.2 e1
    refine Y_iconst (v := 0) i_44_9 (by decide) ?_
    exact Y_iret i_44_10 rt_44 h
theorem k_44_17 {d : Nat} {F A : Nat → Nat → Int32} {J : Nat → Nat → Int64} {G : pG} {Q : pR → pM → Prop} {SL p q : Nat} {r r : Int32} (hG : Geo G SL p q) (h : ((r = 0 → X d 46 0 [.ref 11, .ref 1004, .null] [] (F, A, J, G) (KK (d + 1) 44 28 [.ref 11] [] Q)) ∧ (¬ r = 0 → Q (.inl (some (.int 1))) (F, A, J, G)))) : KK (d + 1) 44 17 [.ref 11] [] Q (.inl (some (.int r))) (F, A, J, G) := by
  refine KKi ?_
  refine Y_zeq i_44_17 (fun e1 => ?_) (fun e1 => ?_)
  · replace h := h.1 e1
    refine Y_al0 i_44_22 ?_
    refine Y_ldcS (r := 1004) i_44_23 ow_44 li_3_171 ls_3_171 rfl ?_
    exact Y_iv1 (L0 := [.ref 11, .ref 1004, .null]) i_44_25 ow_44 lm_3_73 ((k_11 hG).trans ow_46.symm) rfl mx_46 rfl rfl hd_44 h
  · replace h := h.2 e1
    refine Y_iconst (v := 1) i_44_20 (by decide) ?_
    exact Y_iret i_44_21 rt_44 h
theorem k_44_28 {d : Nat} {F A : Nat → Nat → Int32} {J : Nat → Nat → Int64} {G : pG} {Q : pR → pM → Prop} {SL p q : Nat} {r r : Int32} (hG : Geo G SL p q) (h : ((r = 0 → X d 46 0 [.ref 11, .ref 1005, .null] [] (F, A, J, G) (KK (d + 1) 44 39 [.ref 11] [] Q)) ∧ (¬ r = 0 → Q (.inl (some (.int 2))) (F, A, J, G)))) : KK (d + 1) 44 28 [.ref 11] [] Q (.inl (some (.int r))) (F, A, J, G) := by
  refine KKi ?_
  refine Y_zeq i_44_28 (fun e1 => ?_) (fun e1 => ?_)
  · replace h := h.1 e1
    refine Y_al0 i_44_33 ?_
    refine Y_ldcS (r := 1005) i_44_34 ow_44 li_3_173 ls_3_173 rfl ?_
    exact Y_iv1 (L0 := [.ref 11, .ref 1005, .null]) i_44_36 ow_44 lm_3_73 ((k_11 hG).trans ow_46.symm) rfl mx_46 rfl rfl hd_44 h
  · replace h := h.2 e1
    refine Y_iconst (v := 2) i_44_31 (by decide) ?_
    exact Y_iret i_44_32 rt_44 h
theorem k_44_39 {d : Nat} {F A : Nat → Nat → Int32} {J : Nat → Nat → Int64} {G : pG} {Q : pR → pM → Prop} {SL p q : Nat} {r r : Int32} (hG : Geo G SL p q) (h : ((r = 0 → Q (.inl (some (.int (-1)))) (F, A, J, G)) ∧ (¬ r = 0 → Q (.inl (some (.int 3))) (F, A, J, G)))) : KK (d + 1) 44 39 [.ref 11] [] Q (.inl (some (.int r))) (F, A, J, G) := by
  refine KKi ?_
  refine Y_zeq i_44_39 (fun e1 => ?_) (fun e1 => ?_)
  · replace h := h.1 e1
    refine Y_iconst (v := (-1)) i_44_46 (by decide) ?_
    exact Y_iret i_44_47 rt_44 h
  · replace h := h.2 e1
    refine Y_iconst (v := 3) i_44_42 (by decide) ?_
    refine Y_goto i_44_43 ?_
    exact Y_iret i_44_47 rt_44 h
/- 45 Reader.valueTold()I -/
theorem t_45_0 {d : Nat} {F A : Nat → Nat → Int32} {J : Nat → Nat → Int64} {G : pG} {Q : pR → pM → Prop} {SL p q : Nat} (hG : Geo G SL p q) (h : X d 46 0 [.ref 11, .ref 1010, .null] [] (F, A, J, G) (KK (d + 1) 45 6 [.ref 11] [] Q)) : X (d + 1) 45 0 [.ref 11] [] (F, A, J, G) Q := by
  refine Y_al0 i_45_0 ?_
  refine Y_ldcS (r := 1010) i_45_1 ow_45 li_3_175 ls_3_175 rfl ?_
  exact Y_iv1 (L0 := [.ref 11, .ref 1010, .null]) i_45_3 ow_45 lm_3_73 ((k_11 hG).trans ow_46.symm) rfl mx_46 rfl rfl hd_45 h
theorem k_45_6 {d : Nat} {F A : Nat → Nat → Int32} {J : Nat → Nat → Int64} {G : pG} {Q : pR → pM → Prop} {SL p q : Nat} {r r : Int32} (hG : Geo G SL p q) (h : ((r = 0 → X d 46 0 [.ref 11, .ref 1011, .null] [] (F, A, J, G) (KK (d + 1) 45 17 [.ref 11] [] Q)) ∧ (¬ r = 0 → Q (.inl (some (.int (-1)))) (F, A, J, G)))) : KK (d + 1) 45 6 [.ref 11] [] Q (.inl (some (.int r))) (F, A, J, G) := by
  refine KKi ?_
  refine Y_zeq i_45_6 (fun e1 => ?_) (fun e1 => ?_)
  · replace h := h.1 e1
    refine Y_al0 i_45_11 ?_
    refine Y_ldcS (r := 1011) i_45_12 ow_45 li_3_177 ls_3_177 rfl ?_
    exact Y_iv1 (L0 := [.ref 11, .ref 1011, .null]) i_45_14 ow_45 lm_3_73 ((k_11 hG).trans ow_46.symm) rfl mx_46 rfl rfl hd_45 h
  · replace h := h.2 e1
    refine Y_iconst (v := (-1)) i_45_9 (by decide) ?_
    exact Y_iret i_45_10 rt_45 h
theorem k_45_17 {d : Nat} {F A : Nat → Nat → Int32} {J : Nat → Nat → Int64} {G : pG} {Q : pR → pM → Prop} {SL p q : Nat} {r r : Int32} (hG : Geo G SL p q) (h : ((r = 0 → X d 46 0 [.ref 11, .ref 1012, .null] [] (F, A, J, G) (KK (d + 1) 45 29 [.ref 11] [] Q)) ∧ (¬ r = 0 → Q (.inl (some (.int (-2)))) (F, A, J, G)))) : KK (d + 1) 45 17 [.ref 11] [] Q (.inl (some (.int r))) (F, A, J, G) := by
  refine KKi ?_
  refine Y_zeq i_45_17 (fun e1 => ?_) (fun e1 => ?_)
  · replace h := h.1 e1
    refine Y_al0 i_45_23 ?_
    refine Y_ldcS (r := 1012) i_45_24 ow_45 li_3_178 ls_3_178 rfl ?_
    exact Y_iv1 (L0 := [.ref 11, .ref 1012, .null]) i_45_26 ow_45 lm_3_73 ((k_11 hG).trans ow_46.symm) rfl mx_46 rfl rfl hd_45 h
  · replace h := h.2 e1
    refine Y_bipush (v := (-2)) i_45_20 (by decide) ?_
    exact Y_iret i_45_22 rt_45 h
theorem k_45_29 {d : Nat} {F A : Nat → Nat → Int32} {J : Nat → Nat → Int64} {G : pG} {Q : pR → pM → Prop} {SL p q : Nat} {r r : Int32} (hG : Geo G SL p q) (h : ((r = 0 → X d 46 0 [.ref 11, .ref 1013, .null] [] (F, A, J, G) (KK (d + 1) 45 41 [.ref 11] [] Q)) ∧ (¬ r = 0 → Q (.inl (some (.int (-3)))) (F, A, J, G)))) : KK (d + 1) 45 29 [.ref 11] [] Q (.inl (some (.int r))) (F, A, J, G) := by
  refine KKi ?_
  refine Y_zeq i_45_29 (fun e1 => ?_) (fun e1 => ?_)
  · replace h := h.1 e1
    refine Y_al0 i_45_35 ?_
    refine Y_ldcS (r := 1013) i_45_36 ow_45 li_3_180 ls_3_180 rfl ?_
    exact Y_iv1 (L0 := [.ref 11, .ref 1013, .null]) i_45_38 ow_45 lm_3_73 ((k_11 hG).trans ow_46.symm) rfl mx_46 rfl rfl hd_45 h
  · replace h := h.2 e1
    refine Y_bipush (v := (-3)) i_45_32 (by decide) ?_
    exact Y_iret i_45_34 rt_45 h
theorem k_45_41 {d : Nat} {F A : Nat → Nat → Int32} {J : Nat → Nat → Int64} {G : pG} {Q : pR → pM → Prop} {SL p q : Nat} {r r : Int32} (hG : Geo G SL p q) (h : ((r = 0 → X d 46 0 [.ref 11, .ref 1014, .null] [] (F, A, J, G) (KK (d + 1) 45 53 [.ref 11] [] Q)) ∧ (¬ r = 0 → Q (.inl (some (.int (-4)))) (F, A, J, G)))) : KK (d + 1) 45 41 [.ref 11] [] Q (.inl (some (.int r))) (F, A, J, G) := by
  refine KKi ?_
  refine Y_zeq i_45_41 (fun e1 => ?_) (fun e1 => ?_)
  · replace h := h.1 e1
    refine Y_al0 i_45_47 ?_
    refine Y_ldcS (r := 1014) i_45_48 ow_45 li_3_181 ls_3_181 rfl ?_
    exact Y_iv1 (L0 := [.ref 11, .ref 1014, .null]) i_45_50 ow_45 lm_3_73 ((k_11 hG).trans ow_46.symm) rfl mx_46 rfl rfl hd_45 h
  · replace h := h.2 e1
    refine Y_bipush (v := (-4)) i_45_44 (by decide) ?_
    exact Y_iret i_45_46 rt_45 h
theorem k_45_53 {d : Nat} {F A : Nat → Nat → Int32} {J : Nat → Nat → Int64} {G : pG} {Q : pR → pM → Prop} {SL p q : Nat} {r r : Int32} (hG : Geo G SL p q) (h : ((r = 0 → X d 46 0 [.ref 11, .ref 1015, .null] [] (F, A, J, G) (KK (d + 1) 45 65 [.ref 11] [] Q)) ∧ (¬ r = 0 → Q (.inl (some (.int (-5)))) (F, A, J, G)))) : KK (d + 1) 45 53 [.ref 11] [] Q (.inl (some (.int r))) (F, A, J, G) := by
  refine KKi ?_
  refine Y_zeq i_45_53 (fun e1 => ?_) (fun e1 => ?_)
  · replace h := h.1 e1
    refine Y_al0 i_45_59 ?_
    refine Y_ldcS (r := 1015) i_45_60 ow_45 li_3_183 ls_3_183 rfl ?_
    exact Y_iv1 (L0 := [.ref 11, .ref 1015, .null]) i_45_62 ow_45 lm_3_73 ((k_11 hG).trans ow_46.symm) rfl mx_46 rfl rfl hd_45 h
  · replace h := h.2 e1
    refine Y_bipush (v := (-5)) i_45_56 (by decide) ?_
    exact Y_iret i_45_58 rt_45 h
theorem k_45_65 {d : Nat} {F A : Nat → Nat → Int32} {J : Nat → Nat → Int64} {G : pG} {Q : pR → pM → Prop} {SL p q : Nat} {r r : Int32} (hG : Geo G SL p q) (h : ((r = 0 → Q (.inl (some (.int 0))) (F, A, J, G)) ∧ (¬ r = 0 → Q (.inl (some (.int (-6)))) (F, A, J, G)))) : KK (d + 1) 45 65 [.ref 11] [] Q (.inl (some (.int r))) (F, A, J, G) := by
  refine KKi ?_
  refine Y_zeq i_45_65 (fun e1 => ?_) (fun e1 => ?_)
  · replace h := h.1 e1
    refine Y_iconst (v := 0) i_45_73 (by decide) ?_
    exact Y_iret i_45_74 rt_45 h
  · replace h := h.2 e1
    refine Y_bipush (v := (-6)) i_45_68 (by decide) ?_
    refine Y_goto i_45_70 ?_
    exact Y_iret i_45_74 rt_45 h
/- 46 Reader.isWord(Ljava/lang/String;)Z -/
theorem t_46_0 {d : Nat} {F A : Nat → Nat → Int32} {J : Nat → Nat → Int64} {G : pG} {Q : pR → pM → Prop} {SL p q : Nat} {s : Nat} (hG : Geo G SL p q) (hss : 1000 ≤ s ∧ s < 1000 + sBy.length) (h : (((F 11 4) = 2 → ((((F 11 6) - (F 11 5)) = (nI (sLen (s - 1000))) → X d 46 28 [.ref 11, .ref s, .int 0] [] (F, A, J, G) Q) ∧ (¬ ((F 11 6) - (F 11 5)) = (nI (sLen (s - 1000))) → Q (.inl (some (.int 0))) (F, A, J, G)))) ∧ (¬ (F 11 4) = 2 → Q (.inl (some (.int 0))) (F, A, J, G)))) : X d 46 0 [.ref 11, .ref s, .null] [] (F, A, J, G) Q := by
  refine Y_al0 i_46_0 ?_
  refine Y_gI (v := (F 11 4)) i_46_1 ow_46 lf_3_53 (by decide) (k_11 hG) rfl ?_
  refine Y_iconst (v := 2) i_46_4 (by decide) ?_
  refine Y_cne i_46_5 (fun e1 => ?_) (fun e1 => ?_)
  · replace h := h.1 e1
    refine Y_al0 i_46_8 ?_
    refine Y_gI (v := (F 11 6)) i_46_9 ow_46 lf_3_47 (by decide) (k_11 hG) rfl ?_
    refine Y_al0 i_46_12 ?_
    refine Y_gI (v := (F 11 5)) i_46_13 ow_46 lf_3_158 (by decide) (k_11 hG) rfl ?_
    refine Y_isub i_46_16 ?_
    refine Y_al1 i_46_17 ?_
    refine Y_slen (v := nI (sLen (s - 1000))) i_46_18 ow_46 lm_3_184 rfl hss rfl ?_
    refine Y_ceq i_46_21 (fun e2 => ?_) (fun e2 => ?_)
    · replace h := h.1 e2
      refine Y_iconst (v := 0) i_46_26 (by decide) ?_
      refine Y_is2 i_46_27 rfl ?_
      exact h
    · replace h := h.2 e2
      refine Y_iconst (v := 0) i_46_24 (by decide) ?_
      exact Y_bret i_46_25 rt_46 (by decide) h
  · replace h := h.2 e1
    refine Y_iconst (v := 0) i_46_24 (by decide) ?_
    exact Y_bret i_46_25 rt_46 (by decide) h
theorem t_46_28 {d : Nat} {F A : Nat → Nat → Int32} {J : Nat → Nat → Int64} {G : pG} {Q : pR → pM → Prop} {SL p q : Nat} {s : Nat} {x2 : Int32} (hG : Geo G SL p q) (hss : 1000 ≤ s ∧ s < 1000 + sBy.length) (h : ((x2 < (nI (sLen (s - 1000))) → inB ((F 11 5) + x2) 600 = true ∧ inB x2 (sLen (s - 1000)) = true ∧ (((A 1 ((F 11 5) + x2).toNatClampNeg) = (sCh (s - 1000) x2.toNatClampNeg) → X d 46 28 [.ref 11, .ref s, .int (x2 + 1)] [] (F, A, J, G) Q) ∧ (¬ (A 1 ((F 11 5) + x2).toNatClampNeg) = (sCh (s - 1000) x2.toNatClampNeg) → Q (.inl (some (.int 0))) (F, A, J, G)))) ∧ (¬ x2 < (nI (sLen (s - 1000))) → Q (.inl (some (.int 1))) (F, A, J, G)))) : X d 46 28 [.ref 11, .ref s, .int x2] [] (F, A, J, G) Q := by
  refine Y_il2 i_46_28 ?_
  refine Y_al1 i_46_29 ?_
  refine Y_slen (v := nI (sLen (s - 1000))) i_46_30 ow_46 lm_3_184 rfl hss rfl ?_
  refine Y_cge i_46_33 (fun e1 => ?_) (fun e1 => ?_)
  · replace h := h.1 e1
    refine Y_al0 i_46_36 ?_
    refine Y_gR i_46_37 ow_46 lf_3_9 (k_11 hG) (r_11_1 hG) ?_
    refine Y_al0 i_46_40 ?_
    refine Y_gI (v := (F 11 5)) i_46_41 ow_46 lf_3_158 (by decide) (k_11 hG) rfl ?_
    refine Y_il2 i_46_44 ?_
    refine Y_iadd i_46_45 ?_
    have o2 := h.1
    replace h := h.2
    refine Y_baload (k := ((F 11 5) + x2).toNatClampNeg) (v := (A 1 ((F 11 5) + x2).toNatClampNeg)) i_46_46 (k_1 hG) (l_1 hG) o2 rfl rfl ?_
    refine Y_al1 i_46_47 ?_
    refine Y_il2 i_46_48 ?_
    have o3 := h.1
    replace h := h.2
    refine Y_sch i_46_49 ow_46 lm_3_188 rfl hss o3 ?_
    refine Y_ceq i_46_52 (fun e4 => ?_) (fun e4 => ?_)
    · replace h := h.1 e4
      refine Y_ii2 (v := 1) i_46_57 (by decide) rfl ?_
      refine Y_goto i_46_60 ?_
      exact h
    · replace h := h.2 e4
      refine Y_iconst (v := 0) i_46_55 (by decide) ?_
      exact Y_bret i_46_56 rt_46 (by decide) h
  · replace h := h.2 e1
    refine Y_iconst (v := 1) i_46_63 (by decide) ?_
    exact Y_bret i_46_64 rt_46 (by decide) h
/- 47 Reader.isSign(C)Z -/
theorem t_47_0 {d : Nat} {F A : Nat → Nat → Int32} {J : Nat → Nat → Int64} {G : pG} {Q : pR → pM → Prop} {SL p q : Nat} {x1 : Int32} (hG : Geo G SL p q) (h : (((F 11 4) = 4 → inB (F 11 5) 600 = true ∧ (((A 1 (F 11 5).toNatClampNeg) = x1 → Q (.inl (some (.int 1))) (F, A, J, G)) ∧ (¬ (A 1 (F 11 5).toNatClampNeg) = x1 → Q (.inl (some (.int 0))) (F, A, J, G)))) ∧ (¬ (F 11 4) = 4 → Q (.inl (some (.int 0))) (F, A, J, G)))) : X d 47 0 [.ref 11, .int x1] [] (F, A, J, G) Q := by
  refine Y_al0 i_47_0 ?_
  refine Y_gI (v := (F 11 4)) i_47_1 ow_47 lf_3_53 (by decide) (k_11 hG) rfl ?_
  refine Y_iconst (v := 4) i_47_4 (by decide) ?_
  refine Y_cne i_47_5 (fun e1 => ?_) (fun e1 => ?_)
  · replace h := h.1 e1
    refine Y_al0 i_47_8 ?_
    refine Y_gR i_47_9 ow_47 lf_3_9 (k_11 hG) (r_11_1 hG) ?_
    refine Y_al0 i_47_12 ?_
    refine Y_gI (v := (F 11 5)) i_47_13 ow_47 lf_3_158 (by decide) (k_11 hG) rfl ?_
    have o2 := h.1
    replace h := h.2
    refine Y_baload (k := (F 11 5).toNatClampNeg) (v := (A 1 (F 11 5).toNatClampNeg)) i_47_16 (k_1 hG) (l_1 hG) o2 rfl rfl ?_
    refine Y_il1 i_47_17 ?_
    refine Y_cne i_47_18 (fun e3 => ?_) (fun e3 => ?_)
    · replace h := h.1 e3
      refine Y_iconst (v := 1) i_47_21 (by decide) ?_
      refine Y_goto i_47_22 ?_
      exact Y_bret i_47_26 rt_47 (by decide) h
    · replace h := h.2 e3
      refine Y_iconst (v := 0) i_47_25 (by decide) ?_
      exact Y_bret i_47_26 rt_47 (by decide) h
  · replace h := h.2 e1
    refine Y_iconst (v := 0) i_47_25 (by decide) ?_
    exact Y_bret i_47_26 rt_47 (by decide) h
/- 48 Reader.fail(I)Z -/
theorem t_48_0 {d : Nat} {F A : Nat → Nat → Int32} {J : Nat → Nat → Int64} {G : pG} {Q : pR → pM → Prop} {SL p q : Nat} {x1 : Int32} (hG : Geo G SL p q) (h : Q (.inl (some (.int 0))) ((wF (wF F 11 8 x1) 11 0 (F 11 5)), A, J, G)) : X d 48 0 [.ref 11, .int x1] [] (F, A, J, G) Q := by
  refine Y_al0 i_48_0 ?_
  refine Y_il1 i_48_1 ?_
  refine Y_pI i_48_2 ow_48 lf_3_41 (k_11 hG) ?_
  refine Y_al0 i_48_5 ?_
  refine Y_al0 i_48_6 ?_
  refine Y_gI (v := (F 11 5)) i_48_7 ow_48 lf_3_158 (by decide) (k_11 hG) (by simp [wF, wJ, va_up, cpR, bF, bA]) ?_
  refine Y_pI i_48_10 ow_48 lf_3_44 (k_11 hG) ?_
  refine Y_iconst (v := 0) i_48_13 (by decide) ?_
  exact Y_bret i_48_14 rt_48 (by decide) h
/- 49 Reader.next()V -/
theorem t_49_0 {d : Nat} {F A : Nat → Nat → Int32} {J : Nat → Nat → Int64} {G : pG} {Q : pR → pM → Prop} {SL p q : Nat} (hG : Geo G SL p q) (h : X (d + 1) 49 8 [.ref 11] [] ((wF F 11 5 (F 11 6)), A, J, G) Q) : X (d + 1) 49 0 [.ref 11] [] (F, A, J, G) Q := by
  refine Y_al0 i_49_0 ?_
  refine Y_al0 i_49_1 ?_
  refine Y_gI (v := (F 11 6)) i_49_2 ow_49 lf_3_47 (by decide) (k_11 hG) rfl ?_
  refine Y_pI i_49_5 ow_49 lf_3_158 (k_11 hG) ?_
  exact h
theorem t_49_8 {d : Nat} {F A : Nat → Nat → Int32} {J : Nat → Nat → Int64} {G : pG} {Q : pR → pM → Prop} {SL p q : Nat} (hG : Geo G SL p q) (h : (((F 11 5) < (F 11 3) → inB (F 11 5) 600 = true ∧ (((A 1 (F 11 5).toNatClampNeg) = 32 → X (d + 1) 49 8 [.ref 11] [] ((wF F 11 5 ((F 11 5) + 1)), A, J, G) Q) ∧ (¬ (A 1 (F 11 5).toNatClampNeg) = 32 → (((A 1 (F 11 5).toNatClampNeg) = 10 → X (d + 1) 49 8 [.ref 11] [] ((wF F 11 5 ((F 11 5) + 1)), A, J, G) Q) ∧ (¬ (A 1 (F 11 5).toNatClampNeg) = 10 → (((F 11 5) < (F 11 3) → (((letB (A 1 (F 11 5).toNatClampNeg)) = true → X (d + 1) 49 107 [.ref 11] [] ((wF (wF F 11 6 (F 11 5)) 11 4 2), A, J, G) Q) ∧ ((letB (A 1 (F 11 5).toNatClampNeg)) = false → (((digB (A 1 (F 11 5).toNatClampNeg)) = true → X (d + 1) 49 171 [.ref 11] [] ((wF (wF (wF F 11 6 (F 11 5)) 11 4 3) 11 7 0), A, J, G) Q) ∧ ((digB (A 1 (F 11 5).toNatClampNeg)) = false → (((sIx (1001 - 1000) (jchar ((A 1 (F 11 5).toNatClampNeg) &&& 255))) < 0 → Q (.inl none) ((wF (wF (wF F 11 6 (F 11 5)) 11 4 1) 11 6 ((F 11 5) + 1)), A, J, G)) ∧ (¬ (sIx (1001 - 1000) (jchar ((A 1 (F 11 5).toNatClampNeg) &&& 255))) < 0 → Q (.inl none) ((wF (wF (wF F 11 6 (F 11 5)) 11 4 4) 11 6 ((F 11 5) + 1)), A, J, G)))))))) ∧ (¬ (F 11 5) < (F 11 3) → Q (.inl none) ((wF (wF F 11 6 (F 11 5)) 11 4 0), A, J, G)))))))) ∧ (¬ (F 11 5) < (F 11 3) → (((F 11 5) < (F 11 3) → inB (F 11 5) 600 = true ∧ (((letB (A 1 (F 11 5).toNatClampNeg)) = true → X (d + 1) 49 107 [.ref 11] [] ((wF (wF F 11 6 (F 11 5)) 11 4 2), A, J, G) Q) ∧ ((letB (A 1 (F 11 5).toNatClampNeg)) = false → (((digB (A 1 (F 11 5).toNatClampNeg)) = true → X (d + 1) 49 171 [.ref 11] [] ((wF (wF (wF F 11 6 (F 11 5)) 11 4 3) 11 7 0), A, J, G) Q) ∧ ((digB (A 1 (F 11 5).toNatClampNeg)) = false → (((sIx (1001 - 1000) (jchar ((A 1 (F 11 5).toNatClampNeg) &&& 255))) < 0 → Q (.inl none) ((wF (wF (wF F 11 6 (F 11 5)) 11 4 1) 11 6 ((F 11 5) + 1)), A, J, G)) ∧ (¬ (sIx (1001 - 1000) (jchar ((A 1 (F 11 5).toNatClampNeg) &&& 255))) < 0 → Q (.inl none) ((wF (wF (wF F 11 6 (F 11 5)) 11 4 4) 11 6 ((F 11 5) + 1)), A, J, G)))))))) ∧ (¬ (F 11 5) < (F 11 3) → Q (.inl none) ((wF (wF F 11 6 (F 11 5)) 11 4 0), A, J, G)))))) : X (d + 1) 49 8 [.ref 11] [] (F, A, J, G) Q := by
  refine Y_al0 i_49_8 ?_
  refine Y_gI (v := (F 11 5)) i_49_9 ow_49 lf_3_158 (by decide) (k_11 hG) rfl ?_
  refine Y_al0 i_49_12 ?_
  refine Y_gI (v := (F 11 3)) i_49_13 ow_49 lf_3_25 (by decide) (k_11 hG) rfl ?_
  refine Y_cge i_49_16 (fun e1 => ?_) (fun e1 => ?_)
  · replace h := h.1 e1
    refine Y_al0 i_49_19 ?_
    refine Y_gR i_49_20 ow_49 lf_3_9 (k_11 hG) (r_11_1 hG) ?_
    refine Y_al0 i_49_23 ?_
    refine Y_gI (v := (F 11 5)) i_49_24 ow_49 lf_3_158 (by decide) (k_11 hG) rfl ?_
    have o2 := h.1
    replace h := h.2
    refine Y_baload (k := (F 11 5).toNatClampNeg) (v := (A 1 (F 11 5).toNatClampNeg)) i_49_27 (k_1 hG) (l_1 hG) o2 rfl rfl ?_
    refine Y_bipush (v := 32) i_49_28 (by decide) ?_
    refine Y_ceq i_49_30 (fun e3 => ?_) (fun e3 => ?_)
    · replace h := h.1 e3
      refine Y_al0 i_49_47 ?_
      refine Y_dup i_49_48 rfl ?_
      refine Y_gI (v := (F 11 5)) i_49_49 ow_49 lf_3_158 (by decide) (k_11 hG) rfl ?_
      refine Y_iconst (v := 1) i_49_52 (by decide) ?_
      refine Y_iadd i_49_53 ?_
      refine Y_pI i_49_54 ow_49 lf_3_158 (k_11 hG) ?_
      refine Y_goto i_49_57 ?_
      exact h
    · replace h := h.2 e3
      refine Y_al0 i_49_33 ?_
      refine Y_gR i_49_34 ow_49 lf_3_9 (k_11 hG) (r_11_1 hG) ?_
      refine Y_al0 i_49_37 ?_
      refine Y_gI (v := (F 11 5)) i_49_38 ow_49 lf_3_158 (by decide) (k_11 hG) rfl ?_
      refine Y_baload (k := (F 11 5).toNatClampNeg) (v := (A 1 (F 11 5).toNatClampNeg)) i_49_41 (k_1 hG) (l_1 hG) o2 rfl rfl ?_
      refine Y_bipush (v := 10) i_49_42 (by decide) ?_
      refine Y_cne i_49_44 (fun e4 => ?_) (fun e4 => ?_)
      · replace h := h.1 e4
        refine Y_al0 i_49_47 ?_
        refine Y_dup i_49_48 rfl ?_
        refine Y_gI (v := (F 11 5)) i_49_49 ow_49 lf_3_158 (by decide) (k_11 hG) rfl ?_
        refine Y_iconst (v := 1) i_49_52 (by decide) ?_
        refine Y_iadd i_49_53 ?_
        refine Y_pI i_49_54 ow_49 lf_3_158 (k_11 hG) ?_
        refine Y_goto i_49_57 ?_
        exact h
      · replace h := h.2 e4
        refine Y_al0 i_49_60 ?_
        refine Y_al0 i_49_61 ?_
        refine Y_gI (v := (F 11 5)) i_49_62 ow_49 lf_3_158 (by decide) (k_11 hG) rfl ?_
        refine Y_pI i_49_65 ow_49 lf_3_47 (k_11 hG) ?_
        refine Y_al0 i_49_68 ?_
        refine Y_gI (v := (F 11 5)) i_49_69 ow_49 lf_3_158 (by decide) (k_11 hG) (by simp [wF, wJ, va_up, cpR, bF, bA]) ?_
        refine Y_al0 i_49_72 ?_
        refine Y_gI (v := (F 11 3)) i_49_73 ow_49 lf_3_25 (by decide) (k_11 hG) (by simp [wF, wJ, va_up, cpR, bF, bA]) ?_
        refine Y_clt i_49_76 (fun e5 => ?_) (fun e5 => ?_)
        · replace h := h.1 e5
          refine Y_al0 i_49_87 ?_
          refine Y_gR i_49_88 ow_49 lf_3_9 (k_11 hG) (r_11_1 hG) ?_
          refine Y_al0 i_49_91 ?_
          refine Y_gI (v := (F 11 5)) i_49_92 ow_49 lf_3_158 (by decide) (k_11 hG) (by simp [wF, wJ, va_up, cpR, bF, bA]) ?_
          refine Y_baload (k := (F 11 5).toNatClampNeg) (v := (A 1 (F 11 5).toNatClampNeg)) i_49_95 (k_1 hG) (l_1 hG) o2 rfl rfl ?_
          refine Y_is_1 (L0 := [.int (A 1 (F 11 5).toNatClampNeg)]) i_49_96 ow_49 lm_3_192 rfl mx_50 rfl rfl hd_49 ?_
          refine c_50 hG (KKi ?_)
          refine Y_beq i_49_99 (fun e6 => ?_) (fun e6 => ?_)
          · replace h := h.1 e6
            refine Y_al0 i_49_102 ?_
            refine Y_iconst (v := 2) i_49_103 (by decide) ?_
            refine Y_pI i_49_104 ow_49 lf_3_53 (k_11 hG) ?_
            exact h
          · replace h := h.2 e6
            refine Y_al0 i_49_146 ?_
            refine Y_gR i_49_147 ow_49 lf_3_9 (k_11 hG) (r_11_1 hG) ?_
            refine Y_al0 i_49_150 ?_
            refine Y_gI (v := (F 11 5)) i_49_151 ow_49 lf_3_158 (by decide) (k_11 hG) (by simp [wF, wJ, va_up, cpR, bF, bA]) ?_
            refine Y_baload (k := (F 11 5).toNatClampNeg) (v := (A 1 (F 11 5).toNatClampNeg)) i_49_154 (k_1 hG) (l_1 hG) o2 rfl rfl ?_
            refine Y_is_1 (L0 := [.int (A 1 (F 11 5).toNatClampNeg)]) i_49_155 ow_49 lm_3_196 rfl mx_51 rfl rfl hd_49 ?_
            refine c_51 hG (KKi ?_)
            refine Y_beq i_49_158 (fun e7 => ?_) (fun e7 => ?_)
            · replace h := h.1 e7
              refine Y_al0 i_49_161 ?_
              refine Y_iconst (v := 3) i_49_162 (by decide) ?_
              refine Y_pI i_49_163 ow_49 lf_3_53 (k_11 hG) ?_
              refine Y_al0 i_49_166 ?_
              refine Y_iconst (v := 0) i_49_167 (by decide) ?_
              refine Y_pI i_49_168 ow_49 lf_3_161 (k_11 hG) ?_
              exact h
            · replace h := h.2 e7
              refine Y_al0 i_49_234 ?_
              refine Y_ldcS (r := 1001) i_49_235 ow_49 li_3_199 ls_3_199 rfl ?_
              refine Y_al0 i_49_237 ?_
              refine Y_gR i_49_238 ow_49 lf_3_9 (k_11 hG) (r_11_1 hG) ?_
              refine Y_al0 i_49_241 ?_
              refine Y_gI (v := (F 11 5)) i_49_242 ow_49 lf_3_158 (by decide) (k_11 hG) (by simp [wF, wJ, va_up, cpR, bF, bA]) ?_
              refine Y_baload (k := (F 11 5).toNatClampNeg) (v := (A 1 (F 11 5).toNatClampNeg)) i_49_245 (k_1 hG) (l_1 hG) o2 rfl rfl ?_
              refine Y_sipush (v := 255) i_49_246 (by decide) ?_
              refine Y_iand i_49_249 ?_
              refine Y_i2c i_49_250 ?_
              refine Y_six i_49_251 ow_49 lm_3_201 rfl (by decide) ?_
              refine Y_zlt i_49_254 (fun e8 => ?_) (fun e8 => ?_)
              · replace h := h.1 e8
                refine Y_iconst (v := 1) i_49_261 (by decide) ?_
                refine Y_pI i_49_262 ow_49 lf_3_53 (k_11 hG) ?_
                refine Y_al0 i_49_265 ?_
                refine Y_dup i_49_266 rfl ?_
                refine Y_gI (v := (F 11 5)) i_49_267 ow_49 lf_3_47 (by decide) (k_11 hG) (by simp [wF, wJ, va_up, cpR, bF, bA]) ?_
                refine Y_iconst (v := 1) i_49_270 (by decide) ?_
                refine Y_iadd i_49_271 ?_
                refine Y_pI i_49_272 ow_49 lf_3_47 (k_11 hG) ?_
                exact Y_vret i_49_275 rt_49 h
              · replace h := h.2 e8
                refine Y_iconst (v := 4) i_49_257 (by decide) ?_
                refine Y_goto i_49_258 ?_
                refine Y_pI i_49_262 ow_49 lf_3_53 (k_11 hG) ?_
                refine Y_al0 i_49_265 ?_
                refine Y_dup i_49_266 rfl ?_
                refine Y_gI (v := (F 11 5)) i_49_267 ow_49 lf_3_47 (by decide) (k_11 hG) (by simp [wF, wJ, va_up, cpR, bF, bA]) ?_
                refine Y_iconst (v := 1) i_49_270 (by decide) ?_
                refine Y_iadd i_49_271 ?_
                refine Y_pI i_49_272 ow_49 lf_3_47 (k_11 hG) ?_
                exact Y_vret i_49_275 rt_49 h
        · replace h := h.2 e5
          refine Y_al0 i_49_79 ?_
          refine Y_iconst (v := 0) i_49_80 (by decide) ?_
          refine Y_pI i_49_81 ow_49 lf_3_53 (k_11 hG) ?_
          refine Y_goto i_49_84 ?_
          exact Y_vret i_49_275 rt_49 h
  · replace h := h.2 e1
    refine Y_al0 i_49_60 ?_
    refine Y_al0 i_49_61 ?_
    refine Y_gI (v := (F 11 5)) i_49_62 ow_49 lf_3_158 (by decide) (k_11 hG) rfl ?_
    refine Y_pI i_49_65 ow_49 lf_3_47 (k_11 hG) ?_
    refine Y_al0 i_49_68 ?_
    refine Y_gI (v := (F 11 5)) i_49_69 ow_49 lf_3_158 (by decide) (k_11 hG) (by simp [wF, wJ, va_up, cpR, bF, bA]) ?_
    refine Y_al0 i_49_72 ?_
    refine Y_gI (v := (F 11 3)) i_49_73 ow_49 lf_3_25 (by decide) (k_11 hG) (by simp [wF, wJ, va_up, cpR, bF, bA]) ?_
    refine Y_clt i_49_76 (fun e9 => ?_) (fun e9 => ?_)
    · replace h := h.1 e9
      refine Y_al0 i_49_87 ?_
      refine Y_gR i_49_88 ow_49 lf_3_9 (k_11 hG) (r_11_1 hG) ?_
      refine Y_al0 i_49_91 ?_
      refine Y_gI (v := (F 11 5)) i_49_92 ow_49 lf_3_158 (by decide) (k_11 hG) (by simp [wF, wJ, va_up, cpR, bF, bA]) ?_
      have o10 := h.1
      replace h := h.2
      refine Y_baload (k := (F 11 5).toNatClampNeg) (v := (A 1 (F 11 5).toNatClampNeg)) i_49_95 (k_1 hG) (l_1 hG) o10 rfl rfl ?_
      refine Y_is_1 (L0 := [.int (A 1 (F 11 5).toNatClampNeg)]) i_49_96 ow_49 lm_3_192 rfl mx_50 rfl rfl hd_49 ?_
      refine c_50 hG (KKi ?_)
      refine Y_beq i_49_99 (fun e11 => ?_) (fun e11 => ?_)
      · replace h := h.1 e11
        refine Y_al0 i_49_102 ?_
        refine Y_iconst (v := 2) i_49_103 (by decide) ?_
        refine Y_pI i_49_104 ow_49 lf_3_53 (k_11 hG) ?_
        exact h
      · replace h := h.2 e11
        refine Y_al0 i_49_146 ?_
        refine Y_gR i_49_147 ow_49 lf_3_9 (k_11 hG) (r_11_1 hG) ?_
        refine Y_al0 i_49_150 ?_
        refine Y_gI (v := (F 11 5)) i_49_151 ow_49 lf_3_158 (by decide) (k_11 hG) (by simp [wF, wJ, va_up, cpR, bF, bA]) ?_
        refine Y_baload (k := (F 11 5).toNatClampNeg) (v := (A 1 (F 11 5).toNatClampNeg)) i_49_154 (k_1 hG) (l_1 hG) o10 rfl rfl ?_
        refine Y_is_1 (L0 := [.int (A 1 (F 11 5).toNatClampNeg)]) i_49_155 ow_49 lm_3_196 rfl mx_51 rfl rfl hd_49 ?_
        refine c_51 hG (KKi ?_)
        refine Y_beq i_49_158 (fun e12 => ?_) (fun e12 => ?_)
        · replace h := h.1 e12
          refine Y_al0 i_49_161 ?_
          refine Y_iconst (v := 3) i_49_162 (by decide) ?_
          refine Y_pI i_49_163 ow_49 lf_3_53 (k_11 hG) ?_
          refine Y_al0 i_49_166 ?_
          refine Y_iconst (v := 0) i_49_167 (by decide) ?_
          refine Y_pI i_49_168 ow_49 lf_3_161 (k_11 hG) ?_
          exact h
        · replace h := h.2 e12
          refine Y_al0 i_49_234 ?_
          refine Y_ldcS (r := 1001) i_49_235 ow_49 li_3_199 ls_3_199 rfl ?_
          refine Y_al0 i_49_237 ?_
          refine Y_gR i_49_238 ow_49 lf_3_9 (k_11 hG) (r_11_1 hG) ?_
          refine Y_al0 i_49_241 ?_
          refine Y_gI (v := (F 11 5)) i_49_242 ow_49 lf_3_158 (by decide) (k_11 hG) (by simp [wF, wJ, va_up, cpR, bF, bA]) ?_
          refine Y_baload (k := (F 11 5).toNatClampNeg) (v := (A 1 (F 11 5).toNatClampNeg)) i_49_245 (k_1 hG) (l_1 hG) o10 rfl rfl ?_
          refine Y_sipush (v := 255) i_49_246 (by decide) ?_
          refine Y_iand i_49_249 ?_
          refine Y_i2c i_49_250 ?_
          refine Y_six i_49_251 ow_49 lm_3_201 rfl (by decide) ?_
          refine Y_zlt i_49_254 (fun e13 => ?_) (fun e13 => ?_)
          · replace h := h.1 e13
            refine Y_iconst (v := 1) i_49_261 (by decide) ?_
            refine Y_pI i_49_262 ow_49 lf_3_53 (k_11 hG) ?_
            refine Y_al0 i_49_265 ?_
            refine Y_dup i_49_266 rfl ?_
            refine Y_gI (v := (F 11 5)) i_49_267 ow_49 lf_3_47 (by decide) (k_11 hG) (by simp [wF, wJ, va_up, cpR, bF, bA]) ?_
            refine Y_iconst (v := 1) i_49_270 (by decide) ?_
            refine Y_iadd i_49_271 ?_
            refine Y_pI i_49_272 ow_49 lf_3_47 (k_11 hG) ?_
            exact Y_vret i_49_275 rt_49 h
          · replace h := h.2 e13
            refine Y_iconst (v := 4) i_49_257 (by decide) ?_
            refine Y_goto i_49_258 ?_
            refine Y_pI i_49_262 ow_49 lf_3_53 (k_11 hG) ?_
            refine Y_al0 i_49_265 ?_
            refine Y_dup i_49_266 rfl ?_
            refine Y_gI (v := (F 11 5)) i_49_267 ow_49 lf_3_47 (by decide) (k_11 hG) (by simp [wF, wJ, va_up, cpR, bF, bA]) ?_
            refine Y_iconst (v := 1) i_49_270 (by decide) ?_
            refine Y_iadd i_49_271 ?_
            refine Y_pI i_49_272 ow_49 lf_3_47 (k_11 hG) ?_
            exact Y_vret i_49_275 rt_49 h
    · replace h := h.2 e9
      refine Y_al0 i_49_79 ?_
      refine Y_iconst (v := 0) i_49_80 (by decide) ?_
      refine Y_pI i_49_81 ow_49 lf_3_53 (k_11 hG) ?_
      refine Y_goto i_49_84 ?_
      exact Y_vret i_49_275 rt_49 h
theorem t_49_107 {d : Nat} {F A : Nat → Nat → Int32} {J : Nat → Nat → Int64} {G : pG} {Q : pR → pM → Prop} {SL p q : Nat} (hG : Geo G SL p q) (h : (((F 11 6) < (F 11 3) → inB (F 11 6) 600 = true ∧ (((letB (A 1 (F 11 6).toNatClampNeg)) = true → X (d + 1) 49 107 [.ref 11] [] ((wF F 11 6 ((F 11 6) + 1)), A, J, G) Q) ∧ ((letB (A 1 (F 11 6).toNatClampNeg)) = false → Q (.inl none) (F, A, J, G)))) ∧ (¬ (F 11 6) < (F 11 3) → Q (.inl none) (F, A, J, G)))) : X (d + 1) 49 107 [.ref 11] [] (F, A, J, G) Q := by
  refine Y_al0 i_49_107 ?_
  refine Y_gI (v := (F 11 6)) i_49_108 ow_49 lf_3_47 (by decide) (k_11 hG) rfl ?_
  refine Y_al0 i_49_111 ?_
  refine Y_gI (v := (F 11 3)) i_49_112 ow_49 lf_3_25 (by decide) (k_11 hG) rfl ?_
  refine Y_cge i_49_115 (fun e1 => ?_) (fun e1 => ?_)
  · replace h := h.1 e1
    refine Y_al0 i_49_118 ?_
    refine Y_gR i_49_119 ow_49 lf_3_9 (k_11 hG) (r_11_1 hG) ?_
    refine Y_al0 i_49_122 ?_
    refine Y_gI (v := (F 11 6)) i_49_123 ow_49 lf_3_47 (by decide) (k_11 hG) rfl ?_
    have o2 := h.1
    replace h := h.2
    refine Y_baload (k := (F 11 6).toNatClampNeg) (v := (A 1 (F 11 6).toNatClampNeg)) i_49_126 (k_1 hG) (l_1 hG) o2 rfl rfl ?_
    refine Y_is_1 (L0 := [.int (A 1 (F 11 6).toNatClampNeg)]) i_49_127 ow_49 lm_3_192 rfl mx_50 rfl rfl hd_49 ?_
    refine c_50 hG (KKi ?_)
    refine Y_beq i_49_130 (fun e3 => ?_) (fun e3 => ?_)
    · replace h := h.1 e3
      refine Y_al0 i_49_133 ?_
      refine Y_dup i_49_134 rfl ?_
      refine Y_gI (v := (F 11 6)) i_49_135 ow_49 lf_3_47 (by decide) (k_11 hG) rfl ?_
      refine Y_iconst (v := 1) i_49_138 (by decide) ?_
      refine Y_iadd i_49_139 ?_
      refine Y_pI i_49_140 ow_49 lf_3_47 (k_11 hG) ?_
      refine Y_goto i_49_143 ?_
      exact h
    · replace h := h.2 e3
      exact Y_vret i_49_275 rt_49 h
  · replace h := h.2 e1
    exact Y_vret i_49_275 rt_49 h
theorem t_49_171 {d : Nat} {F A : Nat → Nat → Int32} {J : Nat → Nat → Int64} {G : pG} {Q : pR → pM → Prop} {SL p q : Nat} (hG : Geo G SL p q) (h : (((F 11 6) < (F 11 3) → inB (F 11 6) 600 = true ∧ (((digB (A 1 (F 11 6).toNatClampNeg)) = true → X (d + 1) 49 171 [.ref 11] [] ((wF (wF F 11 7 ((((F 11 7) * 10) + (A 1 (F 11 6).toNatClampNeg)) - 48)) 11 6 ((F 11 6) + 1)), A, J, G) Q) ∧ ((digB (A 1 (F 11 6).toNatClampNeg)) = false → Q (.inl none) (F, A, J, G)))) ∧ (¬ (F 11 6) < (F 11 3) → Q (.inl none) (F, A, J, G)))) : X (d + 1) 49 171 [.ref 11] [] (F, A, J, G) Q := by
  refine Y_al0 i_49_171 ?_
  refine Y_gI (v := (F 11 6)) i_49_172 ow_49 lf_3_47 (by decide) (k_11 hG) rfl ?_
  refine Y_al0 i_49_175 ?_
  refine Y_gI (v := (F 11 3)) i_49_176 ow_49 lf_3_25 (by decide) (k_11 hG) rfl ?_
  refine Y_cge i_49_179 (fun e1 => ?_) (fun e1 => ?_)
  · replace h := h.1 e1
    refine Y_al0 i_49_182 ?_
    refine Y_gR i_49_183 ow_49 lf_3_9 (k_11 hG) (r_11_1 hG) ?_
    refine Y_al0 i_49_186 ?_
    refine Y_gI (v := (F 11 6)) i_49_187 ow_49 lf_3_47 (by decide) (k_11 hG) rfl ?_
    have o2 := h.1
    replace h := h.2
    refine Y_baload (k := (F 11 6).toNatClampNeg) (v := (A 1 (F 11 6).toNatClampNeg)) i_49_190 (k_1 hG) (l_1 hG) o2 rfl rfl ?_
    refine Y_is_1 (L0 := [.int (A 1 (F 11 6).toNatClampNeg)]) i_49_191 ow_49 lm_3_196 rfl mx_51 rfl rfl hd_49 ?_
    refine c_51 hG (KKi ?_)
    refine Y_beq i_49_194 (fun e3 => ?_) (fun e3 => ?_)
    · replace h := h.1 e3
      refine Y_al0 i_49_197 ?_
      refine Y_al0 i_49_198 ?_
      refine Y_gI (v := (F 11 7)) i_49_199 ow_49 lf_3_161 (by decide) (k_11 hG) rfl ?_
      refine Y_bipush (v := 10) i_49_202 (by decide) ?_
      refine Y_imul i_49_204 ?_
      refine Y_al0 i_49_205 ?_
      refine Y_gR i_49_206 ow_49 lf_3_9 (k_11 hG) (r_11_1 hG) ?_
      refine Y_al0 i_49_209 ?_
      refine Y_gI (v := (F 11 6)) i_49_210 ow_49 lf_3_47 (by decide) (k_11 hG) rfl ?_
      refine Y_baload (k := (F 11 6).toNatClampNeg) (v := (A 1 (F 11 6).toNatClampNeg)) i_49_213 (k_1 hG) (l_1 hG) o2 rfl rfl ?_
      refine Y_iadd i_49_214 ?_
      refine Y_bipush (v := 48) i_49_215 (by decide) ?_
      refine Y_isub i_49_217 ?_
      refine Y_pI i_49_218 ow_49 lf_3_161 (k_11 hG) ?_
      refine Y_al0 i_49_221 ?_
      refine Y_dup i_49_222 rfl ?_
      refine Y_gI (v := (F 11 6)) i_49_223 ow_49 lf_3_47 (by decide) (k_11 hG) (by simp [wF, wJ, va_up, cpR, bF, bA]) ?_
      refine Y_iconst (v := 1) i_49_226 (by decide) ?_
      refine Y_iadd i_49_227 ?_
      refine Y_pI i_49_228 ow_49 lf_3_47 (k_11 hG) ?_
      refine Y_goto i_49_231 ?_
      exact h
    · replace h := h.2 e3
      exact Y_vret i_49_275 rt_49 h
  · replace h := h.2 e1
    exact Y_vret i_49_275 rt_49 h
/- 53 Rule.become(LTableTower$Rule;)V -/
theorem t_53_0 {d : Nat} {F A : Nat → Nat → Int32} {J : Nat → Nat → Int64} {G : pG} {Q : pR → pM → Prop} {SL p q : Nat} (hG : Geo G SL p q) (h : (¬ (0 : Int32) < 0 ∧ ¬ (0 : Int32) < 0 ∧ ¬ (F 8 1) < 0 ∧ (0 : Int32).toNatClampNeg + (F 8 1).toNatClampNeg ≤ 600 ∧ (0 : Int32).toNatClampNeg + (F 8 1).toNatClampNeg ≤ 600) ∧ (Q (.inl none) ((wF F 18 1 (F 8 1)), (cpR A 19 9 0 0 (F 8 1).toNatClampNeg), J, G))) : X d 53 0 [.ref 18, .ref 8] [] (F, A, J, G) Q := by
  refine Y_al0 i_53_0 ?_
  refine Y_al1 i_53_1 ?_
  refine Y_gI (v := (F 8 1)) i_53_2 ow_53 lf_4_18 (by decide) (k_8 hG) rfl ?_
  refine Y_pI i_53_5 ow_53 lf_4_18 (k_18 hG) ?_
  refine Y_al1 i_53_8 ?_
  refine Y_gR i_53_9 ow_53 lf_4_9 (k_8 hG) (r_8_0 hG) ?_
  refine Y_iconst (v := 0) i_53_12 (by decide) ?_
  refine Y_al0 i_53_13 ?_
  refine Y_gR i_53_14 ow_53 lf_4_9 (k_18 hG) (r_18_0 hG) ?_
  refine Y_iconst (v := 0) i_53_17 (by decide) ?_
  refine Y_al0 i_53_18 ?_
  refine Y_gI (v := (F 8 1)) i_53_19 ow_53 lf_4_18 (by decide) (k_18 hG) (by simp [wF, wJ, va_up, cpR, bF, bA]) ?_
  have o1 := h.1
  replace h := h.2
  refine Y_acp (ksp := 0) (kdp := 0) (kn := (F 8 1).toNatClampNeg) i_53_22 ow_53 lm_4_22 rfl (k_19 hG) (k_9 hG) (l_19 hG) (l_9 hG) o1 (by decide) (by decide) rfl ?_
  exact Y_vret i_53_25 rt_53 h
/- 54 Rule.add(I)V -/
theorem t_54_0 {d : Nat} {F A : Nat → Nat → Int32} {J : Nat → Nat → Int64} {G : pG} {Q : pR → pM → Prop} {SL p q : Nat} {x1 : Int32} (hG : Geo G SL p q) (h : (((F 8 1) < 600 → inB (F 8 1) 600 = true ∧ (Q (.inl none) ((wF F 8 1 ((F 8 1) + 1)), (wF A 9 (F 8 1).toNatClampNeg x1), J, G))) ∧ (¬ (F 8 1) < 600 → Q (.inl none) (F, A, J, G)))) : X d 54 0 [.ref 8, .int x1] [] (F, A, J, G) Q := by
  refine Y_al0 i_54_0 ?_
  refine Y_gI (v := (F 8 1)) i_54_1 ow_54 lf_4_18 (by decide) (k_8 hG) rfl ?_
  refine Y_al0 i_54_4 ?_
  refine Y_gR i_54_5 ow_54 lf_4_9 (k_8 hG) (r_8_0 hG) ?_
  refine Y_alen (v := 600) i_54_8 (Or.inl (k_9 hG)) (l_9 hG) (by decide) ?_
  refine Y_cge i_54_9 (fun e1 => ?_) (fun e1 => ?_)
  · replace h := h.1 e1
    refine Y_al0 i_54_12 ?_
    refine Y_gR i_54_13 ow_54 lf_4_9 (k_8 hG) (r_8_0 hG) ?_
    refine Y_al0 i_54_16 ?_
    refine Y_gI (v := (F 8 1)) i_54_17 ow_54 lf_4_18 (by decide) (k_8 hG) rfl ?_
    refine Y_il1 i_54_20 ?_
    have o2 := h.1
    replace h := h.2
    refine Y_iast i_54_21 (k_9 hG) (l_9 hG) o2 rfl ?_
    refine Y_al0 i_54_22 ?_
    refine Y_dup i_54_23 rfl ?_
    refine Y_gI (v := (F 8 1)) i_54_24 ow_54 lf_4_18 (by decide) (k_8 hG) rfl ?_
    refine Y_iconst (v := 1) i_54_27 (by decide) ?_
    refine Y_iadd i_54_28 ?_
    refine Y_pI i_54_29 ow_54 lf_4_18 (k_8 hG) ?_
    exact Y_vret i_54_32 rt_54 h
  · replace h := h.2 e1
    exact Y_vret i_54_32 rt_54 h
/- 55 Rule.gives()I -/
theorem t_55_0 {d : Nat} {F A : Nat → Nat → Int32} {J : Nat → Nat → Int64} {G : pG} {Q : pR → pM → Prop} {SL p q : Nat} (hG : Geo G SL p q) (h : X (d + 1) 55 7 [.ref 18, .int 0, .null, .null] [] ((wF F 18 9 0), A, J, G) Q) : X (d + 1) 55 0 [.ref 18, .null, .null, .null] [] (F, A, J, G) Q := by
  refine Y_al0 i_55_0 ?_
  refine Y_iconst (v := 0) i_55_1 (by decide) ?_
  refine Y_pI i_55_2 ow_55 lf_4_28 (k_18 hG) ?_
  refine Y_iconst (v := 0) i_55_5 (by decide) ?_
  refine Y_is1 i_55_6 rfl ?_
  exact h
theorem t_55_7 {d : Nat} {F A : Nat → Nat → Int32} {J : Nat → Nat → Int64} {G : pG} {Q : pR → pM → Prop} {SL p q : Nat} {x1 : Int32} {v2 v3 : Value} (hG : Geo G SL p q) (h : ((x1 < (F 18 1) → inB x1 600 = true ∧ (((A 19 x1.toNatClampNeg) < 0 → (((A 19 x1.toNatClampNeg) < (-6) → (((A 19 x1.toNatClampNeg) = (-7) → ((0 < (F 18 9) → inB ((F 18 9) - 1) 40 = true ∧ (((A 20 ((F 18 9) - 1).toNatClampNeg) = 0 → ((((F 18 9) - 1) < 40 → X (d + 1) 55 7 [.ref 18, .int (x1 + 1), .int (A 19 x1.toNatClampNeg), v3] [] ((wF (wF F 18 9 ((F 18 9) - 1)) 18 9 (((F 18 9) - 1) + 1)), (wF A 20 ((F 18 9) - 1).toNatClampNeg 1), J, G) Q) ∧ (¬ ((F 18 9) - 1) < 40 → X (d + 1) 55 7 [.ref 18, .int (x1 + 1), .int (A 19 x1.toNatClampNeg), v3] [] ((wF F 18 9 ((F 18 9) - 1)), A, J, G) Q))) ∧ (¬ (A 20 ((F 18 9) - 1).toNatClampNeg) = 0 → ((((F 18 9) - 1) < 40 → X (d + 1) 55 7 [.ref 18, .int (x1 + 1), .int (A 19 x1.toNatClampNeg), v3] [] ((wF (wF F 18 9 ((F 18 9) - 1)) 18 9 (((F 18 9) - 1) + 1)), (wF A 20 ((F 18 9) - 1).toNatClampNeg 0), J, G) Q) ∧ (¬ ((F 18 9) - 1) < 40 → X (d + 1) 55 7 [.ref 18, .int (x1 + 1), .int (A 19 x1.toNatClampNeg), v3] [] ((wF F 18 9 ((F 18 9) - 1)), A, J, G) Q))))) ∧ (¬ 0 < (F 18 9) → (((F 18 9) < 40 → inB (F 18 9) 40 = true ∧ (X (d + 1) 55 7 [.ref 18, .int (x1 + 1), .int (A 19 x1.toNatClampNeg), v3] [] ((wF F 18 9 ((F 18 9) + 1)), (wF A 20 (F 18 9).toNatClampNeg 1), J, G) Q)) ∧ (¬ (F 18 9) < 40 → X (d + 1) 55 7 [.ref 18, .int (x1 + 1), .int (A 19 x1.toNatClampNeg), v3] [] (F, A, J, G) Q))))) ∧ (¬ (A 19 x1.toNatClampNeg) = (-7) → ((0 < (F 18 9) → inB ((F 18 9) - 1) 40 = true ∧ ((0 < ((F 18 9) - 1) → inB (((F 18 9) - 1) - 1) 40 = true ∧ (((((F 18 9) - 1) - 1) < 40 → X (d + 1) 55 7 [.ref 18, .int (x1 + 1), .int (A 19 x1.toNatClampNeg), .int (A 20 ((F 18 9) - 1).toNatClampNeg)] [] ((wF (wF (wF F 18 9 ((F 18 9) - 1)) 18 9 (((F 18 9) - 1) - 1)) 18 9 ((((F 18 9) - 1) - 1) + 1)), (wF A 20 (((F 18 9) - 1) - 1).toNatClampNeg (opS (A 19 x1.toNatClampNeg) (A 20 (((F 18 9) - 1) - 1).toNatClampNeg) (A 20 ((F 18 9) - 1).toNatClampNeg))), J, G) Q) ∧ (¬ (((F 18 9) - 1) - 1) < 40 → X (d + 1) 55 7 [.ref 18, .int (x1 + 1), .int (A 19 x1.toNatClampNeg), .int (A 20 ((F 18 9) - 1).toNatClampNeg)] [] ((wF (wF F 18 9 ((F 18 9) - 1)) 18 9 (((F 18 9) - 1) - 1)), A, J, G) Q))) ∧ (¬ 0 < ((F 18 9) - 1) → ((((F 18 9) - 1) < 40 → X (d + 1) 55 7 [.ref 18, .int (x1 + 1), .int (A 19 x1.toNatClampNeg), .int (A 20 ((F 18 9) - 1).toNatClampNeg)] [] ((wF (wF F 18 9 ((F 18 9) - 1)) 18 9 (((F 18 9) - 1) + 1)), (wF A 20 ((F 18 9) - 1).toNatClampNeg (opS (A 19 x1.toNatClampNeg) 0 (A 20 ((F 18 9) - 1).toNatClampNeg))), J, G) Q) ∧ (¬ ((F 18 9) - 1) < 40 → X (d + 1) 55 7 [.ref 18, .int (x1 + 1), .int (A 19 x1.toNatClampNeg), .int (A 20 ((F 18 9) - 1).toNatClampNeg)] [] ((wF F 18 9 ((F 18 9) - 1)), A, J, G) Q))))) ∧ (¬ 0 < (F 18 9) → ((0 < (F 18 9) → inB ((F 18 9) - 1) 40 = true ∧ ((((F 18 9) - 1) < 40 → X (d + 1) 55 7 [.ref 18, .int (x1 + 1), .int (A 19 x1.toNatClampNeg), .int 0] [] ((wF (wF F 18 9 ((F 18 9) - 1)) 18 9 (((F 18 9) - 1) + 1)), (wF A 20 ((F 18 9) - 1).toNatClampNeg (opS (A 19 x1.toNatClampNeg) (A 20 ((F 18 9) - 1).toNatClampNeg) 0)), J, G) Q) ∧ (¬ ((F 18 9) - 1) < 40 → X (d + 1) 55 7 [.ref 18, .int (x1 + 1), .int (A 19 x1.toNatClampNeg), .int 0] [] ((wF F 18 9 ((F 18 9) - 1)), A, J, G) Q))) ∧ (¬ 0 < (F 18 9) → (((F 18 9) < 40 → inB (F 18 9) 40 = true ∧ (X (d + 1) 55 7 [.ref 18, .int (x1 + 1), .int (A 19 x1.toNatClampNeg), .int 0] [] ((wF F 18 9 ((F 18 9) + 1)), (wF A 20 (F 18 9).toNatClampNeg (opS (A 19 x1.toNatClampNeg) 0 0)), J, G) Q)) ∧ (¬ (F 18 9) < 40 → X (d + 1) 55 7 [.ref 18, .int (x1 + 1), .int (A 19 x1.toNatClampNeg), .int 0] [] (F, A, J, G) Q))))))))) ∧ (¬ (A 19 x1.toNatClampNeg) < (-6) → (((F 18 9) < 40 → inB (F 18 9) 40 = true ∧ (X (d + 1) 55 7 [.ref 18, .int (x1 + 1), .int (A 19 x1.toNatClampNeg), v3] [] ((wF F 18 9 ((F 18 9) + 1)), (wF A 20 (F 18 9).toNatClampNeg (valO F (A 19 x1.toNatClampNeg))), J, G) Q)) ∧ (¬ (F 18 9) < 40 → X (d + 1) 55 7 [.ref 18, .int (x1 + 1), .int (A 19 x1.toNatClampNeg), v3] [] (F, A, J, G) Q))))) ∧ (¬ (A 19 x1.toNatClampNeg) < 0 → (((F 18 9) < 40 → inB (F 18 9) 40 = true ∧ (X (d + 1) 55 7 [.ref 18, .int (x1 + 1), .int (A 19 x1.toNatClampNeg), v3] [] ((wF F 18 9 ((F 18 9) + 1)), (wF A 20 (F 18 9).toNatClampNeg (A 19 x1.toNatClampNeg)), J, G) Q)) ∧ (¬ (F 18 9) < 40 → X (d + 1) 55 7 [.ref 18, .int (x1 + 1), .int (A 19 x1.toNatClampNeg), v3] [] (F, A, J, G) Q))))) ∧ (¬ x1 < (F 18 1) → ((0 < (F 18 9) → inB ((F 18 9) - 1) 40 = true ∧ (Q (.inl (some (.int (A 20 ((F 18 9) - 1).toNatClampNeg)))) ((wF F 18 9 ((F 18 9) - 1)), A, J, G))) ∧ (¬ 0 < (F 18 9) → Q (.inl (some (.int 0))) (F, A, J, G)))))) : X (d + 1) 55 7 [.ref 18, .int x1, v2, v3] [] (F, A, J, G) Q := by
  refine Y_il1 i_55_7 ?_
  refine Y_al0 i_55_8 ?_
  refine Y_gI (v := (F 18 1)) i_55_9 ow_55 lf_4_18 (by decide) (k_18 hG) rfl ?_
  refine Y_cge i_55_12 (fun e1 => ?_) (fun e1 => ?_)
  · replace h := h.1 e1
    refine Y_al0 i_55_15 ?_
    refine Y_gR i_55_16 ow_55 lf_4_9 (k_18 hG) (r_18_0 hG) ?_
    refine Y_il1 i_55_19 ?_
    have o2 := h.1
    replace h := h.2
    refine Y_iaload (k := x1.toNatClampNeg) (v := (A 19 x1.toNatClampNeg)) i_55_20 (k_19 hG) (l_19 hG) o2 rfl rfl ?_
    refine Y_is2 i_55_21 rfl ?_
    refine Y_il2 i_55_22 ?_
    refine Y_zlt i_55_23 (fun e3 => ?_) (fun e3 => ?_)
    · replace h := h.1 e3
      refine Y_il2 i_55_34 ?_
      refine Y_bipush (v := (-6)) i_55_35 (by decide) ?_
      refine Y_clt i_55_37 (fun e4 => ?_) (fun e4 => ?_)
      · replace h := h.1 e4
        refine Y_il2 i_55_52 ?_
        refine Y_bipush (v := (-7)) i_55_53 (by decide) ?_
        refine Y_cne i_55_55 (fun e5 => ?_) (fun e5 => ?_)
        · replace h := h.1 e5
          refine Y_al0 i_55_58 ?_
          refine Y_al0 i_55_59 ?_
          refine Y_iv0 (L0 := [.ref 18]) i_55_60 ow_55 lm_4_39 ((k_18 hG).trans ow_57.symm) rfl mx_57 rfl rfl hd_55 ?_
          refine Y_al0 i_57_0 ?_
          refine Y_gI (v := (F 18 9)) i_57_1 ow_57 lf_4_28 (by decide) (k_18 hG) rfl ?_
          refine Y_zgt i_57_4 (fun e6 => ?_) (fun e6 => ?_)
          · replace h := h.1 e6
            refine Y_al0 i_57_9 ?_
            refine Y_dup i_57_10 rfl ?_
            refine Y_gI (v := (F 18 9)) i_57_11 ow_57 lf_4_28 (by decide) (k_18 hG) rfl ?_
            refine Y_iconst (v := 1) i_57_14 (by decide) ?_
            refine Y_isub i_57_15 ?_
            refine Y_pI i_57_16 ow_57 lf_4_28 (k_18 hG) ?_
            refine Y_al0 i_57_19 ?_
            refine Y_gR i_57_20 ow_57 lf_4_15 (k_18 hG) (r_18_8 hG) ?_
            refine Y_al0 i_57_23 ?_
            refine Y_gI (v := ((F 18 9) - 1)) i_57_24 ow_57 lf_4_28 (by decide) (k_18 hG) (by simp [wF, wJ, va_up, cpR, bF, bA]) ?_
            have o7 := h.1
            replace h := h.2
            refine Y_iaload (k := ((F 18 9) - 1).toNatClampNeg) (v := (A 20 ((F 18 9) - 1).toNatClampNeg)) i_57_27 (k_20 hG) (l_20 hG) o7 rfl rfl ?_
            refine Y_iret i_57_28 rt_57 (KKi ?_)
            refine Y_zne i_55_63 (fun e8 => ?_) (fun e8 => ?_)
            · replace h := h.1 e8
              refine Y_iconst (v := 1) i_55_66 (by decide) ?_
              refine Y_goto i_55_67 ?_
              refine Y_iv1 (L0 := [.ref 18, .int 1]) i_55_71 ow_55 lm_4_31 ((k_18 hG).trans ow_56.symm) rfl mx_56 rfl rfl hd_55 ?_
              refine Y_al0 i_56_0 ?_
              refine Y_gI (v := ((F 18 9) - 1)) i_56_1 ow_56 lf_4_28 (by decide) (k_18 hG) (by simp [wF, wJ, va_up, cpR, bF, bA]) ?_
              refine Y_bipush (v := 40) i_56_4 (by decide) ?_
              refine Y_cge i_56_6 (fun e9 => ?_) (fun e9 => ?_)
              · replace h := h.1 e9
                refine Y_al0 i_56_9 ?_
                refine Y_gR i_56_10 ow_56 lf_4_15 (k_18 hG) (r_18_8 hG) ?_
                refine Y_al0 i_56_13 ?_
                refine Y_gI (v := ((F 18 9) - 1)) i_56_14 ow_56 lf_4_28 (by decide) (k_18 hG) (by simp [wF, wJ, va_up, cpR, bF, bA]) ?_
                refine Y_il1 i_56_17 ?_
                refine Y_iast i_56_18 (k_20 hG) (l_20 hG) o7 rfl ?_
                refine Y_al0 i_56_19 ?_
                refine Y_dup i_56_20 rfl ?_
                refine Y_gI (v := ((F 18 9) - 1)) i_56_21 ow_56 lf_4_28 (by decide) (k_18 hG) (by simp [wF, wJ, va_up, cpR, bF, bA]) ?_
                refine Y_iconst (v := 1) i_56_24 (by decide) ?_
                refine Y_iadd i_56_25 ?_
                refine Y_pI i_56_26 ow_56 lf_4_28 (k_18 hG) ?_
                refine Y_vret i_56_29 rt_56 (KKv ?_)
                refine Y_goto i_55_74 ?_
                refine Y_ii1 (v := 1) i_55_95 (by decide) rfl ?_
                refine Y_goto i_55_98 ?_
                exact h
              · replace h := h.2 e9
                refine Y_vret i_56_29 rt_56 (KKv ?_)
                refine Y_goto i_55_74 ?_
                refine Y_ii1 (v := 1) i_55_95 (by decide) rfl ?_
                refine Y_goto i_55_98 ?_
                exact h
            · replace h := h.2 e8
              refine Y_iconst (v := 0) i_55_70 (by decide) ?_
              refine Y_iv1 (L0 := [.ref 18, .int 0]) i_55_71 ow_55 lm_4_31 ((k_18 hG).trans ow_56.symm) rfl mx_56 rfl rfl hd_55 ?_
              refine Y_al0 i_56_0 ?_
              refine Y_gI (v := ((F 18 9) - 1)) i_56_1 ow_56 lf_4_28 (by decide) (k_18 hG) (by simp [wF, wJ, va_up, cpR, bF, bA]) ?_
              refine Y_bipush (v := 40) i_56_4 (by decide) ?_
              refine Y_cge i_56_6 (fun e10 => ?_) (fun e10 => ?_)
              · replace h := h.1 e10
                refine Y_al0 i_56_9 ?_
                refine Y_gR i_56_10 ow_56 lf_4_15 (k_18 hG) (r_18_8 hG) ?_
                refine Y_al0 i_56_13 ?_
                refine Y_gI (v := ((F 18 9) - 1)) i_56_14 ow_56 lf_4_28 (by decide) (k_18 hG) (by simp [wF, wJ, va_up, cpR, bF, bA]) ?_
                refine Y_il1 i_56_17 ?_
                refine Y_iast i_56_18 (k_20 hG) (l_20 hG) o7 rfl ?_
                refine Y_al0 i_56_19 ?_
                refine Y_dup i_56_20 rfl ?_
                refine Y_gI (v := ((F 18 9) - 1)) i_56_21 ow_56 lf_4_28 (by decide) (k_18 hG) (by simp [wF, wJ, va_up, cpR, bF, bA]) ?_
                refine Y_iconst (v := 1) i_56_24 (by decide) ?_
                refine Y_iadd i_56_25 ?_
                refine Y_pI i_56_26 ow_56 lf_4_28 (k_18 hG) ?_
                refine Y_vret i_56_29 rt_56 (KKv ?_)
                refine Y_goto i_55_74 ?_
                refine Y_ii1 (v := 1) i_55_95 (by decide) rfl ?_
                refine Y_goto i_55_98 ?_
                exact h
              · replace h := h.2 e10
                refine Y_vret i_56_29 rt_56 (KKv ?_)
                refine Y_goto i_55_74 ?_
                refine Y_ii1 (v := 1) i_55_95 (by decide) rfl ?_
                refine Y_goto i_55_98 ?_
                exact h
          · replace h := h.2 e6
            refine Y_iconst (v := 0) i_57_7 (by decide) ?_
            refine Y_iret i_57_8 rt_57 (KKi ?_)
            refine Y_zF i_55_63 (by decide) ?_
            refine Y_iconst (v := 1) i_55_66 (by decide) ?_
            refine Y_goto i_55_67 ?_
            refine Y_iv1 (L0 := [.ref 18, .int 1]) i_55_71 ow_55 lm_4_31 ((k_18 hG).trans ow_56.symm) rfl mx_56 rfl rfl hd_55 ?_
            refine Y_al0 i_56_0 ?_
            refine Y_gI (v := (F 18 9)) i_56_1 ow_56 lf_4_28 (by decide) (k_18 hG) rfl ?_
            refine Y_bipush (v := 40) i_56_4 (by decide) ?_
            refine Y_cge i_56_6 (fun e11 => ?_) (fun e11 => ?_)
            · replace h := h.1 e11
              refine Y_al0 i_56_9 ?_
              refine Y_gR i_56_10 ow_56 lf_4_15 (k_18 hG) (r_18_8 hG) ?_
              refine Y_al0 i_56_13 ?_
              refine Y_gI (v := (F 18 9)) i_56_14 ow_56 lf_4_28 (by decide) (k_18 hG) rfl ?_
              refine Y_il1 i_56_17 ?_
              have o12 := h.1
              replace h := h.2
              refine Y_iast i_56_18 (k_20 hG) (l_20 hG) o12 rfl ?_
              refine Y_al0 i_56_19 ?_
              refine Y_dup i_56_20 rfl ?_
              refine Y_gI (v := (F 18 9)) i_56_21 ow_56 lf_4_28 (by decide) (k_18 hG) rfl ?_
              refine Y_iconst (v := 1) i_56_24 (by decide) ?_
              refine Y_iadd i_56_25 ?_
              refine Y_pI i_56_26 ow_56 lf_4_28 (k_18 hG) ?_
              refine Y_vret i_56_29 rt_56 (KKv ?_)
              refine Y_goto i_55_74 ?_
              refine Y_ii1 (v := 1) i_55_95 (by decide) rfl ?_
              refine Y_goto i_55_98 ?_
              exact h
            · replace h := h.2 e11
              refine Y_vret i_56_29 rt_56 (KKv ?_)
              refine Y_goto i_55_74 ?_
              refine Y_ii1 (v := 1) i_55_95 (by decide) rfl ?_
              refine Y_goto i_55_98 ?_
              exact h
        · replace h := h.2 e5
          refine Y_al0 i_55_77 ?_
          refine Y_iv0 (L0 := [.ref 18]) i_55_78 ow_55 lm_4_39 ((k_18 hG).trans ow_57.symm) rfl mx_57 rfl rfl hd_55 ?_
          refine Y_al0 i_57_0 ?_
          refine Y_gI (v := (F 18 9)) i_57_1 ow_57 lf_4_28 (by decide) (k_18 hG) rfl ?_
          refine Y_zgt i_57_4 (fun e13 => ?_) (fun e13 => ?_)
          · replace h := h.1 e13
            refine Y_al0 i_57_9 ?_
            refine Y_dup i_57_10 rfl ?_
            refine Y_gI (v := (F 18 9)) i_57_11 ow_57 lf_4_28 (by decide) (k_18 hG) rfl ?_
            refine Y_iconst (v := 1) i_57_14 (by decide) ?_
            refine Y_isub i_57_15 ?_
            refine Y_pI i_57_16 ow_57 lf_4_28 (k_18 hG) ?_
            refine Y_al0 i_57_19 ?_
            refine Y_gR i_57_20 ow_57 lf_4_15 (k_18 hG) (r_18_8 hG) ?_
            refine Y_al0 i_57_23 ?_
            refine Y_gI (v := ((F 18 9) - 1)) i_57_24 ow_57 lf_4_28 (by decide) (k_18 hG) (by simp [wF, wJ, va_up, cpR, bF, bA]) ?_
            have o14 := h.1
            replace h := h.2
            refine Y_iaload (k := ((F 18 9) - 1).toNatClampNeg) (v := (A 20 ((F 18 9) - 1).toNatClampNeg)) i_57_27 (k_20 hG) (l_20 hG) o14 rfl rfl ?_
            refine Y_iret i_57_28 rt_57 (KKi ?_)
            refine Y_is3 i_55_81 rfl ?_
            refine Y_al0 i_55_82 ?_
            refine Y_il2 i_55_83 ?_
            refine Y_al0 i_55_84 ?_
            refine Y_iv0 (L0 := [.ref 18]) i_55_85 ow_55 lm_4_39 ((k_18 hG).trans ow_57.symm) rfl mx_57 rfl rfl hd_55 ?_
            refine Y_al0 i_57_0 ?_
            refine Y_gI (v := ((F 18 9) - 1)) i_57_1 ow_57 lf_4_28 (by decide) (k_18 hG) (by simp [wF, wJ, va_up, cpR, bF, bA]) ?_
            refine Y_zgt i_57_4 (fun e15 => ?_) (fun e15 => ?_)
            · replace h := h.1 e15
              refine Y_al0 i_57_9 ?_
              refine Y_dup i_57_10 rfl ?_
              refine Y_gI (v := ((F 18 9) - 1)) i_57_11 ow_57 lf_4_28 (by decide) (k_18 hG) (by simp [wF, wJ, va_up, cpR, bF, bA]) ?_
              refine Y_iconst (v := 1) i_57_14 (by decide) ?_
              refine Y_isub i_57_15 ?_
              refine Y_pI i_57_16 ow_57 lf_4_28 (k_18 hG) ?_
              refine Y_al0 i_57_19 ?_
              refine Y_gR i_57_20 ow_57 lf_4_15 (k_18 hG) (r_18_8 hG) ?_
              refine Y_al0 i_57_23 ?_
              refine Y_gI (v := (((F 18 9) - 1) - 1)) i_57_24 ow_57 lf_4_28 (by decide) (k_18 hG) (by simp [wF, wJ, va_up, cpR, bF, bA]) ?_
              have o16 := h.1
              replace h := h.2
              refine Y_iaload (k := (((F 18 9) - 1) - 1).toNatClampNeg) (v := (A 20 (((F 18 9) - 1) - 1).toNatClampNeg)) i_57_27 (k_20 hG) (l_20 hG) o16 rfl rfl ?_
              refine Y_iret i_57_28 rt_57 (KKi ?_)
              refine Y_il3 i_55_88 ?_
              refine Y_is_3 (L0 := [.int (A 19 x1.toNatClampNeg), .int (A 20 (((F 18 9) - 1) - 1).toNatClampNeg), .int (A 20 ((F 18 9) - 1).toNatClampNeg)]) i_55_89 ow_55 lm_4_43 rfl mx_59 rfl rfl hd_55 ?_
              refine c_59 hG (KKi ?_)
              refine Y_iv1 (L0 := [.ref 18, .int (opS (A 19 x1.toNatClampNeg) (A 20 (((F 18 9) - 1) - 1).toNatClampNeg) (A 20 ((F 18 9) - 1).toNatClampNeg))]) i_55_92 ow_55 lm_4_31 ((k_18 hG).trans ow_56.symm) rfl mx_56 rfl rfl hd_55 ?_
              refine Y_al0 i_56_0 ?_
              refine Y_gI (v := (((F 18 9) - 1) - 1)) i_56_1 ow_56 lf_4_28 (by decide) (k_18 hG) (by simp [wF, wJ, va_up, cpR, bF, bA]) ?_
              refine Y_bipush (v := 40) i_56_4 (by decide) ?_
              refine Y_cge i_56_6 (fun e17 => ?_) (fun e17 => ?_)
              · replace h := h.1 e17
                refine Y_al0 i_56_9 ?_
                refine Y_gR i_56_10 ow_56 lf_4_15 (k_18 hG) (r_18_8 hG) ?_
                refine Y_al0 i_56_13 ?_
                refine Y_gI (v := (((F 18 9) - 1) - 1)) i_56_14 ow_56 lf_4_28 (by decide) (k_18 hG) (by simp [wF, wJ, va_up, cpR, bF, bA]) ?_
                refine Y_il1 i_56_17 ?_
                refine Y_iast i_56_18 (k_20 hG) (l_20 hG) o16 rfl ?_
                refine Y_al0 i_56_19 ?_
                refine Y_dup i_56_20 rfl ?_
                refine Y_gI (v := (((F 18 9) - 1) - 1)) i_56_21 ow_56 lf_4_28 (by decide) (k_18 hG) (by simp [wF, wJ, va_up, cpR, bF, bA]) ?_
                refine Y_iconst (v := 1) i_56_24 (by decide) ?_
                refine Y_iadd i_56_25 ?_
                refine Y_pI i_56_26 ow_56 lf_4_28 (k_18 hG) ?_
                refine Y_vret i_56_29 rt_56 (KKv ?_)
                refine Y_ii1 (v := 1) i_55_95 (by decide) rfl ?_
                refine Y_goto i_55_98 ?_
                exact h
              · replace h := h.2 e17
                refine Y_vret i_56_29 rt_56 (KKv ?_)
                refine Y_ii1 (v := 1) i_55_95 (by decide) rfl ?_
                refine Y_goto i_55_98 ?_
                exact h
            · replace h := h.2 e15
              refine Y_iconst (v := 0) i_57_7 (by decide) ?_
              refine Y_iret i_57_8 rt_57 (KKi ?_)
              refine Y_il3 i_55_88 ?_
              refine Y_is_3 (L0 := [.int (A 19 x1.toNatClampNeg), .int 0, .int (A 20 ((F 18 9) - 1).toNatClampNeg)]) i_55_89 ow_55 lm_4_43 rfl mx_59 rfl rfl hd_55 ?_
              refine c_59 hG (KKi ?_)
              refine Y_iv1 (L0 := [.ref 18, .int (opS (A 19 x1.toNatClampNeg) 0 (A 20 ((F 18 9) - 1).toNatClampNeg))]) i_55_92 ow_55 lm_4_31 ((k_18 hG).trans ow_56.symm) rfl mx_56 rfl rfl hd_55 ?_
              refine Y_al0 i_56_0 ?_
              refine Y_gI (v := ((F 18 9) - 1)) i_56_1 ow_56 lf_4_28 (by decide) (k_18 hG) (by simp [wF, wJ, va_up, cpR, bF, bA]) ?_
              refine Y_bipush (v := 40) i_56_4 (by decide) ?_
              refine Y_cge i_56_6 (fun e18 => ?_) (fun e18 => ?_)
              · replace h := h.1 e18
                refine Y_al0 i_56_9 ?_
                refine Y_gR i_56_10 ow_56 lf_4_15 (k_18 hG) (r_18_8 hG) ?_
                refine Y_al0 i_56_13 ?_
                refine Y_gI (v := ((F 18 9) - 1)) i_56_14 ow_56 lf_4_28 (by decide) (k_18 hG) (by simp [wF, wJ, va_up, cpR, bF, bA]) ?_
                refine Y_il1 i_56_17 ?_
                refine Y_iast i_56_18 (k_20 hG) (l_20 hG) o14 rfl ?_
                refine Y_al0 i_56_19 ?_
                refine Y_dup i_56_20 rfl ?_
                refine Y_gI (v := ((F 18 9) - 1)) i_56_21 ow_56 lf_4_28 (by decide) (k_18 hG) (by simp [wF, wJ, va_up, cpR, bF, bA]) ?_
                refine Y_iconst (v := 1) i_56_24 (by decide) ?_
                refine Y_iadd i_56_25 ?_
                refine Y_pI i_56_26 ow_56 lf_4_28 (k_18 hG) ?_
                refine Y_vret i_56_29 rt_56 (KKv ?_)
                refine Y_ii1 (v := 1) i_55_95 (by decide) rfl ?_
                refine Y_goto i_55_98 ?_
                exact h
              · replace h := h.2 e18
                refine Y_vret i_56_29 rt_56 (KKv ?_)
                refine Y_ii1 (v := 1) i_55_95 (by decide) rfl ?_
                refine Y_goto i_55_98 ?_
                exact h
          · replace h := h.2 e13
            refine Y_iconst (v := 0) i_57_7 (by decide) ?_
            refine Y_iret i_57_8 rt_57 (KKi ?_)
            refine Y_is3 i_55_81 rfl ?_
            refine Y_al0 i_55_82 ?_
            refine Y_il2 i_55_83 ?_
            refine Y_al0 i_55_84 ?_
            refine Y_iv0 (L0 := [.ref 18]) i_55_85 ow_55 lm_4_39 ((k_18 hG).trans ow_57.symm) rfl mx_57 rfl rfl hd_55 ?_
            refine Y_al0 i_57_0 ?_
            refine Y_gI (v := (F 18 9)) i_57_1 ow_57 lf_4_28 (by decide) (k_18 hG) rfl ?_
            refine Y_zgt i_57_4 (fun e19 => ?_) (fun e19 => ?_)
            · replace h := h.1 e19
              refine Y_al0 i_57_9 ?_
              refine Y_dup i_57_10 rfl ?_
              refine Y_gI (v := (F 18 9)) i_57_11 ow_57 lf_4_28 (by decide) (k_18 hG) rfl ?_
              refine Y_iconst (v := 1) i_57_14 (by decide) ?_
              refine Y_isub i_57_15 ?_
              refine Y_pI i_57_16 ow_57 lf_4_28 (k_18 hG) ?_
              refine Y_al0 i_57_19 ?_
              refine Y_gR i_57_20 ow_57 lf_4_15 (k_18 hG) (r_18_8 hG) ?_
              refine Y_al0 i_57_23 ?_
              refine Y_gI (v := ((F 18 9) - 1)) i_57_24 ow_57 lf_4_28 (by decide) (k_18 hG) (by simp [wF, wJ, va_up, cpR, bF, bA]) ?_
              have o20 := h.1
              replace h := h.2
              refine Y_iaload (k := ((F 18 9) - 1).toNatClampNeg) (v := (A 20 ((F 18 9) - 1).toNatClampNeg)) i_57_27 (k_20 hG) (l_20 hG) o20 rfl rfl ?_
              refine Y_iret i_57_28 rt_57 (KKi ?_)
              refine Y_il3 i_55_88 ?_
              refine Y_is_3 (L0 := [.int (A 19 x1.toNatClampNeg), .int (A 20 ((F 18 9) - 1).toNatClampNeg), .int 0]) i_55_89 ow_55 lm_4_43 rfl mx_59 rfl rfl hd_55 ?_
              refine c_59 hG (KKi ?_)
              refine Y_iv1 (L0 := [.ref 18, .int (opS (A 19 x1.toNatClampNeg) (A 20 ((F 18 9) - 1).toNatClampNeg) 0)]) i_55_92 ow_55 lm_4_31 ((k_18 hG).trans ow_56.symm) rfl mx_56 rfl rfl hd_55 ?_
              refine Y_al0 i_56_0 ?_
              refine Y_gI (v := ((F 18 9) - 1)) i_56_1 ow_56 lf_4_28 (by decide) (k_18 hG) (by simp [wF, wJ, va_up, cpR, bF, bA]) ?_
              refine Y_bipush (v := 40) i_56_4 (by decide) ?_
              refine Y_cge i_56_6 (fun e21 => ?_) (fun e21 => ?_)
              · replace h := h.1 e21
                refine Y_al0 i_56_9 ?_
                refine Y_gR i_56_10 ow_56 lf_4_15 (k_18 hG) (r_18_8 hG) ?_
                refine Y_al0 i_56_13 ?_
                refine Y_gI (v := ((F 18 9) - 1)) i_56_14 ow_56 lf_4_28 (by decide) (k_18 hG) (by simp [wF, wJ, va_up, cpR, bF, bA]) ?_
                refine Y_il1 i_56_17 ?_
                refine Y_iast i_56_18 (k_20 hG) (l_20 hG) o20 rfl ?_
                refine Y_al0 i_56_19 ?_
                refine Y_dup i_56_20 rfl ?_
                refine Y_gI (v := ((F 18 9) - 1)) i_56_21 ow_56 lf_4_28 (by decide) (k_18 hG) (by simp [wF, wJ, va_up, cpR, bF, bA]) ?_
                refine Y_iconst (v := 1) i_56_24 (by decide) ?_
                refine Y_iadd i_56_25 ?_
                refine Y_pI i_56_26 ow_56 lf_4_28 (k_18 hG) ?_
                refine Y_vret i_56_29 rt_56 (KKv ?_)
                refine Y_ii1 (v := 1) i_55_95 (by decide) rfl ?_
                refine Y_goto i_55_98 ?_
                exact h
              · replace h := h.2 e21
                refine Y_vret i_56_29 rt_56 (KKv ?_)
                refine Y_ii1 (v := 1) i_55_95 (by decide) rfl ?_
                refine Y_goto i_55_98 ?_
                exact h
            · replace h := h.2 e19
              refine Y_iconst (v := 0) i_57_7 (by decide) ?_
              refine Y_iret i_57_8 rt_57 (KKi ?_)
              refine Y_il3 i_55_88 ?_
              refine Y_is_3 (L0 := [.int (A 19 x1.toNatClampNeg), .int 0, .int 0]) i_55_89 ow_55 lm_4_43 rfl mx_59 rfl rfl hd_55 ?_
              refine c_59 hG (KKi ?_)
              refine Y_iv1 (L0 := [.ref 18, .int (opS (A 19 x1.toNatClampNeg) 0 0)]) i_55_92 ow_55 lm_4_31 ((k_18 hG).trans ow_56.symm) rfl mx_56 rfl rfl hd_55 ?_
              refine Y_al0 i_56_0 ?_
              refine Y_gI (v := (F 18 9)) i_56_1 ow_56 lf_4_28 (by decide) (k_18 hG) rfl ?_
              refine Y_bipush (v := 40) i_56_4 (by decide) ?_
              refine Y_cge i_56_6 (fun e22 => ?_) (fun e22 => ?_)
              · replace h := h.1 e22
                refine Y_al0 i_56_9 ?_
                refine Y_gR i_56_10 ow_56 lf_4_15 (k_18 hG) (r_18_8 hG) ?_
                refine Y_al0 i_56_13 ?_
                refine Y_gI (v := (F 18 9)) i_56_14 ow_56 lf_4_28 (by decide) (k_18 hG) rfl ?_
                refine Y_il1 i_56_17 ?_
                have o23 := h.1
                replace h := h.2
                refine Y_iast i_56_18 (k_20 hG) (l_20 hG) o23 rfl ?_
                refine Y_al0 i_56_19 ?_
                refine Y_dup i_56_20 rfl ?_
                refine Y_gI (v := (F 18 9)) i_56_21 ow_56 lf_4_28 (by decide) (k_18 hG) rfl ?_
                refine Y_iconst (v := 1) i_56_24 (by decide) ?_
                refine Y_iadd i_56_25 ?_
                refine Y_pI i_56_26 ow_56 lf_4_28 (k_18 hG) ?_
                refine Y_vret i_56_29 rt_56 (KKv ?_)
                refine Y_ii1 (v := 1) i_55_95 (by decide) rfl ?_
                refine Y_goto i_55_98 ?_
                exact h
              · replace h := h.2 e22
                refine Y_vret i_56_29 rt_56 (KKv ?_)
                refine Y_ii1 (v := 1) i_55_95 (by decide) rfl ?_
                refine Y_goto i_55_98 ?_
                exact h
      · replace h := h.2 e4
        refine Y_al0 i_55_40 ?_
        refine Y_al0 i_55_41 ?_
        refine Y_il2 i_55_42 ?_
        refine Y_iv1 (L0 := [.ref 18, .int (A 19 x1.toNatClampNeg)]) i_55_43 ow_55 lm_4_35 ((k_18 hG).trans ow_58.symm) rfl mx_58 rfl rfl hd_55 ?_
        refine c_58 hG (KKi ?_)
        refine Y_iv1 (L0 := [.ref 18, .int (valO F (A 19 x1.toNatClampNeg))]) i_55_46 ow_55 lm_4_31 ((k_18 hG).trans ow_56.symm) rfl mx_56 rfl rfl hd_55 ?_
        refine Y_al0 i_56_0 ?_
        refine Y_gI (v := (F 18 9)) i_56_1 ow_56 lf_4_28 (by decide) (k_18 hG) rfl ?_
        refine Y_bipush (v := 40) i_56_4 (by decide) ?_
        refine Y_cge i_56_6 (fun e24 => ?_) (fun e24 => ?_)
        · replace h := h.1 e24
          refine Y_al0 i_56_9 ?_
          refine Y_gR i_56_10 ow_56 lf_4_15 (k_18 hG) (r_18_8 hG) ?_
          refine Y_al0 i_56_13 ?_
          refine Y_gI (v := (F 18 9)) i_56_14 ow_56 lf_4_28 (by decide) (k_18 hG) rfl ?_
          refine Y_il1 i_56_17 ?_
          have o25 := h.1
          replace h := h.2
          refine Y_iast i_56_18 (k_20 hG) (l_20 hG) o25 rfl ?_
          refine Y_al0 i_56_19 ?_
          refine Y_dup i_56_20 rfl ?_
          refine Y_gI (v := (F 18 9)) i_56_21 ow_56 lf_4_28 (by decide) (k_18 hG) rfl ?_
          refine Y_iconst (v := 1) i_56_24 (by decide) ?_
          refine Y_iadd i_56_25 ?_
          refine Y_pI i_56_26 ow_56 lf_4_28 (k_18 hG) ?_
          refine Y_vret i_56_29 rt_56 (KKv ?_)
          refine Y_goto i_55_49 ?_
          refine Y_ii1 (v := 1) i_55_95 (by decide) rfl ?_
          refine Y_goto i_55_98 ?_
          exact h
        · replace h := h.2 e24
          refine Y_vret i_56_29 rt_56 (KKv ?_)
          refine Y_goto i_55_49 ?_
          refine Y_ii1 (v := 1) i_55_95 (by decide) rfl ?_
          refine Y_goto i_55_98 ?_
          exact h
    · replace h := h.2 e3
      refine Y_al0 i_55_26 ?_
      refine Y_il2 i_55_27 ?_
      refine Y_iv1 (L0 := [.ref 18, .int (A 19 x1.toNatClampNeg)]) i_55_28 ow_55 lm_4_31 ((k_18 hG).trans ow_56.symm) rfl mx_56 rfl rfl hd_55 ?_
      refine Y_al0 i_56_0 ?_
      refine Y_gI (v := (F 18 9)) i_56_1 ow_56 lf_4_28 (by decide) (k_18 hG) rfl ?_
      refine Y_bipush (v := 40) i_56_4 (by decide) ?_
      refine Y_cge i_56_6 (fun e26 => ?_) (fun e26 => ?_)
      · replace h := h.1 e26
        refine Y_al0 i_56_9 ?_
        refine Y_gR i_56_10 ow_56 lf_4_15 (k_18 hG) (r_18_8 hG) ?_
        refine Y_al0 i_56_13 ?_
        refine Y_gI (v := (F 18 9)) i_56_14 ow_56 lf_4_28 (by decide) (k_18 hG) rfl ?_
        refine Y_il1 i_56_17 ?_
        have o27 := h.1
        replace h := h.2
        refine Y_iast i_56_18 (k_20 hG) (l_20 hG) o27 rfl ?_
        refine Y_al0 i_56_19 ?_
        refine Y_dup i_56_20 rfl ?_
        refine Y_gI (v := (F 18 9)) i_56_21 ow_56 lf_4_28 (by decide) (k_18 hG) rfl ?_
        refine Y_iconst (v := 1) i_56_24 (by decide) ?_
        refine Y_iadd i_56_25 ?_
        refine Y_pI i_56_26 ow_56 lf_4_28 (k_18 hG) ?_
        refine Y_vret i_56_29 rt_56 (KKv ?_)
        refine Y_goto i_55_31 ?_
        refine Y_ii1 (v := 1) i_55_95 (by decide) rfl ?_
        refine Y_goto i_55_98 ?_
        exact h
      · replace h := h.2 e26
        refine Y_vret i_56_29 rt_56 (KKv ?_)
        refine Y_goto i_55_31 ?_
        refine Y_ii1 (v := 1) i_55_95 (by decide) rfl ?_
        refine Y_goto i_55_98 ?_
        exact h
  · replace h := h.2 e1
    refine Y_al0 i_55_101 ?_
    refine Y_iv0 (L0 := [.ref 18]) i_55_102 ow_55 lm_4_39 ((k_18 hG).trans ow_57.symm) rfl mx_57 rfl rfl hd_55 ?_
    refine Y_al0 i_57_0 ?_
    refine Y_gI (v := (F 18 9)) i_57_1 ow_57 lf_4_28 (by decide) (k_18 hG) rfl ?_
    refine Y_zgt i_57_4 (fun e28 => ?_) (fun e28 => ?_)
    · replace h := h.1 e28
      refine Y_al0 i_57_9 ?_
      refine Y_dup i_57_10 rfl ?_
      refine Y_gI (v := (F 18 9)) i_57_11 ow_57 lf_4_28 (by decide) (k_18 hG) rfl ?_
      refine Y_iconst (v := 1) i_57_14 (by decide) ?_
      refine Y_isub i_57_15 ?_
      refine Y_pI i_57_16 ow_57 lf_4_28 (k_18 hG) ?_
      refine Y_al0 i_57_19 ?_
      refine Y_gR i_57_20 ow_57 lf_4_15 (k_18 hG) (r_18_8 hG) ?_
      refine Y_al0 i_57_23 ?_
      refine Y_gI (v := ((F 18 9) - 1)) i_57_24 ow_57 lf_4_28 (by decide) (k_18 hG) (by simp [wF, wJ, va_up, cpR, bF, bA]) ?_
      have o29 := h.1
      replace h := h.2
      refine Y_iaload (k := ((F 18 9) - 1).toNatClampNeg) (v := (A 20 ((F 18 9) - 1).toNatClampNeg)) i_57_27 (k_20 hG) (l_20 hG) o29 rfl rfl ?_
      refine Y_iret i_57_28 rt_57 (KKi ?_)
      exact Y_iret i_55_105 rt_55 h
    · replace h := h.2 e28
      refine Y_iconst (v := 0) i_57_7 (by decide) ?_
      refine Y_iret i_57_8 rt_57 (KKi ?_)
      exact Y_iret i_55_105 rt_55 h
/- 56 Rule.push(I)V -/
theorem t_56_0 {d : Nat} {F A : Nat → Nat → Int32} {J : Nat → Nat → Int64} {G : pG} {Q : pR → pM → Prop} {SL p q : Nat} {x1 : Int32} (hG : Geo G SL p q) (h : (((F 18 9) < 40 → inB (F 18 9) 40 = true ∧ (Q (.inl none) ((wF F 18 9 ((F 18 9) + 1)), (wF A 20 (F 18 9).toNatClampNeg x1), J, G))) ∧ (¬ (F 18 9) < 40 → Q (.inl none) (F, A, J, G)))) : X d 56 0 [.ref 18, .int x1] [] (F, A, J, G) Q := by
  refine Y_al0 i_56_0 ?_
  refine Y_gI (v := (F 18 9)) i_56_1 ow_56 lf_4_28 (by decide) (k_18 hG) rfl ?_
  refine Y_bipush (v := 40) i_56_4 (by decide) ?_
  refine Y_cge i_56_6 (fun e1 => ?_) (fun e1 => ?_)
  · replace h := h.1 e1
    refine Y_al0 i_56_9 ?_
    refine Y_gR i_56_10 ow_56 lf_4_15 (k_18 hG) (r_18_8 hG) ?_
    refine Y_al0 i_56_13 ?_
    refine Y_gI (v := (F 18 9)) i_56_14 ow_56 lf_4_28 (by decide) (k_18 hG) rfl ?_
    refine Y_il1 i_56_17 ?_
    have o2 := h.1
    replace h := h.2
    refine Y_iast i_56_18 (k_20 hG) (l_20 hG) o2 rfl ?_
    refine Y_al0 i_56_19 ?_
    refine Y_dup i_56_20 rfl ?_
    refine Y_gI (v := (F 18 9)) i_56_21 ow_56 lf_4_28 (by decide) (k_18 hG) rfl ?_
    refine Y_iconst (v := 1) i_56_24 (by decide) ?_
    refine Y_iadd i_56_25 ?_
    refine Y_pI i_56_26 ow_56 lf_4_28 (k_18 hG) ?_
    exact Y_vret i_56_29 rt_56 h
  · replace h := h.2 e1
    exact Y_vret i_56_29 rt_56 h
/- 57 Rule.pop()I -/
theorem t_57_0 {d : Nat} {F A : Nat → Nat → Int32} {J : Nat → Nat → Int64} {G : pG} {Q : pR → pM → Prop} {SL p q : Nat} (hG : Geo G SL p q) (h : ((0 < (F 18 9) → inB ((F 18 9) - 1) 40 = true ∧ (Q (.inl (some (.int (A 20 ((F 18 9) - 1).toNatClampNeg)))) ((wF F 18 9 ((F 18 9) - 1)), A, J, G))) ∧ (¬ 0 < (F 18 9) → Q (.inl (some (.int 0))) (F, A, J, G)))) : X d 57 0 [.ref 18] [] (F, A, J, G) Q := by
  refine Y_al0 i_57_0 ?_
  refine Y_gI (v := (F 18 9)) i_57_1 ow_57 lf_4_28 (by decide) (k_18 hG) rfl ?_
  refine Y_zgt i_57_4 (fun e1 => ?_) (fun e1 => ?_)
  · replace h := h.1 e1
    refine Y_al0 i_57_9 ?_
    refine Y_dup i_57_10 rfl ?_
    refine Y_gI (v := (F 18 9)) i_57_11 ow_57 lf_4_28 (by decide) (k_18 hG) rfl ?_
    refine Y_iconst (v := 1) i_57_14 (by decide) ?_
    refine Y_isub i_57_15 ?_
    refine Y_pI i_57_16 ow_57 lf_4_28 (k_18 hG) ?_
    refine Y_al0 i_57_19 ?_
    refine Y_gR i_57_20 ow_57 lf_4_15 (k_18 hG) (r_18_8 hG) ?_
    refine Y_al0 i_57_23 ?_
    refine Y_gI (v := ((F 18 9) - 1)) i_57_24 ow_57 lf_4_28 (by decide) (k_18 hG) (by simp [wF, wJ, va_up, cpR, bF, bA]) ?_
    have o2 := h.1
    replace h := h.2
    refine Y_iaload (k := ((F 18 9) - 1).toNatClampNeg) (v := (A 20 ((F 18 9) - 1).toNatClampNeg)) i_57_27 (k_20 hG) (l_20 hG) o2 rfl rfl ?_
    exact Y_iret i_57_28 rt_57 h
  · replace h := h.2 e1
    refine Y_iconst (v := 0) i_57_7 (by decide) ?_
    exact Y_iret i_57_8 rt_57 h
/- 61 State.begin()V -/
theorem t_61_0 {d : Nat} {F A : Nat → Nat → Int32} {J : Nat → Nat → Int64} {G : pG} {Q : pR → pM → Prop} {SL p q : Nat} (hG : Geo G SL p q) (h : X d 75 0 [.ref 27, .null] [] (F, A, J, G) (KK (d + 1) 61 7 [.ref 21] [] Q)) : X (d + 1) 61 0 [.ref 21] [] (F, A, J, G) Q := by
  refine Y_al0 i_61_0 ?_
  refine Y_gR i_61_1 ow_61 lf_5_33 (k_21 hG) (r_21_0 hG) ?_
  exact Y_iv0 (L0 := [.ref 27, .null]) i_61_4 ow_61 lm_5_41 ((k_27 hG).trans ow_75.symm) rfl mx_75 rfl rfl hd_61 h
theorem k_61_7 {d : Nat} {F A : Nat → Nat → Int32} {J : Nat → Nat → Int64} {G : pG} {Q : pR → pM → Prop} {SL p q : Nat} (hG : Geo G SL p q) (h : Q (.inl none) ((wF (wF (wF F 22 0 0) 21 2 0) 21 6 1), A, J, G)) : KK (d + 1) 61 7 [.ref 21] [] Q (.inl none) (F, A, J, G) := by
  refine KKv ?_
  refine Y_al0 i_61_7 ?_
  refine Y_gR i_61_8 ow_61 lf_5_12 (k_21 hG) (r_21_1 hG) ?_
  refine Y_iconst (v := 0) i_61_11 (by decide) ?_
  refine Y_pI i_61_12 ow_61 lf_5_44 (k_22 hG) ?_
  refine Y_al0 i_61_15 ?_
  refine Y_iconst (v := 0) i_61_16 (by decide) ?_
  refine Y_pI i_61_17 ow_61 lf_5_48 (k_21 hG) ?_
  refine Y_al0 i_61_20 ?_
  refine Y_iconst (v := 1) i_61_21 (by decide) ?_
  refine Y_pB i_61_22 ow_61 lf_5_37 (k_21 hG) (by decide) ?_
  exact Y_vret i_61_25 rt_61 h
/- 62 State.become(LTableTower$State;)V -/
theorem t_62a_0 {d : Nat} {F A : Nat → Nat → Int32} {J : Nat → Nat → Int64} {G : pG} {Q : pR → pM → Prop} {SL p q : Nat} (hG : Geo G SL p q) (h : (¬ (0 : Int32) < 0 ∧ ¬ (0 : Int32) < 0 ∧ ¬ ((F 22 0) * 14) < 0 ∧ (0 : Int32).toNatClampNeg + ((F 22 0) * 14).toNatClampNeg ≤ 560 ∧ (0 : Int32).toNatClampNeg + ((F 22 0) * 14).toNatClampNeg ≤ 560) ∧ (Q (.inl none) ((wF (wF (wF (bF F 41 27) 36 0 (F 22 0)) 35 2 (F 21 2)) 35 6 1), (cpR (cpR (cpR (cpR (bA A 41 27) 37 23 0 0 ((F 22 0) * 14).toNatClampNeg) 38 24 0 0 8) 39 25 0 0 8) 40 26 0 0 3), J, G))) : X (d + 1) 62 0 [.ref 35, .ref 21] [] (F, A, J, G) Q := by
  refine Y_al0 i_62_0 ?_
  refine Y_gR i_62_1 ow_62 lf_5_33 (k_35 hG) (r_35_0 hG) ?_
  refine Y_al1 i_62_4 ?_
  refine Y_gR i_62_5 ow_62 lf_5_33 (k_21 hG) (r_21_0 hG) ?_
  refine Y_iv1 (L0 := [.ref 41, .ref 27]) i_62_8 ow_62 lm_5_51 ((k_41 hG).trans ow_76.symm) rfl mx_76 rfl rfl hd_62 ?_
  refine c_76_41_27 hG tw_41 (KKv ?_)
  refine Y_al0 i_62_11 ?_
  refine Y_gR i_62_12 ow_62 lf_5_12 (k_35 hG) (r_35_1 hG) ?_
  refine Y_al1 i_62_15 ?_
  refine Y_gR i_62_16 ow_62 lf_5_12 (k_21 hG) (r_21_1 hG) ?_
  refine Y_iv1 (L0 := [.ref 36, .ref 22]) i_62_19 ow_62 lm_5_55 ((k_36 hG).trans ow_1.symm) rfl mx_1 rfl rfl hd_62 ?_
  refine Y_al0 i_1_0 ?_
  refine Y_al1 i_1_1 ?_
  refine Y_gI (v := (F 22 0)) i_1_2 ow_1 lf_0_15 (by decide) (k_22 hG) (by simp [wF, wJ, va_up, cpR, bF, bA]) ?_
  refine Y_pI i_1_5 ow_1 lf_0_15 (k_36 hG) ?_
  refine Y_al1 i_1_8 ?_
  refine Y_gR i_1_9 ow_1 lf_0_11 (k_22 hG) (r_22_1 hG) ?_
  refine Y_iconst (v := 0) i_1_12 (by decide) ?_
  refine Y_al0 i_1_13 ?_
  refine Y_gR i_1_14 ow_1 lf_0_11 (k_36 hG) (r_36_1 hG) ?_
  refine Y_iconst (v := 0) i_1_17 (by decide) ?_
  refine Y_al0 i_1_18 ?_
  refine Y_gI (v := (F 22 0)) i_1_19 ow_1 lf_0_15 (by decide) (k_36 hG) (by simp [wF, wJ, va_up, cpR, bF, bA]) ?_
  refine Y_bipush (v := 14) i_1_22 (by decide) ?_
  refine Y_imul i_1_24 ?_
  have o1 := h.1
  replace h := h.2
  refine Y_acp (ksp := 0) (kdp := 0) (kn := ((F 22 0) * 14).toNatClampNeg) i_1_25 ow_1 lm_0_19 rfl (k_37 hG) (k_23 hG) (l_37 hG) (l_23 hG) o1 (by decide) (by decide) rfl ?_
  refine Y_vret i_1_28 rt_1 (KKv ?_)
  refine Y_al0 i_62_22 ?_
  refine Y_al1 i_62_23 ?_
  refine Y_gI (v := (F 21 2)) i_62_24 ow_62 lf_5_48 (by decide) (k_21 hG) (by simp [wF, wJ, va_up, cpR, bF, bA]) ?_
  refine Y_pI i_62_27 ow_62 lf_5_48 (k_35 hG) ?_
  refine Y_al1 i_62_30 ?_
  refine Y_gR i_62_31 ow_62 lf_5_18 (k_21 hG) (r_21_3 hG) ?_
  refine Y_iconst (v := 0) i_62_34 (by decide) ?_
  refine Y_al0 i_62_35 ?_
  refine Y_gR i_62_36 ow_62 lf_5_18 (k_35 hG) (r_35_3 hG) ?_
  refine Y_iconst (v := 0) i_62_39 (by decide) ?_
  refine Y_bipush (v := 8) i_62_40 (by decide) ?_
  refine Y_acp (ksp := 0) (kdp := 0) (kn := 8) i_62_42 ow_62 lm_5_58 rfl (k_38 hG) (k_24 hG) (l_38 hG) (l_24 hG) (by decide) (by decide) (by decide) (by decide) ?_
  refine Y_al1 i_62_45 ?_
  refine Y_gR i_62_46 ow_62 lf_5_22 (k_21 hG) (r_21_4 hG) ?_
  refine Y_iconst (v := 0) i_62_49 (by decide) ?_
  refine Y_al0 i_62_50 ?_
  refine Y_gR i_62_51 ow_62 lf_5_22 (k_35 hG) (r_35_4 hG) ?_
  refine Y_iconst (v := 0) i_62_54 (by decide) ?_
  refine Y_bipush (v := 8) i_62_55 (by decide) ?_
  refine Y_acp (ksp := 0) (kdp := 0) (kn := 8) i_62_57 ow_62 lm_5_58 rfl (k_39 hG) (k_25 hG) (l_39 hG) (l_25 hG) (by decide) (by decide) (by decide) (by decide) ?_
  refine Y_al1 i_62_60 ?_
  refine Y_gR i_62_61 ow_62 lf_5_25 (k_21 hG) (r_21_5 hG) ?_
  refine Y_iconst (v := 0) i_62_64 (by decide) ?_
  refine Y_al0 i_62_65 ?_
  refine Y_gR i_62_66 ow_62 lf_5_25 (k_35 hG) (r_35_5 hG) ?_
  refine Y_iconst (v := 0) i_62_69 (by decide) ?_
  refine Y_iconst (v := 3) i_62_70 (by decide) ?_
  refine Y_acp (ksp := 0) (kdp := 0) (kn := 3) i_62_71 ow_62 lm_5_58 rfl (k_40 hG) (k_26 hG) (l_40 hG) (l_26 hG) (by decide) (by decide) (by decide) (by decide) ?_
  refine Y_al0 i_62_74 ?_
  refine Y_iconst (v := 1) i_62_75 (by decide) ?_
  refine Y_pB i_62_76 ow_62 lf_5_37 (k_35 hG) (by decide) ?_
  exact Y_vret i_62_79 rt_62 h
/- 62 State.become(LTableTower$State;)V -/
theorem t_62b_0 {d : Nat} {F A : Nat → Nat → Int32} {J : Nat → Nat → Int64} {G : pG} {Q : pR → pM → Prop} {SL p q : Nat} (hG : Geo G SL p q) (h : (¬ (0 : Int32) < 0 ∧ ¬ (0 : Int32) < 0 ∧ ¬ ((F 36 0) * 14) < 0 ∧ (0 : Int32).toNatClampNeg + ((F 36 0) * 14).toNatClampNeg ≤ 560 ∧ (0 : Int32).toNatClampNeg + ((F 36 0) * 14).toNatClampNeg ≤ 560) ∧ (Q (.inl none) ((wF (wF (wF (bF F 27 41) 22 0 (F 36 0)) 21 2 (F 35 2)) 21 6 1), (cpR (cpR (cpR (cpR (bA A 27 41) 23 37 0 0 ((F 36 0) * 14).toNatClampNeg) 24 38 0 0 8) 25 39 0 0 8) 26 40 0 0 3), J, G))) : X (d + 1) 62 0 [.ref 21, .ref 35] [] (F, A, J, G) Q := by
  refine Y_al0 i_62_0 ?_
  refine Y_gR i_62_1 ow_62 lf_5_33 (k_21 hG) (r_21_0 hG) ?_
  refine Y_al1 i_62_4 ?_
  refine Y_gR i_62_5 ow_62 lf_5_33 (k_35 hG) (r_35_0 hG) ?_
  refine Y_iv1 (L0 := [.ref 27, .ref 41]) i_62_8 ow_62 lm_5_51 ((k_27 hG).trans ow_76.symm) rfl mx_76 rfl rfl hd_62 ?_
  refine c_76_27_41 hG tw_27 (KKv ?_)
  refine Y_al0 i_62_11 ?_
  refine Y_gR i_62_12 ow_62 lf_5_12 (k_21 hG) (r_21_1 hG) ?_
  refine Y_al1 i_62_15 ?_
  refine Y_gR i_62_16 ow_62 lf_5_12 (k_35 hG) (r_35_1 hG) ?_
  refine Y_iv1 (L0 := [.ref 22, .ref 36]) i_62_19 ow_62 lm_5_55 ((k_22 hG).trans ow_1.symm) rfl mx_1 rfl rfl hd_62 ?_
  refine Y_al0 i_1_0 ?_
  refine Y_al1 i_1_1 ?_
  refine Y_gI (v := (F 36 0)) i_1_2 ow_1 lf_0_15 (by decide) (k_36 hG) (by simp [wF, wJ, va_up, cpR, bF, bA]) ?_
  refine Y_pI i_1_5 ow_1 lf_0_15 (k_22 hG) ?_
  refine Y_al1 i_1_8 ?_
  refine Y_gR i_1_9 ow_1 lf_0_11 (k_36 hG) (r_36_1 hG) ?_
  refine Y_iconst (v := 0) i_1_12 (by decide) ?_
  refine Y_al0 i_1_13 ?_
  refine Y_gR i_1_14 ow_1 lf_0_11 (k_22 hG) (r_22_1 hG) ?_
  refine Y_iconst (v := 0) i_1_17 (by decide) ?_
  refine Y_al0 i_1_18 ?_
  refine Y_gI (v := (F 36 0)) i_1_19 ow_1 lf_0_15 (by decide) (k_22 hG) (by simp [wF, wJ, va_up, cpR, bF, bA]) ?_
  refine Y_bipush (v := 14) i_1_22 (by decide) ?_
  refine Y_imul i_1_24 ?_
  have o1 := h.1
  replace h := h.2
  refine Y_acp (ksp := 0) (kdp := 0) (kn := ((F 36 0) * 14).toNatClampNeg) i_1_25 ow_1 lm_0_19 rfl (k_23 hG) (k_37 hG) (l_23 hG) (l_37 hG) o1 (by decide) (by decide) rfl ?_
  refine Y_vret i_1_28 rt_1 (KKv ?_)
  refine Y_al0 i_62_22 ?_
  refine Y_al1 i_62_23 ?_
  refine Y_gI (v := (F 35 2)) i_62_24 ow_62 lf_5_48 (by decide) (k_35 hG) (by simp [wF, wJ, va_up, cpR, bF, bA]) ?_
  refine Y_pI i_62_27 ow_62 lf_5_48 (k_21 hG) ?_
  refine Y_al1 i_62_30 ?_
  refine Y_gR i_62_31 ow_62 lf_5_18 (k_35 hG) (r_35_3 hG) ?_
  refine Y_iconst (v := 0) i_62_34 (by decide) ?_
  refine Y_al0 i_62_35 ?_
  refine Y_gR i_62_36 ow_62 lf_5_18 (k_21 hG) (r_21_3 hG) ?_
  refine Y_iconst (v := 0) i_62_39 (by decide) ?_
  refine Y_bipush (v := 8) i_62_40 (by decide) ?_
  refine Y_acp (ksp := 0) (kdp := 0) (kn := 8) i_62_42 ow_62 lm_5_58 rfl (k_24 hG) (k_38 hG) (l_24 hG) (l_38 hG) (by decide) (by decide) (by decide) (by decide) ?_
  refine Y_al1 i_62_45 ?_
  refine Y_gR i_62_46 ow_62 lf_5_22 (k_35 hG) (r_35_4 hG) ?_
  refine Y_iconst (v := 0) i_62_49 (by decide) ?_
  refine Y_al0 i_62_50 ?_
  refine Y_gR i_62_51 ow_62 lf_5_22 (k_21 hG) (r_21_4 hG) ?_
  refine Y_iconst (v := 0) i_62_54 (by decide) ?_
  refine Y_bipush (v := 8) i_62_55 (by decide) ?_
  refine Y_acp (ksp := 0) (kdp := 0) (kn := 8) i_62_57 ow_62 lm_5_58 rfl (k_25 hG) (k_39 hG) (l_25 hG) (l_39 hG) (by decide) (by decide) (by decide) (by decide) ?_
  refine Y_al1 i_62_60 ?_
  refine Y_gR i_62_61 ow_62 lf_5_25 (k_35 hG) (r_35_5 hG) ?_
  refine Y_iconst (v := 0) i_62_64 (by decide) ?_
  refine Y_al0 i_62_65 ?_
  refine Y_gR i_62_66 ow_62 lf_5_25 (k_21 hG) (r_21_5 hG) ?_
  refine Y_iconst (v := 0) i_62_69 (by decide) ?_
  refine Y_iconst (v := 3) i_62_70 (by decide) ?_
  refine Y_acp (ksp := 0) (kdp := 0) (kn := 3) i_62_71 ow_62 lm_5_58 rfl (k_26 hG) (k_40 hG) (l_26 hG) (l_40 hG) (by decide) (by decide) (by decide) (by decide) ?_
  refine Y_al0 i_62_74 ?_
  refine Y_iconst (v := 1) i_62_75 (by decide) ?_
  refine Y_pB i_62_76 ow_62 lf_5_37 (k_21 hG) (by decide) ?_
  exact Y_vret i_62_79 rt_62 h
/- 63 State.refuse(I)I -/
theorem t_63_0 {d : Nat} {F A : Nat → Nat → Int32} {J : Nat → Nat → Int64} {G : pG} {Q : pR → pM → Prop} {SL p q : Nat} {x1 : Int32} (hG : Geo G SL p q) (h : inB x1 3 = true ∧ (Q (.inl (some (.int (-1)))) (F, (wF A 26 x1.toNatClampNeg ((A 26 x1.toNatClampNeg) + 1)), J, G))) : X d 63 0 [.ref 21, .int x1] [] (F, A, J, G) Q := by
  refine Y_al0 i_63_0 ?_
  refine Y_gR i_63_1 ow_63 lf_5_25 (k_21 hG) (r_21_5 hG) ?_
  refine Y_il1 i_63_4 ?_
  refine Y_dup2 i_63_5 rfl rfl ?_
  have o1 := h.1
  replace h := h.2
  refine Y_iaload (k := x1.toNatClampNeg) (v := (A 26 x1.toNatClampNeg)) i_63_6 (k_26 hG) (l_26 hG) o1 rfl rfl ?_
  refine Y_iconst (v := 1) i_63_7 (by decide) ?_
  refine Y_iadd i_63_8 ?_
  refine Y_iast i_63_9 (k_26 hG) (l_26 hG) o1 rfl ?_
  refine Y_iconst (v := (-1)) i_63_10 (by decide) ?_
  exact Y_iret i_63_11 rt_63 h
/- 64 State.putOn(II)I -/
theorem t_64_0 {d : Nat} {F A : Nat → Nat → Int32} {J : Nat → Nat → Int64} {G : pG} {Q : pR → pM → Prop} {SL p q : Nat} {x1 x2 : Int32} (hG : Geo G SL p q) (h : hB (F 27 1) = true ∧ (((lvI (A 28) (F 27 1) x1) = (-1) → ((x2 < 0 → Q (.inl (some (.int (-1)))) (F, (wF A 26 1 ((A 26 1) + 1)), J, G)) ∧ (¬ x2 < 0 → (((F 27 1) < x2 → Q (.inl (some (.int (-1)))) (F, (wF A 26 1 ((A 26 1) + 1)), J, G)) ∧ (¬ (F 27 1) < x2 → X (d + 1) 79 0 [.ref 27, .int x1, .int x2, .null] [] (F, A, J, G) (KK (d + 2) 64 42 [.ref 21, .int x1, .int x2] [] Q)))))) ∧ (¬ (lvI (A 28) (F 27 1) x1) = (-1) → Q (.inl (some (.int (-1)))) (F, (wF A 26 1 ((A 26 1) + 1)), J, G)))) : X (d + 2) 64 0 [.ref 21, .int x1, .int x2] [] (F, A, J, G) Q := by
  refine Y_al0 i_64_0 ?_
  refine Y_gR i_64_1 ow_64 lf_5_33 (k_21 hG) (r_21_0 hG) ?_
  refine Y_il1 i_64_4 ?_
  have o1 := h.1
  replace h := h.2
  refine Y_iv1 (L0 := [.ref 27, .int x1, .null]) i_64_5 ow_64 lm_5_64 ((k_27 hG).trans ow_77.symm) rfl mx_77 rfl rfl hd_64 ?_
  refine c_77 hG tw_27 o1 (KKi' (v' := (lvI (A 28) (F 27 1) x1)) (by simp [wF, wJ, va_up, cpR, bF, bA]) ?_)
  refine Y_iconst (v := (-1)) i_64_8 (by decide) ?_
  refine Y_cne i_64_9 (fun e2 => ?_) (fun e2 => ?_)
  · replace h := h.1 e2
    refine Y_il2 i_64_12 ?_
    refine Y_zlt i_64_13 (fun e3 => ?_) (fun e3 => ?_)
    · replace h := h.1 e3
      refine Y_al0 i_64_27 ?_
      refine Y_iconst (v := 1) i_64_28 (by decide) ?_
      refine Y_iv1 (L0 := [.ref 21, .int 1]) i_64_29 ow_64 lm_5_71 ((k_21 hG).trans ow_63.symm) rfl mx_63 rfl rfl hd_64 ?_
      refine Y_al0 i_63_0 ?_
      refine Y_gR i_63_1 ow_63 lf_5_25 (k_21 hG) (r_21_5 hG) ?_
      refine Y_il1 i_63_4 ?_
      refine Y_dup2 i_63_5 rfl rfl ?_
      refine Y_iaload (k := 1) (v := (A 26 1)) i_63_6 (k_26 hG) (l_26 hG) (by decide) (by decide) rfl ?_
      refine Y_iconst (v := 1) i_63_7 (by decide) ?_
      refine Y_iadd i_63_8 ?_
      refine Y_iast (k := 1) i_63_9 (k_26 hG) (l_26 hG) (by decide) (by decide) ?_
      refine Y_iconst (v := (-1)) i_63_10 (by decide) ?_
      refine Y_iret i_63_11 rt_63 (KKi ?_)
      exact Y_iret i_64_32 rt_64 h
    · replace h := h.2 e3
      refine Y_il2 i_64_16 ?_
      refine Y_al0 i_64_17 ?_
      refine Y_gR i_64_18 ow_64 lf_5_33 (k_21 hG) (r_21_0 hG) ?_
      refine Y_gI (v := (F 27 1)) i_64_21 ow_64 lf_5_68 (by decide) (k_27 hG) rfl ?_
      refine Y_cle i_64_24 (fun e4 => ?_) (fun e4 => ?_)
      · replace h := h.1 e4
        refine Y_al0 i_64_27 ?_
        refine Y_iconst (v := 1) i_64_28 (by decide) ?_
        refine Y_iv1 (L0 := [.ref 21, .int 1]) i_64_29 ow_64 lm_5_71 ((k_21 hG).trans ow_63.symm) rfl mx_63 rfl rfl hd_64 ?_
        refine Y_al0 i_63_0 ?_
        refine Y_gR i_63_1 ow_63 lf_5_25 (k_21 hG) (r_21_5 hG) ?_
        refine Y_il1 i_63_4 ?_
        refine Y_dup2 i_63_5 rfl rfl ?_
        refine Y_iaload (k := 1) (v := (A 26 1)) i_63_6 (k_26 hG) (l_26 hG) (by decide) (by decide) rfl ?_
        refine Y_iconst (v := 1) i_63_7 (by decide) ?_
        refine Y_iadd i_63_8 ?_
        refine Y_iast (k := 1) i_63_9 (k_26 hG) (l_26 hG) (by decide) (by decide) ?_
        refine Y_iconst (v := (-1)) i_63_10 (by decide) ?_
        refine Y_iret i_63_11 rt_63 (KKi ?_)
        exact Y_iret i_64_32 rt_64 h
      · replace h := h.2 e4
        refine Y_al0 i_64_33 ?_
        refine Y_gR i_64_34 ow_64 lf_5_33 (k_21 hG) (r_21_0 hG) ?_
        refine Y_il1 i_64_37 ?_
        refine Y_il2 i_64_38 ?_
        exact Y_iv2 (L0 := [.ref 27, .int x1, .int x2, .null]) i_64_39 ow_64 lm_5_74 ((k_27 hG).trans ow_79.symm) rfl mx_79 rfl rfl hd_64 h
  · replace h := h.2 e2
    refine Y_al0 i_64_27 ?_
    refine Y_iconst (v := 1) i_64_28 (by decide) ?_
    refine Y_iv1 (L0 := [.ref 21, .int 1]) i_64_29 ow_64 lm_5_71 ((k_21 hG).trans ow_63.symm) rfl mx_63 rfl rfl hd_64 ?_
    refine Y_al0 i_63_0 ?_
    refine Y_gR i_63_1 ow_63 lf_5_25 (k_21 hG) (r_21_5 hG) ?_
    refine Y_il1 i_63_4 ?_
    refine Y_dup2 i_63_5 rfl rfl ?_
    refine Y_iaload (k := 1) (v := (A 26 1)) i_63_6 (k_26 hG) (l_26 hG) (by decide) (by decide) rfl ?_
    refine Y_iconst (v := 1) i_63_7 (by decide) ?_
    refine Y_iadd i_63_8 ?_
    refine Y_iast (k := 1) i_63_9 (k_26 hG) (l_26 hG) (by decide) (by decide) ?_
    refine Y_iconst (v := (-1)) i_63_10 (by decide) ?_
    refine Y_iret i_63_11 rt_63 (KKi ?_)
    exact Y_iret i_64_32 rt_64 h
theorem k_64_42 {d : Nat} {F A : Nat → Nat → Int32} {J : Nat → Nat → Int64} {G : pG} {Q : pR → pM → Prop} {SL p q : Nat} {x1 x2 : Int32} (hG : Geo G SL p q) (h : (((F 22 0) < 40 → inB ((F 22 0) * 14) 560 = true ∧ inB (((F 22 0) * 14) + 1) 560 = true ∧ inB (((F 22 0) * 14) + 2) 560 = true ∧ inB (((F 22 0) * 14) + 3) 560 = true ∧ (Q (.inl (some (.int (F 27 1)))) ((wF (wF F 22 0 ((F 22 0) + 1)) 21 6 1), (wF (wF (wF (wF A 23 ((F 22 0) * 14).toNatClampNeg 0) 23 (((F 22 0) * 14) + 1).toNatClampNeg x2) 23 (((F 22 0) * 14) + 2).toNatClampNeg 0) 23 (((F 22 0) * 14) + 3).toNatClampNeg 0), J, G))) ∧ (¬ (F 22 0) < 40 → (¬ (14 : Int32) < 0 ∧ ¬ (0 : Int32) < 0 ∧ ¬ ((39 : Int32) * 14) < 0 ∧ (14 : Int32).toNatClampNeg + ((39 : Int32) * 14).toNatClampNeg ≤ 560 ∧ (0 : Int32).toNatClampNeg + ((39 : Int32) * 14).toNatClampNeg ≤ 560) ∧ inB ((39 : Int32) * 14) 560 = true ∧ inB (((39 : Int32) * 14) + 1) 560 = true ∧ inB (((39 : Int32) * 14) + 2) 560 = true ∧ inB (((39 : Int32) * 14) + 3) 560 = true ∧ (Q (.inl (some (.int (F 27 1)))) ((wF (wF (wF F 22 0 39) 22 0 ((39 : Int32) + 1)) 21 6 1), (wF (wF (wF (wF (cpR A 23 23 14 0 ((39 : Int32) * 14).toNatClampNeg) 23 ((39 : Int32) * 14).toNatClampNeg 0) 23 (((39 : Int32) * 14) + 1).toNatClampNeg x2) 23 (((39 : Int32) * 14) + 2).toNatClampNeg 0) 23 (((39 : Int32) * 14) + 3).toNatClampNeg 0), J, G))))) : KK (d + 2) 64 42 [.ref 21, .int x1, .int x2] [] Q (.inl none) (F, A, J, G) := by
  refine KKv ?_
  refine Y_al0 i_64_42 ?_
  refine Y_iconst (v := 0) i_64_43 (by decide) ?_
  refine Y_il2 i_64_44 ?_
  refine Y_iconst (v := 0) i_64_45 (by decide) ?_
  refine Y_iconst (v := 0) i_64_46 (by decide) ?_
  refine Y_iv4 (L0 := [.ref 21, .int 0, .int x2, .int 0, .int 0]) i_64_47 ow_64 lm_5_78 ((k_21 hG).trans ow_73.symm) rfl mx_73 rfl rfl hd_64 ?_
  refine Y_al0 i_73_0 ?_
  refine Y_gR i_73_1 ow_73 lf_5_12 (k_21 hG) (r_21_1 hG) ?_
  refine Y_il1 i_73_4 ?_
  refine Y_il2 i_73_5 ?_
  refine Y_il3 i_73_6 ?_
  refine Y_il4 i_73_7 ?_
  refine Y_iv4 (L0 := [.ref 22, .int 0, .int x2, .int 0, .int 0, .null]) i_73_9 ow_73 lm_5_114 ((k_22 hG).trans ow_2.symm) rfl mx_2 rfl rfl hd_73 ?_
  refine Y_al0 i_2_0 ?_
  refine Y_gI (v := (F 22 0)) i_2_1 ow_2 lf_0_15 (by decide) (k_22 hG) rfl ?_
  refine Y_bipush (v := 40) i_2_4 (by decide) ?_
  refine Y_clt i_2_6 (fun e1 => ?_) (fun e1 => ?_)
  · replace h := h.1 e1
    refine Y_al0 i_2_36 ?_
    refine Y_gI (v := (F 22 0)) i_2_37 ow_2 lf_0_15 (by decide) (k_22 hG) rfl ?_
    refine Y_bipush (v := 14) i_2_40 (by decide) ?_
    refine Y_imul i_2_42 ?_
    refine Y_is5 i_2_43 rfl ?_
    refine Y_al0 i_2_45 ?_
    refine Y_gR i_2_46 ow_2 lf_0_11 (k_22 hG) (r_22_1 hG) ?_
    refine Y_il5 i_2_49 ?_
    refine Y_il1 i_2_51 ?_
    have o2 := h.1
    replace h := h.2
    refine Y_iast i_2_52 (k_23 hG) (l_23 hG) o2 rfl ?_
    refine Y_al0 i_2_53 ?_
    refine Y_gR i_2_54 ow_2 lf_0_11 (k_22 hG) (r_22_1 hG) ?_
    refine Y_il5 i_2_57 ?_
    refine Y_iconst (v := 1) i_2_59 (by decide) ?_
    refine Y_iadd i_2_60 ?_
    refine Y_il2 i_2_61 ?_
    have o3 := h.1
    replace h := h.2
    refine Y_iast i_2_62 (k_23 hG) (l_23 hG) o3 rfl ?_
    refine Y_al0 i_2_63 ?_
    refine Y_gR i_2_64 ow_2 lf_0_11 (k_22 hG) (r_22_1 hG) ?_
    refine Y_il5 i_2_67 ?_
    refine Y_iconst (v := 2) i_2_69 (by decide) ?_
    refine Y_iadd i_2_70 ?_
    refine Y_il3 i_2_71 ?_
    have o4 := h.1
    replace h := h.2
    refine Y_iast i_2_72 (k_23 hG) (l_23 hG) o4 rfl ?_
    refine Y_al0 i_2_73 ?_
    refine Y_gR i_2_74 ow_2 lf_0_11 (k_22 hG) (r_22_1 hG) ?_
    refine Y_il5 i_2_77 ?_
    refine Y_iconst (v := 3) i_2_79 (by decide) ?_
    refine Y_iadd i_2_80 ?_
    refine Y_il4 i_2_81 ?_
    have o5 := h.1
    replace h := h.2
    refine Y_iast i_2_83 (k_23 hG) (l_23 hG) o5 rfl ?_
    refine Y_al0 i_2_84 ?_
    refine Y_dup i_2_85 rfl ?_
    refine Y_gI (v := (F 22 0)) i_2_86 ow_2 lf_0_15 (by decide) (k_22 hG) rfl ?_
    refine Y_iconst (v := 1) i_2_89 (by decide) ?_
    refine Y_iadd i_2_90 ?_
    refine Y_pI i_2_91 ow_2 lf_0_15 (k_22 hG) ?_
    refine Y_vret i_2_94 rt_2 (KKv ?_)
    refine Y_al0 i_73_12 ?_
    refine Y_iconst (v := 1) i_73_13 (by decide) ?_
    refine Y_pB i_73_14 ow_73 lf_5_37 (k_21 hG) (by decide) ?_
    refine Y_vret i_73_17 rt_73 (KKv ?_)
    refine Y_al0 i_64_50 ?_
    refine Y_gR i_64_51 ow_64 lf_5_33 (k_21 hG) (r_21_0 hG) ?_
    refine Y_gI (v := (F 27 1)) i_64_54 ow_64 lf_5_68 (by decide) (k_27 hG) (by simp [wF, wJ, va_up, cpR, bF, bA]) ?_
    exact Y_iret i_64_57 rt_64 h
  · replace h := h.2 e1
    refine Y_al0 i_2_9 ?_
    refine Y_bipush (v := 39) i_2_10 (by decide) ?_
    refine Y_pI i_2_12 ow_2 lf_0_15 (k_22 hG) ?_
    refine Y_al0 i_2_15 ?_
    refine Y_gR i_2_16 ow_2 lf_0_11 (k_22 hG) (r_22_1 hG) ?_
    refine Y_bipush (v := 14) i_2_19 (by decide) ?_
    refine Y_al0 i_2_21 ?_
    refine Y_gR i_2_22 ow_2 lf_0_11 (k_22 hG) (r_22_1 hG) ?_
    refine Y_iconst (v := 0) i_2_25 (by decide) ?_
    refine Y_al0 i_2_26 ?_
    refine Y_gI (v := 39) i_2_27 ow_2 lf_0_15 (by decide) (k_22 hG) (by simp [wF, wJ, va_up, cpR, bF, bA]) ?_
    refine Y_bipush (v := 14) i_2_30 (by decide) ?_
    refine Y_imul i_2_32 ?_
    have o6 := h.1
    replace h := h.2
    refine Y_acp (ksp := 14) (kdp := 0) (kn := ((39 : Int32) * 14).toNatClampNeg) i_2_33 ow_2 lm_0_19 rfl (k_23 hG) (k_23 hG) (l_23 hG) (l_23 hG) o6 (by decide) (by decide) rfl ?_
    refine Y_al0 i_2_36 ?_
    refine Y_gI (v := 39) i_2_37 ow_2 lf_0_15 (by decide) (k_22 hG) (by simp [wF, wJ, va_up, cpR, bF, bA]) ?_
    refine Y_bipush (v := 14) i_2_40 (by decide) ?_
    refine Y_imul i_2_42 ?_
    refine Y_is5 i_2_43 rfl ?_
    refine Y_al0 i_2_45 ?_
    refine Y_gR i_2_46 ow_2 lf_0_11 (k_22 hG) (r_22_1 hG) ?_
    refine Y_il5 i_2_49 ?_
    refine Y_il1 i_2_51 ?_
    have o7 := h.1
    replace h := h.2
    refine Y_iast i_2_52 (k_23 hG) (l_23 hG) o7 rfl ?_
    refine Y_al0 i_2_53 ?_
    refine Y_gR i_2_54 ow_2 lf_0_11 (k_22 hG) (r_22_1 hG) ?_
    refine Y_il5 i_2_57 ?_
    refine Y_iconst (v := 1) i_2_59 (by decide) ?_
    refine Y_iadd i_2_60 ?_
    refine Y_il2 i_2_61 ?_
    have o8 := h.1
    replace h := h.2
    refine Y_iast i_2_62 (k_23 hG) (l_23 hG) o8 rfl ?_
    refine Y_al0 i_2_63 ?_
    refine Y_gR i_2_64 ow_2 lf_0_11 (k_22 hG) (r_22_1 hG) ?_
    refine Y_il5 i_2_67 ?_
    refine Y_iconst (v := 2) i_2_69 (by decide) ?_
    refine Y_iadd i_2_70 ?_
    refine Y_il3 i_2_71 ?_
    have o9 := h.1
    replace h := h.2
    refine Y_iast i_2_72 (k_23 hG) (l_23 hG) o9 rfl ?_
    refine Y_al0 i_2_73 ?_
    refine Y_gR i_2_74 ow_2 lf_0_11 (k_22 hG) (r_22_1 hG) ?_
    refine Y_il5 i_2_77 ?_
    refine Y_iconst (v := 3) i_2_79 (by decide) ?_
    refine Y_iadd i_2_80 ?_
    refine Y_il4 i_2_81 ?_
    have o10 := h.1
    replace h := h.2
    refine Y_iast i_2_83 (k_23 hG) (l_23 hG) o10 rfl ?_
    refine Y_al0 i_2_84 ?_
    refine Y_dup i_2_85 rfl ?_
    refine Y_gI (v := 39) i_2_86 ow_2 lf_0_15 (by decide) (k_22 hG) (by simp [wF, wJ, va_up, cpR, bF, bA]) ?_
    refine Y_iconst (v := 1) i_2_89 (by decide) ?_
    refine Y_iadd i_2_90 ?_
    refine Y_pI i_2_91 ow_2 lf_0_15 (k_22 hG) ?_
    refine Y_vret i_2_94 rt_2 (KKv ?_)
    refine Y_al0 i_73_12 ?_
    refine Y_iconst (v := 1) i_73_13 (by decide) ?_
    refine Y_pB i_73_14 ow_73 lf_5_37 (k_21 hG) (by decide) ?_
    refine Y_vret i_73_17 rt_73 (KKv ?_)
    refine Y_al0 i_64_50 ?_
    refine Y_gR i_64_51 ow_64 lf_5_33 (k_21 hG) (r_21_0 hG) ?_
    refine Y_gI (v := (F 27 1)) i_64_54 ow_64 lf_5_68 (by decide) (k_27 hG) (by simp [wF, wJ, va_up, cpR, bF, bA]) ?_
    exact Y_iret i_64_57 rt_64 h
/- 65 State.takeOff(I)I -/
theorem t_65_0 {d : Nat} {F A : Nat → Nat → Int32} {J : Nat → Nat → Int64} {G : pG} {Q : pR → pM → Prop} {SL p q : Nat} {x1 : Int32} (hG : Geo G SL p q) (h : hB (F 27 1) = true ∧ (((lvI (A 28) (F 27 1) x1) = (-1) → Q (.inl (some (.int (-1)))) (F, (wF A 26 1 ((A 26 1) + 1)), J, G)) ∧ (¬ (lvI (A 28) (F 27 1) x1) = (-1) → inB x1 10 = true ∧ (((F 22 0) < 40 → inB ((F 22 0) * 14) 560 = true ∧ inB (((F 22 0) * 14) + 1) 560 = true ∧ inB (((F 22 0) * 14) + 2) 560 = true ∧ inB (((F 22 0) * 14) + 3) 560 = true ∧ (X (d + 1) 80 0 [.ref 27, .int (lvI (A 28) (F 27 1) x1), .null] [] ((wF (wF F 22 0 ((F 22 0) + 1)) 21 6 1), (wF (wF (wF (wF A 23 ((F 22 0) * 14).toNatClampNeg 1) 23 (((F 22 0) * 14) + 1).toNatClampNeg x1) 23 (((F 22 0) * 14) + 2).toNatClampNeg (lvI (A 28) (F 27 1) x1)) 23 (((F 22 0) * 14) + 3).toNatClampNeg (A 29 x1.toNatClampNeg)), J, G) (KK (d + 2) 65 44 [.ref 21, .int x1, .int (lvI (A 28) (F 27 1) x1)] [] Q))) ∧ (¬ (F 22 0) < 40 → (¬ (14 : Int32) < 0 ∧ ¬ (0 : Int32) < 0 ∧ ¬ ((39 : Int32) * 14) < 0 ∧ (14 : Int32).toNatClampNeg + ((39 : Int32) * 14).toNatClampNeg ≤ 560 ∧ (0 : Int32).toNatClampNeg + ((39 : Int32) * 14).toNatClampNeg ≤ 560) ∧ inB ((39 : Int32) * 14) 560 = true ∧ inB (((39 : Int32) * 14) + 1) 560 = true ∧ inB (((39 : Int32) * 14) + 2) 560 = true ∧ inB (((39 : Int32) * 14) + 3) 560 = true ∧ (X (d + 1) 80 0 [.ref 27, .int (lvI (A 28) (F 27 1) x1), .null] [] ((wF (wF (wF F 22 0 39) 22 0 ((39 : Int32) + 1)) 21 6 1), (wF (wF (wF (wF (cpR A 23 23 14 0 ((39 : Int32) * 14).toNatClampNeg) 23 ((39 : Int32) * 14).toNatClampNeg 1) 23 (((39 : Int32) * 14) + 1).toNatClampNeg x1) 23 (((39 : Int32) * 14) + 2).toNatClampNeg (lvI (A 28) (F 27 1) x1)) 23 (((39 : Int32) * 14) + 3).toNatClampNeg (A 29 x1.toNatClampNeg)), J, G) (KK (d + 2) 65 44 [.ref 21, .int x1, .int (lvI (A 28) (F 27 1) x1)] [] Q))))))) : X (d + 2) 65 0 [.ref 21, .int x1, .null] [] (F, A, J, G) Q := by
  refine Y_al0 i_65_0 ?_
  refine Y_gR i_65_1 ow_65 lf_5_33 (k_21 hG) (r_21_0 hG) ?_
  refine Y_il1 i_65_4 ?_
  have o1 := h.1
  replace h := h.2
  refine Y_iv1 (L0 := [.ref 27, .int x1, .null]) i_65_5 ow_65 lm_5_64 ((k_27 hG).trans ow_77.symm) rfl mx_77 rfl rfl hd_65 ?_
  refine c_77 hG tw_27 o1 (KKi' (v' := (lvI (A 28) (F 27 1) x1)) (by simp [wF, wJ, va_up, cpR, bF, bA]) ?_)
  refine Y_is2 i_65_8 rfl ?_
  refine Y_il2 i_65_9 ?_
  refine Y_iconst (v := (-1)) i_65_10 (by decide) ?_
  refine Y_cne i_65_11 (fun e2 => ?_) (fun e2 => ?_)
  · replace h := h.1 e2
    refine Y_al0 i_65_14 ?_
    refine Y_iconst (v := 1) i_65_15 (by decide) ?_
    refine Y_iv1 (L0 := [.ref 21, .int 1]) i_65_16 ow_65 lm_5_71 ((k_21 hG).trans ow_63.symm) rfl mx_63 rfl rfl hd_65 ?_
    refine Y_al0 i_63_0 ?_
    refine Y_gR i_63_1 ow_63 lf_5_25 (k_21 hG) (r_21_5 hG) ?_
    refine Y_il1 i_63_4 ?_
    refine Y_dup2 i_63_5 rfl rfl ?_
    refine Y_iaload (k := 1) (v := (A 26 1)) i_63_6 (k_26 hG) (l_26 hG) (by decide) (by decide) rfl ?_
    refine Y_iconst (v := 1) i_63_7 (by decide) ?_
    refine Y_iadd i_63_8 ?_
    refine Y_iast (k := 1) i_63_9 (k_26 hG) (l_26 hG) (by decide) (by decide) ?_
    refine Y_iconst (v := (-1)) i_63_10 (by decide) ?_
    refine Y_iret i_63_11 rt_63 (KKi ?_)
    exact Y_iret i_65_19 rt_65 h
  · replace h := h.2 e2
    refine Y_al0 i_65_20 ?_
    refine Y_iconst (v := 1) i_65_21 (by decide) ?_
    refine Y_il1 i_65_22 ?_
    refine Y_il2 i_65_23 ?_
    refine Y_al0 i_65_24 ?_
    refine Y_gR i_65_25 ow_65 lf_5_33 (k_21 hG) (r_21_0 hG) ?_
    refine Y_gR i_65_28 ow_65 lf_5_82 (k_27 hG) (r_27_5 hG) ?_
    refine Y_il1 i_65_31 ?_
    have o3 := h.1
    replace h := h.2
    refine Y_iaload (k := x1.toNatClampNeg) (v := (A 29 x1.toNatClampNeg)) i_65_32 (k_29 hG) (l_29 hG) o3 rfl rfl ?_
    refine Y_iv4 (L0 := [.ref 21, .int 1, .int x1, .int (lvI (A 28) (F 27 1) x1), .int (A 29 x1.toNatClampNeg)]) i_65_33 ow_65 lm_5_78 ((k_21 hG).trans ow_73.symm) rfl mx_73 rfl rfl hd_65 ?_
    refine Y_al0 i_73_0 ?_
    refine Y_gR i_73_1 ow_73 lf_5_12 (k_21 hG) (r_21_1 hG) ?_
    refine Y_il1 i_73_4 ?_
    refine Y_il2 i_73_5 ?_
    refine Y_il3 i_73_6 ?_
    refine Y_il4 i_73_7 ?_
    refine Y_iv4 (L0 := [.ref 22, .int 1, .int x1, .int (lvI (A 28) (F 27 1) x1), .int (A 29 x1.toNatClampNeg), .null]) i_73_9 ow_73 lm_5_114 ((k_22 hG).trans ow_2.symm) rfl mx_2 rfl rfl hd_73 ?_
    refine Y_al0 i_2_0 ?_
    refine Y_gI (v := (F 22 0)) i_2_1 ow_2 lf_0_15 (by decide) (k_22 hG) rfl ?_
    refine Y_bipush (v := 40) i_2_4 (by decide) ?_
    refine Y_clt i_2_6 (fun e4 => ?_) (fun e4 => ?_)
    · replace h := h.1 e4
      refine Y_al0 i_2_36 ?_
      refine Y_gI (v := (F 22 0)) i_2_37 ow_2 lf_0_15 (by decide) (k_22 hG) rfl ?_
      refine Y_bipush (v := 14) i_2_40 (by decide) ?_
      refine Y_imul i_2_42 ?_
      refine Y_is5 i_2_43 rfl ?_
      refine Y_al0 i_2_45 ?_
      refine Y_gR i_2_46 ow_2 lf_0_11 (k_22 hG) (r_22_1 hG) ?_
      refine Y_il5 i_2_49 ?_
      refine Y_il1 i_2_51 ?_
      have o5 := h.1
      replace h := h.2
      refine Y_iast i_2_52 (k_23 hG) (l_23 hG) o5 rfl ?_
      refine Y_al0 i_2_53 ?_
      refine Y_gR i_2_54 ow_2 lf_0_11 (k_22 hG) (r_22_1 hG) ?_
      refine Y_il5 i_2_57 ?_
      refine Y_iconst (v := 1) i_2_59 (by decide) ?_
      refine Y_iadd i_2_60 ?_
      refine Y_il2 i_2_61 ?_
      have o6 := h.1
      replace h := h.2
      refine Y_iast i_2_62 (k_23 hG) (l_23 hG) o6 rfl ?_
      refine Y_al0 i_2_63 ?_
      refine Y_gR i_2_64 ow_2 lf_0_11 (k_22 hG) (r_22_1 hG) ?_
      refine Y_il5 i_2_67 ?_
      refine Y_iconst (v := 2) i_2_69 (by decide) ?_
      refine Y_iadd i_2_70 ?_
      refine Y_il3 i_2_71 ?_
      have o7 := h.1
      replace h := h.2
      refine Y_iast i_2_72 (k_23 hG) (l_23 hG) o7 rfl ?_
      refine Y_al0 i_2_73 ?_
      refine Y_gR i_2_74 ow_2 lf_0_11 (k_22 hG) (r_22_1 hG) ?_
      refine Y_il5 i_2_77 ?_
      refine Y_iconst (v := 3) i_2_79 (by decide) ?_
      refine Y_iadd i_2_80 ?_
      refine Y_il4 i_2_81 ?_
      have o8 := h.1
      replace h := h.2
      refine Y_iast i_2_83 (k_23 hG) (l_23 hG) o8 rfl ?_
      refine Y_al0 i_2_84 ?_
      refine Y_dup i_2_85 rfl ?_
      refine Y_gI (v := (F 22 0)) i_2_86 ow_2 lf_0_15 (by decide) (k_22 hG) rfl ?_
      refine Y_iconst (v := 1) i_2_89 (by decide) ?_
      refine Y_iadd i_2_90 ?_
      refine Y_pI i_2_91 ow_2 lf_0_15 (k_22 hG) ?_
      refine Y_vret i_2_94 rt_2 (KKv ?_)
      refine Y_al0 i_73_12 ?_
      refine Y_iconst (v := 1) i_73_13 (by decide) ?_
      refine Y_pB i_73_14 ow_73 lf_5_37 (k_21 hG) (by decide) ?_
      refine Y_vret i_73_17 rt_73 (KKv ?_)
      refine Y_al0 i_65_36 ?_
      refine Y_gR i_65_37 ow_65 lf_5_33 (k_21 hG) (r_21_0 hG) ?_
      refine Y_il2 i_65_40 ?_
      exact Y_iv1 (L0 := [.ref 27, .int (lvI (A 28) (F 27 1) x1), .null]) i_65_41 ow_65 lm_5_85 ((k_27 hG).trans ow_80.symm) rfl mx_80 rfl rfl hd_65 h
    · replace h := h.2 e4
      refine Y_al0 i_2_9 ?_
      refine Y_bipush (v := 39) i_2_10 (by decide) ?_
      refine Y_pI i_2_12 ow_2 lf_0_15 (k_22 hG) ?_
      refine Y_al0 i_2_15 ?_
      refine Y_gR i_2_16 ow_2 lf_0_11 (k_22 hG) (r_22_1 hG) ?_
      refine Y_bipush (v := 14) i_2_19 (by decide) ?_
      refine Y_al0 i_2_21 ?_
      refine Y_gR i_2_22 ow_2 lf_0_11 (k_22 hG) (r_22_1 hG) ?_
      refine Y_iconst (v := 0) i_2_25 (by decide) ?_
      refine Y_al0 i_2_26 ?_
      refine Y_gI (v := 39) i_2_27 ow_2 lf_0_15 (by decide) (k_22 hG) (by simp [wF, wJ, va_up, cpR, bF, bA]) ?_
      refine Y_bipush (v := 14) i_2_30 (by decide) ?_
      refine Y_imul i_2_32 ?_
      have o9 := h.1
      replace h := h.2
      refine Y_acp (ksp := 14) (kdp := 0) (kn := ((39 : Int32) * 14).toNatClampNeg) i_2_33 ow_2 lm_0_19 rfl (k_23 hG) (k_23 hG) (l_23 hG) (l_23 hG) o9 (by decide) (by decide) rfl ?_
      refine Y_al0 i_2_36 ?_
      refine Y_gI (v := 39) i_2_37 ow_2 lf_0_15 (by decide) (k_22 hG) (by simp [wF, wJ, va_up, cpR, bF, bA]) ?_
      refine Y_bipush (v := 14) i_2_40 (by decide) ?_
      refine Y_imul i_2_42 ?_
      refine Y_is5 i_2_43 rfl ?_
      refine Y_al0 i_2_45 ?_
      refine Y_gR i_2_46 ow_2 lf_0_11 (k_22 hG) (r_22_1 hG) ?_
      refine Y_il5 i_2_49 ?_
      refine Y_il1 i_2_51 ?_
      have o10 := h.1
      replace h := h.2
      refine Y_iast i_2_52 (k_23 hG) (l_23 hG) o10 rfl ?_
      refine Y_al0 i_2_53 ?_
      refine Y_gR i_2_54 ow_2 lf_0_11 (k_22 hG) (r_22_1 hG) ?_
      refine Y_il5 i_2_57 ?_
      refine Y_iconst (v := 1) i_2_59 (by decide) ?_
      refine Y_iadd i_2_60 ?_
      refine Y_il2 i_2_61 ?_
      have o11 := h.1
      replace h := h.2
      refine Y_iast i_2_62 (k_23 hG) (l_23 hG) o11 rfl ?_
      refine Y_al0 i_2_63 ?_
      refine Y_gR i_2_64 ow_2 lf_0_11 (k_22 hG) (r_22_1 hG) ?_
      refine Y_il5 i_2_67 ?_
      refine Y_iconst (v := 2) i_2_69 (by decide) ?_
      refine Y_iadd i_2_70 ?_
      refine Y_il3 i_2_71 ?_
      have o12 := h.1
      replace h := h.2
      refine Y_iast i_2_72 (k_23 hG) (l_23 hG) o12 rfl ?_
      refine Y_al0 i_2_73 ?_
      refine Y_gR i_2_74 ow_2 lf_0_11 (k_22 hG) (r_22_1 hG) ?_
      refine Y_il5 i_2_77 ?_
      refine Y_iconst (v := 3) i_2_79 (by decide) ?_
      refine Y_iadd i_2_80 ?_
      refine Y_il4 i_2_81 ?_
      have o13 := h.1
      replace h := h.2
      refine Y_iast i_2_83 (k_23 hG) (l_23 hG) o13 rfl ?_
      refine Y_al0 i_2_84 ?_
      refine Y_dup i_2_85 rfl ?_
      refine Y_gI (v := 39) i_2_86 ow_2 lf_0_15 (by decide) (k_22 hG) (by simp [wF, wJ, va_up, cpR, bF, bA]) ?_
      refine Y_iconst (v := 1) i_2_89 (by decide) ?_
      refine Y_iadd i_2_90 ?_
      refine Y_pI i_2_91 ow_2 lf_0_15 (k_22 hG) ?_
      refine Y_vret i_2_94 rt_2 (KKv ?_)
      refine Y_al0 i_73_12 ?_
      refine Y_iconst (v := 1) i_73_13 (by decide) ?_
      refine Y_pB i_73_14 ow_73 lf_5_37 (k_21 hG) (by decide) ?_
      refine Y_vret i_73_17 rt_73 (KKv ?_)
      refine Y_al0 i_65_36 ?_
      refine Y_gR i_65_37 ow_65 lf_5_33 (k_21 hG) (r_21_0 hG) ?_
      refine Y_il2 i_65_40 ?_
      exact Y_iv1 (L0 := [.ref 27, .int (lvI (A 28) (F 27 1) x1), .null]) i_65_41 ow_65 lm_5_85 ((k_27 hG).trans ow_80.symm) rfl mx_80 rfl rfl hd_65 h
theorem k_65_44 {d : Nat} {F A : Nat → Nat → Int32} {J : Nat → Nat → Int64} {G : pG} {Q : pR → pM → Prop} {SL p q : Nat} {x1 x2 : Int32} (hG : Geo G SL p q) (h : inB x1 10 = true ∧ (Q (.inl (some (.int x2))) (F, (wF A 29 x1.toNatClampNeg 0), J, G))) : KK (d + 2) 65 44 [.ref 21, .int x1, .int x2] [] Q (.inl none) (F, A, J, G) := by
  refine KKv ?_
  refine Y_al0 i_65_44 ?_
  refine Y_gR i_65_45 ow_65 lf_5_33 (k_21 hG) (r_21_0 hG) ?_
  refine Y_gR i_65_48 ow_65 lf_5_82 (k_27 hG) (r_27_5 hG) ?_
  refine Y_il1 i_65_51 ?_
  refine Y_iconst (v := 0) i_65_52 (by decide) ?_
  have o1 := h.1
  replace h := h.2
  refine Y_iast i_65_53 (k_29 hG) (l_29 hG) o1 rfl ?_
  refine Y_il2 i_65_54 ?_
  exact Y_iret i_65_55 rt_65 h
/- 66 State.changeLevels(II)Z -/
theorem t_66_0 {d : Nat} {F A : Nat → Nat → Int32} {J : Nat → Nat → Int64} {G : pG} {Q : pR → pM → Prop} {SL p q : Nat} {x1 x2 : Int32} (hG : Geo G SL p q) (h : ((x1 = x2 → Q (.inl (some (.int 0))) (F, (wF A 26 1 ((A 26 1) + 1)), J, G)) ∧ (¬ x1 = x2 → inB x1 10 = true ∧ inB x2 10 = true ∧ (((F 22 0) < 40 → inB ((F 22 0) * 14) 560 = true ∧ inB (((F 22 0) * 14) + 1) 560 = true ∧ inB (((F 22 0) * 14) + 2) 560 = true ∧ inB (((F 22 0) * 14) + 3) 560 = true ∧ (Q (.inl (some (.int 1))) ((wF (wF F 22 0 ((F 22 0) + 1)) 21 6 1), (wF (wF (wF (wF (wF (wF A 28 x1.toNatClampNeg (A 28 x2.toNatClampNeg)) 28 x2.toNatClampNeg (A 28 x1.toNatClampNeg)) 23 ((F 22 0) * 14).toNatClampNeg 2) 23 (((F 22 0) * 14) + 1).toNatClampNeg x1) 23 (((F 22 0) * 14) + 2).toNatClampNeg x2) 23 (((F 22 0) * 14) + 3).toNatClampNeg 0), J, G))) ∧ (¬ (F 22 0) < 40 → (¬ (14 : Int32) < 0 ∧ ¬ (0 : Int32) < 0 ∧ ¬ ((39 : Int32) * 14) < 0 ∧ (14 : Int32).toNatClampNeg + ((39 : Int32) * 14).toNatClampNeg ≤ 560 ∧ (0 : Int32).toNatClampNeg + ((39 : Int32) * 14).toNatClampNeg ≤ 560) ∧ inB ((39 : Int32) * 14) 560 = true ∧ inB (((39 : Int32) * 14) + 1) 560 = true ∧ inB (((39 : Int32) * 14) + 2) 560 = true ∧ inB (((39 : Int32) * 14) + 3) 560 = true ∧ (Q (.inl (some (.int 1))) ((wF (wF (wF F 22 0 39) 22 0 ((39 : Int32) + 1)) 21 6 1), (wF (wF (wF (wF (cpR (wF (wF A 28 x1.toNatClampNeg (A 28 x2.toNatClampNeg)) 28 x2.toNatClampNeg (A 28 x1.toNatClampNeg)) 23 23 14 0 ((39 : Int32) * 14).toNatClampNeg) 23 ((39 : Int32) * 14).toNatClampNeg 2) 23 (((39 : Int32) * 14) + 1).toNatClampNeg x1) 23 (((39 : Int32) * 14) + 2).toNatClampNeg x2) 23 (((39 : Int32) * 14) + 3).toNatClampNeg 0), J, G))))))) : X (d + 2) 66 0 [.ref 21, .int x1, .int x2] [] (F, A, J, G) Q := by
  refine Y_il1 i_66_0 ?_
  refine Y_il2 i_66_1 ?_
  refine Y_cne i_66_2 (fun e1 => ?_) (fun e1 => ?_)
  · replace h := h.1 e1
    refine Y_al0 i_66_5 ?_
    refine Y_iconst (v := 1) i_66_6 (by decide) ?_
    refine Y_iv1 (L0 := [.ref 21, .int 1]) i_66_7 ow_66 lm_5_71 ((k_21 hG).trans ow_63.symm) rfl mx_63 rfl rfl hd_66 ?_
    refine Y_al0 i_63_0 ?_
    refine Y_gR i_63_1 ow_63 lf_5_25 (k_21 hG) (r_21_5 hG) ?_
    refine Y_il1 i_63_4 ?_
    refine Y_dup2 i_63_5 rfl rfl ?_
    refine Y_iaload (k := 1) (v := (A 26 1)) i_63_6 (k_26 hG) (l_26 hG) (by decide) (by decide) rfl ?_
    refine Y_iconst (v := 1) i_63_7 (by decide) ?_
    refine Y_iadd i_63_8 ?_
    refine Y_iast (k := 1) i_63_9 (k_26 hG) (l_26 hG) (by decide) (by decide) ?_
    refine Y_iconst (v := (-1)) i_63_10 (by decide) ?_
    refine Y_iret i_63_11 rt_63 (KKi ?_)
    refine Y_pop i_66_10 rfl ?_
    refine Y_iconst (v := 0) i_66_11 (by decide) ?_
    exact Y_bret i_66_12 rt_66 (by decide) h
  · replace h := h.2 e1
    refine Y_al0 i_66_13 ?_
    refine Y_gR i_66_14 ow_66 lf_5_33 (k_21 hG) (r_21_0 hG) ?_
    refine Y_il1 i_66_17 ?_
    refine Y_il2 i_66_18 ?_
    refine Y_iv2 (L0 := [.ref 27, .int x1, .int x2, .null]) i_66_19 ow_66 lm_5_89 ((k_27 hG).trans ow_81.symm) rfl mx_81 rfl rfl hd_66 ?_
    refine Y_al0 i_81_0 ?_
    refine Y_gR i_81_1 ow_81 lf_6_9 (k_27 hG) (r_27_4 hG) ?_
    refine Y_il1 i_81_4 ?_
    have o2 := h.1
    replace h := h.2
    refine Y_iaload (k := x1.toNatClampNeg) (v := (A 28 x1.toNatClampNeg)) i_81_5 (k_28 hG) (l_28 hG) o2 rfl rfl ?_
    refine Y_is3 i_81_6 rfl ?_
    refine Y_al0 i_81_7 ?_
    refine Y_gR i_81_8 ow_81 lf_6_9 (k_27 hG) (r_27_4 hG) ?_
    refine Y_il1 i_81_11 ?_
    refine Y_al0 i_81_12 ?_
    refine Y_gR i_81_13 ow_81 lf_6_9 (k_27 hG) (r_27_4 hG) ?_
    refine Y_il2 i_81_16 ?_
    have o3 := h.1
    replace h := h.2
    refine Y_iaload (k := x2.toNatClampNeg) (v := (A 28 x2.toNatClampNeg)) i_81_17 (k_28 hG) (l_28 hG) o3 rfl rfl ?_
    refine Y_iast i_81_18 (k_28 hG) (l_28 hG) o2 rfl ?_
    refine Y_al0 i_81_19 ?_
    refine Y_gR i_81_20 ow_81 lf_6_9 (k_27 hG) (r_27_4 hG) ?_
    refine Y_il2 i_81_23 ?_
    refine Y_il3 i_81_24 ?_
    refine Y_iast i_81_25 (k_28 hG) (l_28 hG) o3 rfl ?_
    refine Y_vret i_81_26 rt_81 (KKv ?_)
    refine Y_al0 i_66_22 ?_
    refine Y_iconst (v := 2) i_66_23 (by decide) ?_
    refine Y_il1 i_66_24 ?_
    refine Y_il2 i_66_25 ?_
    refine Y_iconst (v := 0) i_66_26 (by decide) ?_
    refine Y_iv4 (L0 := [.ref 21, .int 2, .int x1, .int x2, .int 0]) i_66_27 ow_66 lm_5_78 ((k_21 hG).trans ow_73.symm) rfl mx_73 rfl rfl hd_66 ?_
    refine Y_al0 i_73_0 ?_
    refine Y_gR i_73_1 ow_73 lf_5_12 (k_21 hG) (r_21_1 hG) ?_
    refine Y_il1 i_73_4 ?_
    refine Y_il2 i_73_5 ?_
    refine Y_il3 i_73_6 ?_
    refine Y_il4 i_73_7 ?_
    refine Y_iv4 (L0 := [.ref 22, .int 2, .int x1, .int x2, .int 0, .null]) i_73_9 ow_73 lm_5_114 ((k_22 hG).trans ow_2.symm) rfl mx_2 rfl rfl hd_73 ?_
    refine Y_al0 i_2_0 ?_
    refine Y_gI (v := (F 22 0)) i_2_1 ow_2 lf_0_15 (by decide) (k_22 hG) rfl ?_
    refine Y_bipush (v := 40) i_2_4 (by decide) ?_
    refine Y_clt i_2_6 (fun e4 => ?_) (fun e4 => ?_)
    · replace h := h.1 e4
      refine Y_al0 i_2_36 ?_
      refine Y_gI (v := (F 22 0)) i_2_37 ow_2 lf_0_15 (by decide) (k_22 hG) rfl ?_
      refine Y_bipush (v := 14) i_2_40 (by decide) ?_
      refine Y_imul i_2_42 ?_
      refine Y_is5 i_2_43 rfl ?_
      refine Y_al0 i_2_45 ?_
      refine Y_gR i_2_46 ow_2 lf_0_11 (k_22 hG) (r_22_1 hG) ?_
      refine Y_il5 i_2_49 ?_
      refine Y_il1 i_2_51 ?_
      have o5 := h.1
      replace h := h.2
      refine Y_iast i_2_52 (k_23 hG) (l_23 hG) o5 rfl ?_
      refine Y_al0 i_2_53 ?_
      refine Y_gR i_2_54 ow_2 lf_0_11 (k_22 hG) (r_22_1 hG) ?_
      refine Y_il5 i_2_57 ?_
      refine Y_iconst (v := 1) i_2_59 (by decide) ?_
      refine Y_iadd i_2_60 ?_
      refine Y_il2 i_2_61 ?_
      have o6 := h.1
      replace h := h.2
      refine Y_iast i_2_62 (k_23 hG) (l_23 hG) o6 rfl ?_
      refine Y_al0 i_2_63 ?_
      refine Y_gR i_2_64 ow_2 lf_0_11 (k_22 hG) (r_22_1 hG) ?_
      refine Y_il5 i_2_67 ?_
      refine Y_iconst (v := 2) i_2_69 (by decide) ?_
      refine Y_iadd i_2_70 ?_
      refine Y_il3 i_2_71 ?_
      have o7 := h.1
      replace h := h.2
      refine Y_iast i_2_72 (k_23 hG) (l_23 hG) o7 rfl ?_
      refine Y_al0 i_2_73 ?_
      refine Y_gR i_2_74 ow_2 lf_0_11 (k_22 hG) (r_22_1 hG) ?_
      refine Y_il5 i_2_77 ?_
      refine Y_iconst (v := 3) i_2_79 (by decide) ?_
      refine Y_iadd i_2_80 ?_
      refine Y_il4 i_2_81 ?_
      have o8 := h.1
      replace h := h.2
      refine Y_iast i_2_83 (k_23 hG) (l_23 hG) o8 rfl ?_
      refine Y_al0 i_2_84 ?_
      refine Y_dup i_2_85 rfl ?_
      refine Y_gI (v := (F 22 0)) i_2_86 ow_2 lf_0_15 (by decide) (k_22 hG) rfl ?_
      refine Y_iconst (v := 1) i_2_89 (by decide) ?_
      refine Y_iadd i_2_90 ?_
      refine Y_pI i_2_91 ow_2 lf_0_15 (k_22 hG) ?_
      refine Y_vret i_2_94 rt_2 (KKv ?_)
      refine Y_al0 i_73_12 ?_
      refine Y_iconst (v := 1) i_73_13 (by decide) ?_
      refine Y_pB i_73_14 ow_73 lf_5_37 (k_21 hG) (by decide) ?_
      refine Y_vret i_73_17 rt_73 (KKv ?_)
      refine Y_iconst (v := 1) i_66_30 (by decide) ?_
      exact Y_bret i_66_31 rt_66 (by decide) h
    · replace h := h.2 e4
      refine Y_al0 i_2_9 ?_
      refine Y_bipush (v := 39) i_2_10 (by decide) ?_
      refine Y_pI i_2_12 ow_2 lf_0_15 (k_22 hG) ?_
      refine Y_al0 i_2_15 ?_
      refine Y_gR i_2_16 ow_2 lf_0_11 (k_22 hG) (r_22_1 hG) ?_
      refine Y_bipush (v := 14) i_2_19 (by decide) ?_
      refine Y_al0 i_2_21 ?_
      refine Y_gR i_2_22 ow_2 lf_0_11 (k_22 hG) (r_22_1 hG) ?_
      refine Y_iconst (v := 0) i_2_25 (by decide) ?_
      refine Y_al0 i_2_26 ?_
      refine Y_gI (v := 39) i_2_27 ow_2 lf_0_15 (by decide) (k_22 hG) (by simp [wF, wJ, va_up, cpR, bF, bA]) ?_
      refine Y_bipush (v := 14) i_2_30 (by decide) ?_
      refine Y_imul i_2_32 ?_
      have o9 := h.1
      replace h := h.2
      refine Y_acp (ksp := 14) (kdp := 0) (kn := ((39 : Int32) * 14).toNatClampNeg) i_2_33 ow_2 lm_0_19 rfl (k_23 hG) (k_23 hG) (l_23 hG) (l_23 hG) o9 (by decide) (by decide) rfl ?_
      refine Y_al0 i_2_36 ?_
      refine Y_gI (v := 39) i_2_37 ow_2 lf_0_15 (by decide) (k_22 hG) (by simp [wF, wJ, va_up, cpR, bF, bA]) ?_
      refine Y_bipush (v := 14) i_2_40 (by decide) ?_
      refine Y_imul i_2_42 ?_
      refine Y_is5 i_2_43 rfl ?_
      refine Y_al0 i_2_45 ?_
      refine Y_gR i_2_46 ow_2 lf_0_11 (k_22 hG) (r_22_1 hG) ?_
      refine Y_il5 i_2_49 ?_
      refine Y_il1 i_2_51 ?_
      have o10 := h.1
      replace h := h.2
      refine Y_iast i_2_52 (k_23 hG) (l_23 hG) o10 rfl ?_
      refine Y_al0 i_2_53 ?_
      refine Y_gR i_2_54 ow_2 lf_0_11 (k_22 hG) (r_22_1 hG) ?_
      refine Y_il5 i_2_57 ?_
      refine Y_iconst (v := 1) i_2_59 (by decide) ?_
      refine Y_iadd i_2_60 ?_
      refine Y_il2 i_2_61 ?_
      have o11 := h.1
      replace h := h.2
      refine Y_iast i_2_62 (k_23 hG) (l_23 hG) o11 rfl ?_
      refine Y_al0 i_2_63 ?_
      refine Y_gR i_2_64 ow_2 lf_0_11 (k_22 hG) (r_22_1 hG) ?_
      refine Y_il5 i_2_67 ?_
      refine Y_iconst (v := 2) i_2_69 (by decide) ?_
      refine Y_iadd i_2_70 ?_
      refine Y_il3 i_2_71 ?_
      have o12 := h.1
      replace h := h.2
      refine Y_iast i_2_72 (k_23 hG) (l_23 hG) o12 rfl ?_
      refine Y_al0 i_2_73 ?_
      refine Y_gR i_2_74 ow_2 lf_0_11 (k_22 hG) (r_22_1 hG) ?_
      refine Y_il5 i_2_77 ?_
      refine Y_iconst (v := 3) i_2_79 (by decide) ?_
      refine Y_iadd i_2_80 ?_
      refine Y_il4 i_2_81 ?_
      have o13 := h.1
      replace h := h.2
      refine Y_iast i_2_83 (k_23 hG) (l_23 hG) o13 rfl ?_
      refine Y_al0 i_2_84 ?_
      refine Y_dup i_2_85 rfl ?_
      refine Y_gI (v := 39) i_2_86 ow_2 lf_0_15 (by decide) (k_22 hG) (by simp [wF, wJ, va_up, cpR, bF, bA]) ?_
      refine Y_iconst (v := 1) i_2_89 (by decide) ?_
      refine Y_iadd i_2_90 ?_
      refine Y_pI i_2_91 ow_2 lf_0_15 (k_22 hG) ?_
      refine Y_vret i_2_94 rt_2 (KKv ?_)
      refine Y_al0 i_73_12 ?_
      refine Y_iconst (v := 1) i_73_13 (by decide) ?_
      refine Y_pB i_73_14 ow_73 lf_5_37 (k_21 hG) (by decide) ?_
      refine Y_vret i_73_17 rt_73 (KKv ?_)
      refine Y_iconst (v := 1) i_66_30 (by decide) ?_
      exact Y_bret i_66_31 rt_66 (by decide) h
/- 67 State.setWedge(II)I -/
theorem t_67_0 {d : Nat} {F A : Nat → Nat → Int32} {J : Nat → Nat → Int64} {G : pG} {Q : pR → pM → Prop} {SL p q : Nat} {x1 x2 : Int32} (hG : Geo G SL p q) (h : ((x2 < (-9) → Q (.inl (some (.int (-99)))) (F, (wF A 26 1 ((A 26 1) + 1)), J, G)) ∧ (¬ x2 < (-9) → ((9 < x2 → Q (.inl (some (.int (-99)))) (F, (wF A 26 1 ((A 26 1) + 1)), J, G)) ∧ (¬ 9 < x2 → inB x1 10 = true ∧ (((F 22 0) < 40 → inB ((F 22 0) * 14) 560 = true ∧ inB (((F 22 0) * 14) + 1) 560 = true ∧ inB (((F 22 0) * 14) + 2) 560 = true ∧ inB (((F 22 0) * 14) + 3) 560 = true ∧ (Q (.inl (some (.int (A 30 x1.toNatClampNeg)))) ((wF (wF F 22 0 ((F 22 0) + 1)) 21 6 1), (wF (wF (wF (wF (wF A 30 x1.toNatClampNeg x2) 23 ((F 22 0) * 14).toNatClampNeg 3) 23 (((F 22 0) * 14) + 1).toNatClampNeg x1) 23 (((F 22 0) * 14) + 2).toNatClampNeg (A 30 x1.toNatClampNeg)) 23 (((F 22 0) * 14) + 3).toNatClampNeg 0), J, G))) ∧ (¬ (F 22 0) < 40 → (¬ (14 : Int32) < 0 ∧ ¬ (0 : Int32) < 0 ∧ ¬ ((39 : Int32) * 14) < 0 ∧ (14 : Int32).toNatClampNeg + ((39 : Int32) * 14).toNatClampNeg ≤ 560 ∧ (0 : Int32).toNatClampNeg + ((39 : Int32) * 14).toNatClampNeg ≤ 560) ∧ inB ((39 : Int32) * 14) 560 = true ∧ inB (((39 : Int32) * 14) + 1) 560 = true ∧ inB (((39 : Int32) * 14) + 2) 560 = true ∧ inB (((39 : Int32) * 14) + 3) 560 = true ∧ (Q (.inl (some (.int (A 30 x1.toNatClampNeg)))) ((wF (wF (wF F 22 0 39) 22 0 ((39 : Int32) + 1)) 21 6 1), (wF (wF (wF (wF (cpR (wF A 30 x1.toNatClampNeg x2) 23 23 14 0 ((39 : Int32) * 14).toNatClampNeg) 23 ((39 : Int32) * 14).toNatClampNeg 3) 23 (((39 : Int32) * 14) + 1).toNatClampNeg x1) 23 (((39 : Int32) * 14) + 2).toNatClampNeg (A 30 x1.toNatClampNeg)) 23 (((39 : Int32) * 14) + 3).toNatClampNeg 0), J, G))))))))) : X (d + 2) 67 0 [.ref 21, .int x1, .int x2, .null] [] (F, A, J, G) Q := by
  refine Y_il2 i_67_0 ?_
  refine Y_bipush (v := (-9)) i_67_1 (by decide) ?_
  refine Y_clt i_67_3 (fun e1 => ?_) (fun e1 => ?_)
  · replace h := h.1 e1
    refine Y_al0 i_67_12 ?_
    refine Y_iconst (v := 1) i_67_13 (by decide) ?_
    refine Y_iv1 (L0 := [.ref 21, .int 1]) i_67_14 ow_67 lm_5_71 ((k_21 hG).trans ow_63.symm) rfl mx_63 rfl rfl hd_67 ?_
    refine Y_al0 i_63_0 ?_
    refine Y_gR i_63_1 ow_63 lf_5_25 (k_21 hG) (r_21_5 hG) ?_
    refine Y_il1 i_63_4 ?_
    refine Y_dup2 i_63_5 rfl rfl ?_
    refine Y_iaload (k := 1) (v := (A 26 1)) i_63_6 (k_26 hG) (l_26 hG) (by decide) (by decide) rfl ?_
    refine Y_iconst (v := 1) i_63_7 (by decide) ?_
    refine Y_iadd i_63_8 ?_
    refine Y_iast (k := 1) i_63_9 (k_26 hG) (l_26 hG) (by decide) (by decide) ?_
    refine Y_iconst (v := (-1)) i_63_10 (by decide) ?_
    refine Y_iret i_63_11 rt_63 (KKi ?_)
    refine Y_pop i_67_17 rfl ?_
    refine Y_bipush (v := (-99)) i_67_18 (by decide) ?_
    exact Y_iret i_67_20 rt_67 h
  · replace h := h.2 e1
    refine Y_il2 i_67_6 ?_
    refine Y_bipush (v := 9) i_67_7 (by decide) ?_
    refine Y_cle i_67_9 (fun e2 => ?_) (fun e2 => ?_)
    · replace h := h.1 e2
      refine Y_al0 i_67_12 ?_
      refine Y_iconst (v := 1) i_67_13 (by decide) ?_
      refine Y_iv1 (L0 := [.ref 21, .int 1]) i_67_14 ow_67 lm_5_71 ((k_21 hG).trans ow_63.symm) rfl mx_63 rfl rfl hd_67 ?_
      refine Y_al0 i_63_0 ?_
      refine Y_gR i_63_1 ow_63 lf_5_25 (k_21 hG) (r_21_5 hG) ?_
      refine Y_il1 i_63_4 ?_
      refine Y_dup2 i_63_5 rfl rfl ?_
      refine Y_iaload (k := 1) (v := (A 26 1)) i_63_6 (k_26 hG) (l_26 hG) (by decide) (by decide) rfl ?_
      refine Y_iconst (v := 1) i_63_7 (by decide) ?_
      refine Y_iadd i_63_8 ?_
      refine Y_iast (k := 1) i_63_9 (k_26 hG) (l_26 hG) (by decide) (by decide) ?_
      refine Y_iconst (v := (-1)) i_63_10 (by decide) ?_
      refine Y_iret i_63_11 rt_63 (KKi ?_)
      refine Y_pop i_67_17 rfl ?_
      refine Y_bipush (v := (-99)) i_67_18 (by decide) ?_
      exact Y_iret i_67_20 rt_67 h
    · replace h := h.2 e2
      refine Y_al0 i_67_21 ?_
      refine Y_gR i_67_22 ow_67 lf_5_33 (k_21 hG) (r_21_0 hG) ?_
      refine Y_gR i_67_25 ow_67 lf_5_92 (k_27 hG) (r_27_6 hG) ?_
      refine Y_il1 i_67_28 ?_
      have o3 := h.1
      replace h := h.2
      refine Y_iaload (k := x1.toNatClampNeg) (v := (A 30 x1.toNatClampNeg)) i_67_29 (k_30 hG) (l_30 hG) o3 rfl rfl ?_
      refine Y_is3 i_67_30 rfl ?_
      refine Y_al0 i_67_31 ?_
      refine Y_gR i_67_32 ow_67 lf_5_33 (k_21 hG) (r_21_0 hG) ?_
      refine Y_gR i_67_35 ow_67 lf_5_92 (k_27 hG) (r_27_6 hG) ?_
      refine Y_il1 i_67_38 ?_
      refine Y_il2 i_67_39 ?_
      refine Y_iast i_67_40 (k_30 hG) (l_30 hG) o3 rfl ?_
      refine Y_al0 i_67_41 ?_
      refine Y_iconst (v := 3) i_67_42 (by decide) ?_
      refine Y_il1 i_67_43 ?_
      refine Y_il3 i_67_44 ?_
      refine Y_iconst (v := 0) i_67_45 (by decide) ?_
      refine Y_iv4 (L0 := [.ref 21, .int 3, .int x1, .int (A 30 x1.toNatClampNeg), .int 0]) i_67_46 ow_67 lm_5_78 ((k_21 hG).trans ow_73.symm) rfl mx_73 rfl rfl hd_67 ?_
      refine Y_al0 i_73_0 ?_
      refine Y_gR i_73_1 ow_73 lf_5_12 (k_21 hG) (r_21_1 hG) ?_
      refine Y_il1 i_73_4 ?_
      refine Y_il2 i_73_5 ?_
      refine Y_il3 i_73_6 ?_
      refine Y_il4 i_73_7 ?_
      refine Y_iv4 (L0 := [.ref 22, .int 3, .int x1, .int (A 30 x1.toNatClampNeg), .int 0, .null]) i_73_9 ow_73 lm_5_114 ((k_22 hG).trans ow_2.symm) rfl mx_2 rfl rfl hd_73 ?_
      refine Y_al0 i_2_0 ?_
      refine Y_gI (v := (F 22 0)) i_2_1 ow_2 lf_0_15 (by decide) (k_22 hG) rfl ?_
      refine Y_bipush (v := 40) i_2_4 (by decide) ?_
      refine Y_clt i_2_6 (fun e4 => ?_) (fun e4 => ?_)
      · replace h := h.1 e4
        refine Y_al0 i_2_36 ?_
        refine Y_gI (v := (F 22 0)) i_2_37 ow_2 lf_0_15 (by decide) (k_22 hG) rfl ?_
        refine Y_bipush (v := 14) i_2_40 (by decide) ?_
        refine Y_imul i_2_42 ?_
        refine Y_is5 i_2_43 rfl ?_
        refine Y_al0 i_2_45 ?_
        refine Y_gR i_2_46 ow_2 lf_0_11 (k_22 hG) (r_22_1 hG) ?_
        refine Y_il5 i_2_49 ?_
        refine Y_il1 i_2_51 ?_
        have o5 := h.1
        replace h := h.2
        refine Y_iast i_2_52 (k_23 hG) (l_23 hG) o5 rfl ?_
        refine Y_al0 i_2_53 ?_
        refine Y_gR i_2_54 ow_2 lf_0_11 (k_22 hG) (r_22_1 hG) ?_
        refine Y_il5 i_2_57 ?_
        refine Y_iconst (v := 1) i_2_59 (by decide) ?_
        refine Y_iadd i_2_60 ?_
        refine Y_il2 i_2_61 ?_
        have o6 := h.1
        replace h := h.2
        refine Y_iast i_2_62 (k_23 hG) (l_23 hG) o6 rfl ?_
        refine Y_al0 i_2_63 ?_
        refine Y_gR i_2_64 ow_2 lf_0_11 (k_22 hG) (r_22_1 hG) ?_
        refine Y_il5 i_2_67 ?_
        refine Y_iconst (v := 2) i_2_69 (by decide) ?_
        refine Y_iadd i_2_70 ?_
        refine Y_il3 i_2_71 ?_
        have o7 := h.1
        replace h := h.2
        refine Y_iast i_2_72 (k_23 hG) (l_23 hG) o7 rfl ?_
        refine Y_al0 i_2_73 ?_
        refine Y_gR i_2_74 ow_2 lf_0_11 (k_22 hG) (r_22_1 hG) ?_
        refine Y_il5 i_2_77 ?_
        refine Y_iconst (v := 3) i_2_79 (by decide) ?_
        refine Y_iadd i_2_80 ?_
        refine Y_il4 i_2_81 ?_
        have o8 := h.1
        replace h := h.2
        refine Y_iast i_2_83 (k_23 hG) (l_23 hG) o8 rfl ?_
        refine Y_al0 i_2_84 ?_
        refine Y_dup i_2_85 rfl ?_
        refine Y_gI (v := (F 22 0)) i_2_86 ow_2 lf_0_15 (by decide) (k_22 hG) rfl ?_
        refine Y_iconst (v := 1) i_2_89 (by decide) ?_
        refine Y_iadd i_2_90 ?_
        refine Y_pI i_2_91 ow_2 lf_0_15 (k_22 hG) ?_
        refine Y_vret i_2_94 rt_2 (KKv ?_)
        refine Y_al0 i_73_12 ?_
        refine Y_iconst (v := 1) i_73_13 (by decide) ?_
        refine Y_pB i_73_14 ow_73 lf_5_37 (k_21 hG) (by decide) ?_
        refine Y_vret i_73_17 rt_73 (KKv ?_)
        refine Y_il3 i_67_49 ?_
        exact Y_iret i_67_50 rt_67 h
      · replace h := h.2 e4
        refine Y_al0 i_2_9 ?_
        refine Y_bipush (v := 39) i_2_10 (by decide) ?_
        refine Y_pI i_2_12 ow_2 lf_0_15 (k_22 hG) ?_
        refine Y_al0 i_2_15 ?_
        refine Y_gR i_2_16 ow_2 lf_0_11 (k_22 hG) (r_22_1 hG) ?_
        refine Y_bipush (v := 14) i_2_19 (by decide) ?_
        refine Y_al0 i_2_21 ?_
        refine Y_gR i_2_22 ow_2 lf_0_11 (k_22 hG) (r_22_1 hG) ?_
        refine Y_iconst (v := 0) i_2_25 (by decide) ?_
        refine Y_al0 i_2_26 ?_
        refine Y_gI (v := 39) i_2_27 ow_2 lf_0_15 (by decide) (k_22 hG) (by simp [wF, wJ, va_up, cpR, bF, bA]) ?_
        refine Y_bipush (v := 14) i_2_30 (by decide) ?_
        refine Y_imul i_2_32 ?_
        have o9 := h.1
        replace h := h.2
        refine Y_acp (ksp := 14) (kdp := 0) (kn := ((39 : Int32) * 14).toNatClampNeg) i_2_33 ow_2 lm_0_19 rfl (k_23 hG) (k_23 hG) (l_23 hG) (l_23 hG) o9 (by decide) (by decide) rfl ?_
        refine Y_al0 i_2_36 ?_
        refine Y_gI (v := 39) i_2_37 ow_2 lf_0_15 (by decide) (k_22 hG) (by simp [wF, wJ, va_up, cpR, bF, bA]) ?_
        refine Y_bipush (v := 14) i_2_40 (by decide) ?_
        refine Y_imul i_2_42 ?_
        refine Y_is5 i_2_43 rfl ?_
        refine Y_al0 i_2_45 ?_
        refine Y_gR i_2_46 ow_2 lf_0_11 (k_22 hG) (r_22_1 hG) ?_
        refine Y_il5 i_2_49 ?_
        refine Y_il1 i_2_51 ?_
        have o10 := h.1
        replace h := h.2
        refine Y_iast i_2_52 (k_23 hG) (l_23 hG) o10 rfl ?_
        refine Y_al0 i_2_53 ?_
        refine Y_gR i_2_54 ow_2 lf_0_11 (k_22 hG) (r_22_1 hG) ?_
        refine Y_il5 i_2_57 ?_
        refine Y_iconst (v := 1) i_2_59 (by decide) ?_
        refine Y_iadd i_2_60 ?_
        refine Y_il2 i_2_61 ?_
        have o11 := h.1
        replace h := h.2
        refine Y_iast i_2_62 (k_23 hG) (l_23 hG) o11 rfl ?_
        refine Y_al0 i_2_63 ?_
        refine Y_gR i_2_64 ow_2 lf_0_11 (k_22 hG) (r_22_1 hG) ?_
        refine Y_il5 i_2_67 ?_
        refine Y_iconst (v := 2) i_2_69 (by decide) ?_
        refine Y_iadd i_2_70 ?_
        refine Y_il3 i_2_71 ?_
        have o12 := h.1
        replace h := h.2
        refine Y_iast i_2_72 (k_23 hG) (l_23 hG) o12 rfl ?_
        refine Y_al0 i_2_73 ?_
        refine Y_gR i_2_74 ow_2 lf_0_11 (k_22 hG) (r_22_1 hG) ?_
        refine Y_il5 i_2_77 ?_
        refine Y_iconst (v := 3) i_2_79 (by decide) ?_
        refine Y_iadd i_2_80 ?_
        refine Y_il4 i_2_81 ?_
        have o13 := h.1
        replace h := h.2
        refine Y_iast i_2_83 (k_23 hG) (l_23 hG) o13 rfl ?_
        refine Y_al0 i_2_84 ?_
        refine Y_dup i_2_85 rfl ?_
        refine Y_gI (v := 39) i_2_86 ow_2 lf_0_15 (by decide) (k_22 hG) (by simp [wF, wJ, va_up, cpR, bF, bA]) ?_
        refine Y_iconst (v := 1) i_2_89 (by decide) ?_
        refine Y_iadd i_2_90 ?_
        refine Y_pI i_2_91 ow_2 lf_0_15 (k_22 hG) ?_
        refine Y_vret i_2_94 rt_2 (KKv ?_)
        refine Y_al0 i_73_12 ?_
        refine Y_iconst (v := 1) i_73_13 (by decide) ?_
        refine Y_pB i_73_14 ow_73 lf_5_37 (k_21 hG) (by decide) ?_
        refine Y_vret i_73_17 rt_73 (KKv ?_)
        refine Y_il3 i_67_49 ?_
        exact Y_iret i_67_50 rt_67 h
/- 68 State.setLean(II)I -/
theorem t_68_0 {d : Nat} {F A : Nat → Nat → Int32} {J : Nat → Nat → Int64} {G : pG} {Q : pR → pM → Prop} {SL p q : Nat} {x1 x2 : Int32} (hG : Geo G SL p q) (h : ((x2 < (-9) → Q (.inl (some (.int (-99)))) (F, (wF A 26 1 ((A 26 1) + 1)), J, G)) ∧ (¬ x2 < (-9) → ((9 < x2 → Q (.inl (some (.int (-99)))) (F, (wF A 26 1 ((A 26 1) + 1)), J, G)) ∧ (¬ 9 < x2 → inB x1 10 = true ∧ (((F 22 0) < 40 → inB ((F 22 0) * 14) 560 = true ∧ inB (((F 22 0) * 14) + 1) 560 = true ∧ inB (((F 22 0) * 14) + 2) 560 = true ∧ inB (((F 22 0) * 14) + 3) 560 = true ∧ (Q (.inl (some (.int (A 31 x1.toNatClampNeg)))) ((wF (wF F 22 0 ((F 22 0) + 1)) 21 6 1), (wF (wF (wF (wF (wF A 31 x1.toNatClampNeg x2) 23 ((F 22 0) * 14).toNatClampNeg 4) 23 (((F 22 0) * 14) + 1).toNatClampNeg x1) 23 (((F 22 0) * 14) + 2).toNatClampNeg (A 31 x1.toNatClampNeg)) 23 (((F 22 0) * 14) + 3).toNatClampNeg 0), J, G))) ∧ (¬ (F 22 0) < 40 → (¬ (14 : Int32) < 0 ∧ ¬ (0 : Int32) < 0 ∧ ¬ ((39 : Int32) * 14) < 0 ∧ (14 : Int32).toNatClampNeg + ((39 : Int32) * 14).toNatClampNeg ≤ 560 ∧ (0 : Int32).toNatClampNeg + ((39 : Int32) * 14).toNatClampNeg ≤ 560) ∧ inB ((39 : Int32) * 14) 560 = true ∧ inB (((39 : Int32) * 14) + 1) 560 = true ∧ inB (((39 : Int32) * 14) + 2) 560 = true ∧ inB (((39 : Int32) * 14) + 3) 560 = true ∧ (Q (.inl (some (.int (A 31 x1.toNatClampNeg)))) ((wF (wF (wF F 22 0 39) 22 0 ((39 : Int32) + 1)) 21 6 1), (wF (wF (wF (wF (cpR (wF A 31 x1.toNatClampNeg x2) 23 23 14 0 ((39 : Int32) * 14).toNatClampNeg) 23 ((39 : Int32) * 14).toNatClampNeg 4) 23 (((39 : Int32) * 14) + 1).toNatClampNeg x1) 23 (((39 : Int32) * 14) + 2).toNatClampNeg (A 31 x1.toNatClampNeg)) 23 (((39 : Int32) * 14) + 3).toNatClampNeg 0), J, G))))))))) : X (d + 2) 68 0 [.ref 21, .int x1, .int x2, .null] [] (F, A, J, G) Q := by
  refine Y_il2 i_68_0 ?_
  refine Y_bipush (v := (-9)) i_68_1 (by decide) ?_
  refine Y_clt i_68_3 (fun e1 => ?_) (fun e1 => ?_)
  · replace h := h.1 e1
    refine Y_al0 i_68_12 ?_
    refine Y_iconst (v := 1) i_68_13 (by decide) ?_
    refine Y_iv1 (L0 := [.ref 21, .int 1]) i_68_14 ow_68 lm_5_71 ((k_21 hG).trans ow_63.symm) rfl mx_63 rfl rfl hd_68 ?_
    refine Y_al0 i_63_0 ?_
    refine Y_gR i_63_1 ow_63 lf_5_25 (k_21 hG) (r_21_5 hG) ?_
    refine Y_il1 i_63_4 ?_
    refine Y_dup2 i_63_5 rfl rfl ?_
    refine Y_iaload (k := 1) (v := (A 26 1)) i_63_6 (k_26 hG) (l_26 hG) (by decide) (by decide) rfl ?_
    refine Y_iconst (v := 1) i_63_7 (by decide) ?_
    refine Y_iadd i_63_8 ?_
    refine Y_iast (k := 1) i_63_9 (k_26 hG) (l_26 hG) (by decide) (by decide) ?_
    refine Y_iconst (v := (-1)) i_63_10 (by decide) ?_
    refine Y_iret i_63_11 rt_63 (KKi ?_)
    refine Y_pop i_68_17 rfl ?_
    refine Y_bipush (v := (-99)) i_68_18 (by decide) ?_
    exact Y_iret i_68_20 rt_68 h
  · replace h := h.2 e1
    refine Y_il2 i_68_6 ?_
    refine Y_bipush (v := 9) i_68_7 (by decide) ?_
    refine Y_cle i_68_9 (fun e2 => ?_) (fun e2 => ?_)
    · replace h := h.1 e2
      refine Y_al0 i_68_12 ?_
      refine Y_iconst (v := 1) i_68_13 (by decide) ?_
      refine Y_iv1 (L0 := [.ref 21, .int 1]) i_68_14 ow_68 lm_5_71 ((k_21 hG).trans ow_63.symm) rfl mx_63 rfl rfl hd_68 ?_
      refine Y_al0 i_63_0 ?_
      refine Y_gR i_63_1 ow_63 lf_5_25 (k_21 hG) (r_21_5 hG) ?_
      refine Y_il1 i_63_4 ?_
      refine Y_dup2 i_63_5 rfl rfl ?_
      refine Y_iaload (k := 1) (v := (A 26 1)) i_63_6 (k_26 hG) (l_26 hG) (by decide) (by decide) rfl ?_
      refine Y_iconst (v := 1) i_63_7 (by decide) ?_
      refine Y_iadd i_63_8 ?_
      refine Y_iast (k := 1) i_63_9 (k_26 hG) (l_26 hG) (by decide) (by decide) ?_
      refine Y_iconst (v := (-1)) i_63_10 (by decide) ?_
      refine Y_iret i_63_11 rt_63 (KKi ?_)
      refine Y_pop i_68_17 rfl ?_
      refine Y_bipush (v := (-99)) i_68_18 (by decide) ?_
      exact Y_iret i_68_20 rt_68 h
    · replace h := h.2 e2
      refine Y_al0 i_68_21 ?_
      refine Y_gR i_68_22 ow_68 lf_5_33 (k_21 hG) (r_21_0 hG) ?_
      refine Y_gR i_68_25 ow_68 lf_5_95 (k_27 hG) (r_27_7 hG) ?_
      refine Y_il1 i_68_28 ?_
      have o3 := h.1
      replace h := h.2
      refine Y_iaload (k := x1.toNatClampNeg) (v := (A 31 x1.toNatClampNeg)) i_68_29 (k_31 hG) (l_31 hG) o3 rfl rfl ?_
      refine Y_is3 i_68_30 rfl ?_
      refine Y_al0 i_68_31 ?_
      refine Y_gR i_68_32 ow_68 lf_5_33 (k_21 hG) (r_21_0 hG) ?_
      refine Y_gR i_68_35 ow_68 lf_5_95 (k_27 hG) (r_27_7 hG) ?_
      refine Y_il1 i_68_38 ?_
      refine Y_il2 i_68_39 ?_
      refine Y_iast i_68_40 (k_31 hG) (l_31 hG) o3 rfl ?_
      refine Y_al0 i_68_41 ?_
      refine Y_iconst (v := 4) i_68_42 (by decide) ?_
      refine Y_il1 i_68_43 ?_
      refine Y_il3 i_68_44 ?_
      refine Y_iconst (v := 0) i_68_45 (by decide) ?_
      refine Y_iv4 (L0 := [.ref 21, .int 4, .int x1, .int (A 31 x1.toNatClampNeg), .int 0]) i_68_46 ow_68 lm_5_78 ((k_21 hG).trans ow_73.symm) rfl mx_73 rfl rfl hd_68 ?_
      refine Y_al0 i_73_0 ?_
      refine Y_gR i_73_1 ow_73 lf_5_12 (k_21 hG) (r_21_1 hG) ?_
      refine Y_il1 i_73_4 ?_
      refine Y_il2 i_73_5 ?_
      refine Y_il3 i_73_6 ?_
      refine Y_il4 i_73_7 ?_
      refine Y_iv4 (L0 := [.ref 22, .int 4, .int x1, .int (A 31 x1.toNatClampNeg), .int 0, .null]) i_73_9 ow_73 lm_5_114 ((k_22 hG).trans ow_2.symm) rfl mx_2 rfl rfl hd_73 ?_
      refine Y_al0 i_2_0 ?_
      refine Y_gI (v := (F 22 0)) i_2_1 ow_2 lf_0_15 (by decide) (k_22 hG) rfl ?_
      refine Y_bipush (v := 40) i_2_4 (by decide) ?_
      refine Y_clt i_2_6 (fun e4 => ?_) (fun e4 => ?_)
      · replace h := h.1 e4
        refine Y_al0 i_2_36 ?_
        refine Y_gI (v := (F 22 0)) i_2_37 ow_2 lf_0_15 (by decide) (k_22 hG) rfl ?_
        refine Y_bipush (v := 14) i_2_40 (by decide) ?_
        refine Y_imul i_2_42 ?_
        refine Y_is5 i_2_43 rfl ?_
        refine Y_al0 i_2_45 ?_
        refine Y_gR i_2_46 ow_2 lf_0_11 (k_22 hG) (r_22_1 hG) ?_
        refine Y_il5 i_2_49 ?_
        refine Y_il1 i_2_51 ?_
        have o5 := h.1
        replace h := h.2
        refine Y_iast i_2_52 (k_23 hG) (l_23 hG) o5 rfl ?_
        refine Y_al0 i_2_53 ?_
        refine Y_gR i_2_54 ow_2 lf_0_11 (k_22 hG) (r_22_1 hG) ?_
        refine Y_il5 i_2_57 ?_
        refine Y_iconst (v := 1) i_2_59 (by decide) ?_
        refine Y_iadd i_2_60 ?_
        refine Y_il2 i_2_61 ?_
        have o6 := h.1
        replace h := h.2
        refine Y_iast i_2_62 (k_23 hG) (l_23 hG) o6 rfl ?_
        refine Y_al0 i_2_63 ?_
        refine Y_gR i_2_64 ow_2 lf_0_11 (k_22 hG) (r_22_1 hG) ?_
        refine Y_il5 i_2_67 ?_
        refine Y_iconst (v := 2) i_2_69 (by decide) ?_
        refine Y_iadd i_2_70 ?_
        refine Y_il3 i_2_71 ?_
        have o7 := h.1
        replace h := h.2
        refine Y_iast i_2_72 (k_23 hG) (l_23 hG) o7 rfl ?_
        refine Y_al0 i_2_73 ?_
        refine Y_gR i_2_74 ow_2 lf_0_11 (k_22 hG) (r_22_1 hG) ?_
        refine Y_il5 i_2_77 ?_
        refine Y_iconst (v := 3) i_2_79 (by decide) ?_
        refine Y_iadd i_2_80 ?_
        refine Y_il4 i_2_81 ?_
        have o8 := h.1
        replace h := h.2
        refine Y_iast i_2_83 (k_23 hG) (l_23 hG) o8 rfl ?_
        refine Y_al0 i_2_84 ?_
        refine Y_dup i_2_85 rfl ?_
        refine Y_gI (v := (F 22 0)) i_2_86 ow_2 lf_0_15 (by decide) (k_22 hG) rfl ?_
        refine Y_iconst (v := 1) i_2_89 (by decide) ?_
        refine Y_iadd i_2_90 ?_
        refine Y_pI i_2_91 ow_2 lf_0_15 (k_22 hG) ?_
        refine Y_vret i_2_94 rt_2 (KKv ?_)
        refine Y_al0 i_73_12 ?_
        refine Y_iconst (v := 1) i_73_13 (by decide) ?_
        refine Y_pB i_73_14 ow_73 lf_5_37 (k_21 hG) (by decide) ?_
        refine Y_vret i_73_17 rt_73 (KKv ?_)
        refine Y_il3 i_68_49 ?_
        exact Y_iret i_68_50 rt_68 h
      · replace h := h.2 e4
        refine Y_al0 i_2_9 ?_
        refine Y_bipush (v := 39) i_2_10 (by decide) ?_
        refine Y_pI i_2_12 ow_2 lf_0_15 (k_22 hG) ?_
        refine Y_al0 i_2_15 ?_
        refine Y_gR i_2_16 ow_2 lf_0_11 (k_22 hG) (r_22_1 hG) ?_
        refine Y_bipush (v := 14) i_2_19 (by decide) ?_
        refine Y_al0 i_2_21 ?_
        refine Y_gR i_2_22 ow_2 lf_0_11 (k_22 hG) (r_22_1 hG) ?_
        refine Y_iconst (v := 0) i_2_25 (by decide) ?_
        refine Y_al0 i_2_26 ?_
        refine Y_gI (v := 39) i_2_27 ow_2 lf_0_15 (by decide) (k_22 hG) (by simp [wF, wJ, va_up, cpR, bF, bA]) ?_
        refine Y_bipush (v := 14) i_2_30 (by decide) ?_
        refine Y_imul i_2_32 ?_
        have o9 := h.1
        replace h := h.2
        refine Y_acp (ksp := 14) (kdp := 0) (kn := ((39 : Int32) * 14).toNatClampNeg) i_2_33 ow_2 lm_0_19 rfl (k_23 hG) (k_23 hG) (l_23 hG) (l_23 hG) o9 (by decide) (by decide) rfl ?_
        refine Y_al0 i_2_36 ?_
        refine Y_gI (v := 39) i_2_37 ow_2 lf_0_15 (by decide) (k_22 hG) (by simp [wF, wJ, va_up, cpR, bF, bA]) ?_
        refine Y_bipush (v := 14) i_2_40 (by decide) ?_
        refine Y_imul i_2_42 ?_
        refine Y_is5 i_2_43 rfl ?_
        refine Y_al0 i_2_45 ?_
        refine Y_gR i_2_46 ow_2 lf_0_11 (k_22 hG) (r_22_1 hG) ?_
        refine Y_il5 i_2_49 ?_
        refine Y_il1 i_2_51 ?_
        have o10 := h.1
        replace h := h.2
        refine Y_iast i_2_52 (k_23 hG) (l_23 hG) o10 rfl ?_
        refine Y_al0 i_2_53 ?_
        refine Y_gR i_2_54 ow_2 lf_0_11 (k_22 hG) (r_22_1 hG) ?_
        refine Y_il5 i_2_57 ?_
        refine Y_iconst (v := 1) i_2_59 (by decide) ?_
        refine Y_iadd i_2_60 ?_
        refine Y_il2 i_2_61 ?_
        have o11 := h.1
        replace h := h.2
        refine Y_iast i_2_62 (k_23 hG) (l_23 hG) o11 rfl ?_
        refine Y_al0 i_2_63 ?_
        refine Y_gR i_2_64 ow_2 lf_0_11 (k_22 hG) (r_22_1 hG) ?_
        refine Y_il5 i_2_67 ?_
        refine Y_iconst (v := 2) i_2_69 (by decide) ?_
        refine Y_iadd i_2_70 ?_
        refine Y_il3 i_2_71 ?_
        have o12 := h.1
        replace h := h.2
        refine Y_iast i_2_72 (k_23 hG) (l_23 hG) o12 rfl ?_
        refine Y_al0 i_2_73 ?_
        refine Y_gR i_2_74 ow_2 lf_0_11 (k_22 hG) (r_22_1 hG) ?_
        refine Y_il5 i_2_77 ?_
        refine Y_iconst (v := 3) i_2_79 (by decide) ?_
        refine Y_iadd i_2_80 ?_
        refine Y_il4 i_2_81 ?_
        have o13 := h.1
        replace h := h.2
        refine Y_iast i_2_83 (k_23 hG) (l_23 hG) o13 rfl ?_
        refine Y_al0 i_2_84 ?_
        refine Y_dup i_2_85 rfl ?_
        refine Y_gI (v := 39) i_2_86 ow_2 lf_0_15 (by decide) (k_22 hG) (by simp [wF, wJ, va_up, cpR, bF, bA]) ?_
        refine Y_iconst (v := 1) i_2_89 (by decide) ?_
        refine Y_iadd i_2_90 ?_
        refine Y_pI i_2_91 ow_2 lf_0_15 (k_22 hG) ?_
        refine Y_vret i_2_94 rt_2 (KKv ?_)
        refine Y_al0 i_73_12 ?_
        refine Y_iconst (v := 1) i_73_13 (by decide) ?_
        refine Y_pB i_73_14 ow_73 lf_5_37 (k_21 hG) (by decide) ?_
        refine Y_vret i_73_17 rt_73 (KKv ?_)
        refine Y_il3 i_68_49 ?_
        exact Y_iret i_68_50 rt_68 h
/- 69 State.eat(I)I -/
theorem t_69_0 {d : Nat} {F A : Nat → Nat → Int32} {J : Nat → Nat → Int64} {G : pG} {Q : pR → pM → Prop} {SL p q : Nat} {x1 : Int32} (hG : Geo G SL p q) (h : (((F 22 0) < 40 → inB ((F 22 0) * 14) 560 = true ∧ inB (((F 22 0) * 14) + 1) 560 = true ∧ inB (((F 22 0) * 14) + 2) 560 = true ∧ inB (((F 22 0) * 14) + 3) 560 = true ∧ (¬ (0 : Int32) < 0 ∧ ¬ (((((F 22 0) + 1) - 1) * 14) + 4) < 0 ∧ ¬ (10 : Int32) < 0 ∧ (0 : Int32).toNatClampNeg + (10 : Int32).toNatClampNeg ≤ 10 ∧ (((((F 22 0) + 1) - 1) * 14) + 4).toNatClampNeg + (10 : Int32).toNatClampNeg ≤ 560) ∧ (X (d + 3) 90 0 [.ref 27, .int x1, .null, .null, .null] [] ((wF (wF F 22 0 ((F 22 0) + 1)) 21 6 1), (cpR (wF (wF (wF (wF A 23 ((F 22 0) * 14).toNatClampNeg 5) 23 (((F 22 0) * 14) + 1).toNatClampNeg (F 27 3)) 23 (((F 22 0) * 14) + 2).toNatClampNeg 0) 23 (((F 22 0) * 14) + 3).toNatClampNeg 0) 23 29 0 (((((F 22 0) + 1) - 1) * 14) + 4).toNatClampNeg 10), J, G) (KK (d + 4) 69 28 [.ref 21, .int x1] [.ref 27] Q))) ∧ (¬ (F 22 0) < 40 → (¬ (14 : Int32) < 0 ∧ ¬ (0 : Int32) < 0 ∧ ¬ ((39 : Int32) * 14) < 0 ∧ (14 : Int32).toNatClampNeg + ((39 : Int32) * 14).toNatClampNeg ≤ 560 ∧ (0 : Int32).toNatClampNeg + ((39 : Int32) * 14).toNatClampNeg ≤ 560) ∧ inB ((39 : Int32) * 14) 560 = true ∧ inB (((39 : Int32) * 14) + 1) 560 = true ∧ inB (((39 : Int32) * 14) + 2) 560 = true ∧ inB (((39 : Int32) * 14) + 3) 560 = true ∧ (¬ (0 : Int32) < 0 ∧ ¬ (((((39 : Int32) + 1) - 1) * 14) + 4) < 0 ∧ ¬ (10 : Int32) < 0 ∧ (0 : Int32).toNatClampNeg + (10 : Int32).toNatClampNeg ≤ 10 ∧ (((((39 : Int32) + 1) - 1) * 14) + 4).toNatClampNeg + (10 : Int32).toNatClampNeg ≤ 560) ∧ (X (d + 3) 90 0 [.ref 27, .int x1, .null, .null, .null] [] ((wF (wF (wF F 22 0 39) 22 0 ((39 : Int32) + 1)) 21 6 1), (cpR (wF (wF (wF (wF (cpR A 23 23 14 0 ((39 : Int32) * 14).toNatClampNeg) 23 ((39 : Int32) * 14).toNatClampNeg 5) 23 (((39 : Int32) * 14) + 1).toNatClampNeg (F 27 3)) 23 (((39 : Int32) * 14) + 2).toNatClampNeg 0) 23 (((39 : Int32) * 14) + 3).toNatClampNeg 0) 23 29 0 (((((39 : Int32) + 1) - 1) * 14) + 4).toNatClampNeg 10), J, G) (KK (d + 4) 69 28 [.ref 21, .int x1] [.ref 27] Q))))) : X (d + 4) 69 0 [.ref 21, .int x1] [] (F, A, J, G) Q := by
  refine Y_al0 i_69_0 ?_
  refine Y_gR i_69_1 ow_69 lf_5_12 (k_21 hG) (r_21_1 hG) ?_
  refine Y_al0 i_69_4 ?_
  refine Y_gR i_69_5 ow_69 lf_5_33 (k_21 hG) (r_21_0 hG) ?_
  refine Y_iv1 (L0 := [.ref 22, .ref 27]) i_69_8 ow_69 lm_5_98 ((k_22 hG).trans ow_3.symm) rfl mx_3 rfl rfl hd_69 ?_
  refine Y_al0 i_3_0 ?_
  refine Y_iconst (v := 5) i_3_1 (by decide) ?_
  refine Y_al1 i_3_2 ?_
  refine Y_gI (v := (F 27 3)) i_3_3 ow_3 lf_0_25 (by decide) (k_27 hG) rfl ?_
  refine Y_iconst (v := 0) i_3_6 (by decide) ?_
  refine Y_iconst (v := 0) i_3_7 (by decide) ?_
  refine Y_iv4 (L0 := [.ref 22, .int 5, .int (F 27 3), .int 0, .int 0, .null]) i_3_8 ow_3 lm_0_30 ((k_22 hG).trans ow_2.symm) rfl mx_2 rfl rfl hd_3 ?_
  refine Y_al0 i_2_0 ?_
  refine Y_gI (v := (F 22 0)) i_2_1 ow_2 lf_0_15 (by decide) (k_22 hG) rfl ?_
  refine Y_bipush (v := 40) i_2_4 (by decide) ?_
  refine Y_clt i_2_6 (fun e1 => ?_) (fun e1 => ?_)
  · replace h := h.1 e1
    refine Y_al0 i_2_36 ?_
    refine Y_gI (v := (F 22 0)) i_2_37 ow_2 lf_0_15 (by decide) (k_22 hG) rfl ?_
    refine Y_bipush (v := 14) i_2_40 (by decide) ?_
    refine Y_imul i_2_42 ?_
    refine Y_is5 i_2_43 rfl ?_
    refine Y_al0 i_2_45 ?_
    refine Y_gR i_2_46 ow_2 lf_0_11 (k_22 hG) (r_22_1 hG) ?_
    refine Y_il5 i_2_49 ?_
    refine Y_il1 i_2_51 ?_
    have o2 := h.1
    replace h := h.2
    refine Y_iast i_2_52 (k_23 hG) (l_23 hG) o2 rfl ?_
    refine Y_al0 i_2_53 ?_
    refine Y_gR i_2_54 ow_2 lf_0_11 (k_22 hG) (r_22_1 hG) ?_
    refine Y_il5 i_2_57 ?_
    refine Y_iconst (v := 1) i_2_59 (by decide) ?_
    refine Y_iadd i_2_60 ?_
    refine Y_il2 i_2_61 ?_
    have o3 := h.1
    replace h := h.2
    refine Y_iast i_2_62 (k_23 hG) (l_23 hG) o3 rfl ?_
    refine Y_al0 i_2_63 ?_
    refine Y_gR i_2_64 ow_2 lf_0_11 (k_22 hG) (r_22_1 hG) ?_
    refine Y_il5 i_2_67 ?_
    refine Y_iconst (v := 2) i_2_69 (by decide) ?_
    refine Y_iadd i_2_70 ?_
    refine Y_il3 i_2_71 ?_
    have o4 := h.1
    replace h := h.2
    refine Y_iast i_2_72 (k_23 hG) (l_23 hG) o4 rfl ?_
    refine Y_al0 i_2_73 ?_
    refine Y_gR i_2_74 ow_2 lf_0_11 (k_22 hG) (r_22_1 hG) ?_
    refine Y_il5 i_2_77 ?_
    refine Y_iconst (v := 3) i_2_79 (by decide) ?_
    refine Y_iadd i_2_80 ?_
    refine Y_il4 i_2_81 ?_
    have o5 := h.1
    replace h := h.2
    refine Y_iast i_2_83 (k_23 hG) (l_23 hG) o5 rfl ?_
    refine Y_al0 i_2_84 ?_
    refine Y_dup i_2_85 rfl ?_
    refine Y_gI (v := (F 22 0)) i_2_86 ow_2 lf_0_15 (by decide) (k_22 hG) rfl ?_
    refine Y_iconst (v := 1) i_2_89 (by decide) ?_
    refine Y_iadd i_2_90 ?_
    refine Y_pI i_2_91 ow_2 lf_0_15 (k_22 hG) ?_
    refine Y_vret i_2_94 rt_2 (KKv ?_)
    refine Y_al1 i_3_11 ?_
    refine Y_gR i_3_12 ow_3 lf_0_34 (k_27 hG) (r_27_5 hG) ?_
    refine Y_iconst (v := 0) i_3_15 (by decide) ?_
    refine Y_al0 i_3_16 ?_
    refine Y_gR i_3_17 ow_3 lf_0_11 (k_22 hG) (r_22_1 hG) ?_
    refine Y_al0 i_3_20 ?_
    refine Y_gI (v := ((F 22 0) + 1)) i_3_21 ow_3 lf_0_15 (by decide) (k_22 hG) (by simp [wF, wJ, va_up, cpR, bF, bA]) ?_
    refine Y_iconst (v := 1) i_3_24 (by decide) ?_
    refine Y_isub i_3_25 ?_
    refine Y_bipush (v := 14) i_3_26 (by decide) ?_
    refine Y_imul i_3_28 ?_
    refine Y_iconst (v := 4) i_3_29 (by decide) ?_
    refine Y_iadd i_3_30 ?_
    refine Y_bipush (v := 10) i_3_31 (by decide) ?_
    have o6 := h.1
    replace h := h.2
    refine Y_acp (ksp := 0) (kdp := (((((F 22 0) + 1) - 1) * 14) + 4).toNatClampNeg) (kn := 10) i_3_33 ow_3 lm_0_19 rfl (k_23 hG) (k_29 hG) (l_23 hG) (l_29 hG) o6 (by decide) rfl (by decide) ?_
    refine Y_vret i_3_36 rt_3 (KKv ?_)
    refine Y_al0 i_69_11 ?_
    refine Y_iconst (v := 1) i_69_12 (by decide) ?_
    refine Y_pB i_69_13 ow_69 lf_5_37 (k_21 hG) (by decide) ?_
    refine Y_al0 i_69_16 ?_
    refine Y_gR i_69_17 ow_69 lf_5_33 (k_21 hG) (r_21_0 hG) ?_
    refine Y_al0 i_69_20 ?_
    refine Y_gR i_69_21 ow_69 lf_5_33 (k_21 hG) (r_21_0 hG) ?_
    refine Y_il1 i_69_24 ?_
    exact Y_iv1 (L0 := [.ref 27, .int x1, .null, .null, .null]) i_69_25 ow_69 lm_5_101 ((k_27 hG).trans ow_90.symm) rfl mx_90 rfl rfl hd_69 h
  · replace h := h.2 e1
    refine Y_al0 i_2_9 ?_
    refine Y_bipush (v := 39) i_2_10 (by decide) ?_
    refine Y_pI i_2_12 ow_2 lf_0_15 (k_22 hG) ?_
    refine Y_al0 i_2_15 ?_
    refine Y_gR i_2_16 ow_2 lf_0_11 (k_22 hG) (r_22_1 hG) ?_
    refine Y_bipush (v := 14) i_2_19 (by decide) ?_
    refine Y_al0 i_2_21 ?_
    refine Y_gR i_2_22 ow_2 lf_0_11 (k_22 hG) (r_22_1 hG) ?_
    refine Y_iconst (v := 0) i_2_25 (by decide) ?_
    refine Y_al0 i_2_26 ?_
    refine Y_gI (v := 39) i_2_27 ow_2 lf_0_15 (by decide) (k_22 hG) (by simp [wF, wJ, va_up, cpR, bF, bA]) ?_
    refine Y_bipush (v := 14) i_2_30 (by decide) ?_
    refine Y_imul i_2_32 ?_
    have o7 := h.1
    replace h := h.2
    refine Y_acp (ksp := 14) (kdp := 0) (kn := ((39 : Int32) * 14).toNatClampNeg) i_2_33 ow_2 lm_0_19 rfl (k_23 hG) (k_23 hG) (l_23 hG) (l_23 hG) o7 (by decide) (by decide) rfl ?_
    refine Y_al0 i_2_36 ?_
    refine Y_gI (v := 39) i_2_37 ow_2 lf_0_15 (by decide) (k_22 hG) (by simp [wF, wJ, va_up, cpR, bF, bA]) ?_
    refine Y_bipush (v := 14) i_2_40 (by decide) ?_
    refine Y_imul i_2_42 ?_
    refine Y_is5 i_2_43 rfl ?_
    refine Y_al0 i_2_45 ?_
    refine Y_gR i_2_46 ow_2 lf_0_11 (k_22 hG) (r_22_1 hG) ?_
    refine Y_il5 i_2_49 ?_
    refine Y_il1 i_2_51 ?_
    have o8 := h.1
    replace h := h.2
    refine Y_iast i_2_52 (k_23 hG) (l_23 hG) o8 rfl ?_
    refine Y_al0 i_2_53 ?_
    refine Y_gR i_2_54 ow_2 lf_0_11 (k_22 hG) (r_22_1 hG) ?_
    refine Y_il5 i_2_57 ?_
    refine Y_iconst (v := 1) i_2_59 (by decide) ?_
    refine Y_iadd i_2_60 ?_
    refine Y_il2 i_2_61 ?_
    have o9 := h.1
    replace h := h.2
    refine Y_iast i_2_62 (k_23 hG) (l_23 hG) o9 rfl ?_
    refine Y_al0 i_2_63 ?_
    refine Y_gR i_2_64 ow_2 lf_0_11 (k_22 hG) (r_22_1 hG) ?_
    refine Y_il5 i_2_67 ?_
    refine Y_iconst (v := 2) i_2_69 (by decide) ?_
    refine Y_iadd i_2_70 ?_
    refine Y_il3 i_2_71 ?_
    have o10 := h.1
    replace h := h.2
    refine Y_iast i_2_72 (k_23 hG) (l_23 hG) o10 rfl ?_
    refine Y_al0 i_2_73 ?_
    refine Y_gR i_2_74 ow_2 lf_0_11 (k_22 hG) (r_22_1 hG) ?_
    refine Y_il5 i_2_77 ?_
    refine Y_iconst (v := 3) i_2_79 (by decide) ?_
    refine Y_iadd i_2_80 ?_
    refine Y_il4 i_2_81 ?_
    have o11 := h.1
    replace h := h.2
    refine Y_iast i_2_83 (k_23 hG) (l_23 hG) o11 rfl ?_
    refine Y_al0 i_2_84 ?_
    refine Y_dup i_2_85 rfl ?_
    refine Y_gI (v := 39) i_2_86 ow_2 lf_0_15 (by decide) (k_22 hG) (by simp [wF, wJ, va_up, cpR, bF, bA]) ?_
    refine Y_iconst (v := 1) i_2_89 (by decide) ?_
    refine Y_iadd i_2_90 ?_
    refine Y_pI i_2_91 ow_2 lf_0_15 (k_22 hG) ?_
    refine Y_vret i_2_94 rt_2 (KKv ?_)
    refine Y_al1 i_3_11 ?_
    refine Y_gR i_3_12 ow_3 lf_0_34 (k_27 hG) (r_27_5 hG) ?_
    refine Y_iconst (v := 0) i_3_15 (by decide) ?_
    refine Y_al0 i_3_16 ?_
    refine Y_gR i_3_17 ow_3 lf_0_11 (k_22 hG) (r_22_1 hG) ?_
    refine Y_al0 i_3_20 ?_
    refine Y_gI (v := ((39 : Int32) + 1)) i_3_21 ow_3 lf_0_15 (by decide) (k_22 hG) (by simp [wF, wJ, va_up, cpR, bF, bA]) ?_
    refine Y_iconst (v := 1) i_3_24 (by decide) ?_
    refine Y_isub i_3_25 ?_
    refine Y_bipush (v := 14) i_3_26 (by decide) ?_
    refine Y_imul i_3_28 ?_
    refine Y_iconst (v := 4) i_3_29 (by decide) ?_
    refine Y_iadd i_3_30 ?_
    refine Y_bipush (v := 10) i_3_31 (by decide) ?_
    have o12 := h.1
    replace h := h.2
    refine Y_acp (ksp := 0) (kdp := (((((39 : Int32) + 1) - 1) * 14) + 4).toNatClampNeg) (kn := 10) i_3_33 ow_3 lm_0_19 rfl (k_23 hG) (k_29 hG) (l_23 hG) (l_29 hG) o12 (by decide) rfl (by decide) ?_
    refine Y_vret i_3_36 rt_3 (KKv ?_)
    refine Y_al0 i_69_11 ?_
    refine Y_iconst (v := 1) i_69_12 (by decide) ?_
    refine Y_pB i_69_13 ow_69 lf_5_37 (k_21 hG) (by decide) ?_
    refine Y_al0 i_69_16 ?_
    refine Y_gR i_69_17 ow_69 lf_5_33 (k_21 hG) (r_21_0 hG) ?_
    refine Y_al0 i_69_20 ?_
    refine Y_gR i_69_21 ow_69 lf_5_33 (k_21 hG) (r_21_0 hG) ?_
    refine Y_il1 i_69_24 ?_
    exact Y_iv1 (L0 := [.ref 27, .int x1, .null, .null, .null]) i_69_25 ow_69 lm_5_101 ((k_27 hG).trans ow_90.symm) rfl mx_90 rfl rfl hd_69 h
theorem k_69_28 {d : Nat} {F A : Nat → Nat → Int32} {J : Nat → Nat → Int64} {G : pG} {Q : pR → pM → Prop} {SL p q : Nat} {x1 r r : Int32} (hG : Geo G SL p q) (h : Q (.inl (some (.int r))) ((wF F 27 3 r), A, J, G)) : KK (d + 4) 69 28 [.ref 21, .int x1] [.ref 27] Q (.inl (some (.int r))) (F, A, J, G) := by
  refine KKi ?_
  refine Y_pI i_69_28 ow_69 lf_5_104 (k_27 hG) ?_
  refine Y_al0 i_69_31 ?_
  refine Y_gR i_69_32 ow_69 lf_5_33 (k_21 hG) (r_21_0 hG) ?_
  refine Y_gI (v := r) i_69_35 ow_69 lf_5_104 (by decide) (k_27 hG) (by simp [wF, wJ, va_up, cpR, bF, bA]) ?_
  exact Y_iret i_69_38 rt_69 h
/- 70 State.age(I)I -/
theorem t_70_0 {d : Nat} {F A : Nat → Nat → Int32} {J : Nat → Nat → Int64} {G : pG} {Q : pR → pM → Prop} {SL p q : Nat} {x1 : Int32} (hG : Geo G SL p q) (h : ((x1 < 1 → Q (.inl (some (.int (-1)))) (F, (wF A 26 1 ((A 26 1) + 1)), J, G)) ∧ (¬ x1 < 1 → ((30 < x1 → Q (.inl (some (.int (-1)))) (F, (wF A 26 1 ((A 26 1) + 1)), J, G)) ∧ (¬ 30 < x1 → ((999 < ((F 27 2) + x1) → Q (.inl (some (.int (-1)))) (F, (wF A 26 1 ((A 26 1) + 1)), J, G)) ∧ (¬ 999 < ((F 27 2) + x1) → (((F 22 0) < 40 → inB ((F 22 0) * 14) 560 = true ∧ inB (((F 22 0) * 14) + 1) 560 = true ∧ inB (((F 22 0) * 14) + 2) 560 = true ∧ inB (((F 22 0) * 14) + 3) 560 = true ∧ (Q (.inl (some (.int ((F 27 2) + x1)))) ((wF (wF (wF F 27 2 ((F 27 2) + x1)) 22 0 ((F 22 0) + 1)) 21 6 1), (wF (wF (wF (wF A 23 ((F 22 0) * 14).toNatClampNeg 6) 23 (((F 22 0) * 14) + 1).toNatClampNeg x1) 23 (((F 22 0) * 14) + 2).toNatClampNeg 0) 23 (((F 22 0) * 14) + 3).toNatClampNeg 0), J, G))) ∧ (¬ (F 22 0) < 40 → (¬ (14 : Int32) < 0 ∧ ¬ (0 : Int32) < 0 ∧ ¬ ((39 : Int32) * 14) < 0 ∧ (14 : Int32).toNatClampNeg + ((39 : Int32) * 14).toNatClampNeg ≤ 560 ∧ (0 : Int32).toNatClampNeg + ((39 : Int32) * 14).toNatClampNeg ≤ 560) ∧ inB ((39 : Int32) * 14) 560 = true ∧ inB (((39 : Int32) * 14) + 1) 560 = true ∧ inB (((39 : Int32) * 14) + 2) 560 = true ∧ inB (((39 : Int32) * 14) + 3) 560 = true ∧ (Q (.inl (some (.int ((F 27 2) + x1)))) ((wF (wF (wF (wF F 27 2 ((F 27 2) + x1)) 22 0 39) 22 0 ((39 : Int32) + 1)) 21 6 1), (wF (wF (wF (wF (cpR A 23 23 14 0 ((39 : Int32) * 14).toNatClampNeg) 23 ((39 : Int32) * 14).toNatClampNeg 6) 23 (((39 : Int32) * 14) + 1).toNatClampNeg x1) 23 (((39 : Int32) * 14) + 2).toNatClampNeg 0) 23 (((39 : Int32) * 14) + 3).toNatClampNeg 0), J, G))))))))))) : X (d + 2) 70 0 [.ref 21, .int x1] [] (F, A, J, G) Q := by
  refine Y_il1 i_70_0 ?_
  refine Y_iconst (v := 1) i_70_1 (by decide) ?_
  refine Y_clt i_70_2 (fun e1 => ?_) (fun e1 => ?_)
  · replace h := h.1 e1
    refine Y_al0 i_70_26 ?_
    refine Y_iconst (v := 1) i_70_27 (by decide) ?_
    refine Y_iv1 (L0 := [.ref 21, .int 1]) i_70_28 ow_70 lm_5_71 ((k_21 hG).trans ow_63.symm) rfl mx_63 rfl rfl hd_70 ?_
    refine Y_al0 i_63_0 ?_
    refine Y_gR i_63_1 ow_63 lf_5_25 (k_21 hG) (r_21_5 hG) ?_
    refine Y_il1 i_63_4 ?_
    refine Y_dup2 i_63_5 rfl rfl ?_
    refine Y_iaload (k := 1) (v := (A 26 1)) i_63_6 (k_26 hG) (l_26 hG) (by decide) (by decide) rfl ?_
    refine Y_iconst (v := 1) i_63_7 (by decide) ?_
    refine Y_iadd i_63_8 ?_
    refine Y_iast (k := 1) i_63_9 (k_26 hG) (l_26 hG) (by decide) (by decide) ?_
    refine Y_iconst (v := (-1)) i_63_10 (by decide) ?_
    refine Y_iret i_63_11 rt_63 (KKi ?_)
    exact Y_iret i_70_31 rt_70 h
  · replace h := h.2 e1
    refine Y_il1 i_70_5 ?_
    refine Y_bipush (v := 30) i_70_6 (by decide) ?_
    refine Y_cgt i_70_8 (fun e2 => ?_) (fun e2 => ?_)
    · replace h := h.1 e2
      refine Y_al0 i_70_26 ?_
      refine Y_iconst (v := 1) i_70_27 (by decide) ?_
      refine Y_iv1 (L0 := [.ref 21, .int 1]) i_70_28 ow_70 lm_5_71 ((k_21 hG).trans ow_63.symm) rfl mx_63 rfl rfl hd_70 ?_
      refine Y_al0 i_63_0 ?_
      refine Y_gR i_63_1 ow_63 lf_5_25 (k_21 hG) (r_21_5 hG) ?_
      refine Y_il1 i_63_4 ?_
      refine Y_dup2 i_63_5 rfl rfl ?_
      refine Y_iaload (k := 1) (v := (A 26 1)) i_63_6 (k_26 hG) (l_26 hG) (by decide) (by decide) rfl ?_
      refine Y_iconst (v := 1) i_63_7 (by decide) ?_
      refine Y_iadd i_63_8 ?_
      refine Y_iast (k := 1) i_63_9 (k_26 hG) (l_26 hG) (by decide) (by decide) ?_
      refine Y_iconst (v := (-1)) i_63_10 (by decide) ?_
      refine Y_iret i_63_11 rt_63 (KKi ?_)
      exact Y_iret i_70_31 rt_70 h
    · replace h := h.2 e2
      refine Y_al0 i_70_11 ?_
      refine Y_gR i_70_12 ow_70 lf_5_33 (k_21 hG) (r_21_0 hG) ?_
      refine Y_gI (v := (F 27 2)) i_70_15 ow_70 lf_5_107 (by decide) (k_27 hG) rfl ?_
      refine Y_il1 i_70_18 ?_
      refine Y_iadd i_70_19 ?_
      refine Y_sipush (v := 999) i_70_20 (by decide) ?_
      refine Y_cle i_70_23 (fun e3 => ?_) (fun e3 => ?_)
      · replace h := h.1 e3
        refine Y_al0 i_70_26 ?_
        refine Y_iconst (v := 1) i_70_27 (by decide) ?_
        refine Y_iv1 (L0 := [.ref 21, .int 1]) i_70_28 ow_70 lm_5_71 ((k_21 hG).trans ow_63.symm) rfl mx_63 rfl rfl hd_70 ?_
        refine Y_al0 i_63_0 ?_
        refine Y_gR i_63_1 ow_63 lf_5_25 (k_21 hG) (r_21_5 hG) ?_
        refine Y_il1 i_63_4 ?_
        refine Y_dup2 i_63_5 rfl rfl ?_
        refine Y_iaload (k := 1) (v := (A 26 1)) i_63_6 (k_26 hG) (l_26 hG) (by decide) (by decide) rfl ?_
        refine Y_iconst (v := 1) i_63_7 (by decide) ?_
        refine Y_iadd i_63_8 ?_
        refine Y_iast (k := 1) i_63_9 (k_26 hG) (l_26 hG) (by decide) (by decide) ?_
        refine Y_iconst (v := (-1)) i_63_10 (by decide) ?_
        refine Y_iret i_63_11 rt_63 (KKi ?_)
        exact Y_iret i_70_31 rt_70 h
      · replace h := h.2 e3
        refine Y_al0 i_70_32 ?_
        refine Y_gR i_70_33 ow_70 lf_5_33 (k_21 hG) (r_21_0 hG) ?_
        refine Y_dup i_70_36 rfl ?_
        refine Y_gI (v := (F 27 2)) i_70_37 ow_70 lf_5_107 (by decide) (k_27 hG) rfl ?_
        refine Y_il1 i_70_40 ?_
        refine Y_iadd i_70_41 ?_
        refine Y_pI i_70_42 ow_70 lf_5_107 (k_27 hG) ?_
        refine Y_al0 i_70_45 ?_
        refine Y_bipush (v := 6) i_70_46 (by decide) ?_
        refine Y_il1 i_70_48 ?_
        refine Y_iconst (v := 0) i_70_49 (by decide) ?_
        refine Y_iconst (v := 0) i_70_50 (by decide) ?_
        refine Y_iv4 (L0 := [.ref 21, .int 6, .int x1, .int 0, .int 0]) i_70_51 ow_70 lm_5_78 ((k_21 hG).trans ow_73.symm) rfl mx_73 rfl rfl hd_70 ?_
        refine Y_al0 i_73_0 ?_
        refine Y_gR i_73_1 ow_73 lf_5_12 (k_21 hG) (r_21_1 hG) ?_
        refine Y_il1 i_73_4 ?_
        refine Y_il2 i_73_5 ?_
        refine Y_il3 i_73_6 ?_
        refine Y_il4 i_73_7 ?_
        refine Y_iv4 (L0 := [.ref 22, .int 6, .int x1, .int 0, .int 0, .null]) i_73_9 ow_73 lm_5_114 ((k_22 hG).trans ow_2.symm) rfl mx_2 rfl rfl hd_73 ?_
        refine Y_al0 i_2_0 ?_
        refine Y_gI (v := (F 22 0)) i_2_1 ow_2 lf_0_15 (by decide) (k_22 hG) (by simp [wF, wJ, va_up, cpR, bF, bA]) ?_
        refine Y_bipush (v := 40) i_2_4 (by decide) ?_
        refine Y_clt i_2_6 (fun e4 => ?_) (fun e4 => ?_)
        · replace h := h.1 e4
          refine Y_al0 i_2_36 ?_
          refine Y_gI (v := (F 22 0)) i_2_37 ow_2 lf_0_15 (by decide) (k_22 hG) (by simp [wF, wJ, va_up, cpR, bF, bA]) ?_
          refine Y_bipush (v := 14) i_2_40 (by decide) ?_
          refine Y_imul i_2_42 ?_
          refine Y_is5 i_2_43 rfl ?_
          refine Y_al0 i_2_45 ?_
          refine Y_gR i_2_46 ow_2 lf_0_11 (k_22 hG) (r_22_1 hG) ?_
          refine Y_il5 i_2_49 ?_
          refine Y_il1 i_2_51 ?_
          have o5 := h.1
          replace h := h.2
          refine Y_iast i_2_52 (k_23 hG) (l_23 hG) o5 rfl ?_
          refine Y_al0 i_2_53 ?_
          refine Y_gR i_2_54 ow_2 lf_0_11 (k_22 hG) (r_22_1 hG) ?_
          refine Y_il5 i_2_57 ?_
          refine Y_iconst (v := 1) i_2_59 (by decide) ?_
          refine Y_iadd i_2_60 ?_
          refine Y_il2 i_2_61 ?_
          have o6 := h.1
          replace h := h.2
          refine Y_iast i_2_62 (k_23 hG) (l_23 hG) o6 rfl ?_
          refine Y_al0 i_2_63 ?_
          refine Y_gR i_2_64 ow_2 lf_0_11 (k_22 hG) (r_22_1 hG) ?_
          refine Y_il5 i_2_67 ?_
          refine Y_iconst (v := 2) i_2_69 (by decide) ?_
          refine Y_iadd i_2_70 ?_
          refine Y_il3 i_2_71 ?_
          have o7 := h.1
          replace h := h.2
          refine Y_iast i_2_72 (k_23 hG) (l_23 hG) o7 rfl ?_
          refine Y_al0 i_2_73 ?_
          refine Y_gR i_2_74 ow_2 lf_0_11 (k_22 hG) (r_22_1 hG) ?_
          refine Y_il5 i_2_77 ?_
          refine Y_iconst (v := 3) i_2_79 (by decide) ?_
          refine Y_iadd i_2_80 ?_
          refine Y_il4 i_2_81 ?_
          have o8 := h.1
          replace h := h.2
          refine Y_iast i_2_83 (k_23 hG) (l_23 hG) o8 rfl ?_
          refine Y_al0 i_2_84 ?_
          refine Y_dup i_2_85 rfl ?_
          refine Y_gI (v := (F 22 0)) i_2_86 ow_2 lf_0_15 (by decide) (k_22 hG) (by simp [wF, wJ, va_up, cpR, bF, bA]) ?_
          refine Y_iconst (v := 1) i_2_89 (by decide) ?_
          refine Y_iadd i_2_90 ?_
          refine Y_pI i_2_91 ow_2 lf_0_15 (k_22 hG) ?_
          refine Y_vret i_2_94 rt_2 (KKv ?_)
          refine Y_al0 i_73_12 ?_
          refine Y_iconst (v := 1) i_73_13 (by decide) ?_
          refine Y_pB i_73_14 ow_73 lf_5_37 (k_21 hG) (by decide) ?_
          refine Y_vret i_73_17 rt_73 (KKv ?_)
          refine Y_al0 i_70_54 ?_
          refine Y_gR i_70_55 ow_70 lf_5_33 (k_21 hG) (r_21_0 hG) ?_
          refine Y_gI (v := ((F 27 2) + x1)) i_70_58 ow_70 lf_5_107 (by decide) (k_27 hG) (by simp [wF, wJ, va_up, cpR, bF, bA]) ?_
          exact Y_iret i_70_61 rt_70 h
        · replace h := h.2 e4
          refine Y_al0 i_2_9 ?_
          refine Y_bipush (v := 39) i_2_10 (by decide) ?_
          refine Y_pI i_2_12 ow_2 lf_0_15 (k_22 hG) ?_
          refine Y_al0 i_2_15 ?_
          refine Y_gR i_2_16 ow_2 lf_0_11 (k_22 hG) (r_22_1 hG) ?_
          refine Y_bipush (v := 14) i_2_19 (by decide) ?_
          refine Y_al0 i_2_21 ?_
          refine Y_gR i_2_22 ow_2 lf_0_11 (k_22 hG) (r_22_1 hG) ?_
          refine Y_iconst (v := 0) i_2_25 (by decide) ?_
          refine Y_al0 i_2_26 ?_
          refine Y_gI (v := 39) i_2_27 ow_2 lf_0_15 (by decide) (k_22 hG) (by simp [wF, wJ, va_up, cpR, bF, bA]) ?_
          refine Y_bipush (v := 14) i_2_30 (by decide) ?_
          refine Y_imul i_2_32 ?_
          have o9 := h.1
          replace h := h.2
          refine Y_acp (ksp := 14) (kdp := 0) (kn := ((39 : Int32) * 14).toNatClampNeg) i_2_33 ow_2 lm_0_19 rfl (k_23 hG) (k_23 hG) (l_23 hG) (l_23 hG) o9 (by decide) (by decide) rfl ?_
          refine Y_al0 i_2_36 ?_
          refine Y_gI (v := 39) i_2_37 ow_2 lf_0_15 (by decide) (k_22 hG) (by simp [wF, wJ, va_up, cpR, bF, bA]) ?_
          refine Y_bipush (v := 14) i_2_40 (by decide) ?_
          refine Y_imul i_2_42 ?_
          refine Y_is5 i_2_43 rfl ?_
          refine Y_al0 i_2_45 ?_
          refine Y_gR i_2_46 ow_2 lf_0_11 (k_22 hG) (r_22_1 hG) ?_
          refine Y_il5 i_2_49 ?_
          refine Y_il1 i_2_51 ?_
          have o10 := h.1
          replace h := h.2
          refine Y_iast i_2_52 (k_23 hG) (l_23 hG) o10 rfl ?_
          refine Y_al0 i_2_53 ?_
          refine Y_gR i_2_54 ow_2 lf_0_11 (k_22 hG) (r_22_1 hG) ?_
          refine Y_il5 i_2_57 ?_
          refine Y_iconst (v := 1) i_2_59 (by decide) ?_
          refine Y_iadd i_2_60 ?_
          refine Y_il2 i_2_61 ?_
          have o11 := h.1
          replace h := h.2
          refine Y_iast i_2_62 (k_23 hG) (l_23 hG) o11 rfl ?_
          refine Y_al0 i_2_63 ?_
          refine Y_gR i_2_64 ow_2 lf_0_11 (k_22 hG) (r_22_1 hG) ?_
          refine Y_il5 i_2_67 ?_
          refine Y_iconst (v := 2) i_2_69 (by decide) ?_
          refine Y_iadd i_2_70 ?_
          refine Y_il3 i_2_71 ?_
          have o12 := h.1
          replace h := h.2
          refine Y_iast i_2_72 (k_23 hG) (l_23 hG) o12 rfl ?_
          refine Y_al0 i_2_73 ?_
          refine Y_gR i_2_74 ow_2 lf_0_11 (k_22 hG) (r_22_1 hG) ?_
          refine Y_il5 i_2_77 ?_
          refine Y_iconst (v := 3) i_2_79 (by decide) ?_
          refine Y_iadd i_2_80 ?_
          refine Y_il4 i_2_81 ?_
          have o13 := h.1
          replace h := h.2
          refine Y_iast i_2_83 (k_23 hG) (l_23 hG) o13 rfl ?_
          refine Y_al0 i_2_84 ?_
          refine Y_dup i_2_85 rfl ?_
          refine Y_gI (v := 39) i_2_86 ow_2 lf_0_15 (by decide) (k_22 hG) (by simp [wF, wJ, va_up, cpR, bF, bA]) ?_
          refine Y_iconst (v := 1) i_2_89 (by decide) ?_
          refine Y_iadd i_2_90 ?_
          refine Y_pI i_2_91 ow_2 lf_0_15 (k_22 hG) ?_
          refine Y_vret i_2_94 rt_2 (KKv ?_)
          refine Y_al0 i_73_12 ?_
          refine Y_iconst (v := 1) i_73_13 (by decide) ?_
          refine Y_pB i_73_14 ow_73 lf_5_37 (k_21 hG) (by decide) ?_
          refine Y_vret i_73_17 rt_73 (KKv ?_)
          refine Y_al0 i_70_54 ?_
          refine Y_gR i_70_55 ow_70 lf_5_33 (k_21 hG) (r_21_0 hG) ?_
          refine Y_gI (v := ((F 27 2) + x1)) i_70_58 ow_70 lf_5_107 (by decide) (k_27 hG) (by simp [wF, wJ, va_up, cpR, bF, bA]) ?_
          exact Y_iret i_70_61 rt_70 h
/- 71 State.undoLast()I -/
theorem t_71_0 {d : Nat} {F A : Nat → Nat → Int32} {J : Nat → Nat → Int64} {G : pG} {Q : pR → pM → Prop} {SL p q : Nat} (hG : Geo G SL p q) (h : X (d + 2) 4 0 [.ref 22, .ref 27, .null, .null, .null] [] (F, A, J, G) (KK (d + 3) 71 11 [.ref 21] [] Q)) : X (d + 3) 71 0 [.ref 21] [] (F, A, J, G) Q := by
  refine Y_al0 i_71_0 ?_
  refine Y_gR i_71_1 ow_71 lf_5_12 (k_21 hG) (r_21_1 hG) ?_
  refine Y_al0 i_71_4 ?_
  refine Y_gR i_71_5 ow_71 lf_5_33 (k_21 hG) (r_21_0 hG) ?_
  exact Y_iv1 (L0 := [.ref 22, .ref 27, .null, .null, .null]) i_71_8 ow_71 lm_5_110 ((k_22 hG).trans ow_4.symm) rfl mx_4 rfl rfl hd_71 h
theorem k_71_11 {d : Nat} {F A : Nat → Nat → Int32} {J : Nat → Nat → Int64} {G : pG} {Q : pR → pM → Prop} {SL p q : Nat} {r r : Int32} (hG : Geo G SL p q) (h : ((r = 0 → Q (.inl (some (.int (-1)))) (F, A, J, G)) ∧ (¬ r = 0 → Q (.inl (some (.int (F 22 0)))) ((wF F 21 6 1), A, J, G)))) : KK (d + 3) 71 11 [.ref 21] [] Q (.inl (some (.int r))) (F, A, J, G) := by
  refine KKi ?_
  refine Y_zne i_71_11 (fun e1 => ?_) (fun e1 => ?_)
  · replace h := h.1 e1
    refine Y_iconst (v := (-1)) i_71_14 (by decide) ?_
    exact Y_iret i_71_15 rt_71 h
  · replace h := h.2 e1
    refine Y_al0 i_71_16 ?_
    refine Y_iconst (v := 1) i_71_17 (by decide) ?_
    refine Y_pB i_71_18 ow_71 lf_5_37 (k_21 hG) (by decide) ?_
    refine Y_al0 i_71_21 ?_
    refine Y_gR i_71_22 ow_71 lf_5_12 (k_21 hG) (r_21_1 hG) ?_
    refine Y_gI (v := (F 22 0)) i_71_25 ow_71 lf_5_44 (by decide) (k_22 hG) (by simp [wF, wJ, va_up, cpR, bF, bA]) ?_
    exact Y_iret i_71_28 rt_71 h
/- 72 State.addSight(II)I -/
theorem t_72_0 {d : Nat} {F A : Nat → Nat → Int32} {J : Nat → Nat → Int64} {G : pG} {Q : pR → pM → Prop} {SL p q : Nat} {x1 x2 : Int32} (hG : Geo G SL p q) (h : ((x1 < 0 → (((F 21 2) < 8 → Q (.inl (some (.int (-1)))) (F, (wF A 26 2 ((A 26 2) + 1)), J, G)) ∧ (¬ (F 21 2) < 8 → Q (.inl (some (.int (-1)))) (F, (wF A 26 2 ((A 26 2) + 1)), J, G)))) ∧ (¬ x1 < 0 → ((x1 < (F 27 1) → (((F 21 2) < 8 → ((x2 < (-99) → Q (.inl (some (.int (-1)))) (F, (wF A 26 2 ((A 26 2) + 1)), J, G)) ∧ (¬ x2 < (-99) → ((99 < x2 → Q (.inl (some (.int (-1)))) (F, (wF A 26 2 ((A 26 2) + 1)), J, G)) ∧ (¬ 99 < x2 → inB (F 21 2) 8 = true ∧ (Q (.inl (some (.int ((F 21 2) + 1)))) ((wF F 21 2 ((F 21 2) + 1)), (wF (wF A 24 (F 21 2).toNatClampNeg x1) 25 (F 21 2).toNatClampNeg x2), J, G))))))) ∧ (¬ (F 21 2) < 8 → Q (.inl (some (.int (-1)))) (F, (wF A 26 2 ((A 26 2) + 1)), J, G)))) ∧ (¬ x1 < (F 27 1) → (((F 21 2) < 8 → Q (.inl (some (.int (-1)))) (F, (wF A 26 2 ((A 26 2) + 1)), J, G)) ∧ (¬ (F 21 2) < 8 → Q (.inl (some (.int (-1)))) (F, (wF A 26 2 ((A 26 2) + 1)), J, G)))))))) : X (d + 1) 72 0 [.ref 21, .int x1, .int x2, .null] [] (F, A, J, G) Q := by
  refine Y_il1 i_72_0 ?_
  refine Y_zlt i_72_1 (fun e1 => ?_) (fun e1 => ?_)
  · replace h := h.1 e1
    refine Y_iconst (v := 1) i_72_15 (by decide) ?_
    refine Y_goto i_72_16 ?_
    refine Y_is3 i_72_20 rfl ?_
    refine Y_al0 i_72_21 ?_
    refine Y_gI (v := (F 21 2)) i_72_22 ow_72 lf_5_48 (by decide) (k_21 hG) rfl ?_
    refine Y_bipush (v := 8) i_72_25 (by decide) ?_
    refine Y_cge i_72_27 (fun e2 => ?_) (fun e2 => ?_)
    · replace h := h.1 e2
      refine Y_il3 i_72_30 ?_
      refine Y_zT i_72_31 (by decide) ?_
      refine Y_al0 i_72_46 ?_
      refine Y_iconst (v := 2) i_72_47 (by decide) ?_
      refine Y_iv1 (L0 := [.ref 21, .int 2]) i_72_48 ow_72 lm_5_71 ((k_21 hG).trans ow_63.symm) rfl mx_63 rfl rfl hd_72 ?_
      refine Y_al0 i_63_0 ?_
      refine Y_gR i_63_1 ow_63 lf_5_25 (k_21 hG) (r_21_5 hG) ?_
      refine Y_il1 i_63_4 ?_
      refine Y_dup2 i_63_5 rfl rfl ?_
      refine Y_iaload (k := 2) (v := (A 26 2)) i_63_6 (k_26 hG) (l_26 hG) (by decide) (by decide) rfl ?_
      refine Y_iconst (v := 1) i_63_7 (by decide) ?_
      refine Y_iadd i_63_8 ?_
      refine Y_iast (k := 2) i_63_9 (k_26 hG) (l_26 hG) (by decide) (by decide) ?_
      refine Y_iconst (v := (-1)) i_63_10 (by decide) ?_
      refine Y_iret i_63_11 rt_63 (KKi ?_)
      exact Y_iret i_72_51 rt_72 h
    · replace h := h.2 e2
      refine Y_al0 i_72_46 ?_
      refine Y_iconst (v := 2) i_72_47 (by decide) ?_
      refine Y_iv1 (L0 := [.ref 21, .int 2]) i_72_48 ow_72 lm_5_71 ((k_21 hG).trans ow_63.symm) rfl mx_63 rfl rfl hd_72 ?_
      refine Y_al0 i_63_0 ?_
      refine Y_gR i_63_1 ow_63 lf_5_25 (k_21 hG) (r_21_5 hG) ?_
      refine Y_il1 i_63_4 ?_
      refine Y_dup2 i_63_5 rfl rfl ?_
      refine Y_iaload (k := 2) (v := (A 26 2)) i_63_6 (k_26 hG) (l_26 hG) (by decide) (by decide) rfl ?_
      refine Y_iconst (v := 1) i_63_7 (by decide) ?_
      refine Y_iadd i_63_8 ?_
      refine Y_iast (k := 2) i_63_9 (k_26 hG) (l_26 hG) (by decide) (by decide) ?_
      refine Y_iconst (v := (-1)) i_63_10 (by decide) ?_
      refine Y_iret i_63_11 rt_63 (KKi ?_)
      exact Y_iret i_72_51 rt_72 h
  · replace h := h.2 e1
    refine Y_il1 i_72_4 ?_
    refine Y_al0 i_72_5 ?_
    refine Y_gR i_72_6 ow_72 lf_5_33 (k_21 hG) (r_21_0 hG) ?_
    refine Y_gI (v := (F 27 1)) i_72_9 ow_72 lf_5_68 (by decide) (k_27 hG) rfl ?_
    refine Y_clt i_72_12 (fun e3 => ?_) (fun e3 => ?_)
    · replace h := h.1 e3
      refine Y_iconst (v := 0) i_72_19 (by decide) ?_
      refine Y_is3 i_72_20 rfl ?_
      refine Y_al0 i_72_21 ?_
      refine Y_gI (v := (F 21 2)) i_72_22 ow_72 lf_5_48 (by decide) (k_21 hG) rfl ?_
      refine Y_bipush (v := 8) i_72_25 (by decide) ?_
      refine Y_cge i_72_27 (fun e4 => ?_) (fun e4 => ?_)
      · replace h := h.1 e4
        refine Y_il3 i_72_30 ?_
        refine Y_zF i_72_31 (by decide) ?_
        refine Y_il2 i_72_34 ?_
        refine Y_bipush (v := (-99)) i_72_35 (by decide) ?_
        refine Y_clt i_72_37 (fun e5 => ?_) (fun e5 => ?_)
        · replace h := h.1 e5
          refine Y_al0 i_72_46 ?_
          refine Y_iconst (v := 2) i_72_47 (by decide) ?_
          refine Y_iv1 (L0 := [.ref 21, .int 2]) i_72_48 ow_72 lm_5_71 ((k_21 hG).trans ow_63.symm) rfl mx_63 rfl rfl hd_72 ?_
          refine Y_al0 i_63_0 ?_
          refine Y_gR i_63_1 ow_63 lf_5_25 (k_21 hG) (r_21_5 hG) ?_
          refine Y_il1 i_63_4 ?_
          refine Y_dup2 i_63_5 rfl rfl ?_
          refine Y_iaload (k := 2) (v := (A 26 2)) i_63_6 (k_26 hG) (l_26 hG) (by decide) (by decide) rfl ?_
          refine Y_iconst (v := 1) i_63_7 (by decide) ?_
          refine Y_iadd i_63_8 ?_
          refine Y_iast (k := 2) i_63_9 (k_26 hG) (l_26 hG) (by decide) (by decide) ?_
          refine Y_iconst (v := (-1)) i_63_10 (by decide) ?_
          refine Y_iret i_63_11 rt_63 (KKi ?_)
          exact Y_iret i_72_51 rt_72 h
        · replace h := h.2 e5
          refine Y_il2 i_72_40 ?_
          refine Y_bipush (v := 99) i_72_41 (by decide) ?_
          refine Y_cle i_72_43 (fun e6 => ?_) (fun e6 => ?_)
          · replace h := h.1 e6
            refine Y_al0 i_72_46 ?_
            refine Y_iconst (v := 2) i_72_47 (by decide) ?_
            refine Y_iv1 (L0 := [.ref 21, .int 2]) i_72_48 ow_72 lm_5_71 ((k_21 hG).trans ow_63.symm) rfl mx_63 rfl rfl hd_72 ?_
            refine Y_al0 i_63_0 ?_
            refine Y_gR i_63_1 ow_63 lf_5_25 (k_21 hG) (r_21_5 hG) ?_
            refine Y_il1 i_63_4 ?_
            refine Y_dup2 i_63_5 rfl rfl ?_
            refine Y_iaload (k := 2) (v := (A 26 2)) i_63_6 (k_26 hG) (l_26 hG) (by decide) (by decide) rfl ?_
            refine Y_iconst (v := 1) i_63_7 (by decide) ?_
            refine Y_iadd i_63_8 ?_
            refine Y_iast (k := 2) i_63_9 (k_26 hG) (l_26 hG) (by decide) (by decide) ?_
            refine Y_iconst (v := (-1)) i_63_10 (by decide) ?_
            refine Y_iret i_63_11 rt_63 (KKi ?_)
            exact Y_iret i_72_51 rt_72 h
          · replace h := h.2 e6
            refine Y_al0 i_72_52 ?_
            refine Y_gR i_72_53 ow_72 lf_5_18 (k_21 hG) (r_21_3 hG) ?_
            refine Y_al0 i_72_56 ?_
            refine Y_gI (v := (F 21 2)) i_72_57 ow_72 lf_5_48 (by decide) (k_21 hG) rfl ?_
            refine Y_il1 i_72_60 ?_
            have o7 := h.1
            replace h := h.2
            refine Y_iast i_72_61 (k_24 hG) (l_24 hG) o7 rfl ?_
            refine Y_al0 i_72_62 ?_
            refine Y_gR i_72_63 ow_72 lf_5_22 (k_21 hG) (r_21_4 hG) ?_
            refine Y_al0 i_72_66 ?_
            refine Y_gI (v := (F 21 2)) i_72_67 ow_72 lf_5_48 (by decide) (k_21 hG) rfl ?_
            refine Y_il2 i_72_70 ?_
            refine Y_iast i_72_71 (k_25 hG) (l_25 hG) o7 rfl ?_
            refine Y_al0 i_72_72 ?_
            refine Y_dup i_72_73 rfl ?_
            refine Y_gI (v := (F 21 2)) i_72_74 ow_72 lf_5_48 (by decide) (k_21 hG) rfl ?_
            refine Y_iconst (v := 1) i_72_77 (by decide) ?_
            refine Y_iadd i_72_78 ?_
            refine Y_pI i_72_79 ow_72 lf_5_48 (k_21 hG) ?_
            refine Y_al0 i_72_82 ?_
            refine Y_gI (v := ((F 21 2) + 1)) i_72_83 ow_72 lf_5_48 (by decide) (k_21 hG) (by simp [wF, wJ, va_up, cpR, bF, bA]) ?_
            exact Y_iret i_72_86 rt_72 h
      · replace h := h.2 e4
        refine Y_al0 i_72_46 ?_
        refine Y_iconst (v := 2) i_72_47 (by decide) ?_
        refine Y_iv1 (L0 := [.ref 21, .int 2]) i_72_48 ow_72 lm_5_71 ((k_21 hG).trans ow_63.symm) rfl mx_63 rfl rfl hd_72 ?_
        refine Y_al0 i_63_0 ?_
        refine Y_gR i_63_1 ow_63 lf_5_25 (k_21 hG) (r_21_5 hG) ?_
        refine Y_il1 i_63_4 ?_
        refine Y_dup2 i_63_5 rfl rfl ?_
        refine Y_iaload (k := 2) (v := (A 26 2)) i_63_6 (k_26 hG) (l_26 hG) (by decide) (by decide) rfl ?_
        refine Y_iconst (v := 1) i_63_7 (by decide) ?_
        refine Y_iadd i_63_8 ?_
        refine Y_iast (k := 2) i_63_9 (k_26 hG) (l_26 hG) (by decide) (by decide) ?_
        refine Y_iconst (v := (-1)) i_63_10 (by decide) ?_
        refine Y_iret i_63_11 rt_63 (KKi ?_)
        exact Y_iret i_72_51 rt_72 h
    · replace h := h.2 e3
      refine Y_iconst (v := 1) i_72_15 (by decide) ?_
      refine Y_goto i_72_16 ?_
      refine Y_is3 i_72_20 rfl ?_
      refine Y_al0 i_72_21 ?_
      refine Y_gI (v := (F 21 2)) i_72_22 ow_72 lf_5_48 (by decide) (k_21 hG) rfl ?_
      refine Y_bipush (v := 8) i_72_25 (by decide) ?_
      refine Y_cge i_72_27 (fun e8 => ?_) (fun e8 => ?_)
      · replace h := h.1 e8
        refine Y_il3 i_72_30 ?_
        refine Y_zT i_72_31 (by decide) ?_
        refine Y_al0 i_72_46 ?_
        refine Y_iconst (v := 2) i_72_47 (by decide) ?_
        refine Y_iv1 (L0 := [.ref 21, .int 2]) i_72_48 ow_72 lm_5_71 ((k_21 hG).trans ow_63.symm) rfl mx_63 rfl rfl hd_72 ?_
        refine Y_al0 i_63_0 ?_
        refine Y_gR i_63_1 ow_63 lf_5_25 (k_21 hG) (r_21_5 hG) ?_
        refine Y_il1 i_63_4 ?_
        refine Y_dup2 i_63_5 rfl rfl ?_
        refine Y_iaload (k := 2) (v := (A 26 2)) i_63_6 (k_26 hG) (l_26 hG) (by decide) (by decide) rfl ?_
        refine Y_iconst (v := 1) i_63_7 (by decide) ?_
        refine Y_iadd i_63_8 ?_
        refine Y_iast (k := 2) i_63_9 (k_26 hG) (l_26 hG) (by decide) (by decide) ?_
        refine Y_iconst (v := (-1)) i_63_10 (by decide) ?_
        refine Y_iret i_63_11 rt_63 (KKi ?_)
        exact Y_iret i_72_51 rt_72 h
      · replace h := h.2 e8
        refine Y_al0 i_72_46 ?_
        refine Y_iconst (v := 2) i_72_47 (by decide) ?_
        refine Y_iv1 (L0 := [.ref 21, .int 2]) i_72_48 ow_72 lm_5_71 ((k_21 hG).trans ow_63.symm) rfl mx_63 rfl rfl hd_72 ?_
        refine Y_al0 i_63_0 ?_
        refine Y_gR i_63_1 ow_63 lf_5_25 (k_21 hG) (r_21_5 hG) ?_
        refine Y_il1 i_63_4 ?_
        refine Y_dup2 i_63_5 rfl rfl ?_
        refine Y_iaload (k := 2) (v := (A 26 2)) i_63_6 (k_26 hG) (l_26 hG) (by decide) (by decide) rfl ?_
        refine Y_iconst (v := 1) i_63_7 (by decide) ?_
        refine Y_iadd i_63_8 ?_
        refine Y_iast (k := 2) i_63_9 (k_26 hG) (l_26 hG) (by decide) (by decide) ?_
        refine Y_iconst (v := (-1)) i_63_10 (by decide) ?_
        refine Y_iret i_63_11 rt_63 (KKi ?_)
        exact Y_iret i_72_51 rt_72 h
/- 73 State.keep(IIII)V -/
theorem t_73_0 {d : Nat} {F A : Nat → Nat → Int32} {J : Nat → Nat → Int64} {G : pG} {Q : pR → pM → Prop} {SL p q : Nat} {x1 x2 x3 x4 : Int32} (hG : Geo G SL p q) (h : (((F 22 0) < 40 → inB ((F 22 0) * 14) 560 = true ∧ inB (((F 22 0) * 14) + 1) 560 = true ∧ inB (((F 22 0) * 14) + 2) 560 = true ∧ inB (((F 22 0) * 14) + 3) 560 = true ∧ (Q (.inl none) ((wF (wF F 22 0 ((F 22 0) + 1)) 21 6 1), (wF (wF (wF (wF A 23 ((F 22 0) * 14).toNatClampNeg x1) 23 (((F 22 0) * 14) + 1).toNatClampNeg x2) 23 (((F 22 0) * 14) + 2).toNatClampNeg x3) 23 (((F 22 0) * 14) + 3).toNatClampNeg x4), J, G))) ∧ (¬ (F 22 0) < 40 → (¬ (14 : Int32) < 0 ∧ ¬ (0 : Int32) < 0 ∧ ¬ ((39 : Int32) * 14) < 0 ∧ (14 : Int32).toNatClampNeg + ((39 : Int32) * 14).toNatClampNeg ≤ 560 ∧ (0 : Int32).toNatClampNeg + ((39 : Int32) * 14).toNatClampNeg ≤ 560) ∧ inB ((39 : Int32) * 14) 560 = true ∧ inB (((39 : Int32) * 14) + 1) 560 = true ∧ inB (((39 : Int32) * 14) + 2) 560 = true ∧ inB (((39 : Int32) * 14) + 3) 560 = true ∧ (Q (.inl none) ((wF (wF (wF F 22 0 39) 22 0 ((39 : Int32) + 1)) 21 6 1), (wF (wF (wF (wF (cpR A 23 23 14 0 ((39 : Int32) * 14).toNatClampNeg) 23 ((39 : Int32) * 14).toNatClampNeg x1) 23 (((39 : Int32) * 14) + 1).toNatClampNeg x2) 23 (((39 : Int32) * 14) + 2).toNatClampNeg x3) 23 (((39 : Int32) * 14) + 3).toNatClampNeg x4), J, G))))) : X (d + 1) 73 0 [.ref 21, .int x1, .int x2, .int x3, .int x4] [] (F, A, J, G) Q := by
  refine Y_al0 i_73_0 ?_
  refine Y_gR i_73_1 ow_73 lf_5_12 (k_21 hG) (r_21_1 hG) ?_
  refine Y_il1 i_73_4 ?_
  refine Y_il2 i_73_5 ?_
  refine Y_il3 i_73_6 ?_
  refine Y_il4 i_73_7 ?_
  refine Y_iv4 (L0 := [.ref 22, .int x1, .int x2, .int x3, .int x4, .null]) i_73_9 ow_73 lm_5_114 ((k_22 hG).trans ow_2.symm) rfl mx_2 rfl rfl hd_73 ?_
  refine Y_al0 i_2_0 ?_
  refine Y_gI (v := (F 22 0)) i_2_1 ow_2 lf_0_15 (by decide) (k_22 hG) rfl ?_
  refine Y_bipush (v := 40) i_2_4 (by decide) ?_
  refine Y_clt i_2_6 (fun e1 => ?_) (fun e1 => ?_)
  · replace h := h.1 e1
    refine Y_al0 i_2_36 ?_
    refine Y_gI (v := (F 22 0)) i_2_37 ow_2 lf_0_15 (by decide) (k_22 hG) rfl ?_
    refine Y_bipush (v := 14) i_2_40 (by decide) ?_
    refine Y_imul i_2_42 ?_
    refine Y_is5 i_2_43 rfl ?_
    refine Y_al0 i_2_45 ?_
    refine Y_gR i_2_46 ow_2 lf_0_11 (k_22 hG) (r_22_1 hG) ?_
    refine Y_il5 i_2_49 ?_
    refine Y_il1 i_2_51 ?_
    have o2 := h.1
    replace h := h.2
    refine Y_iast i_2_52 (k_23 hG) (l_23 hG) o2 rfl ?_
    refine Y_al0 i_2_53 ?_
    refine Y_gR i_2_54 ow_2 lf_0_11 (k_22 hG) (r_22_1 hG) ?_
    refine Y_il5 i_2_57 ?_
    refine Y_iconst (v := 1) i_2_59 (by decide) ?_
    refine Y_iadd i_2_60 ?_
    refine Y_il2 i_2_61 ?_
    have o3 := h.1
    replace h := h.2
    refine Y_iast i_2_62 (k_23 hG) (l_23 hG) o3 rfl ?_
    refine Y_al0 i_2_63 ?_
    refine Y_gR i_2_64 ow_2 lf_0_11 (k_22 hG) (r_22_1 hG) ?_
    refine Y_il5 i_2_67 ?_
    refine Y_iconst (v := 2) i_2_69 (by decide) ?_
    refine Y_iadd i_2_70 ?_
    refine Y_il3 i_2_71 ?_
    have o4 := h.1
    replace h := h.2
    refine Y_iast i_2_72 (k_23 hG) (l_23 hG) o4 rfl ?_
    refine Y_al0 i_2_73 ?_
    refine Y_gR i_2_74 ow_2 lf_0_11 (k_22 hG) (r_22_1 hG) ?_
    refine Y_il5 i_2_77 ?_
    refine Y_iconst (v := 3) i_2_79 (by decide) ?_
    refine Y_iadd i_2_80 ?_
    refine Y_il4 i_2_81 ?_
    have o5 := h.1
    replace h := h.2
    refine Y_iast i_2_83 (k_23 hG) (l_23 hG) o5 rfl ?_
    refine Y_al0 i_2_84 ?_
    refine Y_dup i_2_85 rfl ?_
    refine Y_gI (v := (F 22 0)) i_2_86 ow_2 lf_0_15 (by decide) (k_22 hG) rfl ?_
    refine Y_iconst (v := 1) i_2_89 (by decide) ?_
    refine Y_iadd i_2_90 ?_
    refine Y_pI i_2_91 ow_2 lf_0_15 (k_22 hG) ?_
    refine Y_vret i_2_94 rt_2 (KKv ?_)
    refine Y_al0 i_73_12 ?_
    refine Y_iconst (v := 1) i_73_13 (by decide) ?_
    refine Y_pB i_73_14 ow_73 lf_5_37 (k_21 hG) (by decide) ?_
    exact Y_vret i_73_17 rt_73 h
  · replace h := h.2 e1
    refine Y_al0 i_2_9 ?_
    refine Y_bipush (v := 39) i_2_10 (by decide) ?_
    refine Y_pI i_2_12 ow_2 lf_0_15 (k_22 hG) ?_
    refine Y_al0 i_2_15 ?_
    refine Y_gR i_2_16 ow_2 lf_0_11 (k_22 hG) (r_22_1 hG) ?_
    refine Y_bipush (v := 14) i_2_19 (by decide) ?_
    refine Y_al0 i_2_21 ?_
    refine Y_gR i_2_22 ow_2 lf_0_11 (k_22 hG) (r_22_1 hG) ?_
    refine Y_iconst (v := 0) i_2_25 (by decide) ?_
    refine Y_al0 i_2_26 ?_
    refine Y_gI (v := 39) i_2_27 ow_2 lf_0_15 (by decide) (k_22 hG) (by simp [wF, wJ, va_up, cpR, bF, bA]) ?_
    refine Y_bipush (v := 14) i_2_30 (by decide) ?_
    refine Y_imul i_2_32 ?_
    have o6 := h.1
    replace h := h.2
    refine Y_acp (ksp := 14) (kdp := 0) (kn := ((39 : Int32) * 14).toNatClampNeg) i_2_33 ow_2 lm_0_19 rfl (k_23 hG) (k_23 hG) (l_23 hG) (l_23 hG) o6 (by decide) (by decide) rfl ?_
    refine Y_al0 i_2_36 ?_
    refine Y_gI (v := 39) i_2_37 ow_2 lf_0_15 (by decide) (k_22 hG) (by simp [wF, wJ, va_up, cpR, bF, bA]) ?_
    refine Y_bipush (v := 14) i_2_40 (by decide) ?_
    refine Y_imul i_2_42 ?_
    refine Y_is5 i_2_43 rfl ?_
    refine Y_al0 i_2_45 ?_
    refine Y_gR i_2_46 ow_2 lf_0_11 (k_22 hG) (r_22_1 hG) ?_
    refine Y_il5 i_2_49 ?_
    refine Y_il1 i_2_51 ?_
    have o7 := h.1
    replace h := h.2
    refine Y_iast i_2_52 (k_23 hG) (l_23 hG) o7 rfl ?_
    refine Y_al0 i_2_53 ?_
    refine Y_gR i_2_54 ow_2 lf_0_11 (k_22 hG) (r_22_1 hG) ?_
    refine Y_il5 i_2_57 ?_
    refine Y_iconst (v := 1) i_2_59 (by decide) ?_
    refine Y_iadd i_2_60 ?_
    refine Y_il2 i_2_61 ?_
    have o8 := h.1
    replace h := h.2
    refine Y_iast i_2_62 (k_23 hG) (l_23 hG) o8 rfl ?_
    refine Y_al0 i_2_63 ?_
    refine Y_gR i_2_64 ow_2 lf_0_11 (k_22 hG) (r_22_1 hG) ?_
    refine Y_il5 i_2_67 ?_
    refine Y_iconst (v := 2) i_2_69 (by decide) ?_
    refine Y_iadd i_2_70 ?_
    refine Y_il3 i_2_71 ?_
    have o9 := h.1
    replace h := h.2
    refine Y_iast i_2_72 (k_23 hG) (l_23 hG) o9 rfl ?_
    refine Y_al0 i_2_73 ?_
    refine Y_gR i_2_74 ow_2 lf_0_11 (k_22 hG) (r_22_1 hG) ?_
    refine Y_il5 i_2_77 ?_
    refine Y_iconst (v := 3) i_2_79 (by decide) ?_
    refine Y_iadd i_2_80 ?_
    refine Y_il4 i_2_81 ?_
    have o10 := h.1
    replace h := h.2
    refine Y_iast i_2_83 (k_23 hG) (l_23 hG) o10 rfl ?_
    refine Y_al0 i_2_84 ?_
    refine Y_dup i_2_85 rfl ?_
    refine Y_gI (v := 39) i_2_86 ow_2 lf_0_15 (by decide) (k_22 hG) (by simp [wF, wJ, va_up, cpR, bF, bA]) ?_
    refine Y_iconst (v := 1) i_2_89 (by decide) ?_
    refine Y_iadd i_2_90 ?_
    refine Y_pI i_2_91 ow_2 lf_0_15 (k_22 hG) ?_
    refine Y_vret i_2_94 rt_2 (KKv ?_)
    refine Y_al0 i_73_12 ?_
    refine Y_iconst (v := 1) i_73_13 (by decide) ?_
    refine Y_pB i_73_14 ow_73 lf_5_37 (k_21 hG) (by decide) ?_
    exact Y_vret i_73_17 rt_73 h
/- 75 Tower.begin()V -/
theorem t_75_0 {d : Nat} {F A : Nat → Nat → Int32} {J : Nat → Nat → Int64} {G : pG} {Q : pR → pM → Prop} {SL p q : Nat} (hG : Geo G SL p q) (h : X d 75 23 [.ref 27, .int 0] [] ((wF (wF (wF F 27 1 (F 12 0)) 27 2 0) 27 3 (-1)), A, J, G) Q) : X d 75 0 [.ref 27, .null] [] (F, A, J, G) Q := by
  refine Y_al0 i_75_0 ?_
  refine Y_al0 i_75_1 ?_
  refine Y_gR i_75_2 ow_75 lf_6_33 (k_27 hG) (r_27_0 hG) ?_
  refine Y_gI (v := (F 12 0)) i_75_5 ow_75 lf_6_47 (by decide) (k_12 hG) rfl ?_
  refine Y_pI i_75_8 ow_75 lf_6_37 (k_27 hG) ?_
  refine Y_al0 i_75_11 ?_
  refine Y_iconst (v := 0) i_75_12 (by decide) ?_
  refine Y_pI i_75_13 ow_75 lf_6_41 (k_27 hG) ?_
  refine Y_al0 i_75_16 ?_
  refine Y_iconst (v := (-1)) i_75_17 (by decide) ?_
  refine Y_pI i_75_18 ow_75 lf_6_44 (k_27 hG) ?_
  refine Y_iconst (v := 0) i_75_21 (by decide) ?_
  refine Y_is1 i_75_22 rfl ?_
  exact h
theorem t_75_23 {d : Nat} {F A : Nat → Nat → Int32} {J : Nat → Nat → Int64} {G : pG} {Q : pR → pM → Prop} {SL p q : Nat} {x1 : Int32} (hG : Geo G SL p q) (h : ((x1 < 10 → inB x1 10 = true ∧ (X d 75 23 [.ref 27, .int (x1 + 1)] [] (F, (wF (wF (wF (wF A 28 x1.toNatClampNeg x1) 29 x1.toNatClampNeg 0) 30 x1.toNatClampNeg 0) 31 x1.toNatClampNeg (A 16 x1.toNatClampNeg)), J, G) Q)) ∧ (¬ x1 < 10 → Q (.inl none) (F, A, J, G)))) : X d 75 23 [.ref 27, .int x1] [] (F, A, J, G) Q := by
  refine Y_il1 i_75_23 ?_
  refine Y_bipush (v := 10) i_75_24 (by decide) ?_
  refine Y_cge i_75_26 (fun e1 => ?_) (fun e1 => ?_)
  · replace h := h.1 e1
    refine Y_al0 i_75_29 ?_
    refine Y_gR i_75_30 ow_75 lf_6_9 (k_27 hG) (r_27_4 hG) ?_
    refine Y_il1 i_75_33 ?_
    refine Y_il1 i_75_34 ?_
    have o2 := h.1
    replace h := h.2
    refine Y_iast i_75_35 (k_28 hG) (l_28 hG) o2 rfl ?_
    refine Y_al0 i_75_36 ?_
    refine Y_gR i_75_37 ow_75 lf_6_15 (k_27 hG) (r_27_5 hG) ?_
    refine Y_il1 i_75_40 ?_
    refine Y_iconst (v := 0) i_75_41 (by decide) ?_
    refine Y_iast i_75_42 (k_29 hG) (l_29 hG) o2 rfl ?_
    refine Y_al0 i_75_43 ?_
    refine Y_gR i_75_44 ow_75 lf_6_18 (k_27 hG) (r_27_6 hG) ?_
    refine Y_il1 i_75_47 ?_
    refine Y_iconst (v := 0) i_75_48 (by decide) ?_
    refine Y_iast i_75_49 (k_30 hG) (l_30 hG) o2 rfl ?_
    refine Y_al0 i_75_50 ?_
    refine Y_gR i_75_51 ow_75 lf_6_21 (k_27 hG) (r_27_7 hG) ?_
    refine Y_il1 i_75_54 ?_
    refine Y_al0 i_75_55 ?_
    refine Y_gR i_75_56 ow_75 lf_6_33 (k_27 hG) (r_27_0 hG) ?_
    refine Y_gR i_75_59 ow_75 lf_6_52 (k_12 hG) (r_12_6 hG) ?_
    refine Y_il1 i_75_62 ?_
    refine Y_iaload (k := x1.toNatClampNeg) (v := (A 16 x1.toNatClampNeg)) i_75_63 (k_16 hG) (l_16 hG) o2 rfl (by simp [wF, wJ, va_up, cpR, bF, bA]) ?_
    refine Y_iast i_75_64 (k_31 hG) (l_31 hG) o2 rfl ?_
    refine Y_ii1 (v := 1) i_75_65 (by decide) rfl ?_
    refine Y_goto i_75_68 ?_
    exact h
  · replace h := h.2 e1
    exact Y_vret i_75_71 rt_75 h
/- 79 Tower.insert(II)V -/
theorem t_79_0 {d : Nat} {F A : Nat → Nat → Int32} {J : Nat → Nat → Int64} {G : pG} {Q : pR → pM → Prop} {SL p q : Nat} {t : Nat} {x1 x2 : Int32} (hG : Geo G SL p q) (ht : Tw t) (h : (((F t 1) < 10 → ((x2 < 0 → Q (.inl none) (F, A, J, G)) ∧ (¬ x2 < 0 → (((F t 1) < x2 → Q (.inl none) (F, A, J, G)) ∧ (¬ (F t 1) < x2 → X d 79 27 [.ref t, .int x1, .int x2, .int (F t 1)] [] (F, A, J, G) Q))))) ∧ (¬ (F t 1) < 10 → Q (.inl none) (F, A, J, G)))) : X d 79 0 [.ref t, .int x1, .int x2, .null] [] (F, A, J, G) Q := by
  refine Y_al0 i_79_0 ?_
  refine Y_gI (v := (F t 1)) i_79_1 ow_79 lf_6_37 (by decide) (kT0 hG ht) rfl ?_
  refine Y_bipush (v := 10) i_79_4 (by decide) ?_
  refine Y_cge i_79_6 (fun e1 => ?_) (fun e1 => ?_)
  · replace h := h.1 e1
    refine Y_il2 i_79_9 ?_
    refine Y_zlt i_79_10 (fun e2 => ?_) (fun e2 => ?_)
    · replace h := h.1 e2
      exact Y_vret i_79_21 rt_79 h
    · replace h := h.2 e2
      refine Y_il2 i_79_13 ?_
      refine Y_al0 i_79_14 ?_
      refine Y_gI (v := (F t 1)) i_79_15 ow_79 lf_6_37 (by decide) (kT0 hG ht) rfl ?_
      refine Y_cle i_79_18 (fun e3 => ?_) (fun e3 => ?_)
      · replace h := h.1 e3
        exact Y_vret i_79_21 rt_79 h
      · replace h := h.2 e3
        refine Y_al0 i_79_22 ?_
        refine Y_gI (v := (F t 1)) i_79_23 ow_79 lf_6_37 (by decide) (kT0 hG ht) rfl ?_
        refine Y_is3 i_79_26 rfl ?_
        exact h
  · replace h := h.2 e1
    exact Y_vret i_79_21 rt_79 h
theorem t_79_27 {d : Nat} {F A : Nat → Nat → Int32} {J : Nat → Nat → Int64} {G : pG} {Q : pR → pM → Prop} {SL p q : Nat} {t : Nat} {x1 x2 x3 : Int32} (hG : Geo G SL p q) (ht : Tw t) (h : ((x2 < x3 → inB (x3 - 1) 10 = true ∧ inB x3 10 = true ∧ (X d 79 27 [.ref t, .int x1, .int x2, .int (x3 + (-1))] [] (F, (wF A (t + 1) x3.toNatClampNeg (A (t + 1) (x3 - 1).toNatClampNeg)), J, G) Q)) ∧ (¬ x2 < x3 → inB x2 10 = true ∧ (Q (.inl none) ((wF F t 1 ((F t 1) + 1)), (wF A (t + 1) x2.toNatClampNeg x1), J, G))))) : X d 79 27 [.ref t, .int x1, .int x2, .int x3] [] (F, A, J, G) Q := by
  refine Y_il3 i_79_27 ?_
  refine Y_il2 i_79_28 ?_
  refine Y_cle i_79_29 (fun e1 => ?_) (fun e1 => ?_)
  · replace h := h.1 e1
    refine Y_al0 i_79_32 ?_
    refine Y_gR i_79_33 ow_79 lf_6_9 (kT0 hG ht) (rT4 hG ht) ?_
    refine Y_il3 i_79_36 ?_
    refine Y_al0 i_79_37 ?_
    refine Y_gR i_79_38 ow_79 lf_6_9 (kT0 hG ht) (rT4 hG ht) ?_
    refine Y_il3 i_79_41 ?_
    refine Y_iconst (v := 1) i_79_42 (by decide) ?_
    refine Y_isub i_79_43 ?_
    have o2 := h.1
    replace h := h.2
    refine Y_iaload (k := (x3 - 1).toNatClampNeg) (v := (A (t + 1) (x3 - 1).toNatClampNeg)) i_79_44 (kT1 hG ht) (lT1 hG ht) o2 rfl rfl ?_
    have o3 := h.1
    replace h := h.2
    refine Y_iast i_79_45 (kT1 hG ht) (lT1 hG ht) o3 rfl ?_
    refine Y_ii3 (v := (-1)) i_79_46 (by decide) rfl ?_
    refine Y_goto i_79_49 ?_
    exact h
  · replace h := h.2 e1
    refine Y_al0 i_79_52 ?_
    refine Y_gR i_79_53 ow_79 lf_6_9 (kT0 hG ht) (rT4 hG ht) ?_
    refine Y_il2 i_79_56 ?_
    refine Y_il1 i_79_57 ?_
    have o4 := h.1
    replace h := h.2
    refine Y_iast i_79_58 (kT1 hG ht) (lT1 hG ht) o4 rfl ?_
    refine Y_al0 i_79_59 ?_
    refine Y_dup i_79_60 rfl ?_
    refine Y_gI (v := (F t 1)) i_79_61 ow_79 lf_6_37 (by decide) (kT0 hG ht) rfl ?_
    refine Y_iconst (v := 1) i_79_64 (by decide) ?_
    refine Y_iadd i_79_65 ?_
    refine Y_pI i_79_66 ow_79 lf_6_37 (kT0 hG ht) ?_
    exact Y_vret i_79_69 rt_79 h
/- 80 Tower.removeAt(I)V -/
theorem t_80_0 {d : Nat} {F A : Nat → Nat → Int32} {J : Nat → Nat → Int64} {G : pG} {Q : pR → pM → Prop} {SL p q : Nat} {t : Nat} {x1 : Int32} (hG : Geo G SL p q) (ht : Tw t) (h : ((x1 < 0 → Q (.inl none) (F, A, J, G)) ∧ (¬ x1 < 0 → ((x1 < (F t 1) → X d 80 15 [.ref t, .int x1, .int x1] [] (F, A, J, G) Q) ∧ (¬ x1 < (F t 1) → Q (.inl none) (F, A, J, G)))))) : X d 80 0 [.ref t, .int x1, .null] [] (F, A, J, G) Q := by
  refine Y_il1 i_80_0 ?_
  refine Y_zlt i_80_1 (fun e1 => ?_) (fun e1 => ?_)
  · replace h := h.1 e1
    exact Y_vret i_80_12 rt_80 h
  · replace h := h.2 e1
    refine Y_il1 i_80_4 ?_
    refine Y_al0 i_80_5 ?_
    refine Y_gI (v := (F t 1)) i_80_6 ow_80 lf_6_37 (by decide) (kT0 hG ht) rfl ?_
    refine Y_clt i_80_9 (fun e2 => ?_) (fun e2 => ?_)
    · replace h := h.1 e2
      refine Y_il1 i_80_13 ?_
      refine Y_is2 i_80_14 rfl ?_
      exact h
    · replace h := h.2 e2
      exact Y_vret i_80_12 rt_80 h
theorem t_80_15 {d : Nat} {F A : Nat → Nat → Int32} {J : Nat → Nat → Int64} {G : pG} {Q : pR → pM → Prop} {SL p q : Nat} {t : Nat} {x1 x2 : Int32} (hG : Geo G SL p q) (ht : Tw t) (h : ((x2 < ((F t 1) - 1) → inB (x2 + 1) 10 = true ∧ inB x2 10 = true ∧ (X d 80 15 [.ref t, .int x1, .int (x2 + 1)] [] (F, (wF A (t + 1) x2.toNatClampNeg (A (t + 1) (x2 + 1).toNatClampNeg)), J, G) Q)) ∧ (¬ x2 < ((F t 1) - 1) → Q (.inl none) ((wF F t 1 ((F t 1) - 1)), A, J, G)))) : X d 80 15 [.ref t, .int x1, .int x2] [] (F, A, J, G) Q := by
  refine Y_il2 i_80_15 ?_
  refine Y_al0 i_80_16 ?_
  refine Y_gI (v := (F t 1)) i_80_17 ow_80 lf_6_37 (by decide) (kT0 hG ht) rfl ?_
  refine Y_iconst (v := 1) i_80_20 (by decide) ?_
  refine Y_isub i_80_21 ?_
  refine Y_cge i_80_22 (fun e1 => ?_) (fun e1 => ?_)
  · replace h := h.1 e1
    refine Y_al0 i_80_25 ?_
    refine Y_gR i_80_26 ow_80 lf_6_9 (kT0 hG ht) (rT4 hG ht) ?_
    refine Y_il2 i_80_29 ?_
    refine Y_al0 i_80_30 ?_
    refine Y_gR i_80_31 ow_80 lf_6_9 (kT0 hG ht) (rT4 hG ht) ?_
    refine Y_il2 i_80_34 ?_
    refine Y_iconst (v := 1) i_80_35 (by decide) ?_
    refine Y_iadd i_80_36 ?_
    have o2 := h.1
    replace h := h.2
    refine Y_iaload (k := (x2 + 1).toNatClampNeg) (v := (A (t + 1) (x2 + 1).toNatClampNeg)) i_80_37 (kT1 hG ht) (lT1 hG ht) o2 rfl rfl ?_
    have o3 := h.1
    replace h := h.2
    refine Y_iast i_80_38 (kT1 hG ht) (lT1 hG ht) o3 rfl ?_
    refine Y_ii2 (v := 1) i_80_39 (by decide) rfl ?_
    refine Y_goto i_80_42 ?_
    exact h
  · replace h := h.2 e1
    refine Y_al0 i_80_45 ?_
    refine Y_dup i_80_46 rfl ?_
    refine Y_gI (v := (F t 1)) i_80_47 ow_80 lf_6_37 (by decide) (kT0 hG ht) rfl ?_
    refine Y_iconst (v := 1) i_80_50 (by decide) ?_
    refine Y_isub i_80_51 ?_
    refine Y_pI i_80_52 ow_80 lf_6_37 (kT0 hG ht) ?_
    exact Y_vret i_80_55 rt_80 h
/- 81 Tower.exchange(II)V -/
theorem t_81_0 {d : Nat} {F A : Nat → Nat → Int32} {J : Nat → Nat → Int64} {G : pG} {Q : pR → pM → Prop} {SL p q : Nat} {t : Nat} {x1 x2 : Int32} (hG : Geo G SL p q) (ht : Tw t) (h : inB x1 10 = true ∧ inB x2 10 = true ∧ (Q (.inl none) (F, (wF (wF A (t + 1) x1.toNatClampNeg (A (t + 1) x2.toNatClampNeg)) (t + 1) x2.toNatClampNeg (A (t + 1) x1.toNatClampNeg)), J, G))) : X d 81 0 [.ref t, .int x1, .int x2, .null] [] (F, A, J, G) Q := by
  refine Y_al0 i_81_0 ?_
  refine Y_gR i_81_1 ow_81 lf_6_9 (kT0 hG ht) (rT4 hG ht) ?_
  refine Y_il1 i_81_4 ?_
  have o1 := h.1
  replace h := h.2
  refine Y_iaload (k := x1.toNatClampNeg) (v := (A (t + 1) x1.toNatClampNeg)) i_81_5 (kT1 hG ht) (lT1 hG ht) o1 rfl rfl ?_
  refine Y_is3 i_81_6 rfl ?_
  refine Y_al0 i_81_7 ?_
  refine Y_gR i_81_8 ow_81 lf_6_9 (kT0 hG ht) (rT4 hG ht) ?_
  refine Y_il1 i_81_11 ?_
  refine Y_al0 i_81_12 ?_
  refine Y_gR i_81_13 ow_81 lf_6_9 (kT0 hG ht) (rT4 hG ht) ?_
  refine Y_il2 i_81_16 ?_
  have o2 := h.1
  replace h := h.2
  refine Y_iaload (k := x2.toNatClampNeg) (v := (A (t + 1) x2.toNatClampNeg)) i_81_17 (kT1 hG ht) (lT1 hG ht) o2 rfl rfl ?_
  refine Y_iast i_81_18 (kT1 hG ht) (lT1 hG ht) o1 rfl ?_
  refine Y_al0 i_81_19 ?_
  refine Y_gR i_81_20 ow_81 lf_6_9 (kT0 hG ht) (rT4 hG ht) ?_
  refine Y_il2 i_81_23 ?_
  refine Y_il3 i_81_24 ?_
  refine Y_iast i_81_25 (kT1 hG ht) (lT1 hG ht) o2 rfl ?_
  exact Y_vret i_81_26 rt_81 h
/- 84 Tower.weigh()V -/
theorem t_84_0 {d : Nat} {F A : Nat → Nat → Int32} {J : Nat → Nat → Int64} {G : pG} {Q : pR → pM → Prop} {SL p q : Nat} {t : Nat} (hG : Geo G SL p q) (ht : Tw t) (h : X (d + 2) 84 9 [.ref t, .int 0, .int ((F t 1) - 1), .null] [] (F, A, J, G) Q) : X (d + 2) 84 0 [.ref t, .null, .null, .null] [] (F, A, J, G) Q := by
  refine Y_iconst (v := 0) i_84_0 (by decide) ?_
  refine Y_is1 i_84_1 rfl ?_
  refine Y_al0 i_84_2 ?_
  refine Y_gI (v := (F t 1)) i_84_3 ow_84 lf_6_37 (by decide) (kT0 hG ht) rfl ?_
  refine Y_iconst (v := 1) i_84_6 (by decide) ?_
  refine Y_isub i_84_7 ?_
  refine Y_is2 i_84_8 rfl ?_
  exact h
theorem t_84_9 {d : Nat} {F A : Nat → Nat → Int32} {J : Nat → Nat → Int64} {G : pG} {Q : pR → pM → Prop} {SL p q : Nat} {t : Nat} {x1 x2 : Int32} {v3 : Value} (hG : Geo G SL p q) (ht : Tw t) (h : ((x2 < 0 → X (d + 2) 84 89 [.ref t, .int x1, .int 0, .int 0] [] (F, A, J, G) Q) ∧ (¬ x2 < 0 → inB x2 10 = true ∧ inB (A (t + 1) x2.toNatClampNeg) 10 = true ∧ ((x2 = ((F t 1) - 1) → X (d + 2) 84 9 [.ref t, .int (x1 + ((A 14 (A (t + 1) x2.toNatClampNeg).toNatClampNeg) + (A (t + 2) (A (t + 1) x2.toNatClampNeg).toNatClampNeg))), .int (x2 + (-1)), .int (A (t + 1) x2.toNatClampNeg)] [] (F, (wF (wF A (t + 5) x2.toNatClampNeg (x1 + (A (t + 2) (A (t + 1) x2.toNatClampNeg).toNatClampNeg))) (t + 6) x2.toNatClampNeg (carS (A 13 (A (t + 1) x2.toNatClampNeg).toNatClampNeg) (A 15 (A (t + 1) x2.toNatClampNeg).toNatClampNeg) (F t 2) 1)), J, G) Q) ∧ (¬ x2 = ((F t 1) - 1) → X (d + 2) 84 9 [.ref t, .int (x1 + ((A 14 (A (t + 1) x2.toNatClampNeg).toNatClampNeg) + (A (t + 2) (A (t + 1) x2.toNatClampNeg).toNatClampNeg))), .int (x2 + (-1)), .int (A (t + 1) x2.toNatClampNeg)] [] (F, (wF (wF A (t + 5) x2.toNatClampNeg (x1 + (A (t + 2) (A (t + 1) x2.toNatClampNeg).toNatClampNeg))) (t + 6) x2.toNatClampNeg (carS (A 13 (A (t + 1) x2.toNatClampNeg).toNatClampNeg) (A 15 (A (t + 1) x2.toNatClampNeg).toNatClampNeg) (F t 2) 0)), J, G) Q))))) : X (d + 2) 84 9 [.ref t, .int x1, .int x2, v3] [] (F, A, J, G) Q := by
  refine Y_il2 i_84_9 ?_
  refine Y_zlt i_84_10 (fun e1 => ?_) (fun e1 => ?_)
  · replace h := h.1 e1
    refine Y_iconst (v := 0) i_84_85 (by decide) ?_
    refine Y_is2 i_84_86 rfl ?_
    refine Y_iconst (v := 0) i_84_87 (by decide) ?_
    refine Y_is3 i_84_88 rfl ?_
    exact h
  · replace h := h.2 e1
    refine Y_al0 i_84_13 ?_
    refine Y_gR i_84_14 ow_84 lf_6_9 (kT0 hG ht) (rT4 hG ht) ?_
    refine Y_il2 i_84_17 ?_
    have o2 := h.1
    replace h := h.2
    refine Y_iaload (k := x2.toNatClampNeg) (v := (A (t + 1) x2.toNatClampNeg)) i_84_18 (kT1 hG ht) (lT1 hG ht) o2 rfl rfl ?_
    refine Y_is3 i_84_19 rfl ?_
    refine Y_al0 i_84_20 ?_
    refine Y_gR i_84_21 ow_84 lf_6_24 (kT0 hG ht) (rT8 hG ht) ?_
    refine Y_il2 i_84_24 ?_
    refine Y_il1 i_84_25 ?_
    refine Y_al0 i_84_26 ?_
    refine Y_gR i_84_27 ow_84 lf_6_15 (kT0 hG ht) (rT5 hG ht) ?_
    refine Y_il3 i_84_30 ?_
    have o3 := h.1
    replace h := h.2
    refine Y_iaload (k := (A (t + 1) x2.toNatClampNeg).toNatClampNeg) (v := (A (t + 2) (A (t + 1) x2.toNatClampNeg).toNatClampNeg)) i_84_31 (kT2 hG ht) (lT2 hG ht) o3 rfl rfl ?_
    refine Y_iadd i_84_32 ?_
    refine Y_iast i_84_33 (kT5 hG ht) (lT5 hG ht) o2 rfl ?_
    refine Y_al0 i_84_34 ?_
    refine Y_gR i_84_35 ow_84 lf_6_27 (kT0 hG ht) (rT9 hG ht) ?_
    refine Y_il2 i_84_38 ?_
    refine Y_al0 i_84_39 ?_
    refine Y_il3 i_84_40 ?_
    refine Y_il2 i_84_41 ?_
    refine Y_al0 i_84_42 ?_
    refine Y_gI (v := (F t 1)) i_84_43 ow_84 lf_6_37 (by decide) (kT0 hG ht) rfl ?_
    refine Y_iconst (v := 1) i_84_46 (by decide) ?_
    refine Y_isub i_84_47 ?_
    refine Y_cne i_84_48 (fun e4 => ?_) (fun e4 => ?_)
    · replace h := h.1 e4
      refine Y_iconst (v := 1) i_84_51 (by decide) ?_
      refine Y_goto i_84_52 ?_
      refine Y_iv2 (L0 := [.ref t, .int (A (t + 1) x2.toNatClampNeg), .int 1, .null]) i_84_56 ow_84 lm_6_78 ((kT0 hG ht).trans ow_82.symm) rfl mx_82 rfl rfl hd_84 ?_
      refine c_82 hG ht o3 (KKi' (v' := (carS (A 13 (A (t + 1) x2.toNatClampNeg).toNatClampNeg) (A 15 (A (t + 1) x2.toNatClampNeg).toNatClampNeg) (F t 2) 1)) (by rcases ht with rfl | rfl | rfl <;> simp [wF, wJ, va_up, cpR, bF, bA]) ?_)
      refine Y_iast i_84_59 (kT6 hG ht) (lT6 hG ht) o2 rfl ?_
      refine Y_il1 i_84_60 ?_
      refine Y_al0 i_84_61 ?_
      refine Y_gR i_84_62 ow_84 lf_6_33 (kT0 hG ht) (rT0 hG ht) ?_
      refine Y_gR i_84_65 ow_84 lf_6_82 (k_12 hG) (r_12_4 hG) ?_
      refine Y_il3 i_84_68 ?_
      refine Y_iaload (k := (A (t + 1) x2.toNatClampNeg).toNatClampNeg) (v := (A 14 (A (t + 1) x2.toNatClampNeg).toNatClampNeg)) i_84_69 (k_14 hG) (l_14 hG) o3 rfl (by rcases ht with rfl | rfl | rfl <;> simp [wF, wJ, va_up, cpR, bF, bA]) ?_
      refine Y_al0 i_84_70 ?_
      refine Y_gR i_84_71 ow_84 lf_6_15 (kT0 hG ht) (rT5 hG ht) ?_
      refine Y_il3 i_84_74 ?_
      refine Y_iaload (k := (A (t + 1) x2.toNatClampNeg).toNatClampNeg) (v := (A (t + 2) (A (t + 1) x2.toNatClampNeg).toNatClampNeg)) i_84_75 (kT2 hG ht) (lT2 hG ht) o3 rfl (by simp [wF, wJ, va_up, cpR, bF, bA]) ?_
      refine Y_iadd i_84_76 ?_
      refine Y_iadd i_84_77 ?_
      refine Y_is1 i_84_78 rfl ?_
      refine Y_ii2 (v := (-1)) i_84_79 (by decide) rfl ?_
      refine Y_goto i_84_82 ?_
      exact h
    · replace h := h.2 e4
      refine Y_iconst (v := 0) i_84_55 (by decide) ?_
      refine Y_iv2 (L0 := [.ref t, .int (A (t + 1) x2.toNatClampNeg), .int 0, .null]) i_84_56 ow_84 lm_6_78 ((kT0 hG ht).trans ow_82.symm) rfl mx_82 rfl rfl hd_84 ?_
      refine c_82 hG ht o3 (KKi' (v' := (carS (A 13 (A (t + 1) x2.toNatClampNeg).toNatClampNeg) (A 15 (A (t + 1) x2.toNatClampNeg).toNatClampNeg) (F t 2) 0)) (by rcases ht with rfl | rfl | rfl <;> simp [wF, wJ, va_up, cpR, bF, bA]) ?_)
      refine Y_iast i_84_59 (kT6 hG ht) (lT6 hG ht) o2 rfl ?_
      refine Y_il1 i_84_60 ?_
      refine Y_al0 i_84_61 ?_
      refine Y_gR i_84_62 ow_84 lf_6_33 (kT0 hG ht) (rT0 hG ht) ?_
      refine Y_gR i_84_65 ow_84 lf_6_82 (k_12 hG) (r_12_4 hG) ?_
      refine Y_il3 i_84_68 ?_
      refine Y_iaload (k := (A (t + 1) x2.toNatClampNeg).toNatClampNeg) (v := (A 14 (A (t + 1) x2.toNatClampNeg).toNatClampNeg)) i_84_69 (k_14 hG) (l_14 hG) o3 rfl (by rcases ht with rfl | rfl | rfl <;> simp [wF, wJ, va_up, cpR, bF, bA]) ?_
      refine Y_al0 i_84_70 ?_
      refine Y_gR i_84_71 ow_84 lf_6_15 (kT0 hG ht) (rT5 hG ht) ?_
      refine Y_il3 i_84_74 ?_
      refine Y_iaload (k := (A (t + 1) x2.toNatClampNeg).toNatClampNeg) (v := (A (t + 2) (A (t + 1) x2.toNatClampNeg).toNatClampNeg)) i_84_75 (kT2 hG ht) (lT2 hG ht) o3 rfl (by simp [wF, wJ, va_up, cpR, bF, bA]) ?_
      refine Y_iadd i_84_76 ?_
      refine Y_iadd i_84_77 ?_
      refine Y_is1 i_84_78 rfl ?_
      refine Y_ii2 (v := (-1)) i_84_79 (by decide) rfl ?_
      refine Y_goto i_84_82 ?_
      exact h
theorem t_84_89 {d : Nat} {F A : Nat → Nat → Int32} {J : Nat → Nat → Int64} {G : pG} {Q : pR → pM → Prop} {SL p q : Nat} {t : Nat} {x1 x2 x3 : Int32} (hG : Geo G SL p q) (ht : Tw t) (h : ((x3 < (F t 1) → inB x3 10 = true ∧ inB (A (t + 1) x3.toNatClampNeg) 10 = true ∧ (X (d + 2) 84 89 [.ref t, .int x1, .int (x2 + (lnS (A 13 (A (t + 1) x3.toNatClampNeg).toNatClampNeg) (A (t + 4) (A (t + 1) x3.toNatClampNeg).toNatClampNeg) (A (t + 3) (A (t + 1) x3.toNatClampNeg).toNatClampNeg))), .int (x3 + 1)] [] (F, (wF A (t + 7) x3.toNatClampNeg (x2 + (lnS (A 13 (A (t + 1) x3.toNatClampNeg).toNatClampNeg) (A (t + 4) (A (t + 1) x3.toNatClampNeg).toNatClampNeg) (A (t + 3) (A (t + 1) x3.toNatClampNeg).toNatClampNeg)))), J, G) Q)) ∧ (¬ x3 < (F t 1) → Q (.inl none) (F, A, J, G)))) : X (d + 2) 84 89 [.ref t, .int x1, .int x2, .int x3] [] (F, A, J, G) Q := by
  refine Y_il3 i_84_89 ?_
  refine Y_al0 i_84_90 ?_
  refine Y_gI (v := (F t 1)) i_84_91 ow_84 lf_6_37 (by decide) (kT0 hG ht) rfl ?_
  refine Y_cge i_84_94 (fun e1 => ?_) (fun e1 => ?_)
  · replace h := h.1 e1
    refine Y_il2 i_84_97 ?_
    refine Y_al0 i_84_98 ?_
    refine Y_al0 i_84_99 ?_
    refine Y_gR i_84_100 ow_84 lf_6_9 (kT0 hG ht) (rT4 hG ht) ?_
    refine Y_il3 i_84_103 ?_
    have o2 := h.1
    replace h := h.2
    refine Y_iaload (k := x3.toNatClampNeg) (v := (A (t + 1) x3.toNatClampNeg)) i_84_104 (kT1 hG ht) (lT1 hG ht) o2 rfl rfl ?_
    have o3 := h.1
    replace h := h.2
    refine Y_iv1 (L0 := [.ref t, .int (A (t + 1) x3.toNatClampNeg)]) i_84_105 ow_84 lm_6_85 ((kT0 hG ht).trans ow_83.symm) rfl mx_83 rfl rfl hd_84 ?_
    refine c_83 hG ht o3 (KKi ?_)
    refine Y_iadd i_84_108 ?_
    refine Y_is2 i_84_109 rfl ?_
    refine Y_al0 i_84_110 ?_
    refine Y_gR i_84_111 ow_84 lf_6_30 (kT0 hG ht) (rT10 hG ht) ?_
    refine Y_il3 i_84_114 ?_
    refine Y_il2 i_84_115 ?_
    refine Y_iast i_84_116 (kT7 hG ht) (lT7 hG ht) o2 rfl ?_
    refine Y_ii3 (v := 1) i_84_117 (by decide) rfl ?_
    refine Y_goto i_84_120 ?_
    exact h
  · replace h := h.2 e1
    exact Y_vret i_84_123 rt_84 h
/- 85 Tower.slackAt(I)I -/
theorem t_85_0 {d : Nat} {F A : Nat → Nat → Int32} {J : Nat → Nat → Int64} {G : pG} {Q : pR → pM → Prop} {SL p q : Nat} {t : Nat} {x1 : Int32} (hG : Geo G SL p q) (ht : Tw t) (h : inB x1 10 = true ∧ (Q (.inl (some (.int ((A (t + 6) x1.toNatClampNeg) - (A (t + 5) x1.toNatClampNeg))))) (F, A, J, G))) : X d 85 0 [.ref t, .int x1] [] (F, A, J, G) Q := by
  refine Y_al0 i_85_0 ?_
  refine Y_gR i_85_1 ow_85 lf_6_27 (kT0 hG ht) (rT9 hG ht) ?_
  refine Y_il1 i_85_4 ?_
  have o1 := h.1
  replace h := h.2
  refine Y_iaload (k := x1.toNatClampNeg) (v := (A (t + 6) x1.toNatClampNeg)) i_85_5 (kT6 hG ht) (lT6 hG ht) o1 rfl rfl ?_
  refine Y_al0 i_85_6 ?_
  refine Y_gR i_85_7 ow_85 lf_6_24 (kT0 hG ht) (rT8 hG ht) ?_
  refine Y_il1 i_85_10 ?_
  refine Y_iaload (k := x1.toNatClampNeg) (v := (A (t + 5) x1.toNatClampNeg)) i_85_11 (kT5 hG ht) (lT5 hG ht) o1 rfl rfl ?_
  refine Y_isub i_85_12 ?_
  exact Y_iret i_85_13 rt_85 h
/- 86 Tower.holds(I)Z -/
theorem t_86_0 {d : Nat} {F A : Nat → Nat → Int32} {J : Nat → Nat → Int64} {G : pG} {Q : pR → pM → Prop} {SL p q : Nat} {t : Nat} {x1 : Int32} (hG : Geo G SL p q) (ht : Tw t) (h : inB x1 10 = true ∧ ((((A (t + 6) x1.toNatClampNeg) - (A (t + 5) x1.toNatClampNeg)) < 0 → Q (.inl (some (.int 0))) (F, A, J, G)) ∧ (¬ ((A (t + 6) x1.toNatClampNeg) - (A (t + 5) x1.toNatClampNeg)) < 0 → (((limB (F 12 1) (A (t + 7) x1.toNatClampNeg)) = true → Q (.inl (some (.int 1))) (F, A, J, G)) ∧ ((limB (F 12 1) (A (t + 7) x1.toNatClampNeg)) = false → Q (.inl (some (.int 0))) (F, A, J, G)))))) : X (d + 1) 86 0 [.ref t, .int x1] [] (F, A, J, G) Q := by
  refine Y_al0 i_86_0 ?_
  refine Y_il1 i_86_1 ?_
  refine Y_iv1 (L0 := [.ref t, .int x1]) i_86_2 ow_86 lm_6_88 ((kT0 hG ht).trans ow_85.symm) rfl mx_85 rfl rfl hd_86 ?_
  refine Y_al0 i_85_0 ?_
  refine Y_gR i_85_1 ow_85 lf_6_27 (kT0 hG ht) (rT9 hG ht) ?_
  refine Y_il1 i_85_4 ?_
  have o1 := h.1
  replace h := h.2
  refine Y_iaload (k := x1.toNatClampNeg) (v := (A (t + 6) x1.toNatClampNeg)) i_85_5 (kT6 hG ht) (lT6 hG ht) o1 rfl rfl ?_
  refine Y_al0 i_85_6 ?_
  refine Y_gR i_85_7 ow_85 lf_6_24 (kT0 hG ht) (rT8 hG ht) ?_
  refine Y_il1 i_85_10 ?_
  refine Y_iaload (k := x1.toNatClampNeg) (v := (A (t + 5) x1.toNatClampNeg)) i_85_11 (kT5 hG ht) (lT5 hG ht) o1 rfl rfl ?_
  refine Y_isub i_85_12 ?_
  refine Y_iret i_85_13 rt_85 (KKi ?_)
  refine Y_zlt i_86_5 (fun e2 => ?_) (fun e2 => ?_)
  · replace h := h.1 e2
    refine Y_iconst (v := 0) i_86_28 (by decide) ?_
    exact Y_bret i_86_29 rt_86 (by decide) h
  · replace h := h.2 e2
    refine Y_al0 i_86_8 ?_
    refine Y_gR i_86_9 ow_86 lf_6_33 (kT0 hG ht) (rT0 hG ht) ?_
    refine Y_al0 i_86_12 ?_
    refine Y_gR i_86_13 ow_86 lf_6_30 (kT0 hG ht) (rT10 hG ht) ?_
    refine Y_il1 i_86_16 ?_
    refine Y_iaload (k := x1.toNatClampNeg) (v := (A (t + 7) x1.toNatClampNeg)) i_86_17 (kT7 hG ht) (lT7 hG ht) o1 rfl rfl ?_
    refine Y_iv1 (L0 := [.ref 12, .int (A (t + 7) x1.toNatClampNeg)]) i_86_18 ow_86 lm_6_91 ((k_12 hG).trans ow_103.symm) rfl mx_103 rfl rfl hd_86 ?_
    refine c_103 hG (KKi ?_)
    refine Y_beq i_86_21 (fun e3 => ?_) (fun e3 => ?_)
    · replace h := h.1 e3
      refine Y_iconst (v := 1) i_86_24 (by decide) ?_
      refine Y_goto i_86_25 ?_
      exact Y_bret i_86_29 rt_86 (by decide) h
    · replace h := h.2 e3
      refine Y_iconst (v := 0) i_86_28 (by decide) ?_
      exact Y_bret i_86_29 rt_86 (by decide) h
/- 87 Tower.breaksAt()I -/
theorem t_87_0 {d : Nat} {F A : Nat → Nat → Int32} {J : Nat → Nat → Int64} {G : pG} {Q : pR → pM → Prop} {SL p q : Nat} {t : Nat} (hG : Geo G SL p q) (ht : Tw t) (h : X (d + 2) 84 0 [.ref t, .null, .null, .null] [] (F, A, J, G) (KK (d + 3) 87 4 [.ref t, .null] [] Q)) : X (d + 3) 87 0 [.ref t, .null] [] (F, A, J, G) Q := by
  refine Y_al0 i_87_0 ?_
  exact Y_iv0 (L0 := [.ref t, .null, .null, .null]) i_87_1 ow_87 lm_6_95 ((kT0 hG ht).trans ow_84.symm) rfl mx_84 rfl rfl hd_87 h
theorem k_87_4 {d : Nat} {F A : Nat → Nat → Int32} {J : Nat → Nat → Int64} {G : pG} {Q : pR → pM → Prop} {SL p q : Nat} {t : Nat} (hG : Geo G SL p q) (ht : Tw t) (h : X (d + 3) 87 6 [.ref t, .int 0] [] (F, A, J, G) Q) : KK (d + 3) 87 4 [.ref t, .null] [] Q (.inl none) (F, A, J, G) := by
  refine KKv ?_
  refine Y_iconst (v := 0) i_87_4 (by decide) ?_
  refine Y_is1 i_87_5 rfl ?_
  exact h
theorem t_87_6 {d : Nat} {F A : Nat → Nat → Int32} {J : Nat → Nat → Int64} {G : pG} {Q : pR → pM → Prop} {SL p q : Nat} {t : Nat} {x1 : Int32} (hG : Geo G SL p q) (ht : Tw t) (h : ((x1 < (F t 1) → inB x1 10 = true ∧ ((((A (t + 6) x1.toNatClampNeg) - (A (t + 5) x1.toNatClampNeg)) < 0 → Q (.inl (some (.int x1))) (F, A, J, G)) ∧ (¬ ((A (t + 6) x1.toNatClampNeg) - (A (t + 5) x1.toNatClampNeg)) < 0 → (((limB (F 12 1) (A (t + 7) x1.toNatClampNeg)) = true → X (d + 3) 87 6 [.ref t, .int (x1 + 1)] [] (F, A, J, G) Q) ∧ ((limB (F 12 1) (A (t + 7) x1.toNatClampNeg)) = false → Q (.inl (some (.int x1))) (F, A, J, G)))))) ∧ (¬ x1 < (F t 1) → Q (.inl (some (.int (-1)))) (F, A, J, G)))) : X (d + 3) 87 6 [.ref t, .int x1] [] (F, A, J, G) Q := by
  refine Y_il1 i_87_6 ?_
  refine Y_al0 i_87_7 ?_
  refine Y_gI (v := (F t 1)) i_87_8 ow_87 lf_6_37 (by decide) (kT0 hG ht) rfl ?_
  refine Y_cge i_87_11 (fun e1 => ?_) (fun e1 => ?_)
  · replace h := h.1 e1
    refine Y_al0 i_87_14 ?_
    refine Y_il1 i_87_15 ?_
    refine Y_iv1 (L0 := [.ref t, .int x1]) i_87_16 ow_87 lm_6_98 ((kT0 hG ht).trans ow_86.symm) rfl mx_86 rfl rfl hd_87 ?_
    refine Y_al0 i_86_0 ?_
    refine Y_il1 i_86_1 ?_
    refine Y_iv1 (L0 := [.ref t, .int x1]) i_86_2 ow_86 lm_6_88 ((kT0 hG ht).trans ow_85.symm) rfl mx_85 rfl rfl hd_86 ?_
    refine Y_al0 i_85_0 ?_
    refine Y_gR i_85_1 ow_85 lf_6_27 (kT0 hG ht) (rT9 hG ht) ?_
    refine Y_il1 i_85_4 ?_
    have o2 := h.1
    replace h := h.2
    refine Y_iaload (k := x1.toNatClampNeg) (v := (A (t + 6) x1.toNatClampNeg)) i_85_5 (kT6 hG ht) (lT6 hG ht) o2 rfl rfl ?_
    refine Y_al0 i_85_6 ?_
    refine Y_gR i_85_7 ow_85 lf_6_24 (kT0 hG ht) (rT8 hG ht) ?_
    refine Y_il1 i_85_10 ?_
    refine Y_iaload (k := x1.toNatClampNeg) (v := (A (t + 5) x1.toNatClampNeg)) i_85_11 (kT5 hG ht) (lT5 hG ht) o2 rfl rfl ?_
    refine Y_isub i_85_12 ?_
    refine Y_iret i_85_13 rt_85 (KKi ?_)
    refine Y_zlt i_86_5 (fun e3 => ?_) (fun e3 => ?_)
    · replace h := h.1 e3
      refine Y_iconst (v := 0) i_86_28 (by decide) ?_
      refine Y_bret i_86_29 rt_86 (by decide) (KKi ?_)
      refine Y_zF i_87_19 (by decide) ?_
      refine Y_il1 i_87_22 ?_
      exact Y_iret i_87_23 rt_87 h
    · replace h := h.2 e3
      refine Y_al0 i_86_8 ?_
      refine Y_gR i_86_9 ow_86 lf_6_33 (kT0 hG ht) (rT0 hG ht) ?_
      refine Y_al0 i_86_12 ?_
      refine Y_gR i_86_13 ow_86 lf_6_30 (kT0 hG ht) (rT10 hG ht) ?_
      refine Y_il1 i_86_16 ?_
      refine Y_iaload (k := x1.toNatClampNeg) (v := (A (t + 7) x1.toNatClampNeg)) i_86_17 (kT7 hG ht) (lT7 hG ht) o2 rfl rfl ?_
      refine Y_iv1 (L0 := [.ref 12, .int (A (t + 7) x1.toNatClampNeg)]) i_86_18 ow_86 lm_6_91 ((k_12 hG).trans ow_103.symm) rfl mx_103 rfl rfl hd_86 ?_
      refine c_103 hG (KKi ?_)
      refine Y_beq i_86_21 (fun e4 => ?_) (fun e4 => ?_)
      · replace h := h.1 e4
        refine Y_iconst (v := 1) i_86_24 (by decide) ?_
        refine Y_goto i_86_25 ?_
        refine Y_bret i_86_29 rt_86 (by decide) (KKi ?_)
        refine Y_zT i_87_19 (by decide) ?_
        refine Y_ii1 (v := 1) i_87_24 (by decide) rfl ?_
        refine Y_goto i_87_27 ?_
        exact h
      · replace h := h.2 e4
        refine Y_iconst (v := 0) i_86_28 (by decide) ?_
        refine Y_bret i_86_29 rt_86 (by decide) (KKi ?_)
        refine Y_zF i_87_19 (by decide) ?_
        refine Y_il1 i_87_22 ?_
        exact Y_iret i_87_23 rt_87 h
  · replace h := h.2 e1
    refine Y_iconst (v := (-1)) i_87_30 (by decide) ?_
    exact Y_iret i_87_31 rt_87 h
/- 88 Tower.stands()Z -/
theorem t_88_0 {d : Nat} {F A : Nat → Nat → Int32} {J : Nat → Nat → Int64} {G : pG} {Q : pR → pM → Prop} {SL p q : Nat} {t : Nat} (hG : Geo G SL p q) (ht : Tw t) (h : X (d + 3) 87 0 [.ref t, .null] [] (F, A, J, G) (KK (d + 4) 88 4 [.ref t] [] Q)) : X (d + 4) 88 0 [.ref t] [] (F, A, J, G) Q := by
  refine Y_al0 i_88_0 ?_
  exact Y_iv0 (L0 := [.ref t, .null]) i_88_1 ow_88 lm_6_101 ((kT0 hG ht).trans ow_87.symm) rfl mx_87 rfl rfl hd_88 h
theorem k_88_4 {d : Nat} {F A : Nat → Nat → Int32} {J : Nat → Nat → Int64} {G : pG} {Q : pR → pM → Prop} {SL p q : Nat} {t : Nat} {r r : Int32} (hG : Geo G SL p q) (ht : Tw t) (h : ((r = (-1) → Q (.inl (some (.int 1))) (F, A, J, G)) ∧ (¬ r = (-1) → Q (.inl (some (.int 0))) (F, A, J, G)))) : KK (d + 4) 88 4 [.ref t] [] Q (.inl (some (.int r))) (F, A, J, G) := by
  refine KKi ?_
  refine Y_iconst (v := (-1)) i_88_4 (by decide) ?_
  refine Y_cne i_88_5 (fun e1 => ?_) (fun e1 => ?_)
  · replace h := h.1 e1
    refine Y_iconst (v := 1) i_88_8 (by decide) ?_
    refine Y_goto i_88_9 ?_
    exact Y_bret i_88_13 rt_88 (by decide) h
  · replace h := h.2 e1
    refine Y_iconst (v := 0) i_88_12 (by decide) ?_
    exact Y_bret i_88_13 rt_88 (by decide) h
/- 89 Tower.room()I -/
theorem t_89_0 {d : Nat} {F A : Nat → Nat → Int32} {J : Nat → Nat → Int64} {G : pG} {Q : pR → pM → Prop} {SL p q : Nat} {t : Nat} (hG : Geo G SL p q) (ht : Tw t) (h : X (d + 3) 87 0 [.ref t, .null] [] (F, A, J, G) (KK (d + 4) 89 4 [.ref t, .null, .null] [] Q)) : X (d + 4) 89 0 [.ref t, .null, .null] [] (F, A, J, G) Q := by
  refine Y_al0 i_89_0 ?_
  exact Y_iv0 (L0 := [.ref t, .null]) i_89_1 ow_89 lm_6_101 ((kT0 hG ht).trans ow_87.symm) rfl mx_87 rfl rfl hd_89 h
theorem k_89_4 {d : Nat} {F A : Nat → Nat → Int32} {J : Nat → Nat → Int64} {G : pG} {Q : pR → pM → Prop} {SL p q : Nat} {t : Nat} {r r : Int32} (hG : Geo G SL p q) (ht : Tw t) (h : ((r = (-1) → X (d + 4) 89 16 [.ref t, .int 9999, .int 0] [] (F, A, J, G) Q) ∧ (¬ r = (-1) → Q (.inl (some (.int (-1)))) (F, A, J, G)))) : KK (d + 4) 89 4 [.ref t, .null, .null] [] Q (.inl (some (.int r))) (F, A, J, G) := by
  refine KKi ?_
  refine Y_iconst (v := (-1)) i_89_4 (by decide) ?_
  refine Y_ceq i_89_5 (fun e1 => ?_) (fun e1 => ?_)
  · replace h := h.1 e1
    refine Y_sipush (v := 9999) i_89_10 (by decide) ?_
    refine Y_is1 i_89_13 rfl ?_
    refine Y_iconst (v := 0) i_89_14 (by decide) ?_
    refine Y_is2 i_89_15 rfl ?_
    exact h
  · replace h := h.2 e1
    refine Y_iconst (v := (-1)) i_89_8 (by decide) ?_
    exact Y_iret i_89_9 rt_89 h
theorem t_89_16 {d : Nat} {F A : Nat → Nat → Int32} {J : Nat → Nat → Int64} {G : pG} {Q : pR → pM → Prop} {SL p q : Nat} {t : Nat} {x1 x2 : Int32} (hG : Geo G SL p q) (ht : Tw t) (h : ((x2 < (F t 1) → inB x2 10 = true ∧ (X (d + 4) 89 16 [.ref t, .int (jmin x1 ((A (t + 6) x2.toNatClampNeg) - (A (t + 5) x2.toNatClampNeg))), .int (x2 + 1)] [] (F, A, J, G) Q)) ∧ (¬ x2 < (F t 1) → Q (.inl (some (.int x1))) (F, A, J, G)))) : X (d + 4) 89 16 [.ref t, .int x1, .int x2] [] (F, A, J, G) Q := by
  refine Y_il2 i_89_16 ?_
  refine Y_al0 i_89_17 ?_
  refine Y_gI (v := (F t 1)) i_89_18 ow_89 lf_6_37 (by decide) (kT0 hG ht) rfl ?_
  refine Y_cge i_89_21 (fun e1 => ?_) (fun e1 => ?_)
  · replace h := h.1 e1
    refine Y_il1 i_89_24 ?_
    refine Y_al0 i_89_25 ?_
    refine Y_il2 i_89_26 ?_
    refine Y_iv1 (L0 := [.ref t, .int x2]) i_89_27 ow_89 lm_6_88 ((kT0 hG ht).trans ow_85.symm) rfl mx_85 rfl rfl hd_89 ?_
    refine Y_al0 i_85_0 ?_
    refine Y_gR i_85_1 ow_85 lf_6_27 (kT0 hG ht) (rT9 hG ht) ?_
    refine Y_il1 i_85_4 ?_
    have o2 := h.1
    replace h := h.2
    refine Y_iaload (k := x2.toNatClampNeg) (v := (A (t + 6) x2.toNatClampNeg)) i_85_5 (kT6 hG ht) (lT6 hG ht) o2 rfl rfl ?_
    refine Y_al0 i_85_6 ?_
    refine Y_gR i_85_7 ow_85 lf_6_24 (kT0 hG ht) (rT8 hG ht) ?_
    refine Y_il1 i_85_10 ?_
    refine Y_iaload (k := x2.toNatClampNeg) (v := (A (t + 5) x2.toNatClampNeg)) i_85_11 (kT5 hG ht) (lT5 hG ht) o2 rfl rfl ?_
    refine Y_isub i_85_12 ?_
    refine Y_iret i_85_13 rt_85 (KKi ?_)
    refine Y_min i_89_30 ow_89 lm_6_105 rfl ?_
    refine Y_is1 i_89_33 rfl ?_
    refine Y_ii2 (v := 1) i_89_34 (by decide) rfl ?_
    refine Y_goto i_89_37 ?_
    exact h
  · replace h := h.2 e1
    refine Y_il1 i_89_40 ?_
    exact Y_iret i_89_41 rt_89 h
/- 90 Tower.serve(I)I -/
theorem t_90_0 {d : Nat} {F A : Nat → Nat → Int32} {J : Nat → Nat → Int64} {G : pG} {Q : pR → pM → Prop} {SL p q : Nat} {t : Nat} {x1 : Int32} (hG : Geo G SL p q) (ht : Tw t) (h : X (d + 3) 90 4 [.ref t, .int x1, .int x1, .int 0, .null] [] (F, A, J, G) Q) : X (d + 3) 90 0 [.ref t, .int x1, .null, .null, .null] [] (F, A, J, G) Q := by
  refine Y_il1 i_90_0 ?_
  refine Y_is2 i_90_1 rfl ?_
  refine Y_iconst (v := 0) i_90_2 (by decide) ?_
  refine Y_is3 i_90_3 rfl ?_
  exact h
theorem t_90_4 {d : Nat} {F A : Nat → Nat → Int32} {J : Nat → Nat → Int64} {G : pG} {Q : pR → pM → Prop} {SL p q : Nat} {t : Nat} {x1 x2 x3 : Int32} {v4 : Value} (hG : Geo G SL p q) (ht : Tw t) (h : ((x3 < (F t 1) → inB x3 10 = true ∧ (X (d + 2) 92 0 [.ref t, .int x3, .int x2, .null, .null] [] (F, A, J, G) (KK (d + 3) 90 32 [.ref t, .int x1, .int x2, .int x3, .int (A (t + 1) x3.toNatClampNeg)] [.int (A (t + 1) x3.toNatClampNeg), .ref (t + 2)] Q))) ∧ (¬ x3 < (F t 1) → Q (.inl (some (.int x2))) (F, A, J, G)))) : X (d + 3) 90 4 [.ref t, .int x1, .int x2, .int x3, v4] [] (F, A, J, G) Q := by
  refine Y_il3 i_90_4 ?_
  refine Y_al0 i_90_5 ?_
  refine Y_gI (v := (F t 1)) i_90_6 ow_90 lf_6_37 (by decide) (kT0 hG ht) rfl ?_
  refine Y_cge i_90_9 (fun e1 => ?_) (fun e1 => ?_)
  · replace h := h.1 e1
    refine Y_al0 i_90_12 ?_
    refine Y_gR i_90_13 ow_90 lf_6_9 (kT0 hG ht) (rT4 hG ht) ?_
    refine Y_il3 i_90_16 ?_
    have o2 := h.1
    replace h := h.2
    refine Y_iaload (k := x3.toNatClampNeg) (v := (A (t + 1) x3.toNatClampNeg)) i_90_17 (kT1 hG ht) (lT1 hG ht) o2 rfl rfl ?_
    refine Y_is4 i_90_18 rfl ?_
    refine Y_al0 i_90_20 ?_
    refine Y_gR i_90_21 ow_90 lf_6_15 (kT0 hG ht) (rT5 hG ht) ?_
    refine Y_il4 i_90_24 ?_
    refine Y_al0 i_90_26 ?_
    refine Y_il3 i_90_27 ?_
    refine Y_il2 i_90_28 ?_
    exact Y_iv2 (L0 := [.ref t, .int x3, .int x2, .null, .null]) i_90_29 ow_90 lm_6_108 ((kT0 hG ht).trans ow_92.symm) rfl mx_92 rfl rfl hd_90 h
  · replace h := h.2 e1
    refine Y_il2 i_90_49 ?_
    exact Y_iret i_90_50 rt_90 h
theorem k_90_32 {d : Nat} {F A : Nat → Nat → Int32} {J : Nat → Nat → Int64} {G : pG} {Q : pR → pM → Prop} {SL p q : Nat} {t : Nat} {x1 x2 x3 x4 r s0 r : Int32} (hG : Geo G SL p q) (ht : Tw t) (h : inB s0 10 = true ∧ inB x4 10 = true ∧ (X (d + 3) 90 4 [.ref t, .int x1, .int (x2 - ((wF A (t + 2) s0.toNatClampNeg r) (t + 2) x4.toNatClampNeg)), .int (x3 + 1), .int x4] [] (F, (wF A (t + 2) s0.toNatClampNeg r), J, G) Q)) : KK (d + 3) 90 32 [.ref t, .int x1, .int x2, .int x3, .int x4] [.int s0, .ref (t + 2)] Q (.inl (some (.int r))) (F, A, J, G) := by
  refine KKi ?_
  have o1 := h.1
  replace h := h.2
  refine Y_iast i_90_32 (kT2 hG ht) (lT2 hG ht) o1 rfl ?_
  refine Y_il2 i_90_33 ?_
  refine Y_al0 i_90_34 ?_
  refine Y_gR i_90_35 ow_90 lf_6_15 (kT0 hG ht) (rT5 hG ht) ?_
  refine Y_il4 i_90_38 ?_
  have o2 := h.1
  replace h := h.2
  refine Y_iaload (k := x4.toNatClampNeg) (v := ((wF A (t + 2) s0.toNatClampNeg r) (t + 2) x4.toNatClampNeg)) i_90_40 (kT2 hG ht) (lT2 hG ht) o2 rfl rfl ?_
  refine Y_isub i_90_41 ?_
  refine Y_is2 i_90_42 rfl ?_
  refine Y_ii3 (v := 1) i_90_43 (by decide) rfl ?_
  refine Y_goto i_90_46 ?_
  exact h
/- 91 Tower.fillsAll(I)Z -/
theorem t_91_0 {d : Nat} {F A : Nat → Nat → Int32} {J : Nat → Nat → Int64} {G : pG} {Q : pR → pM → Prop} {SL p q : Nat} {t : Nat} {x1 : Int32} (hG : Geo G SL p q) (ht : Tw t) (h : X (d + 3) 91 4 [.ref t, .int x1, .int x1, .int 0, .null] [] (F, A, J, G) Q) : X (d + 3) 91 0 [.ref t, .int x1, .null, .null, .null] [] (F, A, J, G) Q := by
  refine Y_il1 i_91_0 ?_
  refine Y_is2 i_91_1 rfl ?_
  refine Y_iconst (v := 0) i_91_2 (by decide) ?_
  refine Y_is3 i_91_3 rfl ?_
  exact h
theorem t_91_4 {d : Nat} {F A : Nat → Nat → Int32} {J : Nat → Nat → Int64} {G : pG} {Q : pR → pM → Prop} {SL p q : Nat} {t : Nat} {x1 x2 x3 : Int32} {v4 : Value} (hG : Geo G SL p q) (ht : Tw t) (h : ((x3 < (F t 1) → X (d + 2) 92 0 [.ref t, .int x3, .int x2, .null, .null] [] (F, A, J, G) (KK (d + 3) 91 18 [.ref t, .int x1, .int x2, .int x3, v4] [] Q)) ∧ (¬ x3 < (F t 1) → Q (.inl (some (.int 1))) (F, A, J, G)))) : X (d + 3) 91 4 [.ref t, .int x1, .int x2, .int x3, v4] [] (F, A, J, G) Q := by
  refine Y_il3 i_91_4 ?_
  refine Y_al0 i_91_5 ?_
  refine Y_gI (v := (F t 1)) i_91_6 ow_91 lf_6_37 (by decide) (kT0 hG ht) rfl ?_
  refine Y_cge i_91_9 (fun e1 => ?_) (fun e1 => ?_)
  · replace h := h.1 e1
    refine Y_al0 i_91_12 ?_
    refine Y_il3 i_91_13 ?_
    refine Y_il2 i_91_14 ?_
    exact Y_iv2 (L0 := [.ref t, .int x3, .int x2, .null, .null]) i_91_15 ow_91 lm_6_108 ((kT0 hG ht).trans ow_92.symm) rfl mx_92 rfl rfl hd_91 h
  · replace h := h.2 e1
    refine Y_iconst (v := 1) i_91_52 (by decide) ?_
    exact Y_bret i_91_53 rt_91 (by decide) h
theorem k_91_18 {d : Nat} {F A : Nat → Nat → Int32} {J : Nat → Nat → Int64} {G : pG} {Q : pR → pM → Prop} {SL p q : Nat} {t : Nat} {x1 x2 x3 r r : Int32} {v4 : Value} (hG : Geo G SL p q) (ht : Tw t) (h : inB x3 10 = true ∧ inB (A (t + 1) x3.toNatClampNeg) 10 = true ∧ ((r < (A 17 (A (t + 1) x3.toNatClampNeg).toNatClampNeg) → Q (.inl (some (.int 0))) (F, A, J, G)) ∧ (¬ r < (A 17 (A (t + 1) x3.toNatClampNeg).toNatClampNeg) → X (d + 3) 91 4 [.ref t, .int x1, .int (x2 - r), .int (x3 + 1), .int r] [] (F, A, J, G) Q))) : KK (d + 3) 91 18 [.ref t, .int x1, .int x2, .int x3, v4] [] Q (.inl (some (.int r))) (F, A, J, G) := by
  refine KKi ?_
  refine Y_is4 i_91_18 rfl ?_
  refine Y_il4 i_91_20 ?_
  refine Y_al0 i_91_22 ?_
  refine Y_gR i_91_23 ow_91 lf_6_33 (kT0 hG ht) (rT0 hG ht) ?_
  refine Y_gR i_91_26 ow_91 lf_6_111 (k_12 hG) (r_12_7 hG) ?_
  refine Y_al0 i_91_29 ?_
  refine Y_gR i_91_30 ow_91 lf_6_9 (kT0 hG ht) (rT4 hG ht) ?_
  refine Y_il3 i_91_33 ?_
  have o1 := h.1
  replace h := h.2
  refine Y_iaload (k := x3.toNatClampNeg) (v := (A (t + 1) x3.toNatClampNeg)) i_91_34 (kT1 hG ht) (lT1 hG ht) o1 rfl rfl ?_
  have o2 := h.1
  replace h := h.2
  refine Y_iaload (k := (A (t + 1) x3.toNatClampNeg).toNatClampNeg) (v := (A 17 (A (t + 1) x3.toNatClampNeg).toNatClampNeg)) i_91_35 (k_17 hG) (l_17 hG) o2 rfl rfl ?_
  refine Y_cge i_91_36 (fun e3 => ?_) (fun e3 => ?_)
  · replace h := h.1 e3
    refine Y_iconst (v := 0) i_91_39 (by decide) ?_
    exact Y_bret i_91_40 rt_91 (by decide) h
  · replace h := h.2 e3
    refine Y_il2 i_91_41 ?_
    refine Y_il4 i_91_42 ?_
    refine Y_isub i_91_44 ?_
    refine Y_is2 i_91_45 rfl ?_
    refine Y_ii3 (v := 1) i_91_46 (by decide) rfl ?_
    refine Y_goto i_91_49 ?_
    exact h
/- 92 Tower.takesOf(II)I -/
theorem t_92_0 {d : Nat} {F A : Nat → Nat → Int32} {J : Nat → Nat → Int64} {G : pG} {Q : pR → pM → Prop} {SL p q : Nat} {t : Nat} {x1 x2 : Int32} (hG : Geo G SL p q) (ht : Tw t) (h : inB x1 10 = true ∧ (((F 18 1) = 0 → inB (A (t + 1) x1.toNatClampNeg) 10 = true ∧ (Q (.inl (some (.int (jmin x2 (A 17 (A (t + 1) x1.toNatClampNeg).toNatClampNeg))))) (F, A, J, G))) ∧ (¬ (F 18 1) = 0 → inB (A (t + 1) x1.toNatClampNeg) 10 = true ∧ (X (d + 1) 55 0 [.ref 18, .null, .null, .null] [] ((wF (wF (wF (wF (wF (wF F 18 2 x1) 18 3 (A 17 (A (t + 1) x1.toNatClampNeg).toNatClampNeg)) 18 4 x2) 18 5 (A 13 (A (t + 1) x1.toNatClampNeg).toNatClampNeg)) 18 6 (((F t 1) - 1) - x1)) 18 7 (A 14 (A (t + 1) x1.toNatClampNeg).toNatClampNeg)), A, J, G) (KK (d + 2) 92 112 [.ref t, .int x1, .int x2, .int (A (t + 1) x1.toNatClampNeg), .ref 18] [.int x2, .int 0] Q))))) : X (d + 2) 92 0 [.ref t, .int x1, .int x2, .null, .null] [] (F, A, J, G) Q := by
  refine Y_al0 i_92_0 ?_
  refine Y_gR i_92_1 ow_92 lf_6_9 (kT0 hG ht) (rT4 hG ht) ?_
  refine Y_il1 i_92_4 ?_
  have o1 := h.1
  replace h := h.2
  refine Y_iaload (k := x1.toNatClampNeg) (v := (A (t + 1) x1.toNatClampNeg)) i_92_5 (kT1 hG ht) (lT1 hG ht) o1 rfl rfl ?_
  refine Y_is3 i_92_6 rfl ?_
  refine Y_al0 i_92_7 ?_
  refine Y_gR i_92_8 ow_92 lf_6_33 (kT0 hG ht) (rT0 hG ht) ?_
  refine Y_gR i_92_11 ow_92 lf_6_114 (k_12 hG) (r_12_8 hG) ?_
  refine Y_as4 i_92_14 rfl ?_
  refine Y_al4 i_92_16 ?_
  refine Y_gI (v := (F 18 1)) i_92_18 ow_92 lf_6_118 (by decide) (k_18 hG) rfl ?_
  refine Y_zne i_92_21 (fun e2 => ?_) (fun e2 => ?_)
  · replace h := h.1 e2
    refine Y_il2 i_92_24 ?_
    refine Y_al0 i_92_25 ?_
    refine Y_gR i_92_26 ow_92 lf_6_33 (kT0 hG ht) (rT0 hG ht) ?_
    refine Y_gR i_92_29 ow_92 lf_6_111 (k_12 hG) (r_12_7 hG) ?_
    refine Y_il3 i_92_32 ?_
    have o3 := h.1
    replace h := h.2
    refine Y_iaload (k := (A (t + 1) x1.toNatClampNeg).toNatClampNeg) (v := (A 17 (A (t + 1) x1.toNatClampNeg).toNatClampNeg)) i_92_33 (k_17 hG) (l_17 hG) o3 rfl rfl ?_
    refine Y_min i_92_34 ow_92 lm_6_105 rfl ?_
    exact Y_iret i_92_37 rt_92 h
  · replace h := h.2 e2
    refine Y_al4 i_92_38 ?_
    refine Y_il1 i_92_40 ?_
    refine Y_pI i_92_41 ow_92 lf_6_123 (k_18 hG) ?_
    refine Y_al4 i_92_44 ?_
    refine Y_al0 i_92_46 ?_
    refine Y_gR i_92_47 ow_92 lf_6_33 (kT0 hG ht) (rT0 hG ht) ?_
    refine Y_gR i_92_50 ow_92 lf_6_111 (k_12 hG) (r_12_7 hG) ?_
    refine Y_il3 i_92_53 ?_
    have o4 := h.1
    replace h := h.2
    refine Y_iaload (k := (A (t + 1) x1.toNatClampNeg).toNatClampNeg) (v := (A 17 (A (t + 1) x1.toNatClampNeg).toNatClampNeg)) i_92_54 (k_17 hG) (l_17 hG) o4 rfl rfl ?_
    refine Y_pI i_92_55 ow_92 lf_6_126 (k_18 hG) ?_
    refine Y_al4 i_92_58 ?_
    refine Y_il2 i_92_60 ?_
    refine Y_pI i_92_61 ow_92 lf_6_128 (k_18 hG) ?_
    refine Y_al4 i_92_64 ?_
    refine Y_al0 i_92_66 ?_
    refine Y_gR i_92_67 ow_92 lf_6_33 (kT0 hG ht) (rT0 hG ht) ?_
    refine Y_gR i_92_70 ow_92 lf_6_62 (k_12 hG) (r_12_3 hG) ?_
    refine Y_il3 i_92_73 ?_
    refine Y_iaload (k := (A (t + 1) x1.toNatClampNeg).toNatClampNeg) (v := (A 13 (A (t + 1) x1.toNatClampNeg).toNatClampNeg)) i_92_74 (k_13 hG) (l_13 hG) o4 rfl rfl ?_
    refine Y_pI i_92_75 ow_92 lf_6_131 (k_18 hG) ?_
    refine Y_al4 i_92_78 ?_
    refine Y_al0 i_92_80 ?_
    refine Y_gI (v := (F t 1)) i_92_81 ow_92 lf_6_37 (by decide) (kT0 hG ht) (by rcases ht with rfl | rfl | rfl <;> simp [wF, wJ, va_up, cpR, bF, bA]) ?_
    refine Y_iconst (v := 1) i_92_84 (by decide) ?_
    refine Y_isub i_92_85 ?_
    refine Y_il1 i_92_86 ?_
    refine Y_isub i_92_87 ?_
    refine Y_pI i_92_88 ow_92 lf_6_133 (k_18 hG) ?_
    refine Y_al4 i_92_91 ?_
    refine Y_al0 i_92_93 ?_
    refine Y_gR i_92_94 ow_92 lf_6_33 (kT0 hG ht) (rT0 hG ht) ?_
    refine Y_gR i_92_97 ow_92 lf_6_82 (k_12 hG) (r_12_4 hG) ?_
    refine Y_il3 i_92_100 ?_
    refine Y_iaload (k := (A (t + 1) x1.toNatClampNeg).toNatClampNeg) (v := (A 14 (A (t + 1) x1.toNatClampNeg).toNatClampNeg)) i_92_101 (k_14 hG) (l_14 hG) o4 rfl rfl ?_
    refine Y_pI i_92_102 ow_92 lf_6_136 (k_18 hG) ?_
    refine Y_iconst (v := 0) i_92_105 (by decide) ?_
    refine Y_il2 i_92_106 ?_
    refine Y_al4 i_92_107 ?_
    exact Y_iv0 (L0 := [.ref 18, .null, .null, .null]) i_92_109 ow_92 lm_6_138 ((k_18 hG).trans ow_55.symm) rfl mx_55 rfl rfl hd_92 h
theorem k_92_112 {d : Nat} {F A : Nat → Nat → Int32} {J : Nat → Nat → Int64} {G : pG} {Q : pR → pM → Prop} {SL p q : Nat} {t : Nat} {x1 x2 x3 r s0 s1 r : Int32} (hG : Geo G SL p q) (ht : Tw t) (h : Q (.inl (some (.int (jmax s1 (jmin s0 r))))) (F, A, J, G)) : KK (d + 2) 92 112 [.ref t, .int x1, .int x2, .int x3, .ref 18] [.int s0, .int s1] Q (.inl (some (.int r))) (F, A, J, G) := by
  refine KKi ?_
  refine Y_min i_92_112 ow_92 lm_6_105 rfl ?_
  refine Y_max i_92_115 ow_92 lm_6_69 rfl ?_
  exact Y_iret i_92_118 rt_92 h
/- 93 Tower.fullOnes()I -/
theorem t_93_0 {d : Nat} {F A : Nat → Nat → Int32} {J : Nat → Nat → Int64} {G : pG} {Q : pR → pM → Prop} {SL p q : Nat} {t : Nat} (hG : Geo G SL p q) (ht : Tw t) (h : X d 93 4 [.ref t, .int 0, .int 0, .null] [] (F, A, J, G) Q) : X d 93 0 [.ref t, .null, .null, .null] [] (F, A, J, G) Q := by
  refine Y_iconst (v := 0) i_93_0 (by decide) ?_
  refine Y_is1 i_93_1 rfl ?_
  refine Y_iconst (v := 0) i_93_2 (by decide) ?_
  refine Y_is2 i_93_3 rfl ?_
  exact h
theorem t_93_4 {d : Nat} {F A : Nat → Nat → Int32} {J : Nat → Nat → Int64} {G : pG} {Q : pR → pM → Prop} {SL p q : Nat} {t : Nat} {x1 x2 : Int32} {v3 : Value} (hG : Geo G SL p q) (ht : Tw t) (h : ((x2 < (F t 1) → inB x2 10 = true ∧ inB (A (t + 1) x2.toNatClampNeg) 10 = true ∧ (((A (t + 2) (A (t + 1) x2.toNatClampNeg).toNatClampNeg) < (A 17 (A (t + 1) x2.toNatClampNeg).toNatClampNeg) → X d 93 4 [.ref t, .int x1, .int (x2 + 1), .int (A (t + 1) x2.toNatClampNeg)] [] (F, A, J, G) Q) ∧ (¬ (A (t + 2) (A (t + 1) x2.toNatClampNeg).toNatClampNeg) < (A 17 (A (t + 1) x2.toNatClampNeg).toNatClampNeg) → X d 93 4 [.ref t, .int (x1 ||| ((1 : Int32) <<< ((A (t + 1) x2.toNatClampNeg) &&& 31))), .int (x2 + 1), .int (A (t + 1) x2.toNatClampNeg)] [] (F, A, J, G) Q))) ∧ (¬ x2 < (F t 1) → Q (.inl (some (.int x1))) (F, A, J, G)))) : X d 93 4 [.ref t, .int x1, .int x2, v3] [] (F, A, J, G) Q := by
  refine Y_il2 i_93_4 ?_
  refine Y_al0 i_93_5 ?_
  refine Y_gI (v := (F t 1)) i_93_6 ow_93 lf_6_37 (by decide) (kT0 hG ht) rfl ?_
  refine Y_cge i_93_9 (fun e1 => ?_) (fun e1 => ?_)
  · replace h := h.1 e1
    refine Y_al0 i_93_12 ?_
    refine Y_gR i_93_13 ow_93 lf_6_9 (kT0 hG ht) (rT4 hG ht) ?_
    refine Y_il2 i_93_16 ?_
    have o2 := h.1
    replace h := h.2
    refine Y_iaload (k := x2.toNatClampNeg) (v := (A (t + 1) x2.toNatClampNeg)) i_93_17 (kT1 hG ht) (lT1 hG ht) o2 rfl rfl ?_
    refine Y_is3 i_93_18 rfl ?_
    refine Y_al0 i_93_19 ?_
    refine Y_gR i_93_20 ow_93 lf_6_15 (kT0 hG ht) (rT5 hG ht) ?_
    refine Y_il3 i_93_23 ?_
    have o3 := h.1
    replace h := h.2
    refine Y_iaload (k := (A (t + 1) x2.toNatClampNeg).toNatClampNeg) (v := (A (t + 2) (A (t + 1) x2.toNatClampNeg).toNatClampNeg)) i_93_24 (kT2 hG ht) (lT2 hG ht) o3 rfl rfl ?_
    refine Y_al0 i_93_25 ?_
    refine Y_gR i_93_26 ow_93 lf_6_33 (kT0 hG ht) (rT0 hG ht) ?_
    refine Y_gR i_93_29 ow_93 lf_6_111 (k_12 hG) (r_12_7 hG) ?_
    refine Y_il3 i_93_32 ?_
    refine Y_iaload (k := (A (t + 1) x2.toNatClampNeg).toNatClampNeg) (v := (A 17 (A (t + 1) x2.toNatClampNeg).toNatClampNeg)) i_93_33 (k_17 hG) (l_17 hG) o3 rfl rfl ?_
    refine Y_clt i_93_34 (fun e4 => ?_) (fun e4 => ?_)
    · replace h := h.1 e4
      refine Y_ii2 (v := 1) i_93_43 (by decide) rfl ?_
      refine Y_goto i_93_46 ?_
      exact h
    · replace h := h.2 e4
      refine Y_il1 i_93_37 ?_
      refine Y_iconst (v := 1) i_93_38 (by decide) ?_
      refine Y_il3 i_93_39 ?_
      refine Y_ishl i_93_40 ?_
      refine Y_ior i_93_41 ?_
      refine Y_is1 i_93_42 rfl ?_
      refine Y_ii2 (v := 1) i_93_43 (by decide) rfl ?_
      refine Y_goto i_93_46 ?_
      exact h
  · replace h := h.2 e1
    refine Y_il1 i_93_49 ?_
    exact Y_iret i_93_50 rt_93 h
/- 94 Tower.mostHungry()I -/
theorem t_94_0 {d : Nat} {F A : Nat → Nat → Int32} {J : Nat → Nat → Int64} {G : pG} {Q : pR → pM → Prop} {SL p q : Nat} {t : Nat} (hG : Geo G SL p q) (ht : Tw t) (h : hB (F t 1) = true ∧ (X (d + 1) 94 12 [.ref t, .int (-1), .int 0, .int (bitsI (A (t + 1)) (F t 1)), .int 0, .null] [] (F, A, J, G) Q)) : X (d + 1) 94 0 [.ref t, .null, .null, .null, .null, .null] [] (F, A, J, G) Q := by
  refine Y_iconst (v := (-1)) i_94_0 (by decide) ?_
  refine Y_is1 i_94_1 rfl ?_
  refine Y_iconst (v := 0) i_94_2 (by decide) ?_
  refine Y_is2 i_94_3 rfl ?_
  refine Y_al0 i_94_4 ?_
  have o1 := h.1
  replace h := h.2
  refine Y_iv0 (L0 := [.ref t, .null, .null]) i_94_5 ow_94 lm_6_141 ((kT0 hG ht).trans ow_78.symm) rfl mx_78 rfl rfl hd_94 ?_
  refine c_78 hG ht o1 (KKi ?_)
  refine Y_is3 i_94_8 rfl ?_
  refine Y_iconst (v := 0) i_94_9 (by decide) ?_
  refine Y_is4 i_94_10 rfl ?_
  exact h
theorem t_94_12 {d : Nat} {F A : Nat → Nat → Int32} {J : Nat → Nat → Int64} {G : pG} {Q : pR → pM → Prop} {SL p q : Nat} {t : Nat} {x1 x2 x3 x4 : Int32} {v5 : Value} (hG : Geo G SL p q) (ht : Tw t) (h : ((x4 < (F 12 0) → inB x4 10 = true ∧ ((((x3 >>> (x4 &&& 31)) &&& 1) = 0 → X (d + 1) 94 12 [.ref t, .int x1, .int x2, .int x3, .int (x4 + 1), .int ((A 17 x4.toNatClampNeg) - (A (t + 2) x4.toNatClampNeg))] [] (F, A, J, G) Q) ∧ (¬ ((x3 >>> (x4 &&& 31)) &&& 1) = 0 → ((x2 < ((A 17 x4.toNatClampNeg) - (A (t + 2) x4.toNatClampNeg)) → X (d + 1) 94 12 [.ref t, .int x4, .int ((A 17 x4.toNatClampNeg) - (A (t + 2) x4.toNatClampNeg)), .int x3, .int (x4 + 1), .int ((A 17 x4.toNatClampNeg) - (A (t + 2) x4.toNatClampNeg))] [] (F, A, J, G) Q) ∧ (¬ x2 < ((A 17 x4.toNatClampNeg) - (A (t + 2) x4.toNatClampNeg)) → X (d + 1) 94 12 [.ref t, .int x1, .int x2, .int x3, .int (x4 + 1), .int ((A 17 x4.toNatClampNeg) - (A (t + 2) x4.toNatClampNeg))] [] (F, A, J, G) Q))))) ∧ (¬ x4 < (F 12 0) → Q (.inl (some (.int x1))) (F, A, J, G)))) : X (d + 1) 94 12 [.ref t, .int x1, .int x2, .int x3, .int x4, v5] [] (F, A, J, G) Q := by
  refine Y_il4 i_94_12 ?_
  refine Y_al0 i_94_14 ?_
  refine Y_gR i_94_15 ow_94 lf_6_33 (kT0 hG ht) (rT0 hG ht) ?_
  refine Y_gI (v := (F 12 0)) i_94_18 ow_94 lf_6_47 (by decide) (k_12 hG) rfl ?_
  refine Y_cge i_94_21 (fun e1 => ?_) (fun e1 => ?_)
  · replace h := h.1 e1
    refine Y_al0 i_94_24 ?_
    refine Y_gR i_94_25 ow_94 lf_6_33 (kT0 hG ht) (rT0 hG ht) ?_
    refine Y_gR i_94_28 ow_94 lf_6_111 (k_12 hG) (r_12_7 hG) ?_
    refine Y_il4 i_94_31 ?_
    have o2 := h.1
    replace h := h.2
    refine Y_iaload (k := x4.toNatClampNeg) (v := (A 17 x4.toNatClampNeg)) i_94_33 (k_17 hG) (l_17 hG) o2 rfl rfl ?_
    refine Y_al0 i_94_34 ?_
    refine Y_gR i_94_35 ow_94 lf_6_15 (kT0 hG ht) (rT5 hG ht) ?_
    refine Y_il4 i_94_38 ?_
    refine Y_iaload (k := x4.toNatClampNeg) (v := (A (t + 2) x4.toNatClampNeg)) i_94_40 (kT2 hG ht) (lT2 hG ht) o2 rfl rfl ?_
    refine Y_isub i_94_41 ?_
    refine Y_is5 i_94_42 rfl ?_
    refine Y_il3 i_94_44 ?_
    refine Y_il4 i_94_45 ?_
    refine Y_ishr i_94_47 ?_
    refine Y_iconst (v := 1) i_94_48 (by decide) ?_
    refine Y_iand i_94_49 ?_
    refine Y_zeq i_94_50 (fun e3 => ?_) (fun e3 => ?_)
    · replace h := h.1 e3
      refine Y_ii4 (v := 1) i_94_65 (by decide) rfl ?_
      refine Y_goto i_94_68 ?_
      exact h
    · replace h := h.2 e3
      refine Y_il5 i_94_53 ?_
      refine Y_il2 i_94_55 ?_
      refine Y_cle i_94_56 (fun e4 => ?_) (fun e4 => ?_)
      · replace h := h.1 e4
        refine Y_il4 i_94_59 ?_
        refine Y_is1 i_94_61 rfl ?_
        refine Y_il5 i_94_62 ?_
        refine Y_is2 i_94_64 rfl ?_
        refine Y_ii4 (v := 1) i_94_65 (by decide) rfl ?_
        refine Y_goto i_94_68 ?_
        exact h
      · replace h := h.2 e4
        refine Y_ii4 (v := 1) i_94_65 (by decide) rfl ?_
        refine Y_goto i_94_68 ?_
        exact h
  · replace h := h.2 e1
    refine Y_il1 i_94_71 ?_
    exact Y_iret i_94_72 rt_94 h
/- 95 Tower.mostTilted()I -/
theorem t_95_0 {d : Nat} {F A : Nat → Nat → Int32} {J : Nat → Nat → Int64} {G : pG} {Q : pR → pM → Prop} {SL p q : Nat} {t : Nat} (hG : Geo G SL p q) (ht : Tw t) (h : X (d + 2) 84 0 [.ref t, .null, .null, .null] [] (F, A, J, G) (KK (d + 3) 95 4 [.ref t, .null, .null] [] Q)) : X (d + 3) 95 0 [.ref t, .null, .null] [] (F, A, J, G) Q := by
  refine Y_al0 i_95_0 ?_
  exact Y_iv0 (L0 := [.ref t, .null, .null, .null]) i_95_1 ow_95 lm_6_95 ((kT0 hG ht).trans ow_84.symm) rfl mx_84 rfl rfl hd_95 h
theorem k_95_4 {d : Nat} {F A : Nat → Nat → Int32} {J : Nat → Nat → Int64} {G : pG} {Q : pR → pM → Prop} {SL p q : Nat} {t : Nat} (hG : Geo G SL p q) (ht : Tw t) (h : X (d + 3) 95 8 [.ref t, .int (-1), .int 0] [] (F, A, J, G) Q) : KK (d + 3) 95 4 [.ref t, .null, .null] [] Q (.inl none) (F, A, J, G) := by
  refine KKv ?_
  refine Y_iconst (v := (-1)) i_95_4 (by decide) ?_
  refine Y_is1 i_95_5 rfl ?_
  refine Y_iconst (v := 0) i_95_6 (by decide) ?_
  refine Y_is2 i_95_7 rfl ?_
  exact h
theorem t_95_8 {d : Nat} {F A : Nat → Nat → Int32} {J : Nat → Nat → Int64} {G : pG} {Q : pR → pM → Prop} {SL p q : Nat} {t : Nat} {x1 x2 : Int32} (hG : Geo G SL p q) (ht : Tw t) (h : ((x2 < (F t 1) → ((x1 = (-1) → X (d + 3) 95 8 [.ref t, .int x2, .int (x2 + 1)] [] (F, A, J, G) Q) ∧ (¬ x1 = (-1) → inB x2 10 = true ∧ inB x1 10 = true ∧ (((jabs (A (t + 7) x1.toNatClampNeg)) < (jabs (A (t + 7) x2.toNatClampNeg)) → X (d + 3) 95 8 [.ref t, .int x2, .int (x2 + 1)] [] (F, A, J, G) Q) ∧ (¬ (jabs (A (t + 7) x1.toNatClampNeg)) < (jabs (A (t + 7) x2.toNatClampNeg)) → X (d + 3) 95 8 [.ref t, .int x1, .int (x2 + 1)] [] (F, A, J, G) Q))))) ∧ (¬ x2 < (F t 1) → Q (.inl (some (.int x1))) (F, A, J, G)))) : X (d + 3) 95 8 [.ref t, .int x1, .int x2] [] (F, A, J, G) Q := by
  refine Y_il2 i_95_8 ?_
  refine Y_al0 i_95_9 ?_
  refine Y_gI (v := (F t 1)) i_95_10 ow_95 lf_6_37 (by decide) (kT0 hG ht) rfl ?_
  refine Y_cge i_95_13 (fun e1 => ?_) (fun e1 => ?_)
  · replace h := h.1 e1
    refine Y_il1 i_95_16 ?_
    refine Y_iconst (v := (-1)) i_95_17 (by decide) ?_
    refine Y_ceq i_95_18 (fun e2 => ?_) (fun e2 => ?_)
    · replace h := h.1 e2
      refine Y_il2 i_95_42 ?_
      refine Y_is1 i_95_43 rfl ?_
      refine Y_ii2 (v := 1) i_95_44 (by decide) rfl ?_
      refine Y_goto i_95_47 ?_
      exact h
    · replace h := h.2 e2
      refine Y_al0 i_95_21 ?_
      refine Y_gR i_95_22 ow_95 lf_6_30 (kT0 hG ht) (rT10 hG ht) ?_
      refine Y_il2 i_95_25 ?_
      have o3 := h.1
      replace h := h.2
      refine Y_iaload (k := x2.toNatClampNeg) (v := (A (t + 7) x2.toNatClampNeg)) i_95_26 (kT7 hG ht) (lT7 hG ht) o3 rfl rfl ?_
      refine Y_abs i_95_27 ow_95 lm_6_144 rfl ?_
      refine Y_al0 i_95_30 ?_
      refine Y_gR i_95_31 ow_95 lf_6_30 (kT0 hG ht) (rT10 hG ht) ?_
      refine Y_il1 i_95_34 ?_
      have o4 := h.1
      replace h := h.2
      refine Y_iaload (k := x1.toNatClampNeg) (v := (A (t + 7) x1.toNatClampNeg)) i_95_35 (kT7 hG ht) (lT7 hG ht) o4 rfl rfl ?_
      refine Y_abs i_95_36 ow_95 lm_6_144 rfl ?_
      refine Y_cle i_95_39 (fun e5 => ?_) (fun e5 => ?_)
      · replace h := h.1 e5
        refine Y_il2 i_95_42 ?_
        refine Y_is1 i_95_43 rfl ?_
        refine Y_ii2 (v := 1) i_95_44 (by decide) rfl ?_
        refine Y_goto i_95_47 ?_
        exact h
      · replace h := h.2 e5
        refine Y_ii2 (v := 1) i_95_44 (by decide) rfl ?_
        refine Y_goto i_95_47 ?_
        exact h
  · replace h := h.2 e1
    refine Y_il1 i_95_50 ?_
    exact Y_iret i_95_51 rt_95 h
/- 98 Town.clear()V -/
theorem t_98_0 {d : Nat} {F A : Nat → Nat → Int32} {J : Nat → Nat → Int64} {G : pG} {Q : pR → pM → Prop} {SL p q : Nat} (hG : Geo G SL p q) (h : Q (.inl none) ((wF (wF (wF (wF F 2 0 0) 2 1 9) 2 2 100) 8 1 0), A, J, G)) : X d 98 0 [.ref 2] [] (F, A, J, G) Q := by
  refine Y_al0 i_98_0 ?_
  refine Y_iconst (v := 0) i_98_1 (by decide) ?_
  refine Y_pI i_98_2 ow_98 lf_7_37 (k_2 hG) ?_
  refine Y_al0 i_98_5 ?_
  refine Y_bipush (v := 9) i_98_6 (by decide) ?_
  refine Y_pI i_98_8 ow_98 lf_7_41 (k_2 hG) ?_
  refine Y_al0 i_98_11 ?_
  refine Y_bipush (v := 100) i_98_12 (by decide) ?_
  refine Y_pI i_98_14 ow_98 lf_7_44 (k_2 hG) ?_
  refine Y_al0 i_98_17 ?_
  refine Y_gR i_98_18 ow_98 lf_7_30 (k_2 hG) (r_2_8 hG) ?_
  refine Y_iconst (v := 0) i_98_21 (by decide) ?_
  refine Y_pI i_98_22 ow_98 lf_7_47 (k_8 hG) ?_
  exact Y_vret i_98_25 rt_98 h
/- 99 Town.become(LTableTower$Town;)V -/
theorem t_99_0 {d : Nat} {F A : Nat → Nat → Int32} {J : Nat → Nat → Int64} {G : pG} {Q : pR → pM → Prop} {SL p q : Nat} (hG : Geo G SL p q) (h : (¬ (0 : Int32) < 0 ∧ ¬ (0 : Int32) < 0 ∧ ¬ (F 8 1) < 0 ∧ (0 : Int32).toNatClampNeg + (F 8 1).toNatClampNeg ≤ 600 ∧ (0 : Int32).toNatClampNeg + (F 8 1).toNatClampNeg ≤ 600) ∧ (Q (.inl none) ((wF (wF (wF (wF F 12 0 (F 2 0)) 12 1 (F 2 1)) 12 2 (F 2 2)) 18 1 (F 8 1)), (cpR (cpR (cpR (cpR (cpR (cpR A 13 3 0 0 10) 14 4 0 0 10) 15 5 0 0 10) 16 6 0 0 10) 17 7 0 0 10) 19 9 0 0 (F 8 1).toNatClampNeg), J, G))) : X (d + 1) 99 0 [.ref 12, .ref 2] [] (F, A, J, G) Q := by
  refine Y_al0 i_99_0 ?_
  refine Y_al1 i_99_1 ?_
  refine Y_gI (v := (F 2 0)) i_99_2 ow_99 lf_7_37 (by decide) (k_2 hG) rfl ?_
  refine Y_pI i_99_5 ow_99 lf_7_37 (k_12 hG) ?_
  refine Y_al0 i_99_8 ?_
  refine Y_al1 i_99_9 ?_
  refine Y_gI (v := (F 2 1)) i_99_10 ow_99 lf_7_41 (by decide) (k_2 hG) (by simp [wF, wJ, va_up, cpR, bF, bA]) ?_
  refine Y_pI i_99_13 ow_99 lf_7_41 (k_12 hG) ?_
  refine Y_al0 i_99_16 ?_
  refine Y_al1 i_99_17 ?_
  refine Y_gI (v := (F 2 2)) i_99_18 ow_99 lf_7_44 (by decide) (k_2 hG) (by simp [wF, wJ, va_up, cpR, bF, bA]) ?_
  refine Y_pI i_99_21 ow_99 lf_7_44 (k_12 hG) ?_
  refine Y_al1 i_99_24 ?_
  refine Y_gR i_99_25 ow_99 lf_7_9 (k_2 hG) (r_2_3 hG) ?_
  refine Y_iconst (v := 0) i_99_28 (by decide) ?_
  refine Y_al0 i_99_29 ?_
  refine Y_gR i_99_30 ow_99 lf_7_9 (k_12 hG) (r_12_3 hG) ?_
  refine Y_iconst (v := 0) i_99_33 (by decide) ?_
  refine Y_bipush (v := 10) i_99_34 (by decide) ?_
  refine Y_acp (ksp := 0) (kdp := 0) (kn := 10) i_99_36 ow_99 lm_7_50 rfl (k_13 hG) (k_3 hG) (l_13 hG) (l_3 hG) (by decide) (by decide) (by decide) (by decide) ?_
  refine Y_al1 i_99_39 ?_
  refine Y_gR i_99_40 ow_99 lf_7_15 (k_2 hG) (r_2_4 hG) ?_
  refine Y_iconst (v := 0) i_99_43 (by decide) ?_
  refine Y_al0 i_99_44 ?_
  refine Y_gR i_99_45 ow_99 lf_7_15 (k_12 hG) (r_12_4 hG) ?_
  refine Y_iconst (v := 0) i_99_48 (by decide) ?_
  refine Y_bipush (v := 10) i_99_49 (by decide) ?_
  refine Y_acp (ksp := 0) (kdp := 0) (kn := 10) i_99_51 ow_99 lm_7_50 rfl (k_14 hG) (k_4 hG) (l_14 hG) (l_4 hG) (by decide) (by decide) (by decide) (by decide) ?_
  refine Y_al1 i_99_54 ?_
  refine Y_gR i_99_55 ow_99 lf_7_18 (k_2 hG) (r_2_5 hG) ?_
  refine Y_iconst (v := 0) i_99_58 (by decide) ?_
  refine Y_al0 i_99_59 ?_
  refine Y_gR i_99_60 ow_99 lf_7_18 (k_12 hG) (r_12_5 hG) ?_
  refine Y_iconst (v := 0) i_99_63 (by decide) ?_
  refine Y_bipush (v := 10) i_99_64 (by decide) ?_
  refine Y_acp (ksp := 0) (kdp := 0) (kn := 10) i_99_66 ow_99 lm_7_50 rfl (k_15 hG) (k_5 hG) (l_15 hG) (l_5 hG) (by decide) (by decide) (by decide) (by decide) ?_
  refine Y_al1 i_99_69 ?_
  refine Y_gR i_99_70 ow_99 lf_7_21 (k_2 hG) (r_2_6 hG) ?_
  refine Y_iconst (v := 0) i_99_73 (by decide) ?_
  refine Y_al0 i_99_74 ?_
  refine Y_gR i_99_75 ow_99 lf_7_21 (k_12 hG) (r_12_6 hG) ?_
  refine Y_iconst (v := 0) i_99_78 (by decide) ?_
  refine Y_bipush (v := 10) i_99_79 (by decide) ?_
  refine Y_acp (ksp := 0) (kdp := 0) (kn := 10) i_99_81 ow_99 lm_7_50 rfl (k_16 hG) (k_6 hG) (l_16 hG) (l_6 hG) (by decide) (by decide) (by decide) (by decide) ?_
  refine Y_al1 i_99_84 ?_
  refine Y_gR i_99_85 ow_99 lf_7_24 (k_2 hG) (r_2_7 hG) ?_
  refine Y_iconst (v := 0) i_99_88 (by decide) ?_
  refine Y_al0 i_99_89 ?_
  refine Y_gR i_99_90 ow_99 lf_7_24 (k_12 hG) (r_12_7 hG) ?_
  refine Y_iconst (v := 0) i_99_93 (by decide) ?_
  refine Y_bipush (v := 10) i_99_94 (by decide) ?_
  refine Y_acp (ksp := 0) (kdp := 0) (kn := 10) i_99_96 ow_99 lm_7_50 rfl (k_17 hG) (k_7 hG) (l_17 hG) (l_7 hG) (by decide) (by decide) (by decide) (by decide) ?_
  refine Y_al0 i_99_99 ?_
  refine Y_gR i_99_100 ow_99 lf_7_30 (k_12 hG) (r_12_8 hG) ?_
  refine Y_al1 i_99_103 ?_
  refine Y_gR i_99_104 ow_99 lf_7_30 (k_2 hG) (r_2_8 hG) ?_
  refine Y_iv1 (L0 := [.ref 18, .ref 8]) i_99_107 ow_99 lm_7_56 ((k_18 hG).trans ow_53.symm) rfl mx_53 rfl rfl hd_99 ?_
  refine Y_al0 i_53_0 ?_
  refine Y_al1 i_53_1 ?_
  refine Y_gI (v := (F 8 1)) i_53_2 ow_53 lf_4_18 (by decide) (k_8 hG) (by simp [wF, wJ, va_up, cpR, bF, bA]) ?_
  refine Y_pI i_53_5 ow_53 lf_4_18 (k_18 hG) ?_
  refine Y_al1 i_53_8 ?_
  refine Y_gR i_53_9 ow_53 lf_4_9 (k_8 hG) (r_8_0 hG) ?_
  refine Y_iconst (v := 0) i_53_12 (by decide) ?_
  refine Y_al0 i_53_13 ?_
  refine Y_gR i_53_14 ow_53 lf_4_9 (k_18 hG) (r_18_0 hG) ?_
  refine Y_iconst (v := 0) i_53_17 (by decide) ?_
  refine Y_al0 i_53_18 ?_
  refine Y_gI (v := (F 8 1)) i_53_19 ow_53 lf_4_18 (by decide) (k_18 hG) (by simp [wF, wJ, va_up, cpR, bF, bA]) ?_
  have o1 := h.1
  replace h := h.2
  refine Y_acp (ksp := 0) (kdp := 0) (kn := (F 8 1).toNatClampNeg) i_53_22 ow_53 lm_4_22 rfl (k_19 hG) (k_9 hG) (l_19 hG) (l_9 hG) o1 (by decide) (by decide) rfl ?_
  refine Y_vret i_53_25 rt_53 (KKv ?_)
  exact Y_vret i_99_110 rt_99 h
/- 100 Town.all()I -/
theorem t_100_0 {d : Nat} {F A : Nat → Nat → Int32} {J : Nat → Nat → Int64} {G : pG} {Q : pR → pM → Prop} {SL p q : Nat} (hG : Geo G SL p q) (h : Q (.inl (some (.int (((1 : Int32) <<< ((F 12 0) &&& 31)) - 1)))) (F, A, J, G)) : X d 100 0 [.ref 12] [] (F, A, J, G) Q := by
  refine Y_iconst (v := 1) i_100_0 (by decide) ?_
  refine Y_al0 i_100_1 ?_
  refine Y_gI (v := (F 12 0)) i_100_2 ow_100 lf_7_37 (by decide) (k_12 hG) rfl ?_
  refine Y_ishl i_100_5 ?_
  refine Y_iconst (v := 1) i_100_6 (by decide) ?_
  refine Y_isub i_100_7 ?_
  exact Y_iret i_100_8 rt_100 h
/- 105 Trials.roomWithout(I)I -/
theorem t_105_0 {d : Nat} {F A : Nat → Nat → Int32} {J : Nat → Nat → Int64} {G : pG} {Q : pR → pM → Prop} {SL p q : Nat} {x1 : Int32} (hG : Geo G SL p q) (h : hB (F 27 1) = true ∧ (X (d + 4) 80 0 [.ref 53, .int (lvI (A 28) (F 27 1) x1), .null] [] ((bF F 53 27), (bA A 53 27), J, G) (KK (d + 5) 105 26 [.ref 49, .int x1] [] Q))) : X (d + 5) 105 0 [.ref 49, .int x1] [] (F, A, J, G) Q := by
  refine Y_al0 i_105_0 ?_
  refine Y_gR i_105_1 ow_105 lf_8_34 (k_49 hG) (r_49_2 hG) ?_
  refine Y_al0 i_105_4 ?_
  refine Y_gR i_105_5 ow_105 lf_8_25 (k_49 hG) (r_49_1 hG) ?_
  refine Y_iv1 (L0 := [.ref 53, .ref 27]) i_105_8 ow_105 lm_8_37 ((k_53 hG).trans ow_76.symm) rfl mx_76 rfl rfl hd_105 ?_
  refine c_76_53_27 hG tw_53 (KKv ?_)
  refine Y_al0 i_105_11 ?_
  refine Y_gR i_105_12 ow_105 lf_8_34 (k_49 hG) (r_49_2 hG) ?_
  refine Y_al0 i_105_15 ?_
  refine Y_gR i_105_16 ow_105 lf_8_25 (k_49 hG) (r_49_1 hG) ?_
  refine Y_il1 i_105_19 ?_
  have o1 := h.1
  replace h := h.2
  refine Y_iv1 (L0 := [.ref 27, .int x1, .null]) i_105_20 ow_105 lm_8_41 ((k_27 hG).trans ow_77.symm) rfl mx_77 rfl rfl hd_105 ?_
  refine c_77 hG tw_27 (by simpa [wF, wJ, va_up, cpR, bF, bA] using o1) (KKi' (v' := (lvI (A 28) (F 27 1) x1)) (by simp [wF, wJ, va_up, cpR, bF, bA]) ?_)
  exact Y_iv1 (L0 := [.ref 53, .int (lvI (A 28) (F 27 1) x1), .null]) i_105_23 ow_105 lm_8_45 ((k_53 hG).trans ow_80.symm) rfl mx_80 rfl rfl hd_105 h
theorem k_105_26 {d : Nat} {F A : Nat → Nat → Int32} {J : Nat → Nat → Int64} {G : pG} {Q : pR → pM → Prop} {SL p q : Nat} {x1 : Int32} (hG : Geo G SL p q) (h : X (d + 4) 89 0 [.ref 53, .null, .null] [] (F, A, J, G) (KK (d + 5) 105 33 [.ref 49, .int x1] [] Q)) : KK (d + 5) 105 26 [.ref 49, .int x1] [] Q (.inl none) (F, A, J, G) := by
  refine KKv ?_
  refine Y_al0 i_105_26 ?_
  refine Y_gR i_105_27 ow_105 lf_8_34 (k_49 hG) (r_49_2 hG) ?_
  exact Y_iv0 (L0 := [.ref 53, .null, .null]) i_105_30 ow_105 lm_8_49 ((k_53 hG).trans ow_89.symm) rfl mx_89 rfl rfl hd_105 h
theorem k_105_33 {d : Nat} {F A : Nat → Nat → Int32} {J : Nat → Nat → Int64} {G : pG} {Q : pR → pM → Prop} {SL p q : Nat} {x1 r r : Int32} (hG : Geo G SL p q) (h : Q (.inl (some (.int r))) (F, A, J, G)) : KK (d + 5) 105 33 [.ref 49, .int x1] [] Q (.inl (some (.int r))) (F, A, J, G) := by
  refine KKi ?_
  exact Y_iret i_105_33 rt_105 h
/- 106 Trials.bestTakenOff()I -/
theorem t_106_0 {d : Nat} {F A : Nat → Nat → Int32} {J : Nat → Nat → Int64} {G : pG} {Q : pR → pM → Prop} {SL p q : Nat} (hG : Geo G SL p q) (h : X (d + 6) 106 6 [.ref 49, .int (-1), .int (-1), .int 0, .null] [] (F, A, J, G) Q) : X (d + 6) 106 0 [.ref 49, .null, .null, .null, .null] [] (F, A, J, G) Q := by
  refine Y_iconst (v := (-1)) i_106_0 (by decide) ?_
  refine Y_is1 i_106_1 rfl ?_
  refine Y_iconst (v := (-1)) i_106_2 (by decide) ?_
  refine Y_is2 i_106_3 rfl ?_
  refine Y_iconst (v := 0) i_106_4 (by decide) ?_
  refine Y_is3 i_106_5 rfl ?_
  exact h
theorem t_106_6 {d : Nat} {F A : Nat → Nat → Int32} {J : Nat → Nat → Int64} {G : pG} {Q : pR → pM → Prop} {SL p q : Nat} {x1 x2 x3 : Int32} {v4 : Value} (hG : Geo G SL p q) (h : ((x3 < (F 12 0) → hB (F 27 1) = true ∧ (((lvI (A 28) (F 27 1) x3) = (-1) → ((x2 < (-1) → X (d + 6) 106 6 [.ref 49, .int x3, .int (-1), .int (x3 + 1), .int (-1)] [] (F, A, J, G) Q) ∧ (¬ x2 < (-1) → X (d + 6) 106 6 [.ref 49, .int x1, .int x2, .int (x3 + 1), .int (-1)] [] (F, A, J, G) Q))) ∧ (¬ (lvI (A 28) (F 27 1) x3) = (-1) → X (d + 5) 105 0 [.ref 49, .int x3] [] (F, A, J, G) (KK (d + 6) 106 38 [.ref 49, .int x1, .int x2, .int x3, v4] [] Q)))) ∧ (¬ x3 < (F 12 0) → Q (.inl (some (.int x1))) (F, A, J, G)))) : X (d + 6) 106 6 [.ref 49, .int x1, .int x2, .int x3, v4] [] (F, A, J, G) Q := by
  refine Y_il3 i_106_6 ?_
  refine Y_al0 i_106_7 ?_
  refine Y_gR i_106_8 ow_106 lf_8_21 (k_49 hG) (r_49_0 hG) ?_
  refine Y_gI (v := (F 12 0)) i_106_11 ow_106 lf_8_53 (by decide) (k_12 hG) rfl ?_
  refine Y_cge i_106_14 (fun e1 => ?_) (fun e1 => ?_)
  · replace h := h.1 e1
    refine Y_al0 i_106_17 ?_
    refine Y_gR i_106_18 ow_106 lf_8_25 (k_49 hG) (r_49_1 hG) ?_
    refine Y_il3 i_106_21 ?_
    have o2 := h.1
    replace h := h.2
    refine Y_iv1 (L0 := [.ref 27, .int x3, .null]) i_106_22 ow_106 lm_8_41 ((k_27 hG).trans ow_77.symm) rfl mx_77 rfl rfl hd_106 ?_
    refine c_77 hG tw_27 o2 (KKi' (v' := (lvI (A 28) (F 27 1) x3)) (by simp [wF, wJ, va_up, cpR, bF, bA]) ?_)
    refine Y_iconst (v := (-1)) i_106_25 (by decide) ?_
    refine Y_cne i_106_26 (fun e3 => ?_) (fun e3 => ?_)
    · replace h := h.1 e3
      refine Y_iconst (v := (-1)) i_106_29 (by decide) ?_
      refine Y_goto i_106_30 ?_
      refine Y_is4 i_106_38 rfl ?_
      refine Y_il4 i_106_40 ?_
      refine Y_il2 i_106_42 ?_
      refine Y_cle i_106_43 (fun e4 => ?_) (fun e4 => ?_)
      · replace h := h.1 e4
        refine Y_il3 i_106_46 ?_
        refine Y_is1 i_106_47 rfl ?_
        refine Y_il4 i_106_48 ?_
        refine Y_is2 i_106_50 rfl ?_
        refine Y_ii3 (v := 1) i_106_51 (by decide) rfl ?_
        refine Y_goto i_106_54 ?_
        exact h
      · replace h := h.2 e4
        refine Y_ii3 (v := 1) i_106_51 (by decide) rfl ?_
        refine Y_goto i_106_54 ?_
        exact h
    · replace h := h.2 e3
      refine Y_al0 i_106_33 ?_
      refine Y_il3 i_106_34 ?_
      exact Y_iv1 (L0 := [.ref 49, .int x3]) i_106_35 ow_106 lm_8_59 ((k_49 hG).trans ow_105.symm) rfl mx_105 rfl rfl hd_106 h
  · replace h := h.2 e1
    refine Y_il1 i_106_57 ?_
    exact Y_iret i_106_58 rt_106 h
theorem k_106_38 {d : Nat} {F A : Nat → Nat → Int32} {J : Nat → Nat → Int64} {G : pG} {Q : pR → pM → Prop} {SL p q : Nat} {x1 x2 x3 r r : Int32} {v4 : Value} (hG : Geo G SL p q) (h : ((x2 < r → X (d + 6) 106 6 [.ref 49, .int x3, .int r, .int (x3 + 1), .int r] [] (F, A, J, G) Q) ∧ (¬ x2 < r → X (d + 6) 106 6 [.ref 49, .int x1, .int x2, .int (x3 + 1), .int r] [] (F, A, J, G) Q))) : KK (d + 6) 106 38 [.ref 49, .int x1, .int x2, .int x3, v4] [] Q (.inl (some (.int r))) (F, A, J, G) := by
  refine KKi ?_
  refine Y_is4 i_106_38 rfl ?_
  refine Y_il4 i_106_40 ?_
  refine Y_il2 i_106_42 ?_
  refine Y_cle i_106_43 (fun e1 => ?_) (fun e1 => ?_)
  · replace h := h.1 e1
    refine Y_il3 i_106_46 ?_
    refine Y_is1 i_106_47 rfl ?_
    refine Y_il4 i_106_48 ?_
    refine Y_is2 i_106_50 rfl ?_
    refine Y_ii3 (v := 1) i_106_51 (by decide) rfl ?_
    refine Y_goto i_106_54 ?_
    exact h
  · replace h := h.2 e1
    refine Y_ii3 (v := 1) i_106_51 (by decide) rfl ?_
    refine Y_goto i_106_54 ?_
    exact h
/- 107 Trials.fewestOthersOut(I)I -/
theorem t_107_0 {d : Nat} {F A : Nat → Nat → Int32} {J : Nat → Nat → Int64} {G : pG} {Q : pR → pM → Prop} {SL p q : Nat} {x1 : Int32} (hG : Geo G SL p q) (h : hB (F 27 1) = true ∧ (X (d + 6) 107 30 [.ref 49, .int x1, .int ((bitsI (A 28) (F 27 1)) &&& (((1 : Int32) <<< (x1 &&& 31)) ^^^ (-1))), .int ((bitsI (A 28) (F 27 1)) &&& (((1 : Int32) <<< (x1 &&& 31)) ^^^ (-1))), .int 0, .null] [] ((bF F 53 27), (bA A 53 27), J, G) Q)) : X (d + 6) 107 0 [.ref 49, .int x1, .null, .null, .null, .null] [] (F, A, J, G) Q := by
  refine Y_al0 i_107_0 ?_
  refine Y_gR i_107_1 ow_107 lf_8_25 (k_49 hG) (r_49_1 hG) ?_
  have o1 := h.1
  replace h := h.2
  refine Y_iv0 (L0 := [.ref 27, .null, .null]) i_107_4 ow_107 lm_8_62 ((k_27 hG).trans ow_78.symm) rfl mx_78 rfl rfl hd_107 ?_
  refine c_78 hG tw_27 o1 (KKi' (v' := (bitsI (A 28) (F 27 1))) (by simp [wF, wJ, va_up, cpR, bF, bA]) ?_)
  refine Y_iconst (v := 1) i_107_7 (by decide) ?_
  refine Y_il1 i_107_8 ?_
  refine Y_ishl i_107_9 ?_
  refine Y_iconst (v := (-1)) i_107_10 (by decide) ?_
  refine Y_ixor i_107_11 ?_
  refine Y_iand i_107_12 ?_
  refine Y_is2 i_107_13 rfl ?_
  refine Y_il2 i_107_14 ?_
  refine Y_is3 i_107_15 rfl ?_
  refine Y_al0 i_107_16 ?_
  refine Y_gR i_107_17 ow_107 lf_8_34 (k_49 hG) (r_49_2 hG) ?_
  refine Y_al0 i_107_20 ?_
  refine Y_gR i_107_21 ow_107 lf_8_25 (k_49 hG) (r_49_1 hG) ?_
  refine Y_iv1 (L0 := [.ref 53, .ref 27]) i_107_24 ow_107 lm_8_37 ((k_53 hG).trans ow_76.symm) rfl mx_76 rfl rfl hd_107 ?_
  refine c_76_53_27 hG tw_53 (KKv ?_)
  refine Y_iconst (v := 0) i_107_27 (by decide) ?_
  refine Y_is4 i_107_28 rfl ?_
  exact h
theorem t_107_30 {d : Nat} {F A : Nat → Nat → Int32} {J : Nat → Nat → Int64} {G : pG} {Q : pR → pM → Prop} {SL p q : Nat} {x1 x2 x3 x4 : Int32} {v5 : Value} (hG : Geo G SL p q) (h : ((x4 < x2 → inB x4 1024 = true ∧ inB x3 1024 = true ∧ (((nI (pcn x4.toNatClampNeg)) < (nI (pcn x3.toNatClampNeg)) → (((x4 &&& (x2 ^^^ (-1))) = 0 → X (d + 5) 108 0 [.ref 49, .int (x4 ||| ((1 : Int32) <<< (x1 &&& 31))), .null, .null] [] (F, A, J, G) (KK (d + 6) 107 79 [.ref 49, .int x1, .int x2, .int x3, .int x4, .int 1] [] Q)) ∧ (¬ (x4 &&& (x2 ^^^ (-1))) = 0 → X (d + 6) 107 30 [.ref 49, .int x1, .int x2, .int x3, .int (x4 + 1), .int 1] [] (F, A, J, G) Q))) ∧ (¬ (nI (pcn x4.toNatClampNeg)) < (nI (pcn x3.toNatClampNeg)) → (((x4 &&& (x2 ^^^ (-1))) = 0 → X (d + 6) 107 30 [.ref 49, .int x1, .int x2, .int x3, .int (x4 + 1), .int 0] [] (F, A, J, G) Q) ∧ (¬ (x4 &&& (x2 ^^^ (-1))) = 0 → X (d + 6) 107 30 [.ref 49, .int x1, .int x2, .int x3, .int (x4 + 1), .int 0] [] (F, A, J, G) Q))))) ∧ (¬ x4 < x2 → Q (.inl (some (.int x3))) (F, A, J, G)))) : X (d + 6) 107 30 [.ref 49, .int x1, .int x2, .int x3, .int x4, v5] [] (F, A, J, G) Q := by
  refine Y_il4 i_107_30 ?_
  refine Y_il2 i_107_32 ?_
  refine Y_cge i_107_33 (fun e1 => ?_) (fun e1 => ?_)
  · replace h := h.1 e1
    refine Y_il4 i_107_36 ?_
    have o2 := h.1
    replace h := h.2
    refine Y_is_1 (L0 := [.int x4]) i_107_38 ow_107 lm_8_65 rfl mx_289 rfl rfl hd_107 ?_
    refine c_289 hG o2 (KKi ?_)
    refine Y_il3 i_107_41 ?_
    have o3 := h.1
    replace h := h.2
    refine Y_is_1 (L0 := [.int x3]) i_107_42 ow_107 lm_8_65 rfl mx_289 rfl rfl hd_107 ?_
    refine c_289 hG o3 (KKi ?_)
    refine Y_cge i_107_45 (fun e4 => ?_) (fun e4 => ?_)
    · replace h := h.1 e4
      refine Y_iconst (v := 1) i_107_48 (by decide) ?_
      refine Y_goto i_107_49 ?_
      refine Y_is5 i_107_53 rfl ?_
      refine Y_il4 i_107_55 ?_
      refine Y_il2 i_107_57 ?_
      refine Y_iconst (v := (-1)) i_107_58 (by decide) ?_
      refine Y_ixor i_107_59 ?_
      refine Y_iand i_107_60 ?_
      refine Y_zne i_107_61 (fun e5 => ?_) (fun e5 => ?_)
      · replace h := h.1 e5
        refine Y_il5 i_107_64 ?_
        refine Y_zF i_107_66 (by decide) ?_
        refine Y_al0 i_107_69 ?_
        refine Y_il4 i_107_70 ?_
        refine Y_iconst (v := 1) i_107_72 (by decide) ?_
        refine Y_il1 i_107_73 ?_
        refine Y_ishl i_107_74 ?_
        refine Y_ior i_107_75 ?_
        exact Y_iv1 (L0 := [.ref 49, .int (x4 ||| ((1 : Int32) <<< (x1 &&& 31))), .null, .null]) i_107_76 ow_107 lm_8_70 ((k_49 hG).trans ow_108.symm) rfl mx_108 rfl rfl hd_107 h
      · replace h := h.2 e5
        refine Y_ii4 (v := 1) i_107_85 (by decide) rfl ?_
        refine Y_goto i_107_88 ?_
        exact h
    · replace h := h.2 e4
      refine Y_iconst (v := 0) i_107_52 (by decide) ?_
      refine Y_is5 i_107_53 rfl ?_
      refine Y_il4 i_107_55 ?_
      refine Y_il2 i_107_57 ?_
      refine Y_iconst (v := (-1)) i_107_58 (by decide) ?_
      refine Y_ixor i_107_59 ?_
      refine Y_iand i_107_60 ?_
      refine Y_zne i_107_61 (fun e6 => ?_) (fun e6 => ?_)
      · replace h := h.1 e6
        refine Y_il5 i_107_64 ?_
        refine Y_zT i_107_66 (by decide) ?_
        refine Y_ii4 (v := 1) i_107_85 (by decide) rfl ?_
        refine Y_goto i_107_88 ?_
        exact h
      · replace h := h.2 e6
        refine Y_ii4 (v := 1) i_107_85 (by decide) rfl ?_
        refine Y_goto i_107_88 ?_
        exact h
  · replace h := h.2 e1
    refine Y_il3 i_107_91 ?_
    exact Y_iret i_107_92 rt_107 h
theorem k_107_79 {d : Nat} {F A : Nat → Nat → Int32} {J : Nat → Nat → Int64} {G : pG} {Q : pR → pM → Prop} {SL p q : Nat} {x1 x2 x3 x4 x5 r r : Int32} (hG : Geo G SL p q) (h : ((r = 0 → X (d + 6) 107 30 [.ref 49, .int x1, .int x2, .int x3, .int (x4 + 1), .int x5] [] (F, A, J, G) Q) ∧ (¬ r = 0 → X (d + 6) 107 30 [.ref 49, .int x1, .int x2, .int x4, .int (x4 + 1), .int x5] [] (F, A, J, G) Q))) : KK (d + 6) 107 79 [.ref 49, .int x1, .int x2, .int x3, .int x4, .int x5] [] Q (.inl (some (.int r))) (F, A, J, G) := by
  refine KKi ?_
  refine Y_zeq i_107_79 (fun e1 => ?_) (fun e1 => ?_)
  · replace h := h.1 e1
    refine Y_ii4 (v := 1) i_107_85 (by decide) rfl ?_
    refine Y_goto i_107_88 ?_
    exact h
  · replace h := h.2 e1
    refine Y_il4 i_107_82 ?_
    refine Y_is3 i_107_84 rfl ?_
    refine Y_ii4 (v := 1) i_107_85 (by decide) rfl ?_
    refine Y_goto i_107_88 ?_
    exact h
/- 108 Trials.standsWithout(I)Z -/
theorem t_108_0 {d : Nat} {F A : Nat → Nat → Int32} {J : Nat → Nat → Int64} {G : pG} {Q : pR → pM → Prop} {SL p q : Nat} {x1 : Int32} (hG : Geo G SL p q) (h : X (d + 5) 108 10 [.ref 49, .int x1, .int 0, .null] [] ((wF F 53 1 0), A, J, G) Q) : X (d + 5) 108 0 [.ref 49, .int x1, .null, .null] [] (F, A, J, G) Q := by
  refine Y_al0 i_108_0 ?_
  refine Y_gR i_108_1 ow_108 lf_8_34 (k_49 hG) (r_49_2 hG) ?_
  refine Y_iconst (v := 0) i_108_4 (by decide) ?_
  refine Y_pI i_108_5 ow_108 lf_8_74 (k_53 hG) ?_
  refine Y_iconst (v := 0) i_108_8 (by decide) ?_
  refine Y_is2 i_108_9 rfl ?_
  exact h
theorem t_108_10 {d : Nat} {F A : Nat → Nat → Int32} {J : Nat → Nat → Int64} {G : pG} {Q : pR → pM → Prop} {SL p q : Nat} {x1 x2 : Int32} {v3 : Value} (hG : Geo G SL p q) (h : ((x2 < (F 27 1) → inB x2 10 = true ∧ ((((x1 >>> ((A 28 x2.toNatClampNeg) &&& 31)) &&& 1) = 0 → inB (F 53 1) 10 = true ∧ (X (d + 5) 108 10 [.ref 49, .int x1, .int (x2 + 1), .int (A 28 x2.toNatClampNeg)] [] ((wF F 53 1 ((F 53 1) + 1)), (wF A 54 (F 53 1).toNatClampNeg (A 28 x2.toNatClampNeg)), J, G) Q)) ∧ (¬ ((x1 >>> ((A 28 x2.toNatClampNeg) &&& 31)) &&& 1) = 0 → X (d + 5) 108 10 [.ref 49, .int x1, .int (x2 + 1), .int (A 28 x2.toNatClampNeg)] [] (F, A, J, G) Q))) ∧ (¬ x2 < (F 27 1) → X (d + 4) 88 0 [.ref 53] [] (F, A, J, G) (KK (d + 5) 108 81 [.ref 49, .int x1, .int x2, v3] [] Q)))) : X (d + 5) 108 10 [.ref 49, .int x1, .int x2, v3] [] (F, A, J, G) Q := by
  refine Y_il2 i_108_10 ?_
  refine Y_al0 i_108_11 ?_
  refine Y_gR i_108_12 ow_108 lf_8_25 (k_49 hG) (r_49_1 hG) ?_
  refine Y_gI (v := (F 27 1)) i_108_15 ow_108 lf_8_74 (by decide) (k_27 hG) rfl ?_
  refine Y_cge i_108_18 (fun e1 => ?_) (fun e1 => ?_)
  · replace h := h.1 e1
    refine Y_al0 i_108_21 ?_
    refine Y_gR i_108_22 ow_108 lf_8_25 (k_49 hG) (r_49_1 hG) ?_
    refine Y_gR i_108_25 ow_108 lf_8_77 (k_27 hG) (r_27_4 hG) ?_
    refine Y_il2 i_108_28 ?_
    have o2 := h.1
    replace h := h.2
    refine Y_iaload (k := x2.toNatClampNeg) (v := (A 28 x2.toNatClampNeg)) i_108_29 (k_28 hG) (l_28 hG) o2 rfl rfl ?_
    refine Y_is3 i_108_30 rfl ?_
    refine Y_il1 i_108_31 ?_
    refine Y_il3 i_108_32 ?_
    refine Y_ishr i_108_33 ?_
    refine Y_iconst (v := 1) i_108_34 (by decide) ?_
    refine Y_iand i_108_35 ?_
    refine Y_zne i_108_36 (fun e3 => ?_) (fun e3 => ?_)
    · replace h := h.1 e3
      refine Y_al0 i_108_39 ?_
      refine Y_gR i_108_40 ow_108 lf_8_34 (k_49 hG) (r_49_2 hG) ?_
      refine Y_gR i_108_43 ow_108 lf_8_77 (k_53 hG) (r_53_4 hG) ?_
      refine Y_al0 i_108_46 ?_
      refine Y_gR i_108_47 ow_108 lf_8_34 (k_49 hG) (r_49_2 hG) ?_
      refine Y_gI (v := (F 53 1)) i_108_50 ow_108 lf_8_74 (by decide) (k_53 hG) rfl ?_
      refine Y_il3 i_108_53 ?_
      have o4 := h.1
      replace h := h.2
      refine Y_iast i_108_54 (k_54 hG) (l_54 hG) o4 rfl ?_
      refine Y_al0 i_108_55 ?_
      refine Y_gR i_108_56 ow_108 lf_8_34 (k_49 hG) (r_49_2 hG) ?_
      refine Y_dup i_108_59 rfl ?_
      refine Y_gI (v := (F 53 1)) i_108_60 ow_108 lf_8_74 (by decide) (k_53 hG) rfl ?_
      refine Y_iconst (v := 1) i_108_63 (by decide) ?_
      refine Y_iadd i_108_64 ?_
      refine Y_pI i_108_65 ow_108 lf_8_74 (k_53 hG) ?_
      refine Y_ii2 (v := 1) i_108_68 (by decide) rfl ?_
      refine Y_goto i_108_71 ?_
      exact h
    · replace h := h.2 e3
      refine Y_ii2 (v := 1) i_108_68 (by decide) rfl ?_
      refine Y_goto i_108_71 ?_
      exact h
  · replace h := h.2 e1
    refine Y_al0 i_108_74 ?_
    refine Y_gR i_108_75 ow_108 lf_8_34 (k_49 hG) (r_49_2 hG) ?_
    exact Y_iv0 (L0 := [.ref 53]) i_108_78 ow_108 lm_8_80 ((k_53 hG).trans ow_88.symm) rfl mx_88 rfl rfl hd_108 h
theorem k_108_81 {d : Nat} {F A : Nat → Nat → Int32} {J : Nat → Nat → Int64} {G : pG} {Q : pR → pM → Prop} {SL p q : Nat} {x1 x2 r r : Int32} {v3 : Value} (hG : Geo G SL p q) (h : (r = 0 ∨ r = 1) ∧ (Q (.inl (some (.int r))) (F, A, J, G))) : KK (d + 5) 108 81 [.ref 49, .int x1, .int x2, v3] [] Q (.inl (some (.int r))) (F, A, J, G) := by
  refine KKi ?_
  have o1 := h.1
  replace h := h.2
  exact Y_bret i_108_81 rt_108 o1 h
/- 109 Trials.bestChange()I -/
theorem t_109_0 {d : Nat} {F A : Nat → Nat → Int32} {J : Nat → Nat → Int64} {G : pG} {Q : pR → pM → Prop} {SL p q : Nat} (hG : Geo G SL p q) (h : X (d + 4) 89 0 [.ref 27, .null, .null] [] (F, A, J, G) (KK (d + 5) 109 9 [.ref 49, .int (-1), .null, .null, .null, .null] [] Q)) : X (d + 5) 109 0 [.ref 49, .null, .null, .null, .null, .null] [] (F, A, J, G) Q := by
  refine Y_iconst (v := (-1)) i_109_0 (by decide) ?_
  refine Y_is1 i_109_1 rfl ?_
  refine Y_al0 i_109_2 ?_
  refine Y_gR i_109_3 ow_109 lf_8_25 (k_49 hG) (r_49_1 hG) ?_
  exact Y_iv0 (L0 := [.ref 27, .null, .null]) i_109_6 ow_109 lm_8_49 ((k_27 hG).trans ow_89.symm) rfl mx_89 rfl rfl hd_109 h
theorem k_109_9 {d : Nat} {F A : Nat → Nat → Int32} {J : Nat → Nat → Int64} {G : pG} {Q : pR → pM → Prop} {SL p q : Nat} {x1 r r : Int32} (hG : Geo G SL p q) (h : X (d + 5) 109 23 [.ref 49, .int x1, .int r, .int 0, .null, .null] [] ((bF F 53 27), (bA A 53 27), J, G) Q) : KK (d + 5) 109 9 [.ref 49, .int x1, .null, .null, .null, .null] [] Q (.inl (some (.int r))) (F, A, J, G) := by
  refine KKi ?_
  refine Y_is2 i_109_9 rfl ?_
  refine Y_al0 i_109_10 ?_
  refine Y_gR i_109_11 ow_109 lf_8_34 (k_49 hG) (r_49_2 hG) ?_
  refine Y_al0 i_109_14 ?_
  refine Y_gR i_109_15 ow_109 lf_8_25 (k_49 hG) (r_49_1 hG) ?_
  refine Y_iv1 (L0 := [.ref 53, .ref 27]) i_109_18 ow_109 lm_8_37 ((k_53 hG).trans ow_76.symm) rfl mx_76 rfl rfl hd_109 ?_
  refine c_76_53_27 hG tw_53 (KKv ?_)
  refine Y_iconst (v := 0) i_109_21 (by decide) ?_
  refine Y_is3 i_109_22 rfl ?_
  exact h
theorem t_109_23 {d : Nat} {F A : Nat → Nat → Int32} {J : Nat → Nat → Int64} {G : pG} {Q : pR → pM → Prop} {SL p q : Nat} {x1 x2 x3 : Int32} {v4 v5 : Value} (hG : Geo G SL p q) (h : ((x3 < (F 27 1) → X (d + 5) 109 39 [.ref 49, .int x1, .int x2, .int x3, .int (x3 + 1), v5] [] (F, A, J, G) Q) ∧ (¬ x3 < (F 27 1) → Q (.inl (some (.int x1))) (F, A, J, G)))) : X (d + 5) 109 23 [.ref 49, .int x1, .int x2, .int x3, v4, v5] [] (F, A, J, G) Q := by
  refine Y_il3 i_109_23 ?_
  refine Y_al0 i_109_24 ?_
  refine Y_gR i_109_25 ow_109 lf_8_25 (k_49 hG) (r_49_1 hG) ?_
  refine Y_gI (v := (F 27 1)) i_109_28 ow_109 lf_8_74 (by decide) (k_27 hG) rfl ?_
  refine Y_cge i_109_31 (fun e1 => ?_) (fun e1 => ?_)
  · replace h := h.1 e1
    refine Y_il3 i_109_34 ?_
    refine Y_iconst (v := 1) i_109_35 (by decide) ?_
    refine Y_iadd i_109_36 ?_
    refine Y_is4 i_109_37 rfl ?_
    exact h
  · replace h := h.2 e1
    refine Y_il1 i_109_109 ?_
    exact Y_iret i_109_110 rt_109 h
theorem t_109_39 {d : Nat} {F A : Nat → Nat → Int32} {J : Nat → Nat → Int64} {G : pG} {Q : pR → pM → Prop} {SL p q : Nat} {x1 x2 x3 x4 : Int32} {v5 : Value} (hG : Geo G SL p q) (h : ((x4 < (F 27 1) → inB x3 10 = true ∧ inB x4 10 = true ∧ (X (d + 4) 89 0 [.ref 53, .null, .null] [] (F, (wF (wF A 54 x3.toNatClampNeg (A 54 x4.toNatClampNeg)) 54 x4.toNatClampNeg (A 54 x3.toNatClampNeg)), J, G) (KK (d + 5) 109 68 [.ref 49, .int x1, .int x2, .int x3, .int x4, v5] [] Q))) ∧ (¬ x4 < (F 27 1) → X (d + 5) 109 23 [.ref 49, .int x1, .int x2, .int (x3 + 1), .int x4, v5] [] (F, A, J, G) Q))) : X (d + 5) 109 39 [.ref 49, .int x1, .int x2, .int x3, .int x4, v5] [] (F, A, J, G) Q := by
  refine Y_il4 i_109_39 ?_
  refine Y_al0 i_109_41 ?_
  refine Y_gR i_109_42 ow_109 lf_8_25 (k_49 hG) (r_49_1 hG) ?_
  refine Y_gI (v := (F 27 1)) i_109_45 ow_109 lf_8_74 (by decide) (k_27 hG) rfl ?_
  refine Y_cge i_109_48 (fun e1 => ?_) (fun e1 => ?_)
  · replace h := h.1 e1
    refine Y_al0 i_109_51 ?_
    refine Y_gR i_109_52 ow_109 lf_8_34 (k_49 hG) (r_49_2 hG) ?_
    refine Y_il3 i_109_55 ?_
    refine Y_il4 i_109_56 ?_
    refine Y_iv2 (L0 := [.ref 53, .int x3, .int x4, .null]) i_109_58 ow_109 lm_8_84 ((k_53 hG).trans ow_81.symm) rfl mx_81 rfl rfl hd_109 ?_
    refine Y_al0 i_81_0 ?_
    refine Y_gR i_81_1 ow_81 lf_6_9 (k_53 hG) (r_53_4 hG) ?_
    refine Y_il1 i_81_4 ?_
    have o2 := h.1
    replace h := h.2
    refine Y_iaload (k := x3.toNatClampNeg) (v := (A 54 x3.toNatClampNeg)) i_81_5 (k_54 hG) (l_54 hG) o2 rfl rfl ?_
    refine Y_is3 i_81_6 rfl ?_
    refine Y_al0 i_81_7 ?_
    refine Y_gR i_81_8 ow_81 lf_6_9 (k_53 hG) (r_53_4 hG) ?_
    refine Y_il1 i_81_11 ?_
    refine Y_al0 i_81_12 ?_
    refine Y_gR i_81_13 ow_81 lf_6_9 (k_53 hG) (r_53_4 hG) ?_
    refine Y_il2 i_81_16 ?_
    have o3 := h.1
    replace h := h.2
    refine Y_iaload (k := x4.toNatClampNeg) (v := (A 54 x4.toNatClampNeg)) i_81_17 (k_54 hG) (l_54 hG) o3 rfl rfl ?_
    refine Y_iast i_81_18 (k_54 hG) (l_54 hG) o2 rfl ?_
    refine Y_al0 i_81_19 ?_
    refine Y_gR i_81_20 ow_81 lf_6_9 (k_53 hG) (r_53_4 hG) ?_
    refine Y_il2 i_81_23 ?_
    refine Y_il3 i_81_24 ?_
    refine Y_iast i_81_25 (k_54 hG) (l_54 hG) o3 rfl ?_
    refine Y_vret i_81_26 rt_81 (KKv ?_)
    refine Y_al0 i_109_61 ?_
    refine Y_gR i_109_62 ow_109 lf_8_34 (k_49 hG) (r_49_2 hG) ?_
    exact Y_iv0 (L0 := [.ref 53, .null, .null]) i_109_65 ow_109 lm_8_49 ((k_53 hG).trans ow_89.symm) rfl mx_89 rfl rfl hd_109 h
  · replace h := h.2 e1
    refine Y_ii3 (v := 1) i_109_103 (by decide) rfl ?_
    refine Y_goto i_109_106 ?_
    exact h
theorem k_109_68 {d : Nat} {F A : Nat → Nat → Int32} {J : Nat → Nat → Int64} {G : pG} {Q : pR → pM → Prop} {SL p q : Nat} {x1 x2 x3 x4 r r : Int32} {v5 : Value} (hG : Geo G SL p q) (h : inB x3 10 = true ∧ inB x4 10 = true ∧ ((x2 < r → X (d + 5) 109 39 [.ref 49, .int (((10 : Int32) * x3) + x4), .int r, .int x3, .int (x4 + 1), .int r] [] (F, (wF (wF A 54 x3.toNatClampNeg (A 54 x4.toNatClampNeg)) 54 x4.toNatClampNeg (A 54 x3.toNatClampNeg)), J, G) Q) ∧ (¬ x2 < r → X (d + 5) 109 39 [.ref 49, .int x1, .int x2, .int x3, .int (x4 + 1), .int r] [] (F, (wF (wF A 54 x3.toNatClampNeg (A 54 x4.toNatClampNeg)) 54 x4.toNatClampNeg (A 54 x3.toNatClampNeg)), J, G) Q))) : KK (d + 5) 109 68 [.ref 49, .int x1, .int x2, .int x3, .int x4, v5] [] Q (.inl (some (.int r))) (F, A, J, G) := by
  refine KKi ?_
  refine Y_is5 i_109_68 rfl ?_
  refine Y_al0 i_109_70 ?_
  refine Y_gR i_109_71 ow_109 lf_8_34 (k_49 hG) (r_49_2 hG) ?_
  refine Y_il3 i_109_74 ?_
  refine Y_il4 i_109_75 ?_
  refine Y_iv2 (L0 := [.ref 53, .int x3, .int x4, .null]) i_109_77 ow_109 lm_8_84 ((k_53 hG).trans ow_81.symm) rfl mx_81 rfl rfl hd_109 ?_
  refine Y_al0 i_81_0 ?_
  refine Y_gR i_81_1 ow_81 lf_6_9 (k_53 hG) (r_53_4 hG) ?_
  refine Y_il1 i_81_4 ?_
  have o1 := h.1
  replace h := h.2
  refine Y_iaload (k := x3.toNatClampNeg) (v := (A 54 x3.toNatClampNeg)) i_81_5 (k_54 hG) (l_54 hG) o1 rfl rfl ?_
  refine Y_is3 i_81_6 rfl ?_
  refine Y_al0 i_81_7 ?_
  refine Y_gR i_81_8 ow_81 lf_6_9 (k_53 hG) (r_53_4 hG) ?_
  refine Y_il1 i_81_11 ?_
  refine Y_al0 i_81_12 ?_
  refine Y_gR i_81_13 ow_81 lf_6_9 (k_53 hG) (r_53_4 hG) ?_
  refine Y_il2 i_81_16 ?_
  have o2 := h.1
  replace h := h.2
  refine Y_iaload (k := x4.toNatClampNeg) (v := (A 54 x4.toNatClampNeg)) i_81_17 (k_54 hG) (l_54 hG) o2 rfl rfl ?_
  refine Y_iast i_81_18 (k_54 hG) (l_54 hG) o1 rfl ?_
  refine Y_al0 i_81_19 ?_
  refine Y_gR i_81_20 ow_81 lf_6_9 (k_53 hG) (r_53_4 hG) ?_
  refine Y_il2 i_81_23 ?_
  refine Y_il3 i_81_24 ?_
  refine Y_iast i_81_25 (k_54 hG) (l_54 hG) o2 rfl ?_
  refine Y_vret i_81_26 rt_81 (KKv ?_)
  refine Y_il5 i_109_80 ?_
  refine Y_il2 i_109_82 ?_
  refine Y_cle i_109_83 (fun e3 => ?_) (fun e3 => ?_)
  · replace h := h.1 e3
    refine Y_bipush (v := 10) i_109_86 (by decide) ?_
    refine Y_il3 i_109_88 ?_
    refine Y_imul i_109_89 ?_
    refine Y_il4 i_109_90 ?_
    refine Y_iadd i_109_92 ?_
    refine Y_is1 i_109_93 rfl ?_
    refine Y_il5 i_109_94 ?_
    refine Y_is2 i_109_96 rfl ?_
    refine Y_ii4 (v := 1) i_109_97 (by decide) rfl ?_
    refine Y_goto i_109_100 ?_
    exact h
  · replace h := h.2 e3
    refine Y_ii4 (v := 1) i_109_97 (by decide) rfl ?_
    refine Y_goto i_109_100 ?_
    exact h
/- 110 Trials.breaksFed(II)I -/
theorem t_110_0 {d : Nat} {F A : Nat → Nat → Int32} {J : Nat → Nat → Int64} {G : pG} {Q : pR → pM → Prop} {SL p q : Nat} {x1 x2 : Int32} (hG : Geo G SL p q) (h : inB x1 10 = true ∧ (X (d + 3) 87 0 [.ref 53, .null] [] ((bF F 53 27), (wF (bA A 53 27) 55 x1.toNatClampNeg (((bA A 53 27) 55 x1.toNatClampNeg) + x2)), J, G) (KK (d + 4) 110 31 [.ref 49, .int x1, .int x2] [] Q))) : X (d + 4) 110 0 [.ref 49, .int x1, .int x2] [] (F, A, J, G) Q := by
  refine Y_al0 i_110_0 ?_
  refine Y_gR i_110_1 ow_110 lf_8_34 (k_49 hG) (r_49_2 hG) ?_
  refine Y_al0 i_110_4 ?_
  refine Y_gR i_110_5 ow_110 lf_8_25 (k_49 hG) (r_49_1 hG) ?_
  refine Y_iv1 (L0 := [.ref 53, .ref 27]) i_110_8 ow_110 lm_8_37 ((k_53 hG).trans ow_76.symm) rfl mx_76 rfl rfl hd_110 ?_
  refine c_76_53_27 hG tw_53 (KKv ?_)
  refine Y_al0 i_110_11 ?_
  refine Y_gR i_110_12 ow_110 lf_8_34 (k_49 hG) (r_49_2 hG) ?_
  refine Y_gR i_110_15 ow_110 lf_8_88 (k_53 hG) (r_53_5 hG) ?_
  refine Y_il1 i_110_18 ?_
  refine Y_dup2 i_110_19 rfl rfl ?_
  have o1 := h.1
  replace h := h.2
  refine Y_iaload (k := x1.toNatClampNeg) (v := ((bA A 53 27) 55 x1.toNatClampNeg)) i_110_20 (k_55 hG) (l_55 hG) o1 rfl rfl ?_
  refine Y_il2 i_110_21 ?_
  refine Y_iadd i_110_22 ?_
  refine Y_iast i_110_23 (k_55 hG) (l_55 hG) o1 rfl ?_
  refine Y_al0 i_110_24 ?_
  refine Y_gR i_110_25 ow_110 lf_8_34 (k_49 hG) (r_49_2 hG) ?_
  exact Y_iv0 (L0 := [.ref 53, .null]) i_110_28 ow_110 lm_8_91 ((k_53 hG).trans ow_87.symm) rfl mx_87 rfl rfl hd_110 h
theorem k_110_31 {d : Nat} {F A : Nat → Nat → Int32} {J : Nat → Nat → Int64} {G : pG} {Q : pR → pM → Prop} {SL p q : Nat} {x1 x2 r r : Int32} (hG : Geo G SL p q) (h : Q (.inl (some (.int r))) (F, A, J, G)) : KK (d + 4) 110 31 [.ref 49, .int x1, .int x2] [] Q (.inl (some (.int r))) (F, A, J, G) := by
  refine KKi ?_
  exact Y_iret i_110_31 rt_110 h
/- 111 Trials.breaksIn(I)I -/
theorem t_111_0 {d : Nat} {F A : Nat → Nat → Int32} {J : Nat → Nat → Int64} {G : pG} {Q : pR → pM → Prop} {SL p q : Nat} {x1 : Int32} (hG : Geo G SL p q) (h : X (d + 3) 87 0 [.ref 53, .null] [] ((wF (bF F 53 27) 53 2 (((bF F 53 27) 53 2) + x1)), (bA A 53 27), J, G) (KK (d + 4) 111 31 [.ref 49, .int x1] [] Q)) : X (d + 4) 111 0 [.ref 49, .int x1] [] (F, A, J, G) Q := by
  refine Y_al0 i_111_0 ?_
  refine Y_gR i_111_1 ow_111 lf_8_34 (k_49 hG) (r_49_2 hG) ?_
  refine Y_al0 i_111_4 ?_
  refine Y_gR i_111_5 ow_111 lf_8_25 (k_49 hG) (r_49_1 hG) ?_
  refine Y_iv1 (L0 := [.ref 53, .ref 27]) i_111_8 ow_111 lm_8_37 ((k_53 hG).trans ow_76.symm) rfl mx_76 rfl rfl hd_111 ?_
  refine c_76_53_27 hG tw_53 (KKv ?_)
  refine Y_al0 i_111_11 ?_
  refine Y_gR i_111_12 ow_111 lf_8_34 (k_49 hG) (r_49_2 hG) ?_
  refine Y_dup i_111_15 rfl ?_
  refine Y_gI (v := ((bF F 53 27) 53 2)) i_111_16 ow_111 lf_8_94 (by decide) (k_53 hG) rfl ?_
  refine Y_il1 i_111_19 ?_
  refine Y_iadd i_111_20 ?_
  refine Y_pI i_111_21 ow_111 lf_8_94 (k_53 hG) ?_
  refine Y_al0 i_111_24 ?_
  refine Y_gR i_111_25 ow_111 lf_8_34 (k_49 hG) (r_49_2 hG) ?_
  exact Y_iv0 (L0 := [.ref 53, .null]) i_111_28 ow_111 lm_8_91 ((k_53 hG).trans ow_87.symm) rfl mx_87 rfl rfl hd_111 h
theorem k_111_31 {d : Nat} {F A : Nat → Nat → Int32} {J : Nat → Nat → Int64} {G : pG} {Q : pR → pM → Prop} {SL p q : Nat} {x1 r r : Int32} (hG : Geo G SL p q) (h : Q (.inl (some (.int r))) (F, A, J, G)) : KK (d + 4) 111 31 [.ref 49, .int x1] [] Q (.inl (some (.int r))) (F, A, J, G) := by
  refine KKi ?_
  exact Y_iret i_111_31 rt_111 h
/- 112 Trials.fallsIn()I -/
theorem t_112_0 {d : Nat} {F A : Nat → Nat → Int32} {J : Nat → Nat → Int64} {G : pG} {Q : pR → pM → Prop} {SL p q : Nat} (hG : Geo G SL p q) (h : X (d + 5) 112 2 [.ref 49, .int 0] [] (F, A, J, G) Q) : X (d + 5) 112 0 [.ref 49, .null] [] (F, A, J, G) Q := by
  refine Y_iconst (v := 0) i_112_0 (by decide) ?_
  refine Y_is1 i_112_1 rfl ?_
  exact h
theorem t_112_2 {d : Nat} {F A : Nat → Nat → Int32} {J : Nat → Nat → Int64} {G : pG} {Q : pR → pM → Prop} {SL p q : Nat} {x1 : Int32} (hG : Geo G SL p q) (h : ((99 < x1 → Q (.inl (some (.int (-1)))) (F, A, J, G)) ∧ (¬ 99 < x1 → X (d + 4) 111 0 [.ref 49, .int x1] [] (F, A, J, G) (KK (d + 5) 112 13 [.ref 49, .int x1] [] Q)))) : X (d + 5) 112 2 [.ref 49, .int x1] [] (F, A, J, G) Q := by
  refine Y_il1 i_112_2 ?_
  refine Y_bipush (v := 99) i_112_3 (by decide) ?_
  refine Y_cgt i_112_5 (fun e1 => ?_) (fun e1 => ?_)
  · replace h := h.1 e1
    refine Y_iconst (v := (-1)) i_112_25 (by decide) ?_
    exact Y_iret i_112_26 rt_112 h
  · replace h := h.2 e1
    refine Y_al0 i_112_8 ?_
    refine Y_il1 i_112_9 ?_
    exact Y_iv1 (L0 := [.ref 49, .int x1]) i_112_10 ow_112 lm_8_97 ((k_49 hG).trans ow_111.symm) rfl mx_111 rfl rfl hd_112 h
theorem k_112_13 {d : Nat} {F A : Nat → Nat → Int32} {J : Nat → Nat → Int64} {G : pG} {Q : pR → pM → Prop} {SL p q : Nat} {x1 r r : Int32} (hG : Geo G SL p q) (h : ((r = (-1) → X (d + 5) 112 2 [.ref 49, .int (x1 + 1)] [] (F, A, J, G) Q) ∧ (¬ r = (-1) → Q (.inl (some (.int x1))) (F, A, J, G)))) : KK (d + 5) 112 13 [.ref 49, .int x1] [] Q (.inl (some (.int r))) (F, A, J, G) := by
  refine KKi ?_
  refine Y_iconst (v := (-1)) i_112_13 (by decide) ?_
  refine Y_ceq i_112_14 (fun e1 => ?_) (fun e1 => ?_)
  · replace h := h.1 e1
    refine Y_ii1 (v := 1) i_112_19 (by decide) rfl ?_
    refine Y_goto i_112_22 ?_
    exact h
  · replace h := h.2 e1
    refine Y_il1 i_112_17 ?_
    exact Y_iret i_112_18 rt_112 h
/- 113 Trials.topMeal(I)I -/
theorem t_113_0 {d : Nat} {F A : Nat → Nat → Int32} {J : Nat → Nat → Int64} {G : pG} {Q : pR → pM → Prop} {SL p q : Nat} {x1 : Int32} (hG : Geo G SL p q) (h : (((F 27 1) = 0 → Q (.inl (some (.int (-1)))) (F, A, J, G)) ∧ (¬ (F 27 1) = 0 → X (d + 3) 90 0 [.ref 53, .int x1, .null, .null, .null] [] ((bF F 53 27), (bA A 53 27), J, G) (KK (d + 4) 113 31 [.ref 49, .int x1] [] Q)))) : X (d + 4) 113 0 [.ref 49, .int x1] [] (F, A, J, G) Q := by
  refine Y_al0 i_113_0 ?_
  refine Y_gR i_113_1 ow_113 lf_8_25 (k_49 hG) (r_49_1 hG) ?_
  refine Y_gI (v := (F 27 1)) i_113_4 ow_113 lf_8_74 (by decide) (k_27 hG) rfl ?_
  refine Y_zne i_113_7 (fun e1 => ?_) (fun e1 => ?_)
  · replace h := h.1 e1
    refine Y_iconst (v := (-1)) i_113_10 (by decide) ?_
    exact Y_iret i_113_11 rt_113 h
  · replace h := h.2 e1
    refine Y_al0 i_113_12 ?_
    refine Y_gR i_113_13 ow_113 lf_8_34 (k_49 hG) (r_49_2 hG) ?_
    refine Y_al0 i_113_16 ?_
    refine Y_gR i_113_17 ow_113 lf_8_25 (k_49 hG) (r_49_1 hG) ?_
    refine Y_iv1 (L0 := [.ref 53, .ref 27]) i_113_20 ow_113 lm_8_37 ((k_53 hG).trans ow_76.symm) rfl mx_76 rfl rfl hd_113 ?_
    refine c_76_53_27 hG tw_53 (KKv ?_)
    refine Y_al0 i_113_23 ?_
    refine Y_gR i_113_24 ow_113 lf_8_34 (k_49 hG) (r_49_2 hG) ?_
    refine Y_il1 i_113_27 ?_
    exact Y_iv1 (L0 := [.ref 53, .int x1, .null, .null, .null]) i_113_28 ow_113 lm_8_100 ((k_53 hG).trans ow_90.symm) rfl mx_90 rfl rfl hd_113 h
theorem k_113_31 {d : Nat} {F A : Nat → Nat → Int32} {J : Nat → Nat → Int64} {G : pG} {Q : pR → pM → Prop} {SL p q : Nat} {x1 r r : Int32} (hG : Geo G SL p q) (h : inB ((F 53 1) - 1) 10 = true ∧ inB (A 54 ((F 53 1) - 1).toNatClampNeg) 10 = true ∧ (Q (.inl (some (.int (A 55 (A 54 ((F 53 1) - 1).toNatClampNeg).toNatClampNeg)))) (F, A, J, G))) : KK (d + 4) 113 31 [.ref 49, .int x1] [] Q (.inl (some (.int r))) (F, A, J, G) := by
  refine KKi ?_
  refine Y_pop i_113_31 rfl ?_
  refine Y_al0 i_113_32 ?_
  refine Y_gR i_113_33 ow_113 lf_8_34 (k_49 hG) (r_49_2 hG) ?_
  refine Y_gR i_113_36 ow_113 lf_8_88 (k_53 hG) (r_53_5 hG) ?_
  refine Y_al0 i_113_39 ?_
  refine Y_gR i_113_40 ow_113 lf_8_34 (k_49 hG) (r_49_2 hG) ?_
  refine Y_gR i_113_43 ow_113 lf_8_77 (k_53 hG) (r_53_4 hG) ?_
  refine Y_al0 i_113_46 ?_
  refine Y_gR i_113_47 ow_113 lf_8_34 (k_49 hG) (r_49_2 hG) ?_
  refine Y_gI (v := (F 53 1)) i_113_50 ow_113 lf_8_74 (by decide) (k_53 hG) rfl ?_
  refine Y_iconst (v := 1) i_113_53 (by decide) ?_
  refine Y_isub i_113_54 ?_
  have o1 := h.1
  replace h := h.2
  refine Y_iaload (k := ((F 53 1) - 1).toNatClampNeg) (v := (A 54 ((F 53 1) - 1).toNatClampNeg)) i_113_55 (k_54 hG) (l_54 hG) o1 rfl rfl ?_
  have o2 := h.1
  replace h := h.2
  refine Y_iaload (k := (A 54 ((F 53 1) - 1).toNatClampNeg).toNatClampNeg) (v := (A 55 (A 54 ((F 53 1) - 1).toNatClampNeg).toNatClampNeg)) i_113_56 (k_55 hG) (l_55 hG) o2 rfl rfl ?_
  exact Y_iret i_113_57 rt_113 h
/- 114 Trials.leastFood()I -/
theorem t_114_0 {d : Nat} {F A : Nat → Nat → Int32} {J : Nat → Nat → Int64} {G : pG} {Q : pR → pM → Prop} {SL p q : Nat} (hG : Geo G SL p q) (h : X (d + 4) 114 2 [.ref 49, .int 0] [] (F, A, J, G) Q) : X (d + 4) 114 0 [.ref 49, .null] [] (F, A, J, G) Q := by
  refine Y_iconst (v := 0) i_114_0 (by decide) ?_
  refine Y_is1 i_114_1 rfl ?_
  exact h
theorem t_114_2 {d : Nat} {F A : Nat → Nat → Int32} {J : Nat → Nat → Int64} {G : pG} {Q : pR → pM → Prop} {SL p q : Nat} {x1 : Int32} (hG : Geo G SL p q) (h : ((999 < x1 → Q (.inl (some (.int (-1)))) (F, A, J, G)) ∧ (¬ 999 < x1 → X (d + 3) 91 0 [.ref 27, .int x1, .null, .null, .null] [] (F, A, J, G) (KK (d + 4) 114 17 [.ref 49, .int x1] [] Q)))) : X (d + 4) 114 2 [.ref 49, .int x1] [] (F, A, J, G) Q := by
  refine Y_il1 i_114_2 ?_
  refine Y_sipush (v := 999) i_114_3 (by decide) ?_
  refine Y_cgt i_114_6 (fun e1 => ?_) (fun e1 => ?_)
  · replace h := h.1 e1
    refine Y_iconst (v := (-1)) i_114_28 (by decide) ?_
    exact Y_iret i_114_29 rt_114 h
  · replace h := h.2 e1
    refine Y_al0 i_114_9 ?_
    refine Y_gR i_114_10 ow_114 lf_8_25 (k_49 hG) (r_49_1 hG) ?_
    refine Y_il1 i_114_13 ?_
    exact Y_iv1 (L0 := [.ref 27, .int x1, .null, .null, .null]) i_114_14 ow_114 lm_8_103 ((k_27 hG).trans ow_91.symm) rfl mx_91 rfl rfl hd_114 h
theorem k_114_17 {d : Nat} {F A : Nat → Nat → Int32} {J : Nat → Nat → Int64} {G : pG} {Q : pR → pM → Prop} {SL p q : Nat} {x1 r r : Int32} (hG : Geo G SL p q) (h : ((r = 0 → X (d + 4) 114 2 [.ref 49, .int (x1 + 1)] [] (F, A, J, G) Q) ∧ (¬ r = 0 → Q (.inl (some (.int x1))) (F, A, J, G)))) : KK (d + 4) 114 17 [.ref 49, .int x1] [] Q (.inl (some (.int r))) (F, A, J, G) := by
  refine KKi ?_
  refine Y_zeq i_114_17 (fun e1 => ?_) (fun e1 => ?_)
  · replace h := h.1 e1
    refine Y_ii1 (v := 1) i_114_22 (by decide) rfl ?_
    refine Y_goto i_114_25 ?_
    exact h
  · replace h := h.2 e1
    refine Y_il1 i_114_20 ?_
    exact Y_iret i_114_21 rt_114 h
/- 115 Trials.firstWedge()I -/
theorem t_115_0 {d : Nat} {F A : Nat → Nat → Int32} {J : Nat → Nat → Int64} {G : pG} {Q : pR → pM → Prop} {SL p q : Nat} (hG : Geo G SL p q) (h : X (d + 4) 88 0 [.ref 27] [] (F, A, J, G) (KK (d + 5) 115 7 [.ref 49, .null, .null, .null] [] Q)) : X (d + 5) 115 0 [.ref 49, .null, .null, .null] [] (F, A, J, G) Q := by
  refine Y_al0 i_115_0 ?_
  refine Y_gR i_115_1 ow_115 lf_8_25 (k_49 hG) (r_49_1 hG) ?_
  exact Y_iv0 (L0 := [.ref 27]) i_115_4 ow_115 lm_8_80 ((k_27 hG).trans ow_88.symm) rfl mx_88 rfl rfl hd_115 h
theorem k_115_7 {d : Nat} {F A : Nat → Nat → Int32} {J : Nat → Nat → Int64} {G : pG} {Q : pR → pM → Prop} {SL p q : Nat} {r r : Int32} (hG : Geo G SL p q) (h : ((r = 0 → X (d + 5) 115 25 [.ref 49, .int 0, .null, .null] [] ((bF F 53 27), (bA A 53 27), J, G) Q) ∧ (¬ r = 0 → Q (.inl (some (.int (-1)))) (F, A, J, G)))) : KK (d + 5) 115 7 [.ref 49, .null, .null, .null] [] Q (.inl (some (.int r))) (F, A, J, G) := by
  refine KKi ?_
  refine Y_zeq i_115_7 (fun e1 => ?_) (fun e1 => ?_)
  · replace h := h.1 e1
    refine Y_al0 i_115_12 ?_
    refine Y_gR i_115_13 ow_115 lf_8_34 (k_49 hG) (r_49_2 hG) ?_
    refine Y_al0 i_115_16 ?_
    refine Y_gR i_115_17 ow_115 lf_8_25 (k_49 hG) (r_49_1 hG) ?_
    refine Y_iv1 (L0 := [.ref 53, .ref 27]) i_115_20 ow_115 lm_8_37 ((k_53 hG).trans ow_76.symm) rfl mx_76 rfl rfl hd_115 ?_
    refine c_76_53_27 hG tw_53 (KKv ?_)
    refine Y_iconst (v := 0) i_115_23 (by decide) ?_
    refine Y_is1 i_115_24 rfl ?_
    exact h
  · replace h := h.2 e1
    refine Y_iconst (v := (-1)) i_115_10 (by decide) ?_
    exact Y_iret i_115_11 rt_115 h
theorem t_115_25 {d : Nat} {F A : Nat → Nat → Int32} {J : Nat → Nat → Int64} {G : pG} {Q : pR → pM → Prop} {SL p q : Nat} {x1 : Int32} {v2 v3 : Value} (hG : Geo G SL p q) (h : ((x1 < (F 27 1) → inB x1 10 = true ∧ (X (d + 5) 115 49 [.ref 49, .int x1, .int (A 28 x1.toNatClampNeg), .int (-9)] [] (F, A, J, G) Q)) ∧ (¬ x1 < (F 27 1) → Q (.inl (some (.int (-1)))) (F, A, J, G)))) : X (d + 5) 115 25 [.ref 49, .int x1, v2, v3] [] (F, A, J, G) Q := by
  refine Y_il1 i_115_25 ?_
  refine Y_al0 i_115_26 ?_
  refine Y_gR i_115_27 ow_115 lf_8_25 (k_49 hG) (r_49_1 hG) ?_
  refine Y_gI (v := (F 27 1)) i_115_30 ow_115 lf_8_74 (by decide) (k_27 hG) rfl ?_
  refine Y_cge i_115_33 (fun e1 => ?_) (fun e1 => ?_)
  · replace h := h.1 e1
    refine Y_al0 i_115_36 ?_
    refine Y_gR i_115_37 ow_115 lf_8_25 (k_49 hG) (r_49_1 hG) ?_
    refine Y_gR i_115_40 ow_115 lf_8_77 (k_27 hG) (r_27_4 hG) ?_
    refine Y_il1 i_115_43 ?_
    have o2 := h.1
    replace h := h.2
    refine Y_iaload (k := x1.toNatClampNeg) (v := (A 28 x1.toNatClampNeg)) i_115_44 (k_28 hG) (l_28 hG) o2 rfl rfl ?_
    refine Y_is2 i_115_45 rfl ?_
    refine Y_bipush (v := (-9)) i_115_46 (by decide) ?_
    refine Y_is3 i_115_48 rfl ?_
    exact h
  · replace h := h.2 e1
    refine Y_iconst (v := (-1)) i_115_128 (by decide) ?_
    exact Y_iret i_115_129 rt_115 h
theorem t_115_49 {d : Nat} {F A : Nat → Nat → Int32} {J : Nat → Nat → Int64} {G : pG} {Q : pR → pM → Prop} {SL p q : Nat} {x1 x2 x3 : Int32} (hG : Geo G SL p q) (h : ((9 < x3 → inB x2 10 = true ∧ (X (d + 5) 115 25 [.ref 49, .int (x1 + 1), .int x2, .int x3] [] (F, (wF A 56 x2.toNatClampNeg (A 30 x2.toNatClampNeg)), J, G) Q)) ∧ (¬ 9 < x3 → inB x2 10 = true ∧ ((x3 = (A 30 x2.toNatClampNeg) → X (d + 5) 115 49 [.ref 49, .int x1, .int x2, .int (x3 + 1)] [] (F, (wF A 56 x2.toNatClampNeg x3), J, G) Q) ∧ (¬ x3 = (A 30 x2.toNatClampNeg) → X (d + 4) 88 0 [.ref 53] [] (F, (wF A 56 x2.toNatClampNeg x3), J, G) (KK (d + 5) 115 85 [.ref 49, .int x1, .int x2, .int x3] [] Q)))))) : X (d + 5) 115 49 [.ref 49, .int x1, .int x2, .int x3] [] (F, A, J, G) Q := by
  refine Y_il3 i_115_49 ?_
  refine Y_bipush (v := 9) i_115_50 (by decide) ?_
  refine Y_cgt i_115_52 (fun e1 => ?_) (fun e1 => ?_)
  · replace h := h.1 e1
    refine Y_al0 i_115_104 ?_
    refine Y_gR i_115_105 ow_115 lf_8_34 (k_49 hG) (r_49_2 hG) ?_
    refine Y_gR i_115_108 ow_115 lf_8_106 (k_53 hG) (r_53_6 hG) ?_
    refine Y_il2 i_115_111 ?_
    refine Y_al0 i_115_112 ?_
    refine Y_gR i_115_113 ow_115 lf_8_25 (k_49 hG) (r_49_1 hG) ?_
    refine Y_gR i_115_116 ow_115 lf_8_106 (k_27 hG) (r_27_6 hG) ?_
    refine Y_il2 i_115_119 ?_
    have o2 := h.1
    replace h := h.2
    refine Y_iaload (k := x2.toNatClampNeg) (v := (A 30 x2.toNatClampNeg)) i_115_120 (k_30 hG) (l_30 hG) o2 rfl rfl ?_
    refine Y_iast i_115_121 (k_56 hG) (l_56 hG) o2 rfl ?_
    refine Y_ii1 (v := 1) i_115_122 (by decide) rfl ?_
    refine Y_goto i_115_125 ?_
    exact h
  · replace h := h.2 e1
    refine Y_al0 i_115_55 ?_
    refine Y_gR i_115_56 ow_115 lf_8_34 (k_49 hG) (r_49_2 hG) ?_
    refine Y_gR i_115_59 ow_115 lf_8_106 (k_53 hG) (r_53_6 hG) ?_
    refine Y_il2 i_115_62 ?_
    refine Y_il3 i_115_63 ?_
    have o3 := h.1
    replace h := h.2
    refine Y_iast i_115_64 (k_56 hG) (l_56 hG) o3 rfl ?_
    refine Y_il3 i_115_65 ?_
    refine Y_al0 i_115_66 ?_
    refine Y_gR i_115_67 ow_115 lf_8_25 (k_49 hG) (r_49_1 hG) ?_
    refine Y_gR i_115_70 ow_115 lf_8_106 (k_27 hG) (r_27_6 hG) ?_
    refine Y_il2 i_115_73 ?_
    refine Y_iaload (k := x2.toNatClampNeg) (v := (A 30 x2.toNatClampNeg)) i_115_74 (k_30 hG) (l_30 hG) o3 rfl (by simp [wF, wJ, va_up, cpR, bF, bA]) ?_
    refine Y_ceq i_115_75 (fun e4 => ?_) (fun e4 => ?_)
    · replace h := h.1 e4
      refine Y_ii3 (v := 1) i_115_98 (by decide) rfl ?_
      refine Y_goto i_115_101 ?_
      exact h
    · replace h := h.2 e4
      refine Y_al0 i_115_78 ?_
      refine Y_gR i_115_79 ow_115 lf_8_34 (k_49 hG) (r_49_2 hG) ?_
      exact Y_iv0 (L0 := [.ref 53]) i_115_82 ow_115 lm_8_80 ((k_53 hG).trans ow_88.symm) rfl mx_88 rfl rfl hd_115 h
theorem k_115_85 {d : Nat} {F A : Nat → Nat → Int32} {J : Nat → Nat → Int64} {G : pG} {Q : pR → pM → Prop} {SL p q : Nat} {x1 x2 x3 r r : Int32} (hG : Geo G SL p q) (h : ((r = 0 → X (d + 5) 115 49 [.ref 49, .int x1, .int x2, .int (x3 + 1)] [] (F, A, J, G) Q) ∧ (¬ r = 0 → Q (.inl (some (.int ((((100 : Int32) * x2) + x3) + 50)))) (F, A, J, G)))) : KK (d + 5) 115 85 [.ref 49, .int x1, .int x2, .int x3] [] Q (.inl (some (.int r))) (F, A, J, G) := by
  refine KKi ?_
  refine Y_zeq i_115_85 (fun e1 => ?_) (fun e1 => ?_)
  · replace h := h.1 e1
    refine Y_ii3 (v := 1) i_115_98 (by decide) rfl ?_
    refine Y_goto i_115_101 ?_
    exact h
  · replace h := h.2 e1
    refine Y_bipush (v := 100) i_115_88 (by decide) ?_
    refine Y_il2 i_115_90 ?_
    refine Y_imul i_115_91 ?_
    refine Y_il3 i_115_92 ?_
    refine Y_iadd i_115_93 ?_
    refine Y_bipush (v := 50) i_115_94 (by decide) ?_
    refine Y_iadd i_115_96 ?_
    exact Y_iret i_115_97 rt_115 h
/- 116 Trials.fewestWedges()I -/
theorem t_116_0 {d : Nat} {F A : Nat → Nat → Int32} {J : Nat → Nat → Int64} {G : pG} {Q : pR → pM → Prop} {SL p q : Nat} (hG : Geo G SL p q) (h : X (d + 2) 116 2 [.ref 49, .int 0, .null] [] (F, A, J, G) Q) : X (d + 2) 116 0 [.ref 49, .null, .null] [] (F, A, J, G) Q := by
  refine Y_iconst (v := 0) i_116_0 (by decide) ?_
  refine Y_is1 i_116_1 rfl ?_
  exact h
theorem t_116_2 {d : Nat} {F A : Nat → Nat → Int32} {J : Nat → Nat → Int64} {G : pG} {Q : pR → pM → Prop} {SL p q : Nat} {x1 : Int32} (hG : Geo G SL p q) (h : ((x1 < 81 → ((x1 = 40 → inB x1 81 = true ∧ (X (d + 2) 116 2 [.ref 49, .int (x1 + 1), .null] [] (F, (wF A p x1.toNatClampNeg 0), J, G) Q)) ∧ (¬ x1 = 40 → inB x1 81 = true ∧ (X (d + 2) 116 2 [.ref 49, .int (x1 + 1), .null] [] (F, (wF A p x1.toNatClampNeg 1000000), J, G) Q)))) ∧ (¬ x1 < 81 → X (d + 2) 116 34 [.ref 49, .int 0, .null] [] (F, A, J, G) Q))) : X (d + 2) 116 2 [.ref 49, .int x1, .null] [] (F, A, J, G) Q := by
  refine Y_il1 i_116_2 ?_
  refine Y_bipush (v := 81) i_116_3 (by decide) ?_
  refine Y_cge i_116_5 (fun e1 => ?_) (fun e1 => ?_)
  · replace h := h.1 e1
    refine Y_al0 i_116_8 ?_
    refine Y_gR i_116_9 ow_116 lf_8_11 (k_49 hG) (r_49_9 hG) ?_
    refine Y_il1 i_116_12 ?_
    refine Y_il1 i_116_13 ?_
    refine Y_bipush (v := 40) i_116_14 (by decide) ?_
    refine Y_cne i_116_16 (fun e2 => ?_) (fun e2 => ?_)
    · replace h := h.1 e2
      refine Y_iconst (v := 0) i_116_19 (by decide) ?_
      refine Y_goto i_116_20 ?_
      have o3 := h.1
      replace h := h.2
      refine Y_iast i_116_25 (k_p hG) (l_p hG) o3 rfl ?_
      refine Y_ii1 (v := 1) i_116_26 (by decide) rfl ?_
      refine Y_goto i_116_29 ?_
      exact h
    · replace h := h.2 e2
      refine Y_ldcI i_116_23 ow_116 li_8_109 ?_
      have o4 := h.1
      replace h := h.2
      refine Y_iast i_116_25 (k_p hG) (l_p hG) o4 rfl ?_
      refine Y_ii1 (v := 1) i_116_26 (by decide) rfl ?_
      refine Y_goto i_116_29 ?_
      exact h
  · replace h := h.2 e1
    refine Y_iconst (v := 0) i_116_32 (by decide) ?_
    refine Y_is1 i_116_33 rfl ?_
    exact h
theorem t_116_34 {d : Nat} {F A : Nat → Nat → Int32} {J : Nat → Nat → Int64} {G : pG} {Q : pR → pM → Prop} {SL p q : Nat} {x1 : Int32} (hG : Geo G SL p q) (h : ((x1 < (F 27 1) → inB x1 10 = true ∧ (X (d + 1) 117 0 [.ref 49, .int (A 28 x1.toNatClampNeg), .null, .null, .null, .null] [] (F, A, J, G) (KK (d + 2) 116 58 [.ref 49, .int x1, .null] [] Q))) ∧ (¬ x1 < (F 27 1) → X (d + 2) 116 69 [.ref 49, .int 1000000, .int 0] [] (F, A, J, G) Q))) : X (d + 2) 116 34 [.ref 49, .int x1, .null] [] (F, A, J, G) Q := by
  refine Y_il1 i_116_34 ?_
  refine Y_al0 i_116_35 ?_
  refine Y_gR i_116_36 ow_116 lf_8_25 (k_49 hG) (r_49_1 hG) ?_
  refine Y_gI (v := (F 27 1)) i_116_39 ow_116 lf_8_74 (by decide) (k_27 hG) rfl ?_
  refine Y_cge i_116_42 (fun e1 => ?_) (fun e1 => ?_)
  · replace h := h.1 e1
    refine Y_al0 i_116_45 ?_
    refine Y_al0 i_116_46 ?_
    refine Y_gR i_116_47 ow_116 lf_8_25 (k_49 hG) (r_49_1 hG) ?_
    refine Y_gR i_116_50 ow_116 lf_8_77 (k_27 hG) (r_27_4 hG) ?_
    refine Y_il1 i_116_53 ?_
    have o2 := h.1
    replace h := h.2
    refine Y_iaload (k := x1.toNatClampNeg) (v := (A 28 x1.toNatClampNeg)) i_116_54 (k_28 hG) (l_28 hG) o2 rfl rfl ?_
    exact Y_iv1 (L0 := [.ref 49, .int (A 28 x1.toNatClampNeg), .null, .null, .null, .null]) i_116_55 ow_116 lm_8_110 ((k_49 hG).trans ow_117.symm) rfl mx_117 rfl rfl hd_116 h
  · replace h := h.2 e1
    refine Y_ldcI i_116_64 ow_116 li_8_109 ?_
    refine Y_is1 i_116_66 rfl ?_
    refine Y_iconst (v := 0) i_116_67 (by decide) ?_
    refine Y_is2 i_116_68 rfl ?_
    exact h
theorem k_116_58 {d : Nat} {F A : Nat → Nat → Int32} {J : Nat → Nat → Int64} {G : pG} {Q : pR → pM → Prop} {SL p q : Nat} {x1 : Int32} (hG : Geo G SL p q) (h : X (d + 2) 116 34 [.ref 49, .int (x1 + 1), .null] [] (F, A, J, G) Q) : KK (d + 2) 116 58 [.ref 49, .int x1, .null] [] Q (.inl none) (F, A, J, G) := by
  refine KKv ?_
  refine Y_ii1 (v := 1) i_116_58 (by decide) rfl ?_
  refine Y_goto i_116_61 ?_
  exact h
theorem t_116_69 {d : Nat} {F A : Nat → Nat → Int32} {J : Nat → Nat → Int64} {G : pG} {Q : pR → pM → Prop} {SL p q : Nat} {x1 x2 : Int32} (hG : Geo G SL p q) (h : ((x2 < 81 → inB x2 81 = true ∧ (X (d + 2) 116 69 [.ref 49, .int (jmin x1 (A p x2.toNatClampNeg)), .int (x2 + 1)] [] (F, A, J, G) Q)) ∧ (¬ x2 < 81 → ((x1 < 1000000 → Q (.inl (some (.int x1))) (F, A, J, G)) ∧ (¬ x1 < 1000000 → Q (.inl (some (.int (-1)))) (F, A, J, G)))))) : X (d + 2) 116 69 [.ref 49, .int x1, .int x2] [] (F, A, J, G) Q := by
  refine Y_il2 i_116_69 ?_
  refine Y_bipush (v := 81) i_116_70 (by decide) ?_
  refine Y_cge i_116_72 (fun e1 => ?_) (fun e1 => ?_)
  · replace h := h.1 e1
    refine Y_il1 i_116_75 ?_
    refine Y_al0 i_116_76 ?_
    refine Y_gR i_116_77 ow_116 lf_8_11 (k_49 hG) (r_49_9 hG) ?_
    refine Y_il2 i_116_80 ?_
    have o2 := h.1
    replace h := h.2
    refine Y_iaload (k := x2.toNatClampNeg) (v := (A p x2.toNatClampNeg)) i_116_81 (k_p hG) (l_p hG) o2 rfl rfl ?_
    refine Y_min i_116_82 ow_116 lm_8_113 rfl ?_
    refine Y_is1 i_116_85 rfl ?_
    refine Y_ii2 (v := 1) i_116_86 (by decide) rfl ?_
    refine Y_goto i_116_89 ?_
    exact h
  · replace h := h.2 e1
    refine Y_il1 i_116_92 ?_
    refine Y_ldcI i_116_93 ow_116 li_8_109 ?_
    refine Y_clt i_116_95 (fun e3 => ?_) (fun e3 => ?_)
    · replace h := h.1 e3
      refine Y_il1 i_116_102 ?_
      exact Y_iret i_116_103 rt_116 h
    · replace h := h.2 e3
      refine Y_iconst (v := (-1)) i_116_98 (by decide) ?_
      refine Y_goto i_116_99 ?_
      exact Y_iret i_116_103 rt_116 h
/- 117 Trials.wedgeOne(I)V -/
theorem t_117_0 {d : Nat} {F A : Nat → Nat → Int32} {J : Nat → Nat → Int64} {G : pG} {Q : pR → pM → Prop} {SL p q : Nat} {x1 : Int32} (hG : Geo G SL p q) (h : X (d + 1) 117 2 [.ref 49, .int x1, .int 0, .null, .null, .null] [] (F, A, J, G) Q) : X (d + 1) 117 0 [.ref 49, .int x1, .null, .null, .null, .null] [] (F, A, J, G) Q := by
  refine Y_iconst (v := 0) i_117_0 (by decide) ?_
  refine Y_is2 i_117_1 rfl ?_
  exact h
theorem t_117_2 {d : Nat} {F A : Nat → Nat → Int32} {J : Nat → Nat → Int64} {G : pG} {Q : pR → pM → Prop} {SL p q : Nat} {x1 x2 : Int32} (hG : Geo G SL p q) (h : ((x2 < 81 → inB x2 81 = true ∧ (X (d + 1) 117 2 [.ref 49, .int x1, .int (x2 + 1), .null, .null, .null] [] (F, (wF A q x2.toNatClampNeg 1000000), J, G) Q)) ∧ (¬ x2 < 81 → X (d + 1) 117 24 [.ref 49, .int x1, .int 0, .null, .null, .null] [] (F, A, J, G) Q))) : X (d + 1) 117 2 [.ref 49, .int x1, .int x2, .null, .null, .null] [] (F, A, J, G) Q := by
  refine Y_il2 i_117_2 ?_
  refine Y_bipush (v := 81) i_117_3 (by decide) ?_
  refine Y_cge i_117_5 (fun e1 => ?_) (fun e1 => ?_)
  · replace h := h.1 e1
    refine Y_al0 i_117_8 ?_
    refine Y_gR i_117_9 ow_117 lf_8_15 (k_49 hG) (r_49_10 hG) ?_
    refine Y_il2 i_117_12 ?_
    refine Y_ldcI i_117_13 ow_117 li_8_109 ?_
    have o2 := h.1
    replace h := h.2
    refine Y_iast i_117_15 (k_q hG) (l_q hG) o2 rfl ?_
    refine Y_ii2 (v := 1) i_117_16 (by decide) rfl ?_
    refine Y_goto i_117_19 ?_
    exact h
  · replace h := h.2 e1
    refine Y_iconst (v := 0) i_117_22 (by decide) ?_
    refine Y_is2 i_117_23 rfl ?_
    exact h
theorem t_117_24 {d : Nat} {F A : Nat → Nat → Int32} {J : Nat → Nat → Int64} {G : pG} {Q : pR → pM → Prop} {SL p q : Nat} {x1 x2 : Int32} {v3 v4 v5 : Value} (hG : Geo G SL p q) (h : ((x2 < 81 → X (d + 1) 117 33 [.ref 49, .int x1, .int x2, .int (-9), v4, v5] [] (F, A, J, G) Q) ∧ (¬ x2 < 81 → Q (.inl none) (F, A, J, (gSetR (gSetR G 49 9 (q + 1)) 49 10 (p + 1)))))) : X (d + 1) 117 24 [.ref 49, .int x1, .int x2, v3, v4, v5] [] (F, A, J, G) Q := by
  refine Y_il2 i_117_24 ?_
  refine Y_bipush (v := 81) i_117_25 (by decide) ?_
  refine Y_cge i_117_27 (fun e1 => ?_) (fun e1 => ?_)
  · replace h := h.1 e1
    refine Y_bipush (v := (-9)) i_117_30 (by decide) ?_
    refine Y_is3 i_117_32 rfl ?_
    exact h
  · replace h := h.2 e1
    refine Y_al0 i_117_136 ?_
    refine Y_gR i_117_137 ow_117 lf_8_11 (k_49 hG) (r_49_9 hG) ?_
    refine Y_as2 i_117_140 rfl ?_
    refine Y_al0 i_117_141 ?_
    refine Y_al0 i_117_142 ?_
    refine Y_gR i_117_143 ow_117 lf_8_15 (k_49 hG) (r_49_10 hG) ?_
    refine Y_pR i_117_146 ow_117 lf_8_11 (k_49 (G := G) hG) (n_q (G := G) hG) ?_
    refine Y_al0 i_117_149 ?_
    refine Y_al2 i_117_150 ?_
    refine Y_pR i_117_151 ow_117 lf_8_15 (k_49 (G := G) hG) (n_p (G := G) hG) ?_
    exact Y_vret i_117_154 rt_117 h
theorem t_117_33 {d : Nat} {F A : Nat → Nat → Int32} {J : Nat → Nat → Int64} {G : pG} {Q : pR → pM → Prop} {SL p q : Nat} {x1 x2 x3 : Int32} {v4 v5 : Value} (hG : Geo G SL p q) (h : ((9 < x3 → X (d + 1) 117 24 [.ref 49, .int x1, .int (x2 + 1), .int x3, v4, v5] [] (F, A, J, G) Q) ∧ (¬ 9 < x3 → inB x2 81 = true ∧ (((A p x2.toNatClampNeg) < 1000000 → inB x1 10 = true ∧ (((limB (F 12 1) ((x2 - 40) + ((ltm (A 13 x1.toNatClampNeg)) * ((A 31 x1.toNatClampNeg) + x3)))) = true → inB (((x2 - 40) + ((ltm (A 13 x1.toNatClampNeg)) * ((A 31 x1.toNatClampNeg) + x3))) + 40) 81 = true ∧ (X (d + 1) 117 33 [.ref 49, .int x1, .int x2, .int (x3 + 1), .int ((x2 - 40) + ((ltm (A 13 x1.toNatClampNeg)) * ((A 31 x1.toNatClampNeg) + x3))), .int (((x2 - 40) + ((ltm (A 13 x1.toNatClampNeg)) * ((A 31 x1.toNatClampNeg) + x3))) + 40)] [] (F, (wF A q (((x2 - 40) + ((ltm (A 13 x1.toNatClampNeg)) * ((A 31 x1.toNatClampNeg) + x3))) + 40).toNatClampNeg (jmin (A q (((x2 - 40) + ((ltm (A 13 x1.toNatClampNeg)) * ((A 31 x1.toNatClampNeg) + x3))) + 40).toNatClampNeg) ((A p x2.toNatClampNeg) + (jabs x3)))), J, G) Q)) ∧ ((limB (F 12 1) ((x2 - 40) + ((ltm (A 13 x1.toNatClampNeg)) * ((A 31 x1.toNatClampNeg) + x3)))) = false → X (d + 1) 117 33 [.ref 49, .int x1, .int x2, .int (x3 + 1), .int ((x2 - 40) + ((ltm (A 13 x1.toNatClampNeg)) * ((A 31 x1.toNatClampNeg) + x3))), v5] [] (F, A, J, G) Q))) ∧ (¬ (A p x2.toNatClampNeg) < 1000000 → X (d + 1) 117 24 [.ref 49, .int x1, .int (x2 + 1), .int x3, v4, v5] [] (F, A, J, G) Q))))) : X (d + 1) 117 33 [.ref 49, .int x1, .int x2, .int x3, v4, v5] [] (F, A, J, G) Q := by
  refine Y_il3 i_117_33 ?_
  refine Y_bipush (v := 9) i_117_34 (by decide) ?_
  refine Y_cgt i_117_36 (fun e1 => ?_) (fun e1 => ?_)
  · replace h := h.1 e1
    refine Y_ii2 (v := 1) i_117_130 (by decide) rfl ?_
    refine Y_goto i_117_133 ?_
    exact h
  · replace h := h.2 e1
    refine Y_al0 i_117_39 ?_
    refine Y_gR i_117_40 ow_117 lf_8_11 (k_49 hG) (r_49_9 hG) ?_
    refine Y_il2 i_117_43 ?_
    have o2 := h.1
    replace h := h.2
    refine Y_iaload (k := x2.toNatClampNeg) (v := (A p x2.toNatClampNeg)) i_117_44 (k_p hG) (l_p hG) o2 rfl rfl ?_
    refine Y_ldcI i_117_45 ow_117 li_8_109 ?_
    refine Y_cge i_117_47 (fun e3 => ?_) (fun e3 => ?_)
    · replace h := h.1 e3
      refine Y_il2 i_117_50 ?_
      refine Y_bipush (v := 40) i_117_51 (by decide) ?_
      refine Y_isub i_117_53 ?_
      refine Y_al0 i_117_54 ?_
      refine Y_gR i_117_55 ow_117 lf_8_21 (k_49 hG) (r_49_0 hG) ?_
      refine Y_il1 i_117_58 ?_
      have o4 := h.1
      replace h := h.2
      refine Y_iv1 (L0 := [.ref 12, .int x1]) i_117_59 ow_117 lm_8_119 ((k_12 hG).trans ow_102.symm) rfl mx_102 rfl rfl hd_117 ?_
      refine c_102 hG o4 (KKi ?_)
      refine Y_al0 i_117_62 ?_
      refine Y_gR i_117_63 ow_117 lf_8_25 (k_49 hG) (r_49_1 hG) ?_
      refine Y_gR i_117_66 ow_117 lf_8_122 (k_27 hG) (r_27_7 hG) ?_
      refine Y_il1 i_117_69 ?_
      refine Y_iaload (k := x1.toNatClampNeg) (v := (A 31 x1.toNatClampNeg)) i_117_70 (k_31 hG) (l_31 hG) o4 rfl rfl ?_
      refine Y_il3 i_117_71 ?_
      refine Y_iadd i_117_72 ?_
      refine Y_imul i_117_73 ?_
      refine Y_iadd i_117_74 ?_
      refine Y_is4 i_117_75 rfl ?_
      refine Y_al0 i_117_77 ?_
      refine Y_gR i_117_78 ow_117 lf_8_21 (k_49 hG) (r_49_0 hG) ?_
      refine Y_il4 i_117_81 ?_
      refine Y_iv1 (L0 := [.ref 12, .int ((x2 - 40) + ((ltm (A 13 x1.toNatClampNeg)) * ((A 31 x1.toNatClampNeg) + x3)))]) i_117_83 ow_117 lm_8_125 ((k_12 hG).trans ow_103.symm) rfl mx_103 rfl rfl hd_117 ?_
      refine c_103 hG (KKi ?_)
      refine Y_beq i_117_86 (fun e5 => ?_) (fun e5 => ?_)
      · replace h := h.1 e5
        refine Y_il4 i_117_89 ?_
        refine Y_bipush (v := 40) i_117_91 (by decide) ?_
        refine Y_iadd i_117_93 ?_
        refine Y_is5 i_117_94 rfl ?_
        refine Y_al0 i_117_96 ?_
        refine Y_gR i_117_97 ow_117 lf_8_15 (k_49 hG) (r_49_10 hG) ?_
        refine Y_il5 i_117_100 ?_
        refine Y_al0 i_117_102 ?_
        refine Y_gR i_117_103 ow_117 lf_8_15 (k_49 hG) (r_49_10 hG) ?_
        refine Y_il5 i_117_106 ?_
        have o6 := h.1
        replace h := h.2
        refine Y_iaload (k := (((x2 - 40) + ((ltm (A 13 x1.toNatClampNeg)) * ((A 31 x1.toNatClampNeg) + x3))) + 40).toNatClampNeg) (v := (A q (((x2 - 40) + ((ltm (A 13 x1.toNatClampNeg)) * ((A 31 x1.toNatClampNeg) + x3))) + 40).toNatClampNeg)) i_117_108 (k_q hG) (l_q hG) o6 rfl rfl ?_
        refine Y_al0 i_117_109 ?_
        refine Y_gR i_117_110 ow_117 lf_8_11 (k_49 hG) (r_49_9 hG) ?_
        refine Y_il2 i_117_113 ?_
        refine Y_iaload (k := x2.toNatClampNeg) (v := (A p x2.toNatClampNeg)) i_117_114 (k_p hG) (l_p hG) o2 rfl rfl ?_
        refine Y_il3 i_117_115 ?_
        refine Y_abs i_117_116 ow_117 lm_8_128 rfl ?_
        refine Y_iadd i_117_119 ?_
        refine Y_min i_117_120 ow_117 lm_8_113 rfl ?_
        refine Y_iast i_117_123 (k_q hG) (l_q hG) o6 rfl ?_
        refine Y_ii3 (v := 1) i_117_124 (by decide) rfl ?_
        refine Y_goto i_117_127 ?_
        exact h
      · replace h := h.2 e5
        refine Y_ii3 (v := 1) i_117_124 (by decide) rfl ?_
        refine Y_goto i_117_127 ?_
        exact h
    · replace h := h.2 e3
      refine Y_ii2 (v := 1) i_117_130 (by decide) rfl ?_
      refine Y_goto i_117_133 ?_
      exact h
/- 118 Trials.play()V -/
theorem t_118_0 {d : Nat} {F A : Nat → Nat → Int32} {J : Nat → Nat → Int64} {G : pG} {Q : pR → pM → Prop} {SL p q : Nat} (hG : Geo G SL p q) (h : (((F 27 1) < 2 → Q (.inl none) ((wF (wF F 49 3 0) 49 4 (-1)), A, J, G)) ∧ (¬ (F 27 1) < 2 → X (d + 5) 119 0 [.ref 49, .null, .null] [] ((wF (wF F 49 3 0) 49 4 (-1)), A, J, G) (KK (d + 6) 118 26 [.ref 49, .null, .null] [] Q)))) : X (d + 6) 118 0 [.ref 49, .null, .null] [] (F, A, J, G) Q := by
  refine Y_al0 i_118_0 ?_
  refine Y_iconst (v := 0) i_118_1 (by decide) ?_
  refine Y_pI i_118_2 ow_118 lf_8_131 (k_49 hG) ?_
  refine Y_al0 i_118_5 ?_
  refine Y_iconst (v := (-1)) i_118_6 (by decide) ?_
  refine Y_pI i_118_7 ow_118 lf_8_134 (k_49 hG) ?_
  refine Y_al0 i_118_10 ?_
  refine Y_gR i_118_11 ow_118 lf_8_25 (k_49 hG) (r_49_1 hG) ?_
  refine Y_gI (v := (F 27 1)) i_118_14 ow_118 lf_8_74 (by decide) (k_27 hG) (by simp [wF, wJ, va_up, cpR, bF, bA]) ?_
  refine Y_iconst (v := 2) i_118_17 (by decide) ?_
  refine Y_cge i_118_18 (fun e1 => ?_) (fun e1 => ?_)
  · replace h := h.1 e1
    exact Y_vret i_118_21 rt_118 h
  · replace h := h.2 e1
    refine Y_al0 i_118_22 ?_
    exact Y_iv0 (L0 := [.ref 49, .null, .null]) i_118_23 ow_118 lm_8_137 ((k_49 hG).trans ow_119.symm) rfl mx_119 rfl rfl hd_118 h
theorem k_118_26 {d : Nat} {F A : Nat → Nat → Int32} {J : Nat → Nat → Int64} {G : pG} {Q : pR → pM → Prop} {SL p q : Nat} (hG : Geo G SL p q) (h : X (d + 6) 118 28 [.ref 49, .int 0, .null] [] (F, A, J, G) Q) : KK (d + 6) 118 26 [.ref 49, .null, .null] [] Q (.inl none) (F, A, J, G) := by
  refine KKv ?_
  refine Y_iconst (v := 0) i_118_26 (by decide) ?_
  refine Y_is1 i_118_27 rfl ?_
  exact h
theorem t_118_28 {d : Nat} {F A : Nat → Nat → Int32} {J : Nat → Nat → Int64} {G : pG} {Q : pR → pM → Prop} {SL p q : Nat} {x1 : Int32} {v2 : Value} (hG : Geo G SL p q) (h : ((9 < x1 → Q (.inl none) (F, A, J, G)) ∧ (¬ 9 < x1 → X (d + 6) 118 36 [.ref 49, .int x1, .int 0] [] (F, A, J, G) Q))) : X (d + 6) 118 28 [.ref 49, .int x1, v2] [] (F, A, J, G) Q := by
  refine Y_il1 i_118_28 ?_
  refine Y_bipush (v := 9) i_118_29 (by decide) ?_
  refine Y_cgt i_118_31 (fun e1 => ?_) (fun e1 => ?_)
  · replace h := h.1 e1
    exact Y_vret i_118_97 rt_118 h
  · replace h := h.2 e1
    refine Y_iconst (v := 0) i_118_34 (by decide) ?_
    refine Y_is2 i_118_35 rfl ?_
    exact h
theorem t_118_36 {d : Nat} {F A : Nat → Nat → Int32} {J : Nat → Nat → Int64} {G : pG} {Q : pR → pM → Prop} {SL p q : Nat} {x1 x2 : Int32} (hG : Geo G SL p q) (h : ((9 < x2 → X (d + 6) 118 28 [.ref 49, .int (x1 + 1), .int x2] [] (F, A, J, G) Q) ∧ (¬ 9 < x2 → X (d + 5) 120 0 [.ref 49, .int x1, .int x2, .null, .null, .null] [] (F, A, J, G) (KK (d + 6) 118 48 [.ref 49, .int x1, .int x2] [] Q)))) : X (d + 6) 118 36 [.ref 49, .int x1, .int x2] [] (F, A, J, G) Q := by
  refine Y_il2 i_118_36 ?_
  refine Y_bipush (v := 9) i_118_37 (by decide) ?_
  refine Y_cgt i_118_39 (fun e1 => ?_) (fun e1 => ?_)
  · replace h := h.1 e1
    refine Y_ii1 (v := 1) i_118_91 (by decide) rfl ?_
    refine Y_goto i_118_94 ?_
    exact h
  · replace h := h.2 e1
    refine Y_al0 i_118_42 ?_
    refine Y_il1 i_118_43 ?_
    refine Y_il2 i_118_44 ?_
    exact Y_iv2 (L0 := [.ref 49, .int x1, .int x2, .null, .null, .null]) i_118_45 ow_118 lm_8_140 ((k_49 hG).trans ow_120.symm) rfl mx_120 rfl rfl hd_118 h
theorem k_118_48 {d : Nat} {F A : Nat → Nat → Int32} {J : Nat → Nat → Int64} {G : pG} {Q : pR → pM → Prop} {SL p q : Nat} {x1 x2 r r : Int32} (hG : Geo G SL p q) (h : ((r = 0 → X (d + 6) 118 36 [.ref 49, .int x1, .int (x2 + 1)] [] (F, A, J, G) Q) ∧ (¬ r = 0 → (((F 49 3) = 0 → X (d + 6) 118 36 [.ref 49, .int x1, .int (x2 + 1)] [] ((wF (wF F 49 4 (((10 : Int32) * x1) + x2)) 49 3 ((F 49 3) + 1)), A, J, G) Q) ∧ (¬ (F 49 3) = 0 → X (d + 6) 118 36 [.ref 49, .int x1, .int (x2 + 1)] [] ((wF (wF F 49 4 (F 49 4)) 49 3 ((F 49 3) + 1)), A, J, G) Q))))) : KK (d + 6) 118 48 [.ref 49, .int x1, .int x2] [] Q (.inl (some (.int r))) (F, A, J, G) := by
  refine KKi ?_
  refine Y_zeq i_118_48 (fun e1 => ?_) (fun e1 => ?_)
  · replace h := h.1 e1
    refine Y_ii2 (v := 1) i_118_85 (by decide) rfl ?_
    refine Y_goto i_118_88 ?_
    exact h
  · replace h := h.2 e1
    refine Y_al0 i_118_51 ?_
    refine Y_al0 i_118_52 ?_
    refine Y_gI (v := (F 49 3)) i_118_53 ow_118 lf_8_131 (by decide) (k_49 hG) rfl ?_
    refine Y_zne i_118_56 (fun e2 => ?_) (fun e2 => ?_)
    · replace h := h.1 e2
      refine Y_bipush (v := 10) i_118_59 (by decide) ?_
      refine Y_il1 i_118_61 ?_
      refine Y_imul i_118_62 ?_
      refine Y_il2 i_118_63 ?_
      refine Y_iadd i_118_64 ?_
      refine Y_goto i_118_65 ?_
      refine Y_pI i_118_72 ow_118 lf_8_134 (k_49 hG) ?_
      refine Y_al0 i_118_75 ?_
      refine Y_dup i_118_76 rfl ?_
      refine Y_gI (v := (F 49 3)) i_118_77 ow_118 lf_8_131 (by decide) (k_49 hG) (by simp [wF, wJ, va_up, cpR, bF, bA]) ?_
      refine Y_iconst (v := 1) i_118_80 (by decide) ?_
      refine Y_iadd i_118_81 ?_
      refine Y_pI i_118_82 ow_118 lf_8_131 (k_49 hG) ?_
      refine Y_ii2 (v := 1) i_118_85 (by decide) rfl ?_
      refine Y_goto i_118_88 ?_
      exact h
    · replace h := h.2 e2
      refine Y_al0 i_118_68 ?_
      refine Y_gI (v := (F 49 4)) i_118_69 ow_118 lf_8_134 (by decide) (k_49 hG) rfl ?_
      refine Y_pI i_118_72 ow_118 lf_8_134 (k_49 hG) ?_
      refine Y_al0 i_118_75 ?_
      refine Y_dup i_118_76 rfl ?_
      refine Y_gI (v := (F 49 3)) i_118_77 ow_118 lf_8_131 (by decide) (k_49 hG) (by simp [wF, wJ, va_up, cpR, bF, bA]) ?_
      refine Y_iconst (v := 1) i_118_80 (by decide) ?_
      refine Y_iadd i_118_81 ?_
      refine Y_pI i_118_82 ow_118 lf_8_131 (k_49 hG) ?_
      refine Y_ii2 (v := 1) i_118_85 (by decide) rfl ?_
      refine Y_goto i_118_88 ?_
      exact h
/- 119 Trials.fillEatable()V -/
theorem t_119_0 {d : Nat} {F A : Nat → Nat → Int32} {J : Nat → Nat → Int64} {G : pG} {Q : pR → pM → Prop} {SL p q : Nat} (hG : Geo G SL p q) (h : X (d + 5) 119 23 [.ref 49, .int (A 28 0), .int 0] [] ((bF F 53 27), (bA A 53 27), J, G) Q) : X (d + 5) 119 0 [.ref 49, .null, .null] [] (F, A, J, G) Q := by
  refine Y_al0 i_119_0 ?_
  refine Y_gR i_119_1 ow_119 lf_8_25 (k_49 hG) (r_49_1 hG) ?_
  refine Y_gR i_119_4 ow_119 lf_8_77 (k_27 hG) (r_27_4 hG) ?_
  refine Y_iconst (v := 0) i_119_7 (by decide) ?_
  refine Y_iaload (k := 0) (v := (A 28 0)) i_119_8 (k_28 hG) (l_28 hG) (by decide) (by decide) rfl ?_
  refine Y_is1 i_119_9 rfl ?_
  refine Y_al0 i_119_10 ?_
  refine Y_gR i_119_11 ow_119 lf_8_34 (k_49 hG) (r_49_2 hG) ?_
  refine Y_al0 i_119_14 ?_
  refine Y_gR i_119_15 ow_119 lf_8_25 (k_49 hG) (r_49_1 hG) ?_
  refine Y_iv1 (L0 := [.ref 53, .ref 27]) i_119_18 ow_119 lm_8_37 ((k_53 hG).trans ow_76.symm) rfl mx_76 rfl rfl hd_119 ?_
  refine c_76_53_27 hG tw_53 (KKv ?_)
  refine Y_iconst (v := 0) i_119_21 (by decide) ?_
  refine Y_is2 i_119_22 rfl ?_
  exact h
theorem t_119_23 {d : Nat} {F A : Nat → Nat → Int32} {J : Nat → Nat → Int64} {G : pG} {Q : pR → pM → Prop} {SL p q : Nat} {x1 x2 : Int32} (hG : Geo G SL p q) (h : ((9 < x2 → Q (.inl none) (F, A, J, G)) ∧ (¬ 9 < x2 → inB x1 10 = true ∧ (X (d + 4) 89 0 [.ref 53, .null, .null] [] (F, (wF A 55 x1.toNatClampNeg ((A 29 x1.toNatClampNeg) + x2)), J, G) (KK (d + 5) 119 61 [.ref 49, .int x1, .int x2] [.int x2, .ref 52] Q))))) : X (d + 5) 119 23 [.ref 49, .int x1, .int x2] [] (F, A, J, G) Q := by
  refine Y_il2 i_119_23 ?_
  refine Y_bipush (v := 9) i_119_24 (by decide) ?_
  refine Y_cgt i_119_26 (fun e1 => ?_) (fun e1 => ?_)
  · replace h := h.1 e1
    exact Y_vret i_119_68 rt_119 h
  · replace h := h.2 e1
    refine Y_al0 i_119_29 ?_
    refine Y_gR i_119_30 ow_119 lf_8_34 (k_49 hG) (r_49_2 hG) ?_
    refine Y_gR i_119_33 ow_119 lf_8_88 (k_53 hG) (r_53_5 hG) ?_
    refine Y_il1 i_119_36 ?_
    refine Y_al0 i_119_37 ?_
    refine Y_gR i_119_38 ow_119 lf_8_25 (k_49 hG) (r_49_1 hG) ?_
    refine Y_gR i_119_41 ow_119 lf_8_88 (k_27 hG) (r_27_5 hG) ?_
    refine Y_il1 i_119_44 ?_
    have o2 := h.1
    replace h := h.2
    refine Y_iaload (k := x1.toNatClampNeg) (v := (A 29 x1.toNatClampNeg)) i_119_45 (k_29 hG) (l_29 hG) o2 rfl rfl ?_
    refine Y_il2 i_119_46 ?_
    refine Y_iadd i_119_47 ?_
    refine Y_iast i_119_48 (k_55 hG) (l_55 hG) o2 rfl ?_
    refine Y_al0 i_119_49 ?_
    refine Y_gR i_119_50 ow_119 lf_8_18 (k_49 hG) (r_49_11 hG) ?_
    refine Y_il2 i_119_53 ?_
    refine Y_al0 i_119_54 ?_
    refine Y_gR i_119_55 ow_119 lf_8_34 (k_49 hG) (r_49_2 hG) ?_
    exact Y_iv0 (L0 := [.ref 53, .null, .null]) i_119_58 ow_119 lm_8_49 ((k_53 hG).trans ow_89.symm) rfl mx_89 rfl rfl hd_119 h
theorem k_119_61 {d : Nat} {F A : Nat → Nat → Int32} {J : Nat → Nat → Int64} {G : pG} {Q : pR → pM → Prop} {SL p q : Nat} {x1 x2 r s0 r : Int32} (hG : Geo G SL p q) (h : inB s0 10 = true ∧ (X (d + 5) 119 23 [.ref 49, .int x1, .int (x2 + 1)] [] (F, (wF A 52 s0.toNatClampNeg r), J, G) Q)) : KK (d + 5) 119 61 [.ref 49, .int x1, .int x2] [.int s0, .ref 52] Q (.inl (some (.int r))) (F, A, J, G) := by
  refine KKi ?_
  have o1 := h.1
  replace h := h.2
  refine Y_iast i_119_61 (k_52 hG) (l_52 hG) o1 rfl ?_
  refine Y_ii2 (v := 1) i_119_62 (by decide) rfl ?_
  refine Y_goto i_119_65 ?_
  exact h
/- 120 Trials.rests(II)Z -/
theorem t_120_0 {d : Nat} {F A : Nat → Nat → Int32} {J : Nat → Nat → Int64} {G : pG} {Q : pR → pM → Prop} {SL p q : Nat} {x1 x2 : Int32} (hG : Geo G SL p q) (h : inB x1 10 = true ∧ (((A 52 x1.toNatClampNeg) < x2 → (((A 52 x1.toNatClampNeg) < x2 → X (d + 1) 120 20 [.ref 49, .int x1, .int x2, .int (x1 - 20), .int (x2 - 20), .int 0] [] (F, A, J, G) Q) ∧ (¬ (A 52 x1.toNatClampNeg) < x2 → X (d + 1) 120 20 [.ref 49, .int x1, .int x2, .int (x1 - 20), .int x2, .int 0] [] (F, A, J, G) Q))) ∧ (¬ (A 52 x1.toNatClampNeg) < x2 → (((A 52 x1.toNatClampNeg) < x2 → X (d + 1) 120 20 [.ref 49, .int x1, .int x2, .int x1, .int (x2 - 20), .int 0] [] (F, A, J, G) Q) ∧ (¬ (A 52 x1.toNatClampNeg) < x2 → X (d + 1) 120 20 [.ref 49, .int x1, .int x2, .int x1, .int x2, .int 0] [] (F, A, J, G) Q))))) : X (d + 1) 120 0 [.ref 49, .int x1, .int x2, .null, .null, .null] [] (F, A, J, G) Q := by
  refine Y_al0 i_120_0 ?_
  refine Y_il1 i_120_1 ?_
  refine Y_il1 i_120_2 ?_
  refine Y_il2 i_120_3 ?_
  refine Y_iv3 (L0 := [.ref 49, .int x1, .int x1, .int x2]) i_120_4 ow_120 lm_8_144 ((k_49 hG).trans ow_121.symm) rfl mx_121 rfl rfl hd_120 ?_
  refine Y_il3 i_121_0 ?_
  refine Y_al0 i_121_1 ?_
  refine Y_gR i_121_2 ow_121 lf_8_18 (k_49 hG) (r_49_11 hG) ?_
  refine Y_il2 i_121_5 ?_
  have o1 := h.1
  replace h := h.2
  refine Y_iaload (k := x1.toNatClampNeg) (v := (A 52 x1.toNatClampNeg)) i_121_6 (k_52 hG) (l_52 hG) o1 rfl rfl ?_
  refine Y_cgt i_121_7 (fun e2 => ?_) (fun e2 => ?_)
  · replace h := h.1 e2
    refine Y_il1 i_121_14 ?_
    refine Y_bipush (v := 20) i_121_15 (by decide) ?_
    refine Y_isub i_121_17 ?_
    refine Y_iret i_121_18 rt_121 (KKi ?_)
    refine Y_is3 i_120_7 rfl ?_
    refine Y_al0 i_120_8 ?_
    refine Y_il2 i_120_9 ?_
    refine Y_il1 i_120_10 ?_
    refine Y_il2 i_120_11 ?_
    refine Y_iv3 (L0 := [.ref 49, .int x2, .int x1, .int x2]) i_120_12 ow_120 lm_8_144 ((k_49 hG).trans ow_121.symm) rfl mx_121 rfl rfl hd_120 ?_
    refine Y_il3 i_121_0 ?_
    refine Y_al0 i_121_1 ?_
    refine Y_gR i_121_2 ow_121 lf_8_18 (k_49 hG) (r_49_11 hG) ?_
    refine Y_il2 i_121_5 ?_
    refine Y_iaload (k := x1.toNatClampNeg) (v := (A 52 x1.toNatClampNeg)) i_121_6 (k_52 hG) (l_52 hG) o1 rfl rfl ?_
    refine Y_cgt i_121_7 (fun e3 => ?_) (fun e3 => ?_)
    · replace h := h.1 e3
      refine Y_il1 i_121_14 ?_
      refine Y_bipush (v := 20) i_121_15 (by decide) ?_
      refine Y_isub i_121_17 ?_
      refine Y_iret i_121_18 rt_121 (KKi ?_)
      refine Y_is4 i_120_15 rfl ?_
      refine Y_iconst (v := 0) i_120_17 (by decide) ?_
      refine Y_is5 i_120_18 rfl ?_
      exact h
    · replace h := h.2 e3
      refine Y_il1 i_121_10 ?_
      refine Y_goto i_121_11 ?_
      refine Y_iret i_121_18 rt_121 (KKi ?_)
      refine Y_is4 i_120_15 rfl ?_
      refine Y_iconst (v := 0) i_120_17 (by decide) ?_
      refine Y_is5 i_120_18 rfl ?_
      exact h
  · replace h := h.2 e2
    refine Y_il1 i_121_10 ?_
    refine Y_goto i_121_11 ?_
    refine Y_iret i_121_18 rt_121 (KKi ?_)
    refine Y_is3 i_120_7 rfl ?_
    refine Y_al0 i_120_8 ?_
    refine Y_il2 i_120_9 ?_
    refine Y_il1 i_120_10 ?_
    refine Y_il2 i_120_11 ?_
    refine Y_iv3 (L0 := [.ref 49, .int x2, .int x1, .int x2]) i_120_12 ow_120 lm_8_144 ((k_49 hG).trans ow_121.symm) rfl mx_121 rfl rfl hd_120 ?_
    refine Y_il3 i_121_0 ?_
    refine Y_al0 i_121_1 ?_
    refine Y_gR i_121_2 ow_121 lf_8_18 (k_49 hG) (r_49_11 hG) ?_
    refine Y_il2 i_121_5 ?_
    refine Y_iaload (k := x1.toNatClampNeg) (v := (A 52 x1.toNatClampNeg)) i_121_6 (k_52 hG) (l_52 hG) o1 rfl rfl ?_
    refine Y_cgt i_121_7 (fun e4 => ?_) (fun e4 => ?_)
    · replace h := h.1 e4
      refine Y_il1 i_121_14 ?_
      refine Y_bipush (v := 20) i_121_15 (by decide) ?_
      refine Y_isub i_121_17 ?_
      refine Y_iret i_121_18 rt_121 (KKi ?_)
      refine Y_is4 i_120_15 rfl ?_
      refine Y_iconst (v := 0) i_120_17 (by decide) ?_
      refine Y_is5 i_120_18 rfl ?_
      exact h
    · replace h := h.2 e4
      refine Y_il1 i_121_10 ?_
      refine Y_goto i_121_11 ?_
      refine Y_iret i_121_18 rt_121 (KKi ?_)
      refine Y_is4 i_120_15 rfl ?_
      refine Y_iconst (v := 0) i_120_17 (by decide) ?_
      refine Y_is5 i_120_18 rfl ?_
      exact h
theorem t_120_20 {d : Nat} {F A : Nat → Nat → Int32} {J : Nat → Nat → Int64} {G : pG} {Q : pR → pM → Prop} {SL p q : Nat} {x1 x2 x3 x4 x5 : Int32} (hG : Geo G SL p q) (h : ((9 < x5 → Q (.inl (some (.int 1))) (F, A, J, G)) ∧ (¬ 9 < x5 → inB x5 10 = true ∧ (((A 52 x5.toNatClampNeg) < x2 → ((x3 < (x5 - 20) → Q (.inl (some (.int 0))) (F, A, J, G)) ∧ (¬ x3 < (x5 - 20) → inB x1 10 = true ∧ (((A 52 x1.toNatClampNeg) < x5 → ((x4 < (x5 - 20) → Q (.inl (some (.int 0))) (F, A, J, G)) ∧ (¬ x4 < (x5 - 20) → X (d + 1) 120 20 [.ref 49, .int x1, .int x2, .int x3, .int x4, .int (x5 + 1)] [] (F, A, J, G) Q))) ∧ (¬ (A 52 x1.toNatClampNeg) < x5 → ((x4 < x5 → Q (.inl (some (.int 0))) (F, A, J, G)) ∧ (¬ x4 < x5 → X (d + 1) 120 20 [.ref 49, .int x1, .int x2, .int x3, .int x4, .int (x5 + 1)] [] (F, A, J, G) Q))))))) ∧ (¬ (A 52 x5.toNatClampNeg) < x2 → ((x3 < x5 → Q (.inl (some (.int 0))) (F, A, J, G)) ∧ (¬ x3 < x5 → inB x1 10 = true ∧ (((A 52 x1.toNatClampNeg) < x5 → ((x4 < (x5 - 20) → Q (.inl (some (.int 0))) (F, A, J, G)) ∧ (¬ x4 < (x5 - 20) → X (d + 1) 120 20 [.ref 49, .int x1, .int x2, .int x3, .int x4, .int (x5 + 1)] [] (F, A, J, G) Q))) ∧ (¬ (A 52 x1.toNatClampNeg) < x5 → ((x4 < x5 → Q (.inl (some (.int 0))) (F, A, J, G)) ∧ (¬ x4 < x5 → X (d + 1) 120 20 [.ref 49, .int x1, .int x2, .int x3, .int x4, .int (x5 + 1)] [] (F, A, J, G) Q))))))))))) : X (d + 1) 120 20 [.ref 49, .int x1, .int x2, .int x3, .int x4, .int x5] [] (F, A, J, G) Q := by
  refine Y_il5 i_120_20 ?_
  refine Y_bipush (v := 9) i_120_22 (by decide) ?_
  refine Y_cgt i_120_24 (fun e1 => ?_) (fun e1 => ?_)
  · replace h := h.1 e1
    refine Y_iconst (v := 1) i_120_62 (by decide) ?_
    exact Y_bret i_120_63 rt_120 (by decide) h
  · replace h := h.2 e1
    refine Y_al0 i_120_27 ?_
    refine Y_il5 i_120_28 ?_
    refine Y_il5 i_120_30 ?_
    refine Y_il2 i_120_32 ?_
    refine Y_iv3 (L0 := [.ref 49, .int x5, .int x5, .int x2]) i_120_33 ow_120 lm_8_144 ((k_49 hG).trans ow_121.symm) rfl mx_121 rfl rfl hd_120 ?_
    refine Y_il3 i_121_0 ?_
    refine Y_al0 i_121_1 ?_
    refine Y_gR i_121_2 ow_121 lf_8_18 (k_49 hG) (r_49_11 hG) ?_
    refine Y_il2 i_121_5 ?_
    have o2 := h.1
    replace h := h.2
    refine Y_iaload (k := x5.toNatClampNeg) (v := (A 52 x5.toNatClampNeg)) i_121_6 (k_52 hG) (l_52 hG) o2 rfl rfl ?_
    refine Y_cgt i_121_7 (fun e3 => ?_) (fun e3 => ?_)
    · replace h := h.1 e3
      refine Y_il1 i_121_14 ?_
      refine Y_bipush (v := 20) i_121_15 (by decide) ?_
      refine Y_isub i_121_17 ?_
      refine Y_iret i_121_18 rt_121 (KKi ?_)
      refine Y_il3 i_120_36 ?_
      refine Y_cgt i_120_37 (fun e4 => ?_) (fun e4 => ?_)
      · replace h := h.1 e4
        refine Y_iconst (v := 0) i_120_54 (by decide) ?_
        exact Y_bret i_120_55 rt_120 (by decide) h
      · replace h := h.2 e4
        refine Y_al0 i_120_40 ?_
        refine Y_il5 i_120_41 ?_
        refine Y_il1 i_120_43 ?_
        refine Y_il5 i_120_44 ?_
        refine Y_iv3 (L0 := [.ref 49, .int x5, .int x1, .int x5]) i_120_46 ow_120 lm_8_144 ((k_49 hG).trans ow_121.symm) rfl mx_121 rfl rfl hd_120 ?_
        refine Y_il3 i_121_0 ?_
        refine Y_al0 i_121_1 ?_
        refine Y_gR i_121_2 ow_121 lf_8_18 (k_49 hG) (r_49_11 hG) ?_
        refine Y_il2 i_121_5 ?_
        have o5 := h.1
        replace h := h.2
        refine Y_iaload (k := x1.toNatClampNeg) (v := (A 52 x1.toNatClampNeg)) i_121_6 (k_52 hG) (l_52 hG) o5 rfl rfl ?_
        refine Y_cgt i_121_7 (fun e6 => ?_) (fun e6 => ?_)
        · replace h := h.1 e6
          refine Y_il1 i_121_14 ?_
          refine Y_bipush (v := 20) i_121_15 (by decide) ?_
          refine Y_isub i_121_17 ?_
          refine Y_iret i_121_18 rt_121 (KKi ?_)
          refine Y_il4 i_120_49 ?_
          refine Y_cle i_120_51 (fun e7 => ?_) (fun e7 => ?_)
          · replace h := h.1 e7
            refine Y_iconst (v := 0) i_120_54 (by decide) ?_
            exact Y_bret i_120_55 rt_120 (by decide) h
          · replace h := h.2 e7
            refine Y_ii5 (v := 1) i_120_56 (by decide) rfl ?_
            refine Y_goto i_120_59 ?_
            exact h
        · replace h := h.2 e6
          refine Y_il1 i_121_10 ?_
          refine Y_goto i_121_11 ?_
          refine Y_iret i_121_18 rt_121 (KKi ?_)
          refine Y_il4 i_120_49 ?_
          refine Y_cle i_120_51 (fun e8 => ?_) (fun e8 => ?_)
          · replace h := h.1 e8
            refine Y_iconst (v := 0) i_120_54 (by decide) ?_
            exact Y_bret i_120_55 rt_120 (by decide) h
          · replace h := h.2 e8
            refine Y_ii5 (v := 1) i_120_56 (by decide) rfl ?_
            refine Y_goto i_120_59 ?_
            exact h
    · replace h := h.2 e3
      refine Y_il1 i_121_10 ?_
      refine Y_goto i_121_11 ?_
      refine Y_iret i_121_18 rt_121 (KKi ?_)
      refine Y_il3 i_120_36 ?_
      refine Y_cgt i_120_37 (fun e9 => ?_) (fun e9 => ?_)
      · replace h := h.1 e9
        refine Y_iconst (v := 0) i_120_54 (by decide) ?_
        exact Y_bret i_120_55 rt_120 (by decide) h
      · replace h := h.2 e9
        refine Y_al0 i_120_40 ?_
        refine Y_il5 i_120_41 ?_
        refine Y_il1 i_120_43 ?_
        refine Y_il5 i_120_44 ?_
        refine Y_iv3 (L0 := [.ref 49, .int x5, .int x1, .int x5]) i_120_46 ow_120 lm_8_144 ((k_49 hG).trans ow_121.symm) rfl mx_121 rfl rfl hd_120 ?_
        refine Y_il3 i_121_0 ?_
        refine Y_al0 i_121_1 ?_
        refine Y_gR i_121_2 ow_121 lf_8_18 (k_49 hG) (r_49_11 hG) ?_
        refine Y_il2 i_121_5 ?_
        have o10 := h.1
        replace h := h.2
        refine Y_iaload (k := x1.toNatClampNeg) (v := (A 52 x1.toNatClampNeg)) i_121_6 (k_52 hG) (l_52 hG) o10 rfl rfl ?_
        refine Y_cgt i_121_7 (fun e11 => ?_) (fun e11 => ?_)
        · replace h := h.1 e11
          refine Y_il1 i_121_14 ?_
          refine Y_bipush (v := 20) i_121_15 (by decide) ?_
          refine Y_isub i_121_17 ?_
          refine Y_iret i_121_18 rt_121 (KKi ?_)
          refine Y_il4 i_120_49 ?_
          refine Y_cle i_120_51 (fun e12 => ?_) (fun e12 => ?_)
          · replace h := h.1 e12
            refine Y_iconst (v := 0) i_120_54 (by decide) ?_
            exact Y_bret i_120_55 rt_120 (by decide) h
          · replace h := h.2 e12
            refine Y_ii5 (v := 1) i_120_56 (by decide) rfl ?_
            refine Y_goto i_120_59 ?_
            exact h
        · replace h := h.2 e11
          refine Y_il1 i_121_10 ?_
          refine Y_goto i_121_11 ?_
          refine Y_iret i_121_18 rt_121 (KKi ?_)
          refine Y_il4 i_120_49 ?_
          refine Y_cle i_120_51 (fun e13 => ?_) (fun e13 => ?_)
          · replace h := h.1 e13
            refine Y_iconst (v := 0) i_120_54 (by decide) ?_
            exact Y_bret i_120_55 rt_120 (by decide) h
          · replace h := h.2 e13
            refine Y_ii5 (v := 1) i_120_56 (by decide) rfl ?_
            refine Y_goto i_120_59 ?_
            exact h
/- 121 Trials.gain(III)I -/
theorem t_121_0 {d : Nat} {F A : Nat → Nat → Int32} {J : Nat → Nat → Int64} {G : pG} {Q : pR → pM → Prop} {SL p q : Nat} {x1 x2 x3 : Int32} (hG : Geo G SL p q) (h : inB x2 10 = true ∧ (((A 52 x2.toNatClampNeg) < x3 → Q (.inl (some (.int (x1 - 20)))) (F, A, J, G)) ∧ (¬ (A 52 x2.toNatClampNeg) < x3 → Q (.inl (some (.int x1))) (F, A, J, G)))) : X d 121 0 [.ref 49, .int x1, .int x2, .int x3] [] (F, A, J, G) Q := by
  refine Y_il3 i_121_0 ?_
  refine Y_al0 i_121_1 ?_
  refine Y_gR i_121_2 ow_121 lf_8_18 (k_49 hG) (r_49_11 hG) ?_
  refine Y_il2 i_121_5 ?_
  have o1 := h.1
  replace h := h.2
  refine Y_iaload (k := x2.toNatClampNeg) (v := (A 52 x2.toNatClampNeg)) i_121_6 (k_52 hG) (l_52 hG) o1 rfl rfl ?_
  refine Y_cgt i_121_7 (fun e2 => ?_) (fun e2 => ?_)
  · replace h := h.1 e2
    refine Y_il1 i_121_14 ?_
    refine Y_bipush (v := 20) i_121_15 (by decide) ?_
    refine Y_isub i_121_17 ?_
    exact Y_iret i_121_18 rt_121 h
  · replace h := h.2 e2
    refine Y_il1 i_121_10 ?_
    refine Y_goto i_121_11 ?_
    exact Y_iret i_121_18 rt_121 h
/- 122 Trials.live(II)V -/
theorem t_122_0 {d : Nat} {F A : Nat → Nat → Int32} {J : Nat → Nat → Int64} {G : pG} {Q : pR → pM → Prop} {SL p q : Nat} {x1 x2 : Int32} (hG : Geo G SL p q) (h : X (d + 5) 122 28 [.ref 49, .int x1, .int x2, .int 1] [] ((bF (wF (wF (wF F 49 8 x1) 49 5 0) 49 6 (-1)) 53 27), (bA A 53 27), J, G) Q) : X (d + 5) 122 0 [.ref 49, .int x1, .int x2, .null] [] (F, A, J, G) Q := by
  refine Y_al0 i_122_0 ?_
  refine Y_il1 i_122_1 ?_
  refine Y_pI i_122_2 ow_122 lf_8_148 (k_49 hG) ?_
  refine Y_al0 i_122_5 ?_
  refine Y_iconst (v := 0) i_122_6 (by decide) ?_
  refine Y_pI i_122_7 ow_122 lf_8_151 (k_49 hG) ?_
  refine Y_al0 i_122_10 ?_
  refine Y_iconst (v := (-1)) i_122_11 (by decide) ?_
  refine Y_pI i_122_12 ow_122 lf_8_154 (k_49 hG) ?_
  refine Y_al0 i_122_15 ?_
  refine Y_gR i_122_16 ow_122 lf_8_34 (k_49 hG) (r_49_2 hG) ?_
  refine Y_al0 i_122_19 ?_
  refine Y_gR i_122_20 ow_122 lf_8_25 (k_49 hG) (r_49_1 hG) ?_
  refine Y_iv1 (L0 := [.ref 53, .ref 27]) i_122_23 ow_122 lm_8_37 ((k_53 hG).trans ow_76.symm) rfl mx_76 rfl rfl hd_122 ?_
  refine c_76_53_27 hG tw_53 (KKv ?_)
  refine Y_iconst (v := 1) i_122_26 (by decide) ?_
  refine Y_is3 i_122_27 rfl ?_
  exact h
theorem t_122_28 {d : Nat} {F A : Nat → Nat → Int32} {J : Nat → Nat → Int64} {G : pG} {Q : pR → pM → Prop} {SL p q : Nat} {x1 x2 x3 : Int32} (hG : Geo G SL p q) (h : ((x2 < x3 → X (d + 4) 84 0 [.ref 53, .null, .null, .null] [] (F, A, J, G) (KK (d + 5) 122 86 [.ref 49, .int x1, .int x2, .int x3] [] Q)) ∧ (¬ x2 < x3 → X (d + 4) 123 0 [.ref 49, .null, .null] [] (F, A, J, G) (KK (d + 5) 122 37 [.ref 49, .int x1, .int x2, .int x3] [] Q)))) : X (d + 5) 122 28 [.ref 49, .int x1, .int x2, .int x3] [] (F, A, J, G) Q := by
  refine Y_il3 i_122_28 ?_
  refine Y_il2 i_122_29 ?_
  refine Y_cgt i_122_30 (fun e1 => ?_) (fun e1 => ?_)
  · replace h := h.1 e1
    refine Y_al0 i_122_79 ?_
    refine Y_gR i_122_80 ow_122 lf_8_34 (k_49 hG) (r_49_2 hG) ?_
    exact Y_iv0 (L0 := [.ref 53, .null, .null, .null]) i_122_83 ow_122 lm_8_160 ((k_53 hG).trans ow_84.symm) rfl mx_84 rfl rfl hd_122 h
  · replace h := h.2 e1
    refine Y_al0 i_122_33 ?_
    exact Y_iv0 (L0 := [.ref 49, .null, .null]) i_122_34 ow_122 lm_8_157 ((k_49 hG).trans ow_123.symm) rfl mx_123 rfl rfl hd_122 h
theorem k_122_37 {d : Nat} {F A : Nat → Nat → Int32} {J : Nat → Nat → Int64} {G : pG} {Q : pR → pM → Prop} {SL p q : Nat} {x1 x2 x3 : Int32} (hG : Geo G SL p q) (h : X (d + 4) 88 0 [.ref 53] [] (F, A, J, G) (KK (d + 5) 122 44 [.ref 49, .int x1, .int x2, .int x3] [] Q)) : KK (d + 5) 122 37 [.ref 49, .int x1, .int x2, .int x3] [] Q (.inl none) (F, A, J, G) := by
  refine KKv ?_
  refine Y_al0 i_122_37 ?_
  refine Y_gR i_122_38 ow_122 lf_8_34 (k_49 hG) (r_49_2 hG) ?_
  exact Y_iv0 (L0 := [.ref 53]) i_122_41 ow_122 lm_8_80 ((k_53 hG).trans ow_88.symm) rfl mx_88 rfl rfl hd_122 h
theorem k_122_44 {d : Nat} {F A : Nat → Nat → Int32} {J : Nat → Nat → Int64} {G : pG} {Q : pR → pM → Prop} {SL p q : Nat} {x1 x2 x3 r r : Int32} (hG : Geo G SL p q) (h : ((r = 0 → (((F 49 6) = (-1) → X (d + 5) 122 28 [.ref 49, .int x1, .int x2, .int (x3 + 1)] [] ((wF F 49 6 x3), A, J, G) Q) ∧ (¬ (F 49 6) = (-1) → X (d + 5) 122 28 [.ref 49, .int x1, .int x2, .int (x3 + 1)] [] (F, A, J, G) Q))) ∧ (¬ r = 0 → X (d + 5) 122 28 [.ref 49, .int x1, .int x2, .int (x3 + 1)] [] ((wF F 49 5 ((F 49 5) + 1)), A, J, G) Q))) : KK (d + 5) 122 44 [.ref 49, .int x1, .int x2, .int x3] [] Q (.inl (some (.int r))) (F, A, J, G) := by
  refine KKi ?_
  refine Y_zeq i_122_44 (fun e1 => ?_) (fun e1 => ?_)
  · replace h := h.1 e1
    refine Y_al0 i_122_60 ?_
    refine Y_gI (v := (F 49 6)) i_122_61 ow_122 lf_8_154 (by decide) (k_49 hG) rfl ?_
    refine Y_iconst (v := (-1)) i_122_64 (by decide) ?_
    refine Y_cne i_122_65 (fun e2 => ?_) (fun e2 => ?_)
    · replace h := h.1 e2
      refine Y_al0 i_122_68 ?_
      refine Y_il3 i_122_69 ?_
      refine Y_pI i_122_70 ow_122 lf_8_154 (k_49 hG) ?_
      refine Y_ii3 (v := 1) i_122_73 (by decide) rfl ?_
      refine Y_goto i_122_76 ?_
      exact h
    · replace h := h.2 e2
      refine Y_ii3 (v := 1) i_122_73 (by decide) rfl ?_
      refine Y_goto i_122_76 ?_
      exact h
  · replace h := h.2 e1
    refine Y_al0 i_122_47 ?_
    refine Y_dup i_122_48 rfl ?_
    refine Y_gI (v := (F 49 5)) i_122_49 ow_122 lf_8_151 (by decide) (k_49 hG) rfl ?_
    refine Y_iconst (v := 1) i_122_52 (by decide) ?_
    refine Y_iadd i_122_53 ?_
    refine Y_pI i_122_54 ow_122 lf_8_151 (k_49 hG) ?_
    refine Y_goto i_122_57 ?_
    refine Y_ii3 (v := 1) i_122_73 (by decide) rfl ?_
    refine Y_goto i_122_76 ?_
    exact h
theorem k_122_86 {d : Nat} {F A : Nat → Nat → Int32} {J : Nat → Nat → Int64} {G : pG} {Q : pR → pM → Prop} {SL p q : Nat} {x1 x2 x3 : Int32} (hG : Geo G SL p q) (h : (((F 53 1) = 0 → Q (.inl none) ((wF F 49 7 0), A, J, G)) ∧ (¬ (F 53 1) = 0 → Q (.inl none) ((wF F 49 7 (A 58 0)), A, J, G)))) : KK (d + 5) 122 86 [.ref 49, .int x1, .int x2, .int x3] [] Q (.inl none) (F, A, J, G) := by
  refine KKv ?_
  refine Y_al0 i_122_86 ?_
  refine Y_al0 i_122_87 ?_
  refine Y_gR i_122_88 ow_122 lf_8_34 (k_49 hG) (r_49_2 hG) ?_
  refine Y_gI (v := (F 53 1)) i_122_91 ow_122 lf_8_74 (by decide) (k_53 hG) rfl ?_
  refine Y_zne i_122_94 (fun e1 => ?_) (fun e1 => ?_)
  · replace h := h.1 e1
    refine Y_iconst (v := 0) i_122_97 (by decide) ?_
    refine Y_goto i_122_98 ?_
    refine Y_pI i_122_110 ow_122 lf_8_166 (k_49 hG) ?_
    exact Y_vret i_122_113 rt_122 h
  · replace h := h.2 e1
    refine Y_al0 i_122_101 ?_
    refine Y_gR i_122_102 ow_122 lf_8_34 (k_49 hG) (r_49_2 hG) ?_
    refine Y_gR i_122_105 ow_122 lf_8_163 (k_53 hG) (r_53_8 hG) ?_
    refine Y_iconst (v := 0) i_122_108 (by decide) ?_
    refine Y_iaload (k := 0) (v := (A 58 0)) i_122_109 (k_58 hG) (l_58 hG) (by decide) (by decide) rfl ?_
    refine Y_pI i_122_110 ow_122 lf_8_166 (k_49 hG) ?_
    exact Y_vret i_122_113 rt_122 h
/- 123 Trials.liveAYear()V -/
theorem t_123_0 {d : Nat} {F A : Nat → Nat → Int32} {J : Nat → Nat → Int64} {G : pG} {Q : pR → pM → Prop} {SL p q : Nat} (hG : Geo G SL p q) (h : (((F 12 0) = 0 → Q (.inl none) ((wF F 53 2 ((F 53 2) + 1)), A, J, G)) ∧ (¬ (F 12 0) = 0 → X d 124 0 [.ref 49, .int (F 12 0)] [] ((wF F 53 2 ((F 53 2) + 1)), A, J, G) (KK (d + 1) 123 35 [.ref 49, .null, .null] [] Q)))) : X (d + 1) 123 0 [.ref 49, .null, .null] [] (F, A, J, G) Q := by
  refine Y_al0 i_123_0 ?_
  refine Y_gR i_123_1 ow_123 lf_8_34 (k_49 hG) (r_49_2 hG) ?_
  refine Y_dup i_123_4 rfl ?_
  refine Y_gI (v := (F 53 2)) i_123_5 ow_123 lf_8_94 (by decide) (k_53 hG) rfl ?_
  refine Y_iconst (v := 1) i_123_8 (by decide) ?_
  refine Y_iadd i_123_9 ?_
  refine Y_pI i_123_10 ow_123 lf_8_94 (k_53 hG) ?_
  refine Y_al0 i_123_13 ?_
  refine Y_gR i_123_14 ow_123 lf_8_21 (k_49 hG) (r_49_0 hG) ?_
  refine Y_gI (v := (F 12 0)) i_123_17 ow_123 lf_8_53 (by decide) (k_12 hG) (by simp [wF, wJ, va_up, cpR, bF, bA]) ?_
  refine Y_zne i_123_20 (fun e1 => ?_) (fun e1 => ?_)
  · replace h := h.1 e1
    exact Y_vret i_123_23 rt_123 h
  · replace h := h.2 e1
    refine Y_al0 i_123_24 ?_
    refine Y_al0 i_123_25 ?_
    refine Y_gR i_123_26 ow_123 lf_8_21 (k_49 hG) (r_49_0 hG) ?_
    refine Y_gI (v := (F 12 0)) i_123_29 ow_123 lf_8_53 (by decide) (k_12 hG) (by simp [wF, wJ, va_up, cpR, bF, bA]) ?_
    exact Y_iv1 (L0 := [.ref 49, .int (F 12 0)]) i_123_32 ow_123 lm_8_169 ((k_49 hG).trans ow_124.symm) rfl mx_124 rfl rfl hd_123 h
theorem k_123_35 {d : Nat} {F A : Nat → Nat → Int32} {J : Nat → Nat → Int64} {G : pG} {Q : pR → pM → Prop} {SL p q : Nat} {r r : Int32} (hG : Geo G SL p q) (h : X d 124 0 [.ref 49, .int 5] [] (F, A, J, G) (KK (d + 1) 123 41 [.ref 49, .int r, .null] [] Q)) : KK (d + 1) 123 35 [.ref 49, .null, .null] [] Q (.inl (some (.int r))) (F, A, J, G) := by
  refine KKi ?_
  refine Y_is1 i_123_35 rfl ?_
  refine Y_al0 i_123_36 ?_
  refine Y_iconst (v := 5) i_123_37 (by decide) ?_
  exact Y_iv1 (L0 := [.ref 49, .int 5]) i_123_38 ow_123 lm_8_169 ((k_49 hG).trans ow_124.symm) rfl mx_124 rfl rfl hd_123 h
theorem k_123_41 {d : Nat} {F A : Nat → Nat → Int32} {J : Nat → Nat → Int64} {G : pG} {Q : pR → pM → Prop} {SL p q : Nat} {x1 r r : Int32} (hG : Geo G SL p q) (h : ((r = 0 → inB x1 10 = true ∧ (Q (.inl none) (F, (wF A 57 x1.toNatClampNeg (jmin 9 ((A 57 x1.toNatClampNeg) + 1))), J, G))) ∧ (¬ r = 0 → ((r = 1 → inB x1 10 = true ∧ (Q (.inl none) (F, (wF A 57 x1.toNatClampNeg (jmax (-9) ((A 57 x1.toNatClampNeg) - 1))), J, G))) ∧ (¬ r = 1 → ((r = 2 → hB (F 53 1) = true ∧ (((lvI (A 54) (F 53 1) x1) = (-1) → Q (.inl none) (F, A, J, G)) ∧ (¬ (lvI (A 54) (F 53 1) x1) = (-1) → inB x1 10 = true ∧ (Q (.inl none) (F, (wF A 55 x1.toNatClampNeg ((A 55 x1.toNatClampNeg) + (A 17 x1.toNatClampNeg))), J, G))))) ∧ (¬ r = 2 → Q (.inl none) (F, A, J, G)))))))) : KK (d + 1) 123 41 [.ref 49, .int x1, .null] [] Q (.inl (some (.int r))) (F, A, J, G) := by
  refine KKi ?_
  refine Y_is2 i_123_41 rfl ?_
  refine Y_il2 i_123_42 ?_
  refine Y_zne i_123_43 (fun e1 => ?_) (fun e1 => ?_)
  · replace h := h.1 e1
    refine Y_al0 i_123_46 ?_
    refine Y_gR i_123_47 ow_123 lf_8_34 (k_49 hG) (r_49_2 hG) ?_
    refine Y_gR i_123_50 ow_123 lf_8_122 (k_53 hG) (r_53_7 hG) ?_
    refine Y_il1 i_123_53 ?_
    refine Y_bipush (v := 9) i_123_54 (by decide) ?_
    refine Y_al0 i_123_56 ?_
    refine Y_gR i_123_57 ow_123 lf_8_34 (k_49 hG) (r_49_2 hG) ?_
    refine Y_gR i_123_60 ow_123 lf_8_122 (k_53 hG) (r_53_7 hG) ?_
    refine Y_il1 i_123_63 ?_
    have o2 := h.1
    replace h := h.2
    refine Y_iaload (k := x1.toNatClampNeg) (v := (A 57 x1.toNatClampNeg)) i_123_64 (k_57 hG) (l_57 hG) o2 rfl rfl ?_
    refine Y_iconst (v := 1) i_123_65 (by decide) ?_
    refine Y_iadd i_123_66 ?_
    refine Y_min i_123_67 ow_123 lm_8_113 rfl ?_
    refine Y_iast i_123_70 (k_57 hG) (l_57 hG) o2 rfl ?_
    refine Y_goto i_123_71 ?_
    exact Y_vret i_123_145 rt_123 h
  · replace h := h.2 e1
    refine Y_il2 i_123_74 ?_
    refine Y_iconst (v := 1) i_123_75 (by decide) ?_
    refine Y_cne i_123_76 (fun e3 => ?_) (fun e3 => ?_)
    · replace h := h.1 e3
      refine Y_al0 i_123_79 ?_
      refine Y_gR i_123_80 ow_123 lf_8_34 (k_49 hG) (r_49_2 hG) ?_
      refine Y_gR i_123_83 ow_123 lf_8_122 (k_53 hG) (r_53_7 hG) ?_
      refine Y_il1 i_123_86 ?_
      refine Y_bipush (v := (-9)) i_123_87 (by decide) ?_
      refine Y_al0 i_123_89 ?_
      refine Y_gR i_123_90 ow_123 lf_8_34 (k_49 hG) (r_49_2 hG) ?_
      refine Y_gR i_123_93 ow_123 lf_8_122 (k_53 hG) (r_53_7 hG) ?_
      refine Y_il1 i_123_96 ?_
      have o4 := h.1
      replace h := h.2
      refine Y_iaload (k := x1.toNatClampNeg) (v := (A 57 x1.toNatClampNeg)) i_123_97 (k_57 hG) (l_57 hG) o4 rfl rfl ?_
      refine Y_iconst (v := 1) i_123_98 (by decide) ?_
      refine Y_isub i_123_99 ?_
      refine Y_max i_123_100 ow_123 lm_8_172 rfl ?_
      refine Y_iast i_123_103 (k_57 hG) (l_57 hG) o4 rfl ?_
      refine Y_goto i_123_104 ?_
      exact Y_vret i_123_145 rt_123 h
    · replace h := h.2 e3
      refine Y_il2 i_123_107 ?_
      refine Y_iconst (v := 2) i_123_108 (by decide) ?_
      refine Y_cne i_123_109 (fun e5 => ?_) (fun e5 => ?_)
      · replace h := h.1 e5
        refine Y_al0 i_123_112 ?_
        refine Y_gR i_123_113 ow_123 lf_8_34 (k_49 hG) (r_49_2 hG) ?_
        refine Y_il1 i_123_116 ?_
        have o6 := h.1
        replace h := h.2
        refine Y_iv1 (L0 := [.ref 53, .int x1, .null]) i_123_117 ow_123 lm_8_41 ((k_53 hG).trans ow_77.symm) rfl mx_77 rfl rfl hd_123 ?_
        refine c_77 hG tw_53 o6 (KKi' (v' := (lvI (A 54) (F 53 1) x1)) (by simp [wF, wJ, va_up, cpR, bF, bA]) ?_)
        refine Y_iconst (v := (-1)) i_123_120 (by decide) ?_
        refine Y_ceq i_123_121 (fun e7 => ?_) (fun e7 => ?_)
        · replace h := h.1 e7
          exact Y_vret i_123_145 rt_123 h
        · replace h := h.2 e7
          refine Y_al0 i_123_124 ?_
          refine Y_gR i_123_125 ow_123 lf_8_34 (k_49 hG) (r_49_2 hG) ?_
          refine Y_gR i_123_128 ow_123 lf_8_88 (k_53 hG) (r_53_5 hG) ?_
          refine Y_il1 i_123_131 ?_
          refine Y_dup2 i_123_132 rfl rfl ?_
          have o8 := h.1
          replace h := h.2
          refine Y_iaload (k := x1.toNatClampNeg) (v := (A 55 x1.toNatClampNeg)) i_123_133 (k_55 hG) (l_55 hG) o8 rfl rfl ?_
          refine Y_al0 i_123_134 ?_
          refine Y_gR i_123_135 ow_123 lf_8_21 (k_49 hG) (r_49_0 hG) ?_
          refine Y_gR i_123_138 ow_123 lf_8_175 (k_12 hG) (r_12_7 hG) ?_
          refine Y_il1 i_123_141 ?_
          refine Y_iaload (k := x1.toNatClampNeg) (v := (A 17 x1.toNatClampNeg)) i_123_142 (k_17 hG) (l_17 hG) o8 rfl rfl ?_
          refine Y_iadd i_123_143 ?_
          refine Y_iast i_123_144 (k_55 hG) (l_55 hG) o8 rfl ?_
          exact Y_vret i_123_145 rt_123 h
      · replace h := h.2 e5
        exact Y_vret i_123_145 rt_123 h
/- 124 Trials.draw(I)I -/
theorem t_124_0 {d : Nat} {F A : Nat → Nat → Int32} {J : Nat → Nat → Int64} {G : pG} {Q : pR → pM → Prop} {SL p q : Nat} {x1 : Int32} (hG : Geo G SL p q) (h : ((0 < x1 → ¬ x1 = 0 ∧ (Q (.inl (some (.int (jrem ((jushr (((F 49 8) * 1103515245) + 12345) 16) &&& 32767) x1)))) ((wF F 49 8 (((F 49 8) * 1103515245) + 12345)), A, J, G))) ∧ (¬ 0 < x1 → Q (.inl (some (.int 0))) ((wF F 49 8 (((F 49 8) * 1103515245) + 12345)), A, J, G)))) : X d 124 0 [.ref 49, .int x1] [] (F, A, J, G) Q := by
  refine Y_al0 i_124_0 ?_
  refine Y_al0 i_124_1 ?_
  refine Y_gI (v := (F 49 8)) i_124_2 ow_124 lf_8_148 (by decide) (k_49 hG) rfl ?_
  refine Y_ldcI i_124_5 ow_124 li_8_178 ?_
  refine Y_imul i_124_7 ?_
  refine Y_sipush (v := 12345) i_124_8 (by decide) ?_
  refine Y_iadd i_124_11 ?_
  refine Y_pI i_124_12 ow_124 lf_8_148 (k_49 hG) ?_
  refine Y_il1 i_124_15 ?_
  refine Y_zgt i_124_16 (fun e1 => ?_) (fun e1 => ?_)
  · replace h := h.1 e1
    refine Y_al0 i_124_23 ?_
    refine Y_gI (v := (((F 49 8) * 1103515245) + 12345)) i_124_24 ow_124 lf_8_148 (by decide) (k_49 hG) (by simp [wF, wJ, va_up, cpR, bF, bA]) ?_
    refine Y_bipush (v := 16) i_124_27 (by decide) ?_
    refine Y_iushr i_124_29 ?_
    refine Y_sipush (v := 32767) i_124_30 (by decide) ?_
    refine Y_iand i_124_33 ?_
    refine Y_il1 i_124_34 ?_
    have o2 := h.1
    replace h := h.2
    refine Y_irem i_124_35 o2 ?_
    exact Y_iret i_124_36 rt_124 h
  · replace h := h.2 e1
    refine Y_iconst (v := 0) i_124_19 (by decide) ?_
    refine Y_goto i_124_20 ?_
    exact Y_iret i_124_36 rt_124 h
/- 126 TableTower.feed(IIIII)I -/
theorem t_126_0 {d : Nat} {F A : Nat → Nat → Int32} {J : Nat → Nat → Int64} {G : pG} {Q : pR → pM → Prop} {SL p q : Nat} {x1 x2 x3 x4 x5 : Int32} (hG : Geo G SL p q) (h : ((600 < ((F 0 1) + 20) → Q (.inl (some (.int (-1)))) (F, A, J, G)) ∧ (¬ 600 < ((F 0 1) + 20) → X d 170 0 [.ref 0, .int x1, .null] [] (F, A, J, G) (KK (d + 1) 126 20 [.ref 0, .int x1, .int x2, .int x3, .int x4, .int x5] [] Q)))) : X (d + 1) 126 0 [.ref 0, .int x1, .int x2, .int x3, .int x4, .int x5] [] (F, A, J, G) Q := by
  refine Y_al0 i_126_0 ?_
  refine Y_gI (v := (F 0 1)) i_126_1 ow_126 lf_9_13 (by decide) (k_0 hG) rfl ?_
  refine Y_bipush (v := 20) i_126_4 (by decide) ?_
  refine Y_iadd i_126_6 ?_
  refine Y_sipush (v := 600) i_126_7 (by decide) ?_
  refine Y_cle i_126_10 (fun e1 => ?_) (fun e1 => ?_)
  · replace h := h.1 e1
    refine Y_iconst (v := (-1)) i_126_13 (by decide) ?_
    exact Y_iret i_126_14 rt_126 h
  · replace h := h.2 e1
    refine Y_al0 i_126_15 ?_
    refine Y_il1 i_126_16 ?_
    exact Y_iv1 (L0 := [.ref 0, .int x1, .null]) i_126_17 ow_126 lm_9_84 ((k_0 hG).trans ow_170.symm) rfl mx_170 rfl rfl hd_126 h
theorem k_126_20 {d : Nat} {F A : Nat → Nat → Int32} {J : Nat → Nat → Int64} {G : pG} {Q : pR → pM → Prop} {SL p q : Nat} {x1 x2 x3 x4 x5 : Int32} (hG : Geo G SL p q) (h : X d 170 0 [.ref 0, .int x2, .null] [] (F, A, J, G) (KK (d + 1) 126 25 [.ref 0, .int x1, .int x2, .int x3, .int x4, .int x5] [] Q)) : KK (d + 1) 126 20 [.ref 0, .int x1, .int x2, .int x3, .int x4, .int x5] [] Q (.inl none) (F, A, J, G) := by
  refine KKv ?_
  refine Y_al0 i_126_20 ?_
  refine Y_il2 i_126_21 ?_
  exact Y_iv1 (L0 := [.ref 0, .int x2, .null]) i_126_22 ow_126 lm_9_84 ((k_0 hG).trans ow_170.symm) rfl mx_170 rfl rfl hd_126 h
theorem k_126_25 {d : Nat} {F A : Nat → Nat → Int32} {J : Nat → Nat → Int64} {G : pG} {Q : pR → pM → Prop} {SL p q : Nat} {x1 x2 x3 x4 x5 : Int32} (hG : Geo G SL p q) (h : X d 170 0 [.ref 0, .int x3, .null] [] (F, A, J, G) (KK (d + 1) 126 30 [.ref 0, .int x1, .int x2, .int x3, .int x4, .int x5] [] Q)) : KK (d + 1) 126 25 [.ref 0, .int x1, .int x2, .int x3, .int x4, .int x5] [] Q (.inl none) (F, A, J, G) := by
  refine KKv ?_
  refine Y_al0 i_126_25 ?_
  refine Y_il3 i_126_26 ?_
  exact Y_iv1 (L0 := [.ref 0, .int x3, .null]) i_126_27 ow_126 lm_9_84 ((k_0 hG).trans ow_170.symm) rfl mx_170 rfl rfl hd_126 h
theorem k_126_30 {d : Nat} {F A : Nat → Nat → Int32} {J : Nat → Nat → Int64} {G : pG} {Q : pR → pM → Prop} {SL p q : Nat} {x1 x2 x3 x4 x5 : Int32} (hG : Geo G SL p q) (h : X d 170 0 [.ref 0, .int x4, .null] [] (F, A, J, G) (KK (d + 1) 126 36 [.ref 0, .int x1, .int x2, .int x3, .int x4, .int x5] [] Q)) : KK (d + 1) 126 30 [.ref 0, .int x1, .int x2, .int x3, .int x4, .int x5] [] Q (.inl none) (F, A, J, G) := by
  refine KKv ?_
  refine Y_al0 i_126_30 ?_
  refine Y_il4 i_126_31 ?_
  exact Y_iv1 (L0 := [.ref 0, .int x4, .null]) i_126_33 ow_126 lm_9_84 ((k_0 hG).trans ow_170.symm) rfl mx_170 rfl rfl hd_126 h
theorem k_126_36 {d : Nat} {F A : Nat → Nat → Int32} {J : Nat → Nat → Int64} {G : pG} {Q : pR → pM → Prop} {SL p q : Nat} {x1 x2 x3 x4 x5 : Int32} (hG : Geo G SL p q) (h : X d 170 0 [.ref 0, .int x5, .null] [] (F, A, J, G) (KK (d + 1) 126 42 [.ref 0, .int x1, .int x2, .int x3, .int x4, .int x5] [] Q)) : KK (d + 1) 126 36 [.ref 0, .int x1, .int x2, .int x3, .int x4, .int x5] [] Q (.inl none) (F, A, J, G) := by
  refine KKv ?_
  refine Y_al0 i_126_36 ?_
  refine Y_il5 i_126_37 ?_
  exact Y_iv1 (L0 := [.ref 0, .int x5, .null]) i_126_39 ow_126 lm_9_84 ((k_0 hG).trans ow_170.symm) rfl mx_170 rfl rfl hd_126 h
theorem k_126_42 {d : Nat} {F A : Nat → Nat → Int32} {J : Nat → Nat → Int64} {G : pG} {Q : pR → pM → Prop} {SL p q : Nat} {x1 x2 x3 x4 x5 : Int32} (hG : Geo G SL p q) (h : Q (.inl (some (.int (F 0 1)))) (F, A, J, G)) : KK (d + 1) 126 42 [.ref 0, .int x1, .int x2, .int x3, .int x4, .int x5] [] Q (.inl none) (F, A, J, G) := by
  refine KKv ?_
  refine Y_al0 i_126_42 ?_
  refine Y_gI (v := (F 0 1)) i_126_43 ow_126 lf_9_13 (by decide) (k_0 hG) rfl ?_
  exact Y_iret i_126_46 rt_126 h
/- 127 TableTower.town(I)I -/
theorem t_127_0 {d : Nat} {F A : Nat → Nat → Int32} {J : Nat → Nat → Int64} {G : pG} {Q : pR → pM → Prop} {SL p q : Nat} {x1 : Int32} (hG : Geo G SL p q) (h : ((x1 < 0 → Q (.inr 100) (F, A, J, gThr G)) ∧ (¬ x1 < 0 → (((F 0 1) < x1 → Q (.inr 100) (F, A, J, gThr G)) ∧ (¬ (F 0 1) < x1 → X (d + 5) 29 0 [.ref 11, .int x1, .null] [] (F, A, J, G) (KK (d + 6) 127 30 [.ref 0, .int x1, .null] [] Q)))))) : X (d + 6) 127 0 [.ref 0, .int x1, .null] [] (F, A, J, G) Q := by
  refine Y_il1 i_127_0 ?_
  refine Y_zlt i_127_1 (fun e1 => ?_) (fun e1 => ?_)
  · replace h := h.1 e1
    exact Y_thr i_127_12 ow_127 lc_9_88 (by decide +kernel) rfl h
  · replace h := h.2 e1
    refine Y_il1 i_127_4 ?_
    refine Y_al0 i_127_5 ?_
    refine Y_gI (v := (F 0 1)) i_127_6 ow_127 lf_9_13 (by decide) (k_0 hG) rfl ?_
    refine Y_cle i_127_9 (fun e2 => ?_) (fun e2 => ?_)
    · replace h := h.1 e2
      exact Y_thr i_127_12 ow_127 lc_9_88 (by decide +kernel) rfl h
    · replace h := h.2 e2
      refine Y_al0 i_127_22 ?_
      refine Y_gR i_127_23 ow_127 lf_9_36 (k_0 hG) (r_0_4 hG) ?_
      refine Y_il1 i_127_26 ?_
      exact Y_iv1 (L0 := [.ref 11, .int x1, .null]) i_127_27 ow_127 lm_9_95 ((k_11 hG).trans ow_29.symm) rfl mx_29 rfl rfl hd_127 h
theorem k_127_30 {d : Nat} {F A : Nat → Nat → Int32} {J : Nat → Nat → Int64} {G : pG} {Q : pR → pM → Prop} {SL p q : Nat} {x1 r r : Int32} (hG : Geo G SL p q) (h : ((r = 0 → ((r = 0 → (¬ (0 : Int32) < 0 ∧ ¬ (0 : Int32) < 0 ∧ ¬ (F 8 1) < 0 ∧ (0 : Int32).toNatClampNeg + (F 8 1).toNatClampNeg ≤ 600 ∧ (0 : Int32).toNatClampNeg + (F 8 1).toNatClampNeg ≤ 600) ∧ (X (d + 5) 61 0 [.ref 21] [] ((wF (wF (wF (wF (wF (wF F 0 1 0) 0 2 (-1)) 12 0 (F 2 0)) 12 1 (F 2 1)) 12 2 (F 2 2)) 18 1 (F 8 1)), (cpR (cpR (cpR (cpR (cpR (cpR A 13 3 0 0 10) 14 4 0 0 10) 15 5 0 0 10) 16 6 0 0 10) 17 7 0 0 10) 19 9 0 0 (F 8 1).toNatClampNeg), J, G) (KK (d + 6) 127 88 [.ref 0, .int x1, .int r] [] Q))) ∧ (¬ r = 0 → Q (.inl (some (.int r))) ((wF (wF F 0 1 0) 0 2 (-1)), (wF A 26 0 ((A 26 0) + 1)), J, G)))) ∧ (¬ r = 0 → ((r = 0 → (¬ (0 : Int32) < 0 ∧ ¬ (0 : Int32) < 0 ∧ ¬ (F 8 1) < 0 ∧ (0 : Int32).toNatClampNeg + (F 8 1).toNatClampNeg ≤ 600 ∧ (0 : Int32).toNatClampNeg + (F 8 1).toNatClampNeg ≤ 600) ∧ (X (d + 5) 61 0 [.ref 21] [] ((wF (wF (wF (wF (wF (wF F 0 1 0) 0 2 (F 11 0)) 12 0 (F 2 0)) 12 1 (F 2 1)) 12 2 (F 2 2)) 18 1 (F 8 1)), (cpR (cpR (cpR (cpR (cpR (cpR A 13 3 0 0 10) 14 4 0 0 10) 15 5 0 0 10) 16 6 0 0 10) 17 7 0 0 10) 19 9 0 0 (F 8 1).toNatClampNeg), J, G) (KK (d + 6) 127 88 [.ref 0, .int x1, .int r] [] Q))) ∧ (¬ r = 0 → Q (.inl (some (.int r))) ((wF (wF F 0 1 0) 0 2 (F 11 0)), (wF A 26 0 ((A 26 0) + 1)), J, G)))))) : KK (d + 6) 127 30 [.ref 0, .int x1, .null] [] Q (.inl (some (.int r))) (F, A, J, G) := by
  refine KKi ?_
  refine Y_is2 i_127_30 rfl ?_
  refine Y_al0 i_127_31 ?_
  refine Y_iconst (v := 0) i_127_32 (by decide) ?_
  refine Y_pI i_127_33 ow_127 lf_9_13 (k_0 hG) ?_
  refine Y_al0 i_127_36 ?_
  refine Y_il2 i_127_37 ?_
  refine Y_zne i_127_38 (fun e1 => ?_) (fun e1 => ?_)
  · replace h := h.1 e1
    refine Y_iconst (v := (-1)) i_127_41 (by decide) ?_
    refine Y_goto i_127_42 ?_
    refine Y_pI i_127_52 ow_127 lf_9_17 (k_0 hG) ?_
    refine Y_il2 i_127_55 ?_
    refine Y_zeq i_127_56 (fun e2 => ?_) (fun e2 => ?_)
    · replace h := h.1 e2
      refine Y_al0 i_127_70 ?_
      refine Y_gR i_127_71 ow_127 lf_9_40 (k_0 hG) (r_0_6 hG) ?_
      refine Y_al0 i_127_74 ?_
      refine Y_gR i_127_75 ow_127 lf_9_27 (k_0 hG) (r_0_5 hG) ?_
      refine Y_iv1 (L0 := [.ref 12, .ref 2]) i_127_78 ow_127 lm_9_105 ((k_12 hG).trans ow_99.symm) rfl mx_99 rfl rfl hd_127 ?_
      refine Y_al0 i_99_0 ?_
      refine Y_al1 i_99_1 ?_
      refine Y_gI (v := (F 2 0)) i_99_2 ow_99 lf_7_37 (by decide) (k_2 hG) (by simp [wF, wJ, va_up, cpR, bF, bA]) ?_
      refine Y_pI i_99_5 ow_99 lf_7_37 (k_12 hG) ?_
      refine Y_al0 i_99_8 ?_
      refine Y_al1 i_99_9 ?_
      refine Y_gI (v := (F 2 1)) i_99_10 ow_99 lf_7_41 (by decide) (k_2 hG) (by simp [wF, wJ, va_up, cpR, bF, bA]) ?_
      refine Y_pI i_99_13 ow_99 lf_7_41 (k_12 hG) ?_
      refine Y_al0 i_99_16 ?_
      refine Y_al1 i_99_17 ?_
      refine Y_gI (v := (F 2 2)) i_99_18 ow_99 lf_7_44 (by decide) (k_2 hG) (by simp [wF, wJ, va_up, cpR, bF, bA]) ?_
      refine Y_pI i_99_21 ow_99 lf_7_44 (k_12 hG) ?_
      refine Y_al1 i_99_24 ?_
      refine Y_gR i_99_25 ow_99 lf_7_9 (k_2 hG) (r_2_3 hG) ?_
      refine Y_iconst (v := 0) i_99_28 (by decide) ?_
      refine Y_al0 i_99_29 ?_
      refine Y_gR i_99_30 ow_99 lf_7_9 (k_12 hG) (r_12_3 hG) ?_
      refine Y_iconst (v := 0) i_99_33 (by decide) ?_
      refine Y_bipush (v := 10) i_99_34 (by decide) ?_
      refine Y_acp (ksp := 0) (kdp := 0) (kn := 10) i_99_36 ow_99 lm_7_50 rfl (k_13 hG) (k_3 hG) (l_13 hG) (l_3 hG) (by decide) (by decide) (by decide) (by decide) ?_
      refine Y_al1 i_99_39 ?_
      refine Y_gR i_99_40 ow_99 lf_7_15 (k_2 hG) (r_2_4 hG) ?_
      refine Y_iconst (v := 0) i_99_43 (by decide) ?_
      refine Y_al0 i_99_44 ?_
      refine Y_gR i_99_45 ow_99 lf_7_15 (k_12 hG) (r_12_4 hG) ?_
      refine Y_iconst (v := 0) i_99_48 (by decide) ?_
      refine Y_bipush (v := 10) i_99_49 (by decide) ?_
      refine Y_acp (ksp := 0) (kdp := 0) (kn := 10) i_99_51 ow_99 lm_7_50 rfl (k_14 hG) (k_4 hG) (l_14 hG) (l_4 hG) (by decide) (by decide) (by decide) (by decide) ?_
      refine Y_al1 i_99_54 ?_
      refine Y_gR i_99_55 ow_99 lf_7_18 (k_2 hG) (r_2_5 hG) ?_
      refine Y_iconst (v := 0) i_99_58 (by decide) ?_
      refine Y_al0 i_99_59 ?_
      refine Y_gR i_99_60 ow_99 lf_7_18 (k_12 hG) (r_12_5 hG) ?_
      refine Y_iconst (v := 0) i_99_63 (by decide) ?_
      refine Y_bipush (v := 10) i_99_64 (by decide) ?_
      refine Y_acp (ksp := 0) (kdp := 0) (kn := 10) i_99_66 ow_99 lm_7_50 rfl (k_15 hG) (k_5 hG) (l_15 hG) (l_5 hG) (by decide) (by decide) (by decide) (by decide) ?_
      refine Y_al1 i_99_69 ?_
      refine Y_gR i_99_70 ow_99 lf_7_21 (k_2 hG) (r_2_6 hG) ?_
      refine Y_iconst (v := 0) i_99_73 (by decide) ?_
      refine Y_al0 i_99_74 ?_
      refine Y_gR i_99_75 ow_99 lf_7_21 (k_12 hG) (r_12_6 hG) ?_
      refine Y_iconst (v := 0) i_99_78 (by decide) ?_
      refine Y_bipush (v := 10) i_99_79 (by decide) ?_
      refine Y_acp (ksp := 0) (kdp := 0) (kn := 10) i_99_81 ow_99 lm_7_50 rfl (k_16 hG) (k_6 hG) (l_16 hG) (l_6 hG) (by decide) (by decide) (by decide) (by decide) ?_
      refine Y_al1 i_99_84 ?_
      refine Y_gR i_99_85 ow_99 lf_7_24 (k_2 hG) (r_2_7 hG) ?_
      refine Y_iconst (v := 0) i_99_88 (by decide) ?_
      refine Y_al0 i_99_89 ?_
      refine Y_gR i_99_90 ow_99 lf_7_24 (k_12 hG) (r_12_7 hG) ?_
      refine Y_iconst (v := 0) i_99_93 (by decide) ?_
      refine Y_bipush (v := 10) i_99_94 (by decide) ?_
      refine Y_acp (ksp := 0) (kdp := 0) (kn := 10) i_99_96 ow_99 lm_7_50 rfl (k_17 hG) (k_7 hG) (l_17 hG) (l_7 hG) (by decide) (by decide) (by decide) (by decide) ?_
      refine Y_al0 i_99_99 ?_
      refine Y_gR i_99_100 ow_99 lf_7_30 (k_12 hG) (r_12_8 hG) ?_
      refine Y_al1 i_99_103 ?_
      refine Y_gR i_99_104 ow_99 lf_7_30 (k_2 hG) (r_2_8 hG) ?_
      refine Y_iv1 (L0 := [.ref 18, .ref 8]) i_99_107 ow_99 lm_7_56 ((k_18 hG).trans ow_53.symm) rfl mx_53 rfl rfl hd_99 ?_
      refine Y_al0 i_53_0 ?_
      refine Y_al1 i_53_1 ?_
      refine Y_gI (v := (F 8 1)) i_53_2 ow_53 lf_4_18 (by decide) (k_8 hG) (by simp [wF, wJ, va_up, cpR, bF, bA]) ?_
      refine Y_pI i_53_5 ow_53 lf_4_18 (k_18 hG) ?_
      refine Y_al1 i_53_8 ?_
      refine Y_gR i_53_9 ow_53 lf_4_9 (k_8 hG) (r_8_0 hG) ?_
      refine Y_iconst (v := 0) i_53_12 (by decide) ?_
      refine Y_al0 i_53_13 ?_
      refine Y_gR i_53_14 ow_53 lf_4_9 (k_18 hG) (r_18_0 hG) ?_
      refine Y_iconst (v := 0) i_53_17 (by decide) ?_
      refine Y_al0 i_53_18 ?_
      refine Y_gI (v := (F 8 1)) i_53_19 ow_53 lf_4_18 (by decide) (k_18 hG) (by simp [wF, wJ, va_up, cpR, bF, bA]) ?_
      have o3 := h.1
      replace h := h.2
      refine Y_acp (ksp := 0) (kdp := 0) (kn := (F 8 1).toNatClampNeg) i_53_22 ow_53 lm_4_22 rfl (k_19 hG) (k_9 hG) (l_19 hG) (l_9 hG) o3 (by decide) (by decide) rfl ?_
      refine Y_vret i_53_25 rt_53 (KKv ?_)
      refine Y_vret i_99_110 rt_99 (KKv ?_)
      refine Y_al0 i_127_81 ?_
      refine Y_gR i_127_82 ow_127 lf_9_48 (k_0 hG) (r_0_7 hG) ?_
      exact Y_iv0 (L0 := [.ref 21]) i_127_85 ow_127 lm_9_108 ((k_21 hG).trans ow_61.symm) rfl mx_61 rfl rfl hd_127 h
    · replace h := h.2 e2
      refine Y_al0 i_127_59 ?_
      refine Y_gR i_127_60 ow_127 lf_9_48 (k_0 hG) (r_0_7 hG) ?_
      refine Y_iconst (v := 0) i_127_63 (by decide) ?_
      refine Y_iv1 (L0 := [.ref 21, .int 0]) i_127_64 ow_127 lm_9_102 ((k_21 hG).trans ow_63.symm) rfl mx_63 rfl rfl hd_127 ?_
      refine Y_al0 i_63_0 ?_
      refine Y_gR i_63_1 ow_63 lf_5_25 (k_21 hG) (r_21_5 hG) ?_
      refine Y_il1 i_63_4 ?_
      refine Y_dup2 i_63_5 rfl rfl ?_
      refine Y_iaload (k := 0) (v := (A 26 0)) i_63_6 (k_26 hG) (l_26 hG) (by decide) (by decide) rfl ?_
      refine Y_iconst (v := 1) i_63_7 (by decide) ?_
      refine Y_iadd i_63_8 ?_
      refine Y_iast (k := 0) i_63_9 (k_26 hG) (l_26 hG) (by decide) (by decide) ?_
      refine Y_iconst (v := (-1)) i_63_10 (by decide) ?_
      refine Y_iret i_63_11 rt_63 (KKi ?_)
      refine Y_pop i_127_67 rfl ?_
      refine Y_il2 i_127_68 ?_
      exact Y_iret i_127_69 rt_127 h
  · replace h := h.2 e1
    refine Y_al0 i_127_45 ?_
    refine Y_gR i_127_46 ow_127 lf_9_36 (k_0 hG) (r_0_4 hG) ?_
    refine Y_gI (v := (F 11 0)) i_127_49 ow_127 lf_9_99 (by decide) (k_11 hG) (by simp [wF, wJ, va_up, cpR, bF, bA]) ?_
    refine Y_pI i_127_52 ow_127 lf_9_17 (k_0 hG) ?_
    refine Y_il2 i_127_55 ?_
    refine Y_zeq i_127_56 (fun e4 => ?_) (fun e4 => ?_)
    · replace h := h.1 e4
      refine Y_al0 i_127_70 ?_
      refine Y_gR i_127_71 ow_127 lf_9_40 (k_0 hG) (r_0_6 hG) ?_
      refine Y_al0 i_127_74 ?_
      refine Y_gR i_127_75 ow_127 lf_9_27 (k_0 hG) (r_0_5 hG) ?_
      refine Y_iv1 (L0 := [.ref 12, .ref 2]) i_127_78 ow_127 lm_9_105 ((k_12 hG).trans ow_99.symm) rfl mx_99 rfl rfl hd_127 ?_
      refine Y_al0 i_99_0 ?_
      refine Y_al1 i_99_1 ?_
      refine Y_gI (v := (F 2 0)) i_99_2 ow_99 lf_7_37 (by decide) (k_2 hG) (by simp [wF, wJ, va_up, cpR, bF, bA]) ?_
      refine Y_pI i_99_5 ow_99 lf_7_37 (k_12 hG) ?_
      refine Y_al0 i_99_8 ?_
      refine Y_al1 i_99_9 ?_
      refine Y_gI (v := (F 2 1)) i_99_10 ow_99 lf_7_41 (by decide) (k_2 hG) (by simp [wF, wJ, va_up, cpR, bF, bA]) ?_
      refine Y_pI i_99_13 ow_99 lf_7_41 (k_12 hG) ?_
      refine Y_al0 i_99_16 ?_
      refine Y_al1 i_99_17 ?_
      refine Y_gI (v := (F 2 2)) i_99_18 ow_99 lf_7_44 (by decide) (k_2 hG) (by simp [wF, wJ, va_up, cpR, bF, bA]) ?_
      refine Y_pI i_99_21 ow_99 lf_7_44 (k_12 hG) ?_
      refine Y_al1 i_99_24 ?_
      refine Y_gR i_99_25 ow_99 lf_7_9 (k_2 hG) (r_2_3 hG) ?_
      refine Y_iconst (v := 0) i_99_28 (by decide) ?_
      refine Y_al0 i_99_29 ?_
      refine Y_gR i_99_30 ow_99 lf_7_9 (k_12 hG) (r_12_3 hG) ?_
      refine Y_iconst (v := 0) i_99_33 (by decide) ?_
      refine Y_bipush (v := 10) i_99_34 (by decide) ?_
      refine Y_acp (ksp := 0) (kdp := 0) (kn := 10) i_99_36 ow_99 lm_7_50 rfl (k_13 hG) (k_3 hG) (l_13 hG) (l_3 hG) (by decide) (by decide) (by decide) (by decide) ?_
      refine Y_al1 i_99_39 ?_
      refine Y_gR i_99_40 ow_99 lf_7_15 (k_2 hG) (r_2_4 hG) ?_
      refine Y_iconst (v := 0) i_99_43 (by decide) ?_
      refine Y_al0 i_99_44 ?_
      refine Y_gR i_99_45 ow_99 lf_7_15 (k_12 hG) (r_12_4 hG) ?_
      refine Y_iconst (v := 0) i_99_48 (by decide) ?_
      refine Y_bipush (v := 10) i_99_49 (by decide) ?_
      refine Y_acp (ksp := 0) (kdp := 0) (kn := 10) i_99_51 ow_99 lm_7_50 rfl (k_14 hG) (k_4 hG) (l_14 hG) (l_4 hG) (by decide) (by decide) (by decide) (by decide) ?_
      refine Y_al1 i_99_54 ?_
      refine Y_gR i_99_55 ow_99 lf_7_18 (k_2 hG) (r_2_5 hG) ?_
      refine Y_iconst (v := 0) i_99_58 (by decide) ?_
      refine Y_al0 i_99_59 ?_
      refine Y_gR i_99_60 ow_99 lf_7_18 (k_12 hG) (r_12_5 hG) ?_
      refine Y_iconst (v := 0) i_99_63 (by decide) ?_
      refine Y_bipush (v := 10) i_99_64 (by decide) ?_
      refine Y_acp (ksp := 0) (kdp := 0) (kn := 10) i_99_66 ow_99 lm_7_50 rfl (k_15 hG) (k_5 hG) (l_15 hG) (l_5 hG) (by decide) (by decide) (by decide) (by decide) ?_
      refine Y_al1 i_99_69 ?_
      refine Y_gR i_99_70 ow_99 lf_7_21 (k_2 hG) (r_2_6 hG) ?_
      refine Y_iconst (v := 0) i_99_73 (by decide) ?_
      refine Y_al0 i_99_74 ?_
      refine Y_gR i_99_75 ow_99 lf_7_21 (k_12 hG) (r_12_6 hG) ?_
      refine Y_iconst (v := 0) i_99_78 (by decide) ?_
      refine Y_bipush (v := 10) i_99_79 (by decide) ?_
      refine Y_acp (ksp := 0) (kdp := 0) (kn := 10) i_99_81 ow_99 lm_7_50 rfl (k_16 hG) (k_6 hG) (l_16 hG) (l_6 hG) (by decide) (by decide) (by decide) (by decide) ?_
      refine Y_al1 i_99_84 ?_
      refine Y_gR i_99_85 ow_99 lf_7_24 (k_2 hG) (r_2_7 hG) ?_
      refine Y_iconst (v := 0) i_99_88 (by decide) ?_
      refine Y_al0 i_99_89 ?_
      refine Y_gR i_99_90 ow_99 lf_7_24 (k_12 hG) (r_12_7 hG) ?_
      refine Y_iconst (v := 0) i_99_93 (by decide) ?_
      refine Y_bipush (v := 10) i_99_94 (by decide) ?_
      refine Y_acp (ksp := 0) (kdp := 0) (kn := 10) i_99_96 ow_99 lm_7_50 rfl (k_17 hG) (k_7 hG) (l_17 hG) (l_7 hG) (by decide) (by decide) (by decide) (by decide) ?_
      refine Y_al0 i_99_99 ?_
      refine Y_gR i_99_100 ow_99 lf_7_30 (k_12 hG) (r_12_8 hG) ?_
      refine Y_al1 i_99_103 ?_
      refine Y_gR i_99_104 ow_99 lf_7_30 (k_2 hG) (r_2_8 hG) ?_
      refine Y_iv1 (L0 := [.ref 18, .ref 8]) i_99_107 ow_99 lm_7_56 ((k_18 hG).trans ow_53.symm) rfl mx_53 rfl rfl hd_99 ?_
      refine Y_al0 i_53_0 ?_
      refine Y_al1 i_53_1 ?_
      refine Y_gI (v := (F 8 1)) i_53_2 ow_53 lf_4_18 (by decide) (k_8 hG) (by simp [wF, wJ, va_up, cpR, bF, bA]) ?_
      refine Y_pI i_53_5 ow_53 lf_4_18 (k_18 hG) ?_
      refine Y_al1 i_53_8 ?_
      refine Y_gR i_53_9 ow_53 lf_4_9 (k_8 hG) (r_8_0 hG) ?_
      refine Y_iconst (v := 0) i_53_12 (by decide) ?_
      refine Y_al0 i_53_13 ?_
      refine Y_gR i_53_14 ow_53 lf_4_9 (k_18 hG) (r_18_0 hG) ?_
      refine Y_iconst (v := 0) i_53_17 (by decide) ?_
      refine Y_al0 i_53_18 ?_
      refine Y_gI (v := (F 8 1)) i_53_19 ow_53 lf_4_18 (by decide) (k_18 hG) (by simp [wF, wJ, va_up, cpR, bF, bA]) ?_
      have o5 := h.1
      replace h := h.2
      refine Y_acp (ksp := 0) (kdp := 0) (kn := (F 8 1).toNatClampNeg) i_53_22 ow_53 lm_4_22 rfl (k_19 hG) (k_9 hG) (l_19 hG) (l_9 hG) o5 (by decide) (by decide) rfl ?_
      refine Y_vret i_53_25 rt_53 (KKv ?_)
      refine Y_vret i_99_110 rt_99 (KKv ?_)
      refine Y_al0 i_127_81 ?_
      refine Y_gR i_127_82 ow_127 lf_9_48 (k_0 hG) (r_0_7 hG) ?_
      exact Y_iv0 (L0 := [.ref 21]) i_127_85 ow_127 lm_9_108 ((k_21 hG).trans ow_61.symm) rfl mx_61 rfl rfl hd_127 h
    · replace h := h.2 e4
      refine Y_al0 i_127_59 ?_
      refine Y_gR i_127_60 ow_127 lf_9_48 (k_0 hG) (r_0_7 hG) ?_
      refine Y_iconst (v := 0) i_127_63 (by decide) ?_
      refine Y_iv1 (L0 := [.ref 21, .int 0]) i_127_64 ow_127 lm_9_102 ((k_21 hG).trans ow_63.symm) rfl mx_63 rfl rfl hd_127 ?_
      refine Y_al0 i_63_0 ?_
      refine Y_gR i_63_1 ow_63 lf_5_25 (k_21 hG) (r_21_5 hG) ?_
      refine Y_il1 i_63_4 ?_
      refine Y_dup2 i_63_5 rfl rfl ?_
      refine Y_iaload (k := 0) (v := (A 26 0)) i_63_6 (k_26 hG) (l_26 hG) (by decide) (by decide) rfl ?_
      refine Y_iconst (v := 1) i_63_7 (by decide) ?_
      refine Y_iadd i_63_8 ?_
      refine Y_iast (k := 0) i_63_9 (k_26 hG) (l_26 hG) (by decide) (by decide) ?_
      refine Y_iconst (v := (-1)) i_63_10 (by decide) ?_
      refine Y_iret i_63_11 rt_63 (KKi ?_)
      refine Y_pop i_127_67 rfl ?_
      refine Y_il2 i_127_68 ?_
      exact Y_iret i_127_69 rt_127 h
theorem k_127_88 {d : Nat} {F A : Nat → Nat → Int32} {J : Nat → Nat → Int64} {G : pG} {Q : pR → pM → Prop} {SL p q : Nat} {x1 x2 : Int32} (hG : Geo G SL p q) (h : Q (.inl (some (.int 0))) ((wF F 0 3 0), A, J, G)) : KK (d + 6) 127 88 [.ref 0, .int x1, .int x2] [] Q (.inl none) (F, A, J, G) := by
  refine KKv ?_
  refine Y_al0 i_127_88 ?_
  refine Y_iconst (v := 0) i_127_89 (by decide) ?_
  refine Y_pB i_127_90 ow_127 lf_9_20 (k_0 hG) (by decide) ?_
  refine Y_iconst (v := 0) i_127_93 (by decide) ?_
  exact Y_iret i_127_94 rt_127 h
/- 128 TableTower.fault()I -/
theorem t_128_0 {d : Nat} {F A : Nat → Nat → Int32} {J : Nat → Nat → Int64} {G : pG} {Q : pR → pM → Prop} {SL p q : Nat} (hG : Geo G SL p q) (h : Q (.inl (some (.int (F 0 2)))) (F, A, J, G)) : X d 128 0 [.ref 0] [] (F, A, J, G) Q := by
  refine Y_al0 i_128_0 ?_
  refine Y_gI (v := (F 0 2)) i_128_1 ow_128 lf_9_17 (by decide) (k_0 hG) rfl ?_
  exact Y_iret i_128_4 rt_128 h
/- 129 TableTower.count(I)I -/
theorem t_129_0 {d : Nat} {F A : Nat → Nat → Int32} {J : Nat → Nat → Int64} {G : pG} {Q : pR → pM → Prop} {SL p q : Nat} {x1 : Int32} (hG : Geo G SL p q) (h : ((x1 = 0 → Q (.inl (some (.int (F 12 0)))) (F, A, J, G)) ∧ (x1 = 1 → Q (.inl (some (.int (F 27 1)))) (F, A, J, G)) ∧ (x1 = 2 → Q (.inl (some (.int (F 12 1)))) (F, A, J, G)) ∧ (x1 = 3 → Q (.inl (some (.int (F 12 2)))) (F, A, J, G)) ∧ (x1 = 4 → X (d + 4) 88 0 [.ref 27] [] (F, A, J, G) (KK (d + 5) 129 117 [.ref 0, .int x1, .ref 27] [] Q)) ∧ (x1 = 5 → X (d + 4) 87 0 [.ref 27, .null] [] (F, A, J, G) (KK (d + 5) 129 130 [.ref 0, .int x1, .ref 27] [] Q)) ∧ (x1 = 6 → Q (.inl (some (.int (F 27 3)))) (F, A, J, G)) ∧ (x1 = 7 → X (d + 4) 93 0 [.ref 27, .null, .null, .null] [] (F, A, J, G) (KK (d + 5) 129 140 [.ref 0, .int x1, .ref 27] [] Q)) ∧ (x1 = 8 → Q (.inl (some (.int (F 27 2)))) (F, A, J, G)) ∧ (x1 = 9 → Q (.inl (some (.int (F 22 0)))) (F, A, J, G)) ∧ (x1 = 10 → Q (.inl (some (.int (F 21 2)))) (F, A, J, G)) ∧ (x1 = 11 → Q (.inl (some (.int (F 0 1)))) (F, A, J, G)) ∧ (x1 = 12 → Q (.inl (some (.int (A 26 0)))) (F, A, J, G)) ∧ (x1 = 13 → Q (.inl (some (.int (A 26 1)))) (F, A, J, G)) ∧ (x1 = 14 → Q (.inl (some (.int (A 26 2)))) (F, A, J, G)) ∧ (((x1 : Int32).toInt < 0 ∨ 14 < (x1 : Int32).toInt) → Q (.inr 101) (F, A, J, gThr G)))) : X (d + 5) 129 0 [.ref 0, .int x1, .null] [] (F, A, J, G) Q := by
  refine Y_al0 i_129_0 ?_
  refine Y_gR i_129_1 ow_129 lf_9_48 (k_0 hG) (r_0_7 hG) ?_
  refine Y_gR i_129_4 ow_129 lf_9_57 (k_21 hG) (r_21_0 hG) ?_
  refine Y_as2 i_129_7 rfl ?_
  refine Y_il1 i_129_8 ?_
  by_cases f0 : x1 = 0
  · replace h := h.1 f0
    refine Y_sw (t := 84) f0 i_129_9 (fun _ => rfl) rfl (fun _ => rfl) (fun _ => rfl) ?_
    refine Y_al0 i_129_84 ?_
    refine Y_gR i_129_85 ow_129 lf_9_40 (k_0 hG) (r_0_6 hG) ?_
    refine Y_gI (v := (F 12 0)) i_129_88 ow_129 lf_9_111 (by decide) (k_12 hG) rfl ?_
    exact Y_iret i_129_91 rt_129 h
  by_cases f1 : x1 = 1
  · replace h := h.2.1 f1
    refine Y_sw (t := 92) f1 i_129_9 (fun _ => rfl) rfl (fun _ => rfl) (fun _ => rfl) ?_
    refine Y_al2 i_129_92 ?_
    refine Y_gI (v := (F 27 1)) i_129_93 ow_129 lf_9_114 (by decide) (k_27 hG) rfl ?_
    exact Y_iret i_129_96 rt_129 h
  by_cases f2 : x1 = 2
  · replace h := h.2.2.1 f2
    refine Y_sw (t := 97) f2 i_129_9 (fun _ => rfl) rfl (fun _ => rfl) (fun _ => rfl) ?_
    refine Y_al0 i_129_97 ?_
    refine Y_gR i_129_98 ow_129 lf_9_40 (k_0 hG) (r_0_6 hG) ?_
    refine Y_gI (v := (F 12 1)) i_129_101 ow_129 lf_9_119 (by decide) (k_12 hG) rfl ?_
    exact Y_iret i_129_104 rt_129 h
  by_cases f3 : x1 = 3
  · replace h := h.2.2.2.1 f3
    refine Y_sw (t := 105) f3 i_129_9 (fun _ => rfl) rfl (fun _ => rfl) (fun _ => rfl) ?_
    refine Y_al0 i_129_105 ?_
    refine Y_gR i_129_106 ow_129 lf_9_40 (k_0 hG) (r_0_6 hG) ?_
    refine Y_gI (v := (F 12 2)) i_129_109 ow_129 lf_9_122 (by decide) (k_12 hG) rfl ?_
    exact Y_iret i_129_112 rt_129 h
  by_cases f4 : x1 = 4
  · replace h := h.2.2.2.2.1 f4
    refine Y_sw (t := 113) f4 i_129_9 (fun _ => rfl) rfl (fun _ => rfl) (fun _ => rfl) ?_
    refine Y_al2 i_129_113 ?_
    exact Y_iv0 (L0 := [.ref 27]) i_129_114 ow_129 lm_9_125 ((k_27 hG).trans ow_88.symm) rfl mx_88 rfl rfl hd_129 h
  by_cases f5 : x1 = 5
  · replace h := h.2.2.2.2.2.1 f5
    refine Y_sw (t := 126) f5 i_129_9 (fun _ => rfl) rfl (fun _ => rfl) (fun _ => rfl) ?_
    refine Y_al2 i_129_126 ?_
    exact Y_iv0 (L0 := [.ref 27, .null]) i_129_127 ow_129 lm_9_129 ((k_27 hG).trans ow_87.symm) rfl mx_87 rfl rfl hd_129 h
  by_cases f6 : x1 = 6
  · replace h := h.2.2.2.2.2.2.1 f6
    refine Y_sw (t := 131) f6 i_129_9 (fun _ => rfl) rfl (fun _ => rfl) (fun _ => rfl) ?_
    refine Y_al2 i_129_131 ?_
    refine Y_gI (v := (F 27 3)) i_129_132 ow_129 lf_9_133 (by decide) (k_27 hG) rfl ?_
    exact Y_iret i_129_135 rt_129 h
  by_cases f7 : x1 = 7
  · replace h := h.2.2.2.2.2.2.2.1 f7
    refine Y_sw (t := 136) f7 i_129_9 (fun _ => rfl) rfl (fun _ => rfl) (fun _ => rfl) ?_
    refine Y_al2 i_129_136 ?_
    exact Y_iv0 (L0 := [.ref 27, .null, .null, .null]) i_129_137 ow_129 lm_9_136 ((k_27 hG).trans ow_93.symm) rfl mx_93 rfl rfl hd_129 h
  by_cases f8 : x1 = 8
  · replace h := h.2.2.2.2.2.2.2.2.1 f8
    refine Y_sw (t := 141) f8 i_129_9 (fun _ => rfl) rfl (fun _ => rfl) (fun _ => rfl) ?_
    refine Y_al2 i_129_141 ?_
    refine Y_gI (v := (F 27 2)) i_129_142 ow_129 lf_9_139 (by decide) (k_27 hG) rfl ?_
    exact Y_iret i_129_145 rt_129 h
  by_cases f9 : x1 = 9
  · replace h := h.2.2.2.2.2.2.2.2.2.1 f9
    refine Y_sw (t := 146) f9 i_129_9 (fun _ => rfl) rfl (fun _ => rfl) (fun _ => rfl) ?_
    refine Y_al0 i_129_146 ?_
    refine Y_gR i_129_147 ow_129 lf_9_48 (k_0 hG) (r_0_7 hG) ?_
    refine Y_gR i_129_150 ow_129 lf_9_142 (k_21 hG) (r_21_1 hG) ?_
    refine Y_gI (v := (F 22 0)) i_129_153 ow_129 lf_9_146 (by decide) (k_22 hG) rfl ?_
    exact Y_iret i_129_156 rt_129 h
  by_cases f10 : x1 = 10
  · replace h := h.2.2.2.2.2.2.2.2.2.2.1 f10
    refine Y_sw (t := 157) f10 i_129_9 (fun _ => rfl) rfl (fun _ => rfl) (fun _ => rfl) ?_
    refine Y_al0 i_129_157 ?_
    refine Y_gR i_129_158 ow_129 lf_9_48 (k_0 hG) (r_0_7 hG) ?_
    refine Y_gI (v := (F 21 2)) i_129_161 ow_129 lf_9_150 (by decide) (k_21 hG) rfl ?_
    exact Y_iret i_129_164 rt_129 h
  by_cases f11 : x1 = 11
  · replace h := h.2.2.2.2.2.2.2.2.2.2.2.1 f11
    refine Y_sw (t := 165) f11 i_129_9 (fun _ => rfl) rfl (fun _ => rfl) (fun _ => rfl) ?_
    refine Y_al0 i_129_165 ?_
    refine Y_gI (v := (F 0 1)) i_129_166 ow_129 lf_9_13 (by decide) (k_0 hG) rfl ?_
    exact Y_iret i_129_169 rt_129 h
  by_cases f12 : x1 = 12
  · replace h := h.2.2.2.2.2.2.2.2.2.2.2.2.1 f12
    refine Y_sw (t := 170) f12 i_129_9 (fun _ => rfl) rfl (fun _ => rfl) (fun _ => rfl) ?_
    refine Y_al0 i_129_170 ?_
    refine Y_gR i_129_171 ow_129 lf_9_48 (k_0 hG) (r_0_7 hG) ?_
    refine Y_gR i_129_174 ow_129 lf_9_153 (k_21 hG) (r_21_5 hG) ?_
    refine Y_iconst (v := 0) i_129_177 (by decide) ?_
    refine Y_iaload (k := 0) (v := (A 26 0)) i_129_178 (k_26 hG) (l_26 hG) (by decide) (by decide) rfl ?_
    exact Y_iret i_129_179 rt_129 h
  by_cases f13 : x1 = 13
  · replace h := h.2.2.2.2.2.2.2.2.2.2.2.2.2.1 f13
    refine Y_sw (t := 180) f13 i_129_9 (fun _ => rfl) rfl (fun _ => rfl) (fun _ => rfl) ?_
    refine Y_al0 i_129_180 ?_
    refine Y_gR i_129_181 ow_129 lf_9_48 (k_0 hG) (r_0_7 hG) ?_
    refine Y_gR i_129_184 ow_129 lf_9_153 (k_21 hG) (r_21_5 hG) ?_
    refine Y_iconst (v := 1) i_129_187 (by decide) ?_
    refine Y_iaload (k := 1) (v := (A 26 1)) i_129_188 (k_26 hG) (l_26 hG) (by decide) (by decide) rfl ?_
    exact Y_iret i_129_189 rt_129 h
  by_cases f14 : x1 = 14
  · replace h := h.2.2.2.2.2.2.2.2.2.2.2.2.2.2.1 f14
    refine Y_sw (t := 190) f14 i_129_9 (fun _ => rfl) rfl (fun _ => rfl) (fun _ => rfl) ?_
    refine Y_al0 i_129_190 ?_
    refine Y_gR i_129_191 ow_129 lf_9_48 (k_0 hG) (r_0_7 hG) ?_
    refine Y_gR i_129_194 ow_129 lf_9_153 (k_21 hG) (r_21_5 hG) ?_
    refine Y_iconst (v := 2) i_129_197 (by decide) ?_
    refine Y_iaload (k := 2) (v := (A 26 2)) i_129_198 (k_26 hG) (l_26 hG) (by decide) (by decide) rfl ?_
    exact Y_iret i_129_199 rt_129 h
  have eD : (x1 : Int32).toInt < 0 ∨ 14 < (x1 : Int32).toInt := by
    have q := ts_out (x := x1) (lo := 0) (n := 15) (by
      intro j hj
      have : j = 0 ∨ j = 1 ∨ j = 2 ∨ j = 3 ∨ j = 4 ∨ j = 5 ∨ j = 6 ∨ j = 7 ∨ j = 8 ∨ j = 9 ∨ j = 10 ∨ j = 11 ∨ j = 12 ∨ j = 13 ∨ j = 14 := by omega
      rcases this with rfl | rfl | rfl | rfl | rfl | rfl | rfl | rfl | rfl | rfl | rfl | rfl | rfl | rfl | rfl
      · exact ne_toInt f0 (by decide)
      · exact ne_toInt f1 (by decide)
      · exact ne_toInt f2 (by decide)
      · exact ne_toInt f3 (by decide)
      · exact ne_toInt f4 (by decide)
      · exact ne_toInt f5 (by decide)
      · exact ne_toInt f6 (by decide)
      · exact ne_toInt f7 (by decide)
      · exact ne_toInt f8 (by decide)
      · exact ne_toInt f9 (by decide)
      · exact ne_toInt f10 (by decide)
      · exact ne_toInt f11 (by decide)
      · exact ne_toInt f12 (by decide)
      · exact ne_toInt f13 (by decide)
      · exact ne_toInt f14 (by decide)
      )
    omega
  replace h := h.2.2.2.2.2.2.2.2.2.2.2.2.2.2.2 eD
  refine Y_tsD (t := 200) eD i_129_9 (by decide) ?_
  exact Y_thr i_129_200 ow_129 lc_9_157 (by decide +kernel) rfl h
theorem k_129_117 {d : Nat} {F A : Nat → Nat → Int32} {J : Nat → Nat → Int64} {G : pG} {Q : pR → pM → Prop} {SL p q : Nat} {x1 r r : Int32} (hG : Geo G SL p q) (h : ((r = 0 → Q (.inl (some (.int 0))) (F, A, J, G)) ∧ (¬ r = 0 → Q (.inl (some (.int 1))) (F, A, J, G)))) : KK (d + 5) 129 117 [.ref 0, .int x1, .ref 27] [] Q (.inl (some (.int r))) (F, A, J, G) := by
  refine KKi ?_
  refine Y_zeq i_129_117 (fun e1 => ?_) (fun e1 => ?_)
  · replace h := h.1 e1
    refine Y_iconst (v := 0) i_129_124 (by decide) ?_
    exact Y_iret i_129_125 rt_129 h
  · replace h := h.2 e1
    refine Y_iconst (v := 1) i_129_120 (by decide) ?_
    refine Y_goto i_129_121 ?_
    exact Y_iret i_129_125 rt_129 h
theorem k_129_130 {d : Nat} {F A : Nat → Nat → Int32} {J : Nat → Nat → Int64} {G : pG} {Q : pR → pM → Prop} {SL p q : Nat} {x1 r r : Int32} (hG : Geo G SL p q) (h : Q (.inl (some (.int r))) (F, A, J, G)) : KK (d + 5) 129 130 [.ref 0, .int x1, .ref 27] [] Q (.inl (some (.int r))) (F, A, J, G) := by
  refine KKi ?_
  exact Y_iret i_129_130 rt_129 h
theorem k_129_140 {d : Nat} {F A : Nat → Nat → Int32} {J : Nat → Nat → Int64} {G : pG} {Q : pR → pM → Prop} {SL p q : Nat} {x1 r r : Int32} (hG : Geo G SL p q) (h : Q (.inl (some (.int r))) (F, A, J, G)) : KK (d + 5) 129 140 [.ref 0, .int x1, .ref 27] [] Q (.inl (some (.int r))) (F, A, J, G) := by
  refine KKi ?_
  exact Y_iret i_129_140 rt_129 h
/- 130 TableTower.table(II)I -/
theorem t_130_0 {d : Nat} {F A : Nat → Nat → Int32} {J : Nat → Nat → Int64} {G : pG} {Q : pR → pM → Prop} {SL p q : Nat} {x1 x2 : Int32} (hG : Geo G SL p q) (h : ((x1 < 0 → Q (.inr 101) (F, A, J, gThr G)) ∧ (¬ x1 < 0 → ((x1 < (F 12 0) → ((x2 = 0 → inB x1 10 = true ∧ (Q (.inl (some (.int (A 13 x1.toNatClampNeg)))) (F, A, J, G))) ∧ (x2 = 1 → inB x1 10 = true ∧ (Q (.inl (some (.int (A 14 x1.toNatClampNeg)))) (F, A, J, G))) ∧ (x2 = 2 → inB x1 10 = true ∧ (Q (.inl (some (.int (carS (A 13 x1.toNatClampNeg) (A 15 x1.toNatClampNeg) (F 27 2) 1)))) (F, A, J, G))) ∧ (x2 = 3 → inB x1 10 = true ∧ (Q (.inl (some (.int (A 31 x1.toNatClampNeg)))) (F, A, J, G))) ∧ (x2 = 4 → inB x1 10 = true ∧ (Q (.inl (some (.int (A 17 x1.toNatClampNeg)))) (F, A, J, G))) ∧ (x2 = 5 → inB x1 10 = true ∧ (Q (.inl (some (.int (A 29 x1.toNatClampNeg)))) (F, A, J, G))) ∧ (x2 = 6 → inB x1 10 = true ∧ (Q (.inl (some (.int (A 30 x1.toNatClampNeg)))) (F, A, J, G))) ∧ (x2 = 7 → hB (F 27 1) = true ∧ (Q (.inl (some (.int (lvI (A 28) (F 27 1) x1)))) (F, A, J, G))) ∧ (((x2 : Int32).toInt < 0 ∨ 7 < (x2 : Int32).toInt) → Q (.inr 101) (F, A, J, gThr G)))) ∧ (¬ x1 < (F 12 0) → Q (.inr 101) (F, A, J, gThr G)))))) : X (d + 2) 130 0 [.ref 0, .int x1, .int x2, .null] [] (F, A, J, G) Q := by
  refine Y_al0 i_130_0 ?_
  refine Y_il1 i_130_1 ?_
  refine Y_iv1 (L0 := [.ref 0, .int x1]) i_130_2 ow_130 lm_9_162 ((k_0 hG).trans ow_171.symm) rfl mx_171 rfl rfl hd_130 ?_
  refine Y_il1 i_171_0 ?_
  refine Y_zlt i_171_1 (fun e1 => ?_) (fun e1 => ?_)
  · replace h := h.1 e1
    exact Y_thr i_171_15 ow_171 lc_9_157 (by decide +kernel) rfl (KKe h)
  · replace h := h.2 e1
    refine Y_il1 i_171_4 ?_
    refine Y_al0 i_171_5 ?_
    refine Y_gR i_171_6 ow_171 lf_9_40 (k_0 hG) (r_0_6 hG) ?_
    refine Y_gI (v := (F 12 0)) i_171_9 ow_171 lf_9_111 (by decide) (k_12 hG) rfl ?_
    refine Y_clt i_171_12 (fun e2 => ?_) (fun e2 => ?_)
    · replace h := h.1 e2
      refine Y_vret i_171_26 rt_171 (KKv ?_)
      refine Y_al0 i_130_5 ?_
      refine Y_gR i_130_6 ow_130 lf_9_48 (k_0 hG) (r_0_7 hG) ?_
      refine Y_gR i_130_9 ow_130 lf_9_57 (k_21 hG) (r_21_0 hG) ?_
      refine Y_as3 i_130_12 rfl ?_
      refine Y_il2 i_130_13 ?_
      by_cases f0 : x2 = 0
      · replace h := h.1 f0
        refine Y_sw (t := 60) f0 i_130_14 (fun _ => rfl) rfl (fun _ => rfl) (fun _ => rfl) ?_
        refine Y_al0 i_130_60 ?_
        refine Y_gR i_130_61 ow_130 lf_9_40 (k_0 hG) (r_0_6 hG) ?_
        refine Y_gR i_130_64 ow_130 lf_9_165 (k_12 hG) (r_12_3 hG) ?_
        refine Y_il1 i_130_67 ?_
        have o3 := h.1
        replace h := h.2
        refine Y_iaload (k := x1.toNatClampNeg) (v := (A 13 x1.toNatClampNeg)) i_130_68 (k_13 hG) (l_13 hG) o3 rfl rfl ?_
        exact Y_iret i_130_69 rt_130 h
      by_cases f1 : x2 = 1
      · replace h := h.2.1 f1
        refine Y_sw (t := 70) f1 i_130_14 (fun _ => rfl) rfl (fun _ => rfl) (fun _ => rfl) ?_
        refine Y_al0 i_130_70 ?_
        refine Y_gR i_130_71 ow_130 lf_9_40 (k_0 hG) (r_0_6 hG) ?_
        refine Y_gR i_130_74 ow_130 lf_9_168 (k_12 hG) (r_12_4 hG) ?_
        refine Y_il1 i_130_77 ?_
        have o4 := h.1
        replace h := h.2
        refine Y_iaload (k := x1.toNatClampNeg) (v := (A 14 x1.toNatClampNeg)) i_130_78 (k_14 hG) (l_14 hG) o4 rfl rfl ?_
        exact Y_iret i_130_79 rt_130 h
      by_cases f2 : x2 = 2
      · replace h := h.2.2.1 f2
        refine Y_sw (t := 80) f2 i_130_14 (fun _ => rfl) rfl (fun _ => rfl) (fun _ => rfl) ?_
        refine Y_al3 i_130_80 ?_
        refine Y_il1 i_130_81 ?_
        refine Y_iconst (v := 1) i_130_82 (by decide) ?_
        have o5 := h.1
        replace h := h.2
        refine Y_iv2 (L0 := [.ref 27, .int x1, .int 1, .null]) i_130_83 ow_130 lm_9_171 ((k_27 hG).trans ow_82.symm) rfl mx_82 rfl rfl hd_130 ?_
        refine c_82 hG tw_27 o5 (KKi ?_)
        exact Y_iret i_130_86 rt_130 h
      by_cases f3 : x2 = 3
      · replace h := h.2.2.2.1 f3
        refine Y_sw (t := 87) f3 i_130_14 (fun _ => rfl) rfl (fun _ => rfl) (fun _ => rfl) ?_
        refine Y_al3 i_130_87 ?_
        refine Y_gR i_130_88 ow_130 lf_9_175 (k_27 hG) (r_27_7 hG) ?_
        refine Y_il1 i_130_91 ?_
        have o6 := h.1
        replace h := h.2
        refine Y_iaload (k := x1.toNatClampNeg) (v := (A 31 x1.toNatClampNeg)) i_130_92 (k_31 hG) (l_31 hG) o6 rfl rfl ?_
        exact Y_iret i_130_93 rt_130 h
      by_cases f4 : x2 = 4
      · replace h := h.2.2.2.2.1 f4
        refine Y_sw (t := 94) f4 i_130_14 (fun _ => rfl) rfl (fun _ => rfl) (fun _ => rfl) ?_
        refine Y_al0 i_130_94 ?_
        refine Y_gR i_130_95 ow_130 lf_9_40 (k_0 hG) (r_0_6 hG) ?_
        refine Y_gR i_130_98 ow_130 lf_9_178 (k_12 hG) (r_12_7 hG) ?_
        refine Y_il1 i_130_101 ?_
        have o7 := h.1
        replace h := h.2
        refine Y_iaload (k := x1.toNatClampNeg) (v := (A 17 x1.toNatClampNeg)) i_130_102 (k_17 hG) (l_17 hG) o7 rfl rfl ?_
        exact Y_iret i_130_103 rt_130 h
      by_cases f5 : x2 = 5
      · replace h := h.2.2.2.2.2.1 f5
        refine Y_sw (t := 104) f5 i_130_14 (fun _ => rfl) rfl (fun _ => rfl) (fun _ => rfl) ?_
        refine Y_al3 i_130_104 ?_
        refine Y_gR i_130_105 ow_130 lf_9_181 (k_27 hG) (r_27_5 hG) ?_
        refine Y_il1 i_130_108 ?_
        have o8 := h.1
        replace h := h.2
        refine Y_iaload (k := x1.toNatClampNeg) (v := (A 29 x1.toNatClampNeg)) i_130_109 (k_29 hG) (l_29 hG) o8 rfl rfl ?_
        exact Y_iret i_130_110 rt_130 h
      by_cases f6 : x2 = 6
      · replace h := h.2.2.2.2.2.2.1 f6
        refine Y_sw (t := 111) f6 i_130_14 (fun _ => rfl) rfl (fun _ => rfl) (fun _ => rfl) ?_
        refine Y_al3 i_130_111 ?_
        refine Y_gR i_130_112 ow_130 lf_9_184 (k_27 hG) (r_27_6 hG) ?_
        refine Y_il1 i_130_115 ?_
        have o9 := h.1
        replace h := h.2
        refine Y_iaload (k := x1.toNatClampNeg) (v := (A 30 x1.toNatClampNeg)) i_130_116 (k_30 hG) (l_30 hG) o9 rfl rfl ?_
        exact Y_iret i_130_117 rt_130 h
      by_cases f7 : x2 = 7
      · replace h := h.2.2.2.2.2.2.2.1 f7
        refine Y_sw (t := 118) f7 i_130_14 (fun _ => rfl) rfl (fun _ => rfl) (fun _ => rfl) ?_
        refine Y_al3 i_130_118 ?_
        refine Y_il1 i_130_119 ?_
        have o10 := h.1
        replace h := h.2
        refine Y_iv1 (L0 := [.ref 27, .int x1, .null]) i_130_120 ow_130 lm_9_187 ((k_27 hG).trans ow_77.symm) rfl mx_77 rfl rfl hd_130 ?_
        refine c_77 hG tw_27 o10 (KKi' (v' := (lvI (A 28) (F 27 1) x1)) (by simp [wF, wJ, va_up, cpR, bF, bA]) ?_)
        exact Y_iret i_130_123 rt_130 h
      have eD : (x2 : Int32).toInt < 0 ∨ 7 < (x2 : Int32).toInt := by
        have q := ts_out (x := x2) (lo := 0) (n := 8) (by
          intro j hj
          have : j = 0 ∨ j = 1 ∨ j = 2 ∨ j = 3 ∨ j = 4 ∨ j = 5 ∨ j = 6 ∨ j = 7 := by omega
          rcases this with rfl | rfl | rfl | rfl | rfl | rfl | rfl | rfl
          · exact ne_toInt f0 (by decide)
          · exact ne_toInt f1 (by decide)
          · exact ne_toInt f2 (by decide)
          · exact ne_toInt f3 (by decide)
          · exact ne_toInt f4 (by decide)
          · exact ne_toInt f5 (by decide)
          · exact ne_toInt f6 (by decide)
          · exact ne_toInt f7 (by decide)
          )
        omega
      replace h := h.2.2.2.2.2.2.2.2 eD
      refine Y_tsD (t := 124) eD i_130_14 (by decide) ?_
      exact Y_thr i_130_124 ow_130 lc_9_157 (by decide +kernel) rfl h
    · replace h := h.2 e2
      exact Y_thr i_171_15 ow_171 lc_9_157 (by decide +kernel) rfl (KKe h)
/- 131 TableTower.level(II)I -/
theorem t_131_0 {d : Nat} {F A : Nat → Nat → Int32} {J : Nat → Nat → Int64} {G : pG} {Q : pR → pM → Prop} {SL p q : Nat} {x1 x2 : Int32} (hG : Geo G SL p q) (h : ((x1 < 0 → Q (.inr 101) (F, A, J, gThr G)) ∧ (¬ x1 < 0 → ((x1 < (F 27 1) → X (d + 2) 84 0 [.ref 27, .null, .null, .null] [] (F, A, J, G) (KK (d + 3) 131 17 [.ref 0, .int x1, .int x2, .ref 27] [] Q)) ∧ (¬ x1 < (F 27 1) → Q (.inr 101) (F, A, J, gThr G)))))) : X (d + 3) 131 0 [.ref 0, .int x1, .int x2, .null] [] (F, A, J, G) Q := by
  refine Y_al0 i_131_0 ?_
  refine Y_il1 i_131_1 ?_
  refine Y_iv1 (L0 := [.ref 0, .int x1]) i_131_2 ow_131 lm_9_192 ((k_0 hG).trans ow_173.symm) rfl mx_173 rfl rfl hd_131 ?_
  refine Y_il1 i_173_0 ?_
  refine Y_zlt i_173_1 (fun e1 => ?_) (fun e1 => ?_)
  · replace h := h.1 e1
    exact Y_thr i_173_18 ow_173 lc_9_157 (by decide +kernel) rfl (KKe h)
  · replace h := h.2 e1
    refine Y_il1 i_173_4 ?_
    refine Y_al0 i_173_5 ?_
    refine Y_gR i_173_6 ow_173 lf_9_48 (k_0 hG) (r_0_7 hG) ?_
    refine Y_gR i_173_9 ow_173 lf_9_57 (k_21 hG) (r_21_0 hG) ?_
    refine Y_gI (v := (F 27 1)) i_173_12 ow_173 lf_9_114 (by decide) (k_27 hG) rfl ?_
    refine Y_clt i_173_15 (fun e2 => ?_) (fun e2 => ?_)
    · replace h := h.1 e2
      refine Y_vret i_173_29 rt_173 (KKv ?_)
      refine Y_al0 i_131_5 ?_
      refine Y_gR i_131_6 ow_131 lf_9_48 (k_0 hG) (r_0_7 hG) ?_
      refine Y_gR i_131_9 ow_131 lf_9_57 (k_21 hG) (r_21_0 hG) ?_
      refine Y_as3 i_131_12 rfl ?_
      refine Y_al3 i_131_13 ?_
      exact Y_iv0 (L0 := [.ref 27, .null, .null, .null]) i_131_14 ow_131 lm_9_195 ((k_27 hG).trans ow_84.symm) rfl mx_84 rfl rfl hd_131 h
    · replace h := h.2 e2
      exact Y_thr i_173_18 ow_173 lc_9_157 (by decide +kernel) rfl (KKe h)
theorem k_131_17 {d : Nat} {F A : Nat → Nat → Int32} {J : Nat → Nat → Int64} {G : pG} {Q : pR → pM → Prop} {SL p q : Nat} {x1 x2 : Int32} (hG : Geo G SL p q) (h : ((x2 = 0 → inB x1 10 = true ∧ (Q (.inl (some (.int (A 28 x1.toNatClampNeg)))) (F, A, J, G))) ∧ (x2 = 1 → inB x1 10 = true ∧ (Q (.inl (some (.int (A 32 x1.toNatClampNeg)))) (F, A, J, G))) ∧ (x2 = 2 → inB x1 10 = true ∧ (Q (.inl (some (.int (A 33 x1.toNatClampNeg)))) (F, A, J, G))) ∧ (x2 = 3 → inB x1 10 = true ∧ (Q (.inl (some (.int (A 34 x1.toNatClampNeg)))) (F, A, J, G))) ∧ (x2 = 4 → inB x1 10 = true ∧ ((((A 33 x1.toNatClampNeg) - (A 32 x1.toNatClampNeg)) < 0 → Q (.inl (some (.int 0))) (F, A, J, G)) ∧ (¬ ((A 33 x1.toNatClampNeg) - (A 32 x1.toNatClampNeg)) < 0 → (((limB (F 12 1) (A 34 x1.toNatClampNeg)) = true → Q (.inl (some (.int 1))) (F, A, J, G)) ∧ ((limB (F 12 1) (A 34 x1.toNatClampNeg)) = false → Q (.inl (some (.int 0))) (F, A, J, G)))))) ∧ (((x2 : Int32).toInt < 0 ∨ 4 < (x2 : Int32).toInt) → Q (.inr 101) (F, A, J, gThr G)))) : KK (d + 3) 131 17 [.ref 0, .int x1, .int x2, .ref 27] [] Q (.inl none) (F, A, J, G) := by
  refine KKv ?_
  refine Y_il2 i_131_17 ?_
  by_cases f0 : x2 = 0
  · replace h := h.1 f0
    refine Y_sw (t := 52) f0 i_131_18 (fun _ => rfl) rfl (fun _ => rfl) (fun _ => rfl) ?_
    refine Y_al3 i_131_52 ?_
    refine Y_gR i_131_53 ow_131 lf_9_198 (k_27 hG) (r_27_4 hG) ?_
    refine Y_il1 i_131_56 ?_
    have o1 := h.1
    replace h := h.2
    refine Y_iaload (k := x1.toNatClampNeg) (v := (A 28 x1.toNatClampNeg)) i_131_57 (k_28 hG) (l_28 hG) o1 rfl rfl ?_
    exact Y_iret i_131_58 rt_131 h
  by_cases f1 : x2 = 1
  · replace h := h.2.1 f1
    refine Y_sw (t := 59) f1 i_131_18 (fun _ => rfl) rfl (fun _ => rfl) (fun _ => rfl) ?_
    refine Y_al3 i_131_59 ?_
    refine Y_gR i_131_60 ow_131 lf_9_201 (k_27 hG) (r_27_8 hG) ?_
    refine Y_il1 i_131_63 ?_
    have o2 := h.1
    replace h := h.2
    refine Y_iaload (k := x1.toNatClampNeg) (v := (A 32 x1.toNatClampNeg)) i_131_64 (k_32 hG) (l_32 hG) o2 rfl rfl ?_
    exact Y_iret i_131_65 rt_131 h
  by_cases f2 : x2 = 2
  · replace h := h.2.2.1 f2
    refine Y_sw (t := 66) f2 i_131_18 (fun _ => rfl) rfl (fun _ => rfl) (fun _ => rfl) ?_
    refine Y_al3 i_131_66 ?_
    refine Y_gR i_131_67 ow_131 lf_9_204 (k_27 hG) (r_27_9 hG) ?_
    refine Y_il1 i_131_70 ?_
    have o3 := h.1
    replace h := h.2
    refine Y_iaload (k := x1.toNatClampNeg) (v := (A 33 x1.toNatClampNeg)) i_131_71 (k_33 hG) (l_33 hG) o3 rfl rfl ?_
    exact Y_iret i_131_72 rt_131 h
  by_cases f3 : x2 = 3
  · replace h := h.2.2.2.1 f3
    refine Y_sw (t := 73) f3 i_131_18 (fun _ => rfl) rfl (fun _ => rfl) (fun _ => rfl) ?_
    refine Y_al3 i_131_73 ?_
    refine Y_gR i_131_74 ow_131 lf_9_207 (k_27 hG) (r_27_10 hG) ?_
    refine Y_il1 i_131_77 ?_
    have o4 := h.1
    replace h := h.2
    refine Y_iaload (k := x1.toNatClampNeg) (v := (A 34 x1.toNatClampNeg)) i_131_78 (k_34 hG) (l_34 hG) o4 rfl rfl ?_
    exact Y_iret i_131_79 rt_131 h
  by_cases f4 : x2 = 4
  · replace h := h.2.2.2.2.1 f4
    refine Y_sw (t := 80) f4 i_131_18 (fun _ => rfl) rfl (fun _ => rfl) (fun _ => rfl) ?_
    refine Y_al3 i_131_80 ?_
    refine Y_il1 i_131_81 ?_
    refine Y_iv1 (L0 := [.ref 27, .int x1]) i_131_82 ow_131 lm_9_210 ((k_27 hG).trans ow_86.symm) rfl mx_86 rfl rfl hd_131 ?_
    refine Y_al0 i_86_0 ?_
    refine Y_il1 i_86_1 ?_
    refine Y_iv1 (L0 := [.ref 27, .int x1]) i_86_2 ow_86 lm_6_88 ((k_27 hG).trans ow_85.symm) rfl mx_85 rfl rfl hd_86 ?_
    refine Y_al0 i_85_0 ?_
    refine Y_gR i_85_1 ow_85 lf_6_27 (k_27 hG) (r_27_9 hG) ?_
    refine Y_il1 i_85_4 ?_
    have o5 := h.1
    replace h := h.2
    refine Y_iaload (k := x1.toNatClampNeg) (v := (A 33 x1.toNatClampNeg)) i_85_5 (k_33 hG) (l_33 hG) o5 rfl rfl ?_
    refine Y_al0 i_85_6 ?_
    refine Y_gR i_85_7 ow_85 lf_6_24 (k_27 hG) (r_27_8 hG) ?_
    refine Y_il1 i_85_10 ?_
    refine Y_iaload (k := x1.toNatClampNeg) (v := (A 32 x1.toNatClampNeg)) i_85_11 (k_32 hG) (l_32 hG) o5 rfl rfl ?_
    refine Y_isub i_85_12 ?_
    refine Y_iret i_85_13 rt_85 (KKi ?_)
    refine Y_zlt i_86_5 (fun e6 => ?_) (fun e6 => ?_)
    · replace h := h.1 e6
      refine Y_iconst (v := 0) i_86_28 (by decide) ?_
      refine Y_bret i_86_29 rt_86 (by decide) (KKi ?_)
      refine Y_zT i_131_85 (by decide) ?_
      refine Y_iconst (v := 0) i_131_92 (by decide) ?_
      exact Y_iret i_131_93 rt_131 h
    · replace h := h.2 e6
      refine Y_al0 i_86_8 ?_
      refine Y_gR i_86_9 ow_86 lf_6_33 (k_27 hG) (r_27_0 hG) ?_
      refine Y_al0 i_86_12 ?_
      refine Y_gR i_86_13 ow_86 lf_6_30 (k_27 hG) (r_27_10 hG) ?_
      refine Y_il1 i_86_16 ?_
      refine Y_iaload (k := x1.toNatClampNeg) (v := (A 34 x1.toNatClampNeg)) i_86_17 (k_34 hG) (l_34 hG) o5 rfl rfl ?_
      refine Y_iv1 (L0 := [.ref 12, .int (A 34 x1.toNatClampNeg)]) i_86_18 ow_86 lm_6_91 ((k_12 hG).trans ow_103.symm) rfl mx_103 rfl rfl hd_86 ?_
      refine c_103 hG (KKi ?_)
      refine Y_beq i_86_21 (fun e7 => ?_) (fun e7 => ?_)
      · replace h := h.1 e7
        refine Y_iconst (v := 1) i_86_24 (by decide) ?_
        refine Y_goto i_86_25 ?_
        refine Y_bret i_86_29 rt_86 (by decide) (KKi ?_)
        refine Y_zF i_131_85 (by decide) ?_
        refine Y_iconst (v := 1) i_131_88 (by decide) ?_
        refine Y_goto i_131_89 ?_
        exact Y_iret i_131_93 rt_131 h
      · replace h := h.2 e7
        refine Y_iconst (v := 0) i_86_28 (by decide) ?_
        refine Y_bret i_86_29 rt_86 (by decide) (KKi ?_)
        refine Y_zT i_131_85 (by decide) ?_
        refine Y_iconst (v := 0) i_131_92 (by decide) ?_
        exact Y_iret i_131_93 rt_131 h
  have eD : (x2 : Int32).toInt < 0 ∨ 4 < (x2 : Int32).toInt := by
    have q := ts_out (x := x2) (lo := 0) (n := 5) (by
      intro j hj
      have : j = 0 ∨ j = 1 ∨ j = 2 ∨ j = 3 ∨ j = 4 := by omega
      rcases this with rfl | rfl | rfl | rfl | rfl
      · exact ne_toInt f0 (by decide)
      · exact ne_toInt f1 (by decide)
      · exact ne_toInt f2 (by decide)
      · exact ne_toInt f3 (by decide)
      · exact ne_toInt f4 (by decide)
      )
    omega
  replace h := h.2.2.2.2.2 eD
  refine Y_tsD (t := 94) eD i_131_18 (by decide) ?_
  exact Y_thr i_131_94 ow_131 lc_9_157 (by decide +kernel) rfl h
/- 132 TableTower.by()I -/
theorem t_132_0 {d : Nat} {F A : Nat → Nat → Int32} {J : Nat → Nat → Int64} {G : pG} {Q : pR → pM → Prop} {SL p q : Nat} (hG : Geo G SL p q) (h : hB (F 27 1) = true ∧ (Q (.inl (some (.int ((((1 : Int32) <<< ((F 12 0) &&& 31)) - 1) &&& ((bitsI (A 28) (F 27 1)) ^^^ (-1)))))) (F, A, J, G))) : X (d + 1) 132 0 [.ref 0] [] (F, A, J, G) Q := by
  refine Y_al0 i_132_0 ?_
  refine Y_gR i_132_1 ow_132 lf_9_40 (k_0 hG) (r_0_6 hG) ?_
  refine Y_iv0 (L0 := [.ref 12]) i_132_4 ow_132 lm_9_216 ((k_12 hG).trans ow_100.symm) rfl mx_100 rfl rfl hd_132 ?_
  refine Y_iconst (v := 1) i_100_0 (by decide) ?_
  refine Y_al0 i_100_1 ?_
  refine Y_gI (v := (F 12 0)) i_100_2 ow_100 lf_7_37 (by decide) (k_12 hG) rfl ?_
  refine Y_ishl i_100_5 ?_
  refine Y_iconst (v := 1) i_100_6 (by decide) ?_
  refine Y_isub i_100_7 ?_
  refine Y_iret i_100_8 rt_100 (KKi ?_)
  refine Y_al0 i_132_7 ?_
  refine Y_gR i_132_8 ow_132 lf_9_48 (k_0 hG) (r_0_7 hG) ?_
  refine Y_gR i_132_11 ow_132 lf_9_57 (k_21 hG) (r_21_0 hG) ?_
  have o1 := h.1
  replace h := h.2
  refine Y_iv0 (L0 := [.ref 27, .null, .null]) i_132_14 ow_132 lm_9_219 ((k_27 hG).trans ow_78.symm) rfl mx_78 rfl rfl hd_132 ?_
  refine c_78 hG tw_27 o1 (KKi' (v' := (bitsI (A 28) (F 27 1))) (by simp [wF, wJ, va_up, cpR, bF, bA]) ?_)
  refine Y_iconst (v := (-1)) i_132_17 (by decide) ?_
  refine Y_ixor i_132_18 ?_
  refine Y_iand i_132_19 ?_
  exact Y_iret i_132_20 rt_132 h
/- 133 TableTower.put(II)I -/
theorem t_133_0 {d : Nat} {F A : Nat → Nat → Int32} {J : Nat → Nat → Int64} {G : pG} {Q : pR → pM → Prop} {SL p q : Nat} {x1 x2 : Int32} (hG : Geo G SL p q) (h : ((x1 < 0 → Q (.inr 101) (F, A, J, gThr G)) ∧ (¬ x1 < 0 → ((x1 < (F 12 0) → X (d + 2) 64 0 [.ref 21, .int x1, .int x2] [] (F, A, J, G) (KK (d + 3) 133 14 [.ref 0, .int x1, .int x2] [] Q)) ∧ (¬ x1 < (F 12 0) → Q (.inr 101) (F, A, J, gThr G)))))) : X (d + 3) 133 0 [.ref 0, .int x1, .int x2] [] (F, A, J, G) Q := by
  refine Y_al0 i_133_0 ?_
  refine Y_il1 i_133_1 ?_
  refine Y_iv1 (L0 := [.ref 0, .int x1]) i_133_2 ow_133 lm_9_162 ((k_0 hG).trans ow_171.symm) rfl mx_171 rfl rfl hd_133 ?_
  refine Y_il1 i_171_0 ?_
  refine Y_zlt i_171_1 (fun e1 => ?_) (fun e1 => ?_)
  · replace h := h.1 e1
    exact Y_thr i_171_15 ow_171 lc_9_157 (by decide +kernel) rfl (KKe h)
  · replace h := h.2 e1
    refine Y_il1 i_171_4 ?_
    refine Y_al0 i_171_5 ?_
    refine Y_gR i_171_6 ow_171 lf_9_40 (k_0 hG) (r_0_6 hG) ?_
    refine Y_gI (v := (F 12 0)) i_171_9 ow_171 lf_9_111 (by decide) (k_12 hG) rfl ?_
    refine Y_clt i_171_12 (fun e2 => ?_) (fun e2 => ?_)
    · replace h := h.1 e2
      refine Y_vret i_171_26 rt_171 (KKv ?_)
      refine Y_al0 i_133_5 ?_
      refine Y_gR i_133_6 ow_133 lf_9_48 (k_0 hG) (r_0_7 hG) ?_
      refine Y_il1 i_133_9 ?_
      refine Y_il2 i_133_10 ?_
      exact Y_iv2 (L0 := [.ref 21, .int x1, .int x2]) i_133_11 ow_133 lm_9_222 ((k_21 hG).trans ow_64.symm) rfl mx_64 rfl rfl hd_133 h
    · replace h := h.2 e2
      exact Y_thr i_171_15 ow_171 lc_9_157 (by decide +kernel) rfl (KKe h)
theorem k_133_14 {d : Nat} {F A : Nat → Nat → Int32} {J : Nat → Nat → Int64} {G : pG} {Q : pR → pM → Prop} {SL p q : Nat} {x1 x2 r r : Int32} (hG : Geo G SL p q) (h : Q (.inl (some (.int r))) (F, A, J, G)) : KK (d + 3) 133 14 [.ref 0, .int x1, .int x2] [] Q (.inl (some (.int r))) (F, A, J, G) := by
  refine KKi ?_
  exact Y_iret i_133_14 rt_133 h
/- 134 TableTower.take(I)I -/
theorem t_134_0 {d : Nat} {F A : Nat → Nat → Int32} {J : Nat → Nat → Int64} {G : pG} {Q : pR → pM → Prop} {SL p q : Nat} {x1 : Int32} (hG : Geo G SL p q) (h : ((x1 < 0 → Q (.inr 101) (F, A, J, gThr G)) ∧ (¬ x1 < 0 → ((x1 < (F 12 0) → X (d + 2) 65 0 [.ref 21, .int x1, .null] [] (F, A, J, G) (KK (d + 3) 134 13 [.ref 0, .int x1] [] Q)) ∧ (¬ x1 < (F 12 0) → Q (.inr 101) (F, A, J, gThr G)))))) : X (d + 3) 134 0 [.ref 0, .int x1] [] (F, A, J, G) Q := by
  refine Y_al0 i_134_0 ?_
  refine Y_il1 i_134_1 ?_
  refine Y_iv1 (L0 := [.ref 0, .int x1]) i_134_2 ow_134 lm_9_162 ((k_0 hG).trans ow_171.symm) rfl mx_171 rfl rfl hd_134 ?_
  refine Y_il1 i_171_0 ?_
  refine Y_zlt i_171_1 (fun e1 => ?_) (fun e1 => ?_)
  · replace h := h.1 e1
    exact Y_thr i_171_15 ow_171 lc_9_157 (by decide +kernel) rfl (KKe h)
  · replace h := h.2 e1
    refine Y_il1 i_171_4 ?_
    refine Y_al0 i_171_5 ?_
    refine Y_gR i_171_6 ow_171 lf_9_40 (k_0 hG) (r_0_6 hG) ?_
    refine Y_gI (v := (F 12 0)) i_171_9 ow_171 lf_9_111 (by decide) (k_12 hG) rfl ?_
    refine Y_clt i_171_12 (fun e2 => ?_) (fun e2 => ?_)
    · replace h := h.1 e2
      refine Y_vret i_171_26 rt_171 (KKv ?_)
      refine Y_al0 i_134_5 ?_
      refine Y_gR i_134_6 ow_134 lf_9_48 (k_0 hG) (r_0_7 hG) ?_
      refine Y_il1 i_134_9 ?_
      exact Y_iv1 (L0 := [.ref 21, .int x1, .null]) i_134_10 ow_134 lm_9_226 ((k_21 hG).trans ow_65.symm) rfl mx_65 rfl rfl hd_134 h
    · replace h := h.2 e2
      exact Y_thr i_171_15 ow_171 lc_9_157 (by decide +kernel) rfl (KKe h)
theorem k_134_13 {d : Nat} {F A : Nat → Nat → Int32} {J : Nat → Nat → Int64} {G : pG} {Q : pR → pM → Prop} {SL p q : Nat} {x1 r r : Int32} (hG : Geo G SL p q) (h : Q (.inl (some (.int r))) (F, A, J, G)) : KK (d + 3) 134 13 [.ref 0, .int x1] [] Q (.inl (some (.int r))) (F, A, J, G) := by
  refine KKi ?_
  exact Y_iret i_134_13 rt_134 h
/- 135 TableTower.change(II)Z -/
theorem t_135_0 {d : Nat} {F A : Nat → Nat → Int32} {J : Nat → Nat → Int64} {G : pG} {Q : pR → pM → Prop} {SL p q : Nat} {x1 x2 : Int32} (hG : Geo G SL p q) (h : ((x1 < 0 → Q (.inr 101) (F, A, J, gThr G)) ∧ (¬ x1 < 0 → ((x1 < (F 27 1) → ((x2 < 0 → Q (.inr 101) (F, A, J, gThr G)) ∧ (¬ x2 < 0 → ((x2 < (F 27 1) → ((x1 = x2 → Q (.inl (some (.int 0))) (F, (wF A 26 1 ((A 26 1) + 1)), J, G)) ∧ (¬ x1 = x2 → inB x1 10 = true ∧ inB x2 10 = true ∧ (((F 22 0) < 40 → inB ((F 22 0) * 14) 560 = true ∧ inB (((F 22 0) * 14) + 1) 560 = true ∧ inB (((F 22 0) * 14) + 2) 560 = true ∧ inB (((F 22 0) * 14) + 3) 560 = true ∧ (Q (.inl (some (.int 1))) ((wF (wF F 22 0 ((F 22 0) + 1)) 21 6 1), (wF (wF (wF (wF (wF (wF A 28 x1.toNatClampNeg (A 28 x2.toNatClampNeg)) 28 x2.toNatClampNeg (A 28 x1.toNatClampNeg)) 23 ((F 22 0) * 14).toNatClampNeg 2) 23 (((F 22 0) * 14) + 1).toNatClampNeg x1) 23 (((F 22 0) * 14) + 2).toNatClampNeg x2) 23 (((F 22 0) * 14) + 3).toNatClampNeg 0), J, G))) ∧ (¬ (F 22 0) < 40 → (¬ (14 : Int32) < 0 ∧ ¬ (0 : Int32) < 0 ∧ ¬ ((39 : Int32) * 14) < 0 ∧ (14 : Int32).toNatClampNeg + ((39 : Int32) * 14).toNatClampNeg ≤ 560 ∧ (0 : Int32).toNatClampNeg + ((39 : Int32) * 14).toNatClampNeg ≤ 560) ∧ inB ((39 : Int32) * 14) 560 = true ∧ inB (((39 : Int32) * 14) + 1) 560 = true ∧ inB (((39 : Int32) * 14) + 2) 560 = true ∧ inB (((39 : Int32) * 14) + 3) 560 = true ∧ (Q (.inl (some (.int 1))) ((wF (wF (wF F 22 0 39) 22 0 ((39 : Int32) + 1)) 21 6 1), (wF (wF (wF (wF (cpR (wF (wF A 28 x1.toNatClampNeg (A 28 x2.toNatClampNeg)) 28 x2.toNatClampNeg (A 28 x1.toNatClampNeg)) 23 23 14 0 ((39 : Int32) * 14).toNatClampNeg) 23 ((39 : Int32) * 14).toNatClampNeg 2) 23 (((39 : Int32) * 14) + 1).toNatClampNeg x1) 23 (((39 : Int32) * 14) + 2).toNatClampNeg x2) 23 (((39 : Int32) * 14) + 3).toNatClampNeg 0), J, G))))))) ∧ (¬ x2 < (F 27 1) → Q (.inr 101) (F, A, J, gThr G)))))) ∧ (¬ x1 < (F 27 1) → Q (.inr 101) (F, A, J, gThr G)))))) : X (d + 3) 135 0 [.ref 0, .int x1, .int x2] [] (F, A, J, G) Q := by
  refine Y_al0 i_135_0 ?_
  refine Y_il1 i_135_1 ?_
  refine Y_iv1 (L0 := [.ref 0, .int x1]) i_135_2 ow_135 lm_9_192 ((k_0 hG).trans ow_173.symm) rfl mx_173 rfl rfl hd_135 ?_
  refine Y_il1 i_173_0 ?_
  refine Y_zlt i_173_1 (fun e1 => ?_) (fun e1 => ?_)
  · replace h := h.1 e1
    exact Y_thr i_173_18 ow_173 lc_9_157 (by decide +kernel) rfl (KKe h)
  · replace h := h.2 e1
    refine Y_il1 i_173_4 ?_
    refine Y_al0 i_173_5 ?_
    refine Y_gR i_173_6 ow_173 lf_9_48 (k_0 hG) (r_0_7 hG) ?_
    refine Y_gR i_173_9 ow_173 lf_9_57 (k_21 hG) (r_21_0 hG) ?_
    refine Y_gI (v := (F 27 1)) i_173_12 ow_173 lf_9_114 (by decide) (k_27 hG) rfl ?_
    refine Y_clt i_173_15 (fun e2 => ?_) (fun e2 => ?_)
    · replace h := h.1 e2
      refine Y_vret i_173_29 rt_173 (KKv ?_)
      refine Y_al0 i_135_5 ?_
      refine Y_il2 i_135_6 ?_
      refine Y_iv1 (L0 := [.ref 0, .int x2]) i_135_7 ow_135 lm_9_192 ((k_0 hG).trans ow_173.symm) rfl mx_173 rfl rfl hd_135 ?_
      refine Y_il1 i_173_0 ?_
      refine Y_zlt i_173_1 (fun e3 => ?_) (fun e3 => ?_)
      · replace h := h.1 e3
        exact Y_thr i_173_18 ow_173 lc_9_157 (by decide +kernel) rfl (KKe h)
      · replace h := h.2 e3
        refine Y_il1 i_173_4 ?_
        refine Y_al0 i_173_5 ?_
        refine Y_gR i_173_6 ow_173 lf_9_48 (k_0 hG) (r_0_7 hG) ?_
        refine Y_gR i_173_9 ow_173 lf_9_57 (k_21 hG) (r_21_0 hG) ?_
        refine Y_gI (v := (F 27 1)) i_173_12 ow_173 lf_9_114 (by decide) (k_27 hG) rfl ?_
        refine Y_clt i_173_15 (fun e4 => ?_) (fun e4 => ?_)
        · replace h := h.1 e4
          refine Y_vret i_173_29 rt_173 (KKv ?_)
          refine Y_al0 i_135_10 ?_
          refine Y_gR i_135_11 ow_135 lf_9_48 (k_0 hG) (r_0_7 hG) ?_
          refine Y_il1 i_135_14 ?_
          refine Y_il2 i_135_15 ?_
          refine Y_iv2 (L0 := [.ref 21, .int x1, .int x2]) i_135_16 ow_135 lm_9_229 ((k_21 hG).trans ow_66.symm) rfl mx_66 rfl rfl hd_135 ?_
          refine Y_il1 i_66_0 ?_
          refine Y_il2 i_66_1 ?_
          refine Y_cne i_66_2 (fun e5 => ?_) (fun e5 => ?_)
          · replace h := h.1 e5
            refine Y_al0 i_66_5 ?_
            refine Y_iconst (v := 1) i_66_6 (by decide) ?_
            refine Y_iv1 (L0 := [.ref 21, .int 1]) i_66_7 ow_66 lm_5_71 ((k_21 hG).trans ow_63.symm) rfl mx_63 rfl rfl hd_66 ?_
            refine Y_al0 i_63_0 ?_
            refine Y_gR i_63_1 ow_63 lf_5_25 (k_21 hG) (r_21_5 hG) ?_
            refine Y_il1 i_63_4 ?_
            refine Y_dup2 i_63_5 rfl rfl ?_
            refine Y_iaload (k := 1) (v := (A 26 1)) i_63_6 (k_26 hG) (l_26 hG) (by decide) (by decide) rfl ?_
            refine Y_iconst (v := 1) i_63_7 (by decide) ?_
            refine Y_iadd i_63_8 ?_
            refine Y_iast (k := 1) i_63_9 (k_26 hG) (l_26 hG) (by decide) (by decide) ?_
            refine Y_iconst (v := (-1)) i_63_10 (by decide) ?_
            refine Y_iret i_63_11 rt_63 (KKi ?_)
            refine Y_pop i_66_10 rfl ?_
            refine Y_iconst (v := 0) i_66_11 (by decide) ?_
            refine Y_bret i_66_12 rt_66 (by decide) (KKi ?_)
            exact Y_bret i_135_19 rt_135 (by decide) h
          · replace h := h.2 e5
            refine Y_al0 i_66_13 ?_
            refine Y_gR i_66_14 ow_66 lf_5_33 (k_21 hG) (r_21_0 hG) ?_
            refine Y_il1 i_66_17 ?_
            refine Y_il2 i_66_18 ?_
            refine Y_iv2 (L0 := [.ref 27, .int x1, .int x2, .null]) i_66_19 ow_66 lm_5_89 ((k_27 hG).trans ow_81.symm) rfl mx_81 rfl rfl hd_66 ?_
            refine Y_al0 i_81_0 ?_
            refine Y_gR i_81_1 ow_81 lf_6_9 (k_27 hG) (r_27_4 hG) ?_
            refine Y_il1 i_81_4 ?_
            have o6 := h.1
            replace h := h.2
            refine Y_iaload (k := x1.toNatClampNeg) (v := (A 28 x1.toNatClampNeg)) i_81_5 (k_28 hG) (l_28 hG) o6 rfl rfl ?_
            refine Y_is3 i_81_6 rfl ?_
            refine Y_al0 i_81_7 ?_
            refine Y_gR i_81_8 ow_81 lf_6_9 (k_27 hG) (r_27_4 hG) ?_
            refine Y_il1 i_81_11 ?_
            refine Y_al0 i_81_12 ?_
            refine Y_gR i_81_13 ow_81 lf_6_9 (k_27 hG) (r_27_4 hG) ?_
            refine Y_il2 i_81_16 ?_
            have o7 := h.1
            replace h := h.2
            refine Y_iaload (k := x2.toNatClampNeg) (v := (A 28 x2.toNatClampNeg)) i_81_17 (k_28 hG) (l_28 hG) o7 rfl rfl ?_
            refine Y_iast i_81_18 (k_28 hG) (l_28 hG) o6 rfl ?_
            refine Y_al0 i_81_19 ?_
            refine Y_gR i_81_20 ow_81 lf_6_9 (k_27 hG) (r_27_4 hG) ?_
            refine Y_il2 i_81_23 ?_
            refine Y_il3 i_81_24 ?_
            refine Y_iast i_81_25 (k_28 hG) (l_28 hG) o7 rfl ?_
            refine Y_vret i_81_26 rt_81 (KKv ?_)
            refine Y_al0 i_66_22 ?_
            refine Y_iconst (v := 2) i_66_23 (by decide) ?_
            refine Y_il1 i_66_24 ?_
            refine Y_il2 i_66_25 ?_
            refine Y_iconst (v := 0) i_66_26 (by decide) ?_
            refine Y_iv4 (L0 := [.ref 21, .int 2, .int x1, .int x2, .int 0]) i_66_27 ow_66 lm_5_78 ((k_21 hG).trans ow_73.symm) rfl mx_73 rfl rfl hd_66 ?_
            refine Y_al0 i_73_0 ?_
            refine Y_gR i_73_1 ow_73 lf_5_12 (k_21 hG) (r_21_1 hG) ?_
            refine Y_il1 i_73_4 ?_
            refine Y_il2 i_73_5 ?_
            refine Y_il3 i_73_6 ?_
            refine Y_il4 i_73_7 ?_
            refine Y_iv4 (L0 := [.ref 22, .int 2, .int x1, .int x2, .int 0, .null]) i_73_9 ow_73 lm_5_114 ((k_22 hG).trans ow_2.symm) rfl mx_2 rfl rfl hd_73 ?_
            refine Y_al0 i_2_0 ?_
            refine Y_gI (v := (F 22 0)) i_2_1 ow_2 lf_0_15 (by decide) (k_22 hG) rfl ?_
            refine Y_bipush (v := 40) i_2_4 (by decide) ?_
            refine Y_clt i_2_6 (fun e8 => ?_) (fun e8 => ?_)
            · replace h := h.1 e8
              refine Y_al0 i_2_36 ?_
              refine Y_gI (v := (F 22 0)) i_2_37 ow_2 lf_0_15 (by decide) (k_22 hG) rfl ?_
              refine Y_bipush (v := 14) i_2_40 (by decide) ?_
              refine Y_imul i_2_42 ?_
              refine Y_is5 i_2_43 rfl ?_
              refine Y_al0 i_2_45 ?_
              refine Y_gR i_2_46 ow_2 lf_0_11 (k_22 hG) (r_22_1 hG) ?_
              refine Y_il5 i_2_49 ?_
              refine Y_il1 i_2_51 ?_
              have o9 := h.1
              replace h := h.2
              refine Y_iast i_2_52 (k_23 hG) (l_23 hG) o9 rfl ?_
              refine Y_al0 i_2_53 ?_
              refine Y_gR i_2_54 ow_2 lf_0_11 (k_22 hG) (r_22_1 hG) ?_
              refine Y_il5 i_2_57 ?_
              refine Y_iconst (v := 1) i_2_59 (by decide) ?_
              refine Y_iadd i_2_60 ?_
              refine Y_il2 i_2_61 ?_
              have o10 := h.1
              replace h := h.2
              refine Y_iast i_2_62 (k_23 hG) (l_23 hG) o10 rfl ?_
              refine Y_al0 i_2_63 ?_
              refine Y_gR i_2_64 ow_2 lf_0_11 (k_22 hG) (r_22_1 hG) ?_
              refine Y_il5 i_2_67 ?_
              refine Y_iconst (v := 2) i_2_69 (by decide) ?_
              refine Y_iadd i_2_70 ?_
              refine Y_il3 i_2_71 ?_
              have o11 := h.1
              replace h := h.2
              refine Y_iast i_2_72 (k_23 hG) (l_23 hG) o11 rfl ?_
              refine Y_al0 i_2_73 ?_
              refine Y_gR i_2_74 ow_2 lf_0_11 (k_22 hG) (r_22_1 hG) ?_
              refine Y_il5 i_2_77 ?_
              refine Y_iconst (v := 3) i_2_79 (by decide) ?_
              refine Y_iadd i_2_80 ?_
              refine Y_il4 i_2_81 ?_
              have o12 := h.1
              replace h := h.2
              refine Y_iast i_2_83 (k_23 hG) (l_23 hG) o12 rfl ?_
              refine Y_al0 i_2_84 ?_
              refine Y_dup i_2_85 rfl ?_
              refine Y_gI (v := (F 22 0)) i_2_86 ow_2 lf_0_15 (by decide) (k_22 hG) rfl ?_
              refine Y_iconst (v := 1) i_2_89 (by decide) ?_
              refine Y_iadd i_2_90 ?_
              refine Y_pI i_2_91 ow_2 lf_0_15 (k_22 hG) ?_
              refine Y_vret i_2_94 rt_2 (KKv ?_)
              refine Y_al0 i_73_12 ?_
              refine Y_iconst (v := 1) i_73_13 (by decide) ?_
              refine Y_pB i_73_14 ow_73 lf_5_37 (k_21 hG) (by decide) ?_
              refine Y_vret i_73_17 rt_73 (KKv ?_)
              refine Y_iconst (v := 1) i_66_30 (by decide) ?_
              refine Y_bret i_66_31 rt_66 (by decide) (KKi ?_)
              exact Y_bret i_135_19 rt_135 (by decide) h
            · replace h := h.2 e8
              refine Y_al0 i_2_9 ?_
              refine Y_bipush (v := 39) i_2_10 (by decide) ?_
              refine Y_pI i_2_12 ow_2 lf_0_15 (k_22 hG) ?_
              refine Y_al0 i_2_15 ?_
              refine Y_gR i_2_16 ow_2 lf_0_11 (k_22 hG) (r_22_1 hG) ?_
              refine Y_bipush (v := 14) i_2_19 (by decide) ?_
              refine Y_al0 i_2_21 ?_
              refine Y_gR i_2_22 ow_2 lf_0_11 (k_22 hG) (r_22_1 hG) ?_
              refine Y_iconst (v := 0) i_2_25 (by decide) ?_
              refine Y_al0 i_2_26 ?_
              refine Y_gI (v := 39) i_2_27 ow_2 lf_0_15 (by decide) (k_22 hG) (by simp [wF, wJ, va_up, cpR, bF, bA]) ?_
              refine Y_bipush (v := 14) i_2_30 (by decide) ?_
              refine Y_imul i_2_32 ?_
              have o13 := h.1
              replace h := h.2
              refine Y_acp (ksp := 14) (kdp := 0) (kn := ((39 : Int32) * 14).toNatClampNeg) i_2_33 ow_2 lm_0_19 rfl (k_23 hG) (k_23 hG) (l_23 hG) (l_23 hG) o13 (by decide) (by decide) rfl ?_
              refine Y_al0 i_2_36 ?_
              refine Y_gI (v := 39) i_2_37 ow_2 lf_0_15 (by decide) (k_22 hG) (by simp [wF, wJ, va_up, cpR, bF, bA]) ?_
              refine Y_bipush (v := 14) i_2_40 (by decide) ?_
              refine Y_imul i_2_42 ?_
              refine Y_is5 i_2_43 rfl ?_
              refine Y_al0 i_2_45 ?_
              refine Y_gR i_2_46 ow_2 lf_0_11 (k_22 hG) (r_22_1 hG) ?_
              refine Y_il5 i_2_49 ?_
              refine Y_il1 i_2_51 ?_
              have o14 := h.1
              replace h := h.2
              refine Y_iast i_2_52 (k_23 hG) (l_23 hG) o14 rfl ?_
              refine Y_al0 i_2_53 ?_
              refine Y_gR i_2_54 ow_2 lf_0_11 (k_22 hG) (r_22_1 hG) ?_
              refine Y_il5 i_2_57 ?_
              refine Y_iconst (v := 1) i_2_59 (by decide) ?_
              refine Y_iadd i_2_60 ?_
              refine Y_il2 i_2_61 ?_
              have o15 := h.1
              replace h := h.2
              refine Y_iast i_2_62 (k_23 hG) (l_23 hG) o15 rfl ?_
              refine Y_al0 i_2_63 ?_
              refine Y_gR i_2_64 ow_2 lf_0_11 (k_22 hG) (r_22_1 hG) ?_
              refine Y_il5 i_2_67 ?_
              refine Y_iconst (v := 2) i_2_69 (by decide) ?_
              refine Y_iadd i_2_70 ?_
              refine Y_il3 i_2_71 ?_
              have o16 := h.1
              replace h := h.2
              refine Y_iast i_2_72 (k_23 hG) (l_23 hG) o16 rfl ?_
              refine Y_al0 i_2_73 ?_
              refine Y_gR i_2_74 ow_2 lf_0_11 (k_22 hG) (r_22_1 hG) ?_
              refine Y_il5 i_2_77 ?_
              refine Y_iconst (v := 3) i_2_79 (by decide) ?_
              refine Y_iadd i_2_80 ?_
              refine Y_il4 i_2_81 ?_
              have o17 := h.1
              replace h := h.2
              refine Y_iast i_2_83 (k_23 hG) (l_23 hG) o17 rfl ?_
              refine Y_al0 i_2_84 ?_
              refine Y_dup i_2_85 rfl ?_
              refine Y_gI (v := 39) i_2_86 ow_2 lf_0_15 (by decide) (k_22 hG) (by simp [wF, wJ, va_up, cpR, bF, bA]) ?_
              refine Y_iconst (v := 1) i_2_89 (by decide) ?_
              refine Y_iadd i_2_90 ?_
              refine Y_pI i_2_91 ow_2 lf_0_15 (k_22 hG) ?_
              refine Y_vret i_2_94 rt_2 (KKv ?_)
              refine Y_al0 i_73_12 ?_
              refine Y_iconst (v := 1) i_73_13 (by decide) ?_
              refine Y_pB i_73_14 ow_73 lf_5_37 (k_21 hG) (by decide) ?_
              refine Y_vret i_73_17 rt_73 (KKv ?_)
              refine Y_iconst (v := 1) i_66_30 (by decide) ?_
              refine Y_bret i_66_31 rt_66 (by decide) (KKi ?_)
              exact Y_bret i_135_19 rt_135 (by decide) h
        · replace h := h.2 e4
          exact Y_thr i_173_18 ow_173 lc_9_157 (by decide +kernel) rfl (KKe h)
    · replace h := h.2 e2
      exact Y_thr i_173_18 ow_173 lc_9_157 (by decide +kernel) rfl (KKe h)
/- 136 TableTower.wedge(II)I -/
theorem t_136_0 {d : Nat} {F A : Nat → Nat → Int32} {J : Nat → Nat → Int64} {G : pG} {Q : pR → pM → Prop} {SL p q : Nat} {x1 x2 : Int32} (hG : Geo G SL p q) (h : ((x1 < 0 → Q (.inr 101) (F, A, J, gThr G)) ∧ (¬ x1 < 0 → ((x1 < (F 12 0) → ((x2 < (-9) → Q (.inl (some (.int (-99)))) (F, (wF A 26 1 ((A 26 1) + 1)), J, G)) ∧ (¬ x2 < (-9) → ((9 < x2 → Q (.inl (some (.int (-99)))) (F, (wF A 26 1 ((A 26 1) + 1)), J, G)) ∧ (¬ 9 < x2 → inB x1 10 = true ∧ (((F 22 0) < 40 → inB ((F 22 0) * 14) 560 = true ∧ inB (((F 22 0) * 14) + 1) 560 = true ∧ inB (((F 22 0) * 14) + 2) 560 = true ∧ inB (((F 22 0) * 14) + 3) 560 = true ∧ (Q (.inl (some (.int (A 30 x1.toNatClampNeg)))) ((wF (wF F 22 0 ((F 22 0) + 1)) 21 6 1), (wF (wF (wF (wF (wF A 30 x1.toNatClampNeg x2) 23 ((F 22 0) * 14).toNatClampNeg 3) 23 (((F 22 0) * 14) + 1).toNatClampNeg x1) 23 (((F 22 0) * 14) + 2).toNatClampNeg (A 30 x1.toNatClampNeg)) 23 (((F 22 0) * 14) + 3).toNatClampNeg 0), J, G))) ∧ (¬ (F 22 0) < 40 → (¬ (14 : Int32) < 0 ∧ ¬ (0 : Int32) < 0 ∧ ¬ ((39 : Int32) * 14) < 0 ∧ (14 : Int32).toNatClampNeg + ((39 : Int32) * 14).toNatClampNeg ≤ 560 ∧ (0 : Int32).toNatClampNeg + ((39 : Int32) * 14).toNatClampNeg ≤ 560) ∧ inB ((39 : Int32) * 14) 560 = true ∧ inB (((39 : Int32) * 14) + 1) 560 = true ∧ inB (((39 : Int32) * 14) + 2) 560 = true ∧ inB (((39 : Int32) * 14) + 3) 560 = true ∧ (Q (.inl (some (.int (A 30 x1.toNatClampNeg)))) ((wF (wF (wF F 22 0 39) 22 0 ((39 : Int32) + 1)) 21 6 1), (wF (wF (wF (wF (cpR (wF A 30 x1.toNatClampNeg x2) 23 23 14 0 ((39 : Int32) * 14).toNatClampNeg) 23 ((39 : Int32) * 14).toNatClampNeg 3) 23 (((39 : Int32) * 14) + 1).toNatClampNeg x1) 23 (((39 : Int32) * 14) + 2).toNatClampNeg (A 30 x1.toNatClampNeg)) 23 (((39 : Int32) * 14) + 3).toNatClampNeg 0), J, G))))))))) ∧ (¬ x1 < (F 12 0) → Q (.inr 101) (F, A, J, gThr G)))))) : X (d + 3) 136 0 [.ref 0, .int x1, .int x2] [] (F, A, J, G) Q := by
  refine Y_al0 i_136_0 ?_
  refine Y_il1 i_136_1 ?_
  refine Y_iv1 (L0 := [.ref 0, .int x1]) i_136_2 ow_136 lm_9_162 ((k_0 hG).trans ow_171.symm) rfl mx_171 rfl rfl hd_136 ?_
  refine Y_il1 i_171_0 ?_
  refine Y_zlt i_171_1 (fun e1 => ?_) (fun e1 => ?_)
  · replace h := h.1 e1
    exact Y_thr i_171_15 ow_171 lc_9_157 (by decide +kernel) rfl (KKe h)
  · replace h := h.2 e1
    refine Y_il1 i_171_4 ?_
    refine Y_al0 i_171_5 ?_
    refine Y_gR i_171_6 ow_171 lf_9_40 (k_0 hG) (r_0_6 hG) ?_
    refine Y_gI (v := (F 12 0)) i_171_9 ow_171 lf_9_111 (by decide) (k_12 hG) rfl ?_
    refine Y_clt i_171_12 (fun e2 => ?_) (fun e2 => ?_)
    · replace h := h.1 e2
      refine Y_vret i_171_26 rt_171 (KKv ?_)
      refine Y_al0 i_136_5 ?_
      refine Y_gR i_136_6 ow_136 lf_9_48 (k_0 hG) (r_0_7 hG) ?_
      refine Y_il1 i_136_9 ?_
      refine Y_il2 i_136_10 ?_
      refine Y_iv2 (L0 := [.ref 21, .int x1, .int x2, .null]) i_136_11 ow_136 lm_9_233 ((k_21 hG).trans ow_67.symm) rfl mx_67 rfl rfl hd_136 ?_
      refine Y_il2 i_67_0 ?_
      refine Y_bipush (v := (-9)) i_67_1 (by decide) ?_
      refine Y_clt i_67_3 (fun e3 => ?_) (fun e3 => ?_)
      · replace h := h.1 e3
        refine Y_al0 i_67_12 ?_
        refine Y_iconst (v := 1) i_67_13 (by decide) ?_
        refine Y_iv1 (L0 := [.ref 21, .int 1]) i_67_14 ow_67 lm_5_71 ((k_21 hG).trans ow_63.symm) rfl mx_63 rfl rfl hd_67 ?_
        refine Y_al0 i_63_0 ?_
        refine Y_gR i_63_1 ow_63 lf_5_25 (k_21 hG) (r_21_5 hG) ?_
        refine Y_il1 i_63_4 ?_
        refine Y_dup2 i_63_5 rfl rfl ?_
        refine Y_iaload (k := 1) (v := (A 26 1)) i_63_6 (k_26 hG) (l_26 hG) (by decide) (by decide) rfl ?_
        refine Y_iconst (v := 1) i_63_7 (by decide) ?_
        refine Y_iadd i_63_8 ?_
        refine Y_iast (k := 1) i_63_9 (k_26 hG) (l_26 hG) (by decide) (by decide) ?_
        refine Y_iconst (v := (-1)) i_63_10 (by decide) ?_
        refine Y_iret i_63_11 rt_63 (KKi ?_)
        refine Y_pop i_67_17 rfl ?_
        refine Y_bipush (v := (-99)) i_67_18 (by decide) ?_
        refine Y_iret i_67_20 rt_67 (KKi ?_)
        exact Y_iret i_136_14 rt_136 h
      · replace h := h.2 e3
        refine Y_il2 i_67_6 ?_
        refine Y_bipush (v := 9) i_67_7 (by decide) ?_
        refine Y_cle i_67_9 (fun e4 => ?_) (fun e4 => ?_)
        · replace h := h.1 e4
          refine Y_al0 i_67_12 ?_
          refine Y_iconst (v := 1) i_67_13 (by decide) ?_
          refine Y_iv1 (L0 := [.ref 21, .int 1]) i_67_14 ow_67 lm_5_71 ((k_21 hG).trans ow_63.symm) rfl mx_63 rfl rfl hd_67 ?_
          refine Y_al0 i_63_0 ?_
          refine Y_gR i_63_1 ow_63 lf_5_25 (k_21 hG) (r_21_5 hG) ?_
          refine Y_il1 i_63_4 ?_
          refine Y_dup2 i_63_5 rfl rfl ?_
          refine Y_iaload (k := 1) (v := (A 26 1)) i_63_6 (k_26 hG) (l_26 hG) (by decide) (by decide) rfl ?_
          refine Y_iconst (v := 1) i_63_7 (by decide) ?_
          refine Y_iadd i_63_8 ?_
          refine Y_iast (k := 1) i_63_9 (k_26 hG) (l_26 hG) (by decide) (by decide) ?_
          refine Y_iconst (v := (-1)) i_63_10 (by decide) ?_
          refine Y_iret i_63_11 rt_63 (KKi ?_)
          refine Y_pop i_67_17 rfl ?_
          refine Y_bipush (v := (-99)) i_67_18 (by decide) ?_
          refine Y_iret i_67_20 rt_67 (KKi ?_)
          exact Y_iret i_136_14 rt_136 h
        · replace h := h.2 e4
          refine Y_al0 i_67_21 ?_
          refine Y_gR i_67_22 ow_67 lf_5_33 (k_21 hG) (r_21_0 hG) ?_
          refine Y_gR i_67_25 ow_67 lf_5_92 (k_27 hG) (r_27_6 hG) ?_
          refine Y_il1 i_67_28 ?_
          have o5 := h.1
          replace h := h.2
          refine Y_iaload (k := x1.toNatClampNeg) (v := (A 30 x1.toNatClampNeg)) i_67_29 (k_30 hG) (l_30 hG) o5 rfl rfl ?_
          refine Y_is3 i_67_30 rfl ?_
          refine Y_al0 i_67_31 ?_
          refine Y_gR i_67_32 ow_67 lf_5_33 (k_21 hG) (r_21_0 hG) ?_
          refine Y_gR i_67_35 ow_67 lf_5_92 (k_27 hG) (r_27_6 hG) ?_
          refine Y_il1 i_67_38 ?_
          refine Y_il2 i_67_39 ?_
          refine Y_iast i_67_40 (k_30 hG) (l_30 hG) o5 rfl ?_
          refine Y_al0 i_67_41 ?_
          refine Y_iconst (v := 3) i_67_42 (by decide) ?_
          refine Y_il1 i_67_43 ?_
          refine Y_il3 i_67_44 ?_
          refine Y_iconst (v := 0) i_67_45 (by decide) ?_
          refine Y_iv4 (L0 := [.ref 21, .int 3, .int x1, .int (A 30 x1.toNatClampNeg), .int 0]) i_67_46 ow_67 lm_5_78 ((k_21 hG).trans ow_73.symm) rfl mx_73 rfl rfl hd_67 ?_
          refine Y_al0 i_73_0 ?_
          refine Y_gR i_73_1 ow_73 lf_5_12 (k_21 hG) (r_21_1 hG) ?_
          refine Y_il1 i_73_4 ?_
          refine Y_il2 i_73_5 ?_
          refine Y_il3 i_73_6 ?_
          refine Y_il4 i_73_7 ?_
          refine Y_iv4 (L0 := [.ref 22, .int 3, .int x1, .int (A 30 x1.toNatClampNeg), .int 0, .null]) i_73_9 ow_73 lm_5_114 ((k_22 hG).trans ow_2.symm) rfl mx_2 rfl rfl hd_73 ?_
          refine Y_al0 i_2_0 ?_
          refine Y_gI (v := (F 22 0)) i_2_1 ow_2 lf_0_15 (by decide) (k_22 hG) rfl ?_
          refine Y_bipush (v := 40) i_2_4 (by decide) ?_
          refine Y_clt i_2_6 (fun e6 => ?_) (fun e6 => ?_)
          · replace h := h.1 e6
            refine Y_al0 i_2_36 ?_
            refine Y_gI (v := (F 22 0)) i_2_37 ow_2 lf_0_15 (by decide) (k_22 hG) rfl ?_
            refine Y_bipush (v := 14) i_2_40 (by decide) ?_
            refine Y_imul i_2_42 ?_
            refine Y_is5 i_2_43 rfl ?_
            refine Y_al0 i_2_45 ?_
            refine Y_gR i_2_46 ow_2 lf_0_11 (k_22 hG) (r_22_1 hG) ?_
            refine Y_il5 i_2_49 ?_
            refine Y_il1 i_2_51 ?_
            have o7 := h.1
            replace h := h.2
            refine Y_iast i_2_52 (k_23 hG) (l_23 hG) o7 rfl ?_
            refine Y_al0 i_2_53 ?_
            refine Y_gR i_2_54 ow_2 lf_0_11 (k_22 hG) (r_22_1 hG) ?_
            refine Y_il5 i_2_57 ?_
            refine Y_iconst (v := 1) i_2_59 (by decide) ?_
            refine Y_iadd i_2_60 ?_
            refine Y_il2 i_2_61 ?_
            have o8 := h.1
            replace h := h.2
            refine Y_iast i_2_62 (k_23 hG) (l_23 hG) o8 rfl ?_
            refine Y_al0 i_2_63 ?_
            refine Y_gR i_2_64 ow_2 lf_0_11 (k_22 hG) (r_22_1 hG) ?_
            refine Y_il5 i_2_67 ?_
            refine Y_iconst (v := 2) i_2_69 (by decide) ?_
            refine Y_iadd i_2_70 ?_
            refine Y_il3 i_2_71 ?_
            have o9 := h.1
            replace h := h.2
            refine Y_iast i_2_72 (k_23 hG) (l_23 hG) o9 rfl ?_
            refine Y_al0 i_2_73 ?_
            refine Y_gR i_2_74 ow_2 lf_0_11 (k_22 hG) (r_22_1 hG) ?_
            refine Y_il5 i_2_77 ?_
            refine Y_iconst (v := 3) i_2_79 (by decide) ?_
            refine Y_iadd i_2_80 ?_
            refine Y_il4 i_2_81 ?_
            have o10 := h.1
            replace h := h.2
            refine Y_iast i_2_83 (k_23 hG) (l_23 hG) o10 rfl ?_
            refine Y_al0 i_2_84 ?_
            refine Y_dup i_2_85 rfl ?_
            refine Y_gI (v := (F 22 0)) i_2_86 ow_2 lf_0_15 (by decide) (k_22 hG) rfl ?_
            refine Y_iconst (v := 1) i_2_89 (by decide) ?_
            refine Y_iadd i_2_90 ?_
            refine Y_pI i_2_91 ow_2 lf_0_15 (k_22 hG) ?_
            refine Y_vret i_2_94 rt_2 (KKv ?_)
            refine Y_al0 i_73_12 ?_
            refine Y_iconst (v := 1) i_73_13 (by decide) ?_
            refine Y_pB i_73_14 ow_73 lf_5_37 (k_21 hG) (by decide) ?_
            refine Y_vret i_73_17 rt_73 (KKv ?_)
            refine Y_il3 i_67_49 ?_
            refine Y_iret i_67_50 rt_67 (KKi ?_)
            exact Y_iret i_136_14 rt_136 h
          · replace h := h.2 e6
            refine Y_al0 i_2_9 ?_
            refine Y_bipush (v := 39) i_2_10 (by decide) ?_
            refine Y_pI i_2_12 ow_2 lf_0_15 (k_22 hG) ?_
            refine Y_al0 i_2_15 ?_
            refine Y_gR i_2_16 ow_2 lf_0_11 (k_22 hG) (r_22_1 hG) ?_
            refine Y_bipush (v := 14) i_2_19 (by decide) ?_
            refine Y_al0 i_2_21 ?_
            refine Y_gR i_2_22 ow_2 lf_0_11 (k_22 hG) (r_22_1 hG) ?_
            refine Y_iconst (v := 0) i_2_25 (by decide) ?_
            refine Y_al0 i_2_26 ?_
            refine Y_gI (v := 39) i_2_27 ow_2 lf_0_15 (by decide) (k_22 hG) (by simp [wF, wJ, va_up, cpR, bF, bA]) ?_
            refine Y_bipush (v := 14) i_2_30 (by decide) ?_
            refine Y_imul i_2_32 ?_
            have o11 := h.1
            replace h := h.2
            refine Y_acp (ksp := 14) (kdp := 0) (kn := ((39 : Int32) * 14).toNatClampNeg) i_2_33 ow_2 lm_0_19 rfl (k_23 hG) (k_23 hG) (l_23 hG) (l_23 hG) o11 (by decide) (by decide) rfl ?_
            refine Y_al0 i_2_36 ?_
            refine Y_gI (v := 39) i_2_37 ow_2 lf_0_15 (by decide) (k_22 hG) (by simp [wF, wJ, va_up, cpR, bF, bA]) ?_
            refine Y_bipush (v := 14) i_2_40 (by decide) ?_
            refine Y_imul i_2_42 ?_
            refine Y_is5 i_2_43 rfl ?_
            refine Y_al0 i_2_45 ?_
            refine Y_gR i_2_46 ow_2 lf_0_11 (k_22 hG) (r_22_1 hG) ?_
            refine Y_il5 i_2_49 ?_
            refine Y_il1 i_2_51 ?_
            have o12 := h.1
            replace h := h.2
            refine Y_iast i_2_52 (k_23 hG) (l_23 hG) o12 rfl ?_
            refine Y_al0 i_2_53 ?_
            refine Y_gR i_2_54 ow_2 lf_0_11 (k_22 hG) (r_22_1 hG) ?_
            refine Y_il5 i_2_57 ?_
            refine Y_iconst (v := 1) i_2_59 (by decide) ?_
            refine Y_iadd i_2_60 ?_
            refine Y_il2 i_2_61 ?_
            have o13 := h.1
            replace h := h.2
            refine Y_iast i_2_62 (k_23 hG) (l_23 hG) o13 rfl ?_
            refine Y_al0 i_2_63 ?_
            refine Y_gR i_2_64 ow_2 lf_0_11 (k_22 hG) (r_22_1 hG) ?_
            refine Y_il5 i_2_67 ?_
            refine Y_iconst (v := 2) i_2_69 (by decide) ?_
            refine Y_iadd i_2_70 ?_
            refine Y_il3 i_2_71 ?_
            have o14 := h.1
            replace h := h.2
            refine Y_iast i_2_72 (k_23 hG) (l_23 hG) o14 rfl ?_
            refine Y_al0 i_2_73 ?_
            refine Y_gR i_2_74 ow_2 lf_0_11 (k_22 hG) (r_22_1 hG) ?_
            refine Y_il5 i_2_77 ?_
            refine Y_iconst (v := 3) i_2_79 (by decide) ?_
            refine Y_iadd i_2_80 ?_
            refine Y_il4 i_2_81 ?_
            have o15 := h.1
            replace h := h.2
            refine Y_iast i_2_83 (k_23 hG) (l_23 hG) o15 rfl ?_
            refine Y_al0 i_2_84 ?_
            refine Y_dup i_2_85 rfl ?_
            refine Y_gI (v := 39) i_2_86 ow_2 lf_0_15 (by decide) (k_22 hG) (by simp [wF, wJ, va_up, cpR, bF, bA]) ?_
            refine Y_iconst (v := 1) i_2_89 (by decide) ?_
            refine Y_iadd i_2_90 ?_
            refine Y_pI i_2_91 ow_2 lf_0_15 (k_22 hG) ?_
            refine Y_vret i_2_94 rt_2 (KKv ?_)
            refine Y_al0 i_73_12 ?_
            refine Y_iconst (v := 1) i_73_13 (by decide) ?_
            refine Y_pB i_73_14 ow_73 lf_5_37 (k_21 hG) (by decide) ?_
            refine Y_vret i_73_17 rt_73 (KKv ?_)
            refine Y_il3 i_67_49 ?_
            refine Y_iret i_67_50 rt_67 (KKi ?_)
            exact Y_iret i_136_14 rt_136 h
    · replace h := h.2 e2
      exact Y_thr i_171_15 ow_171 lc_9_157 (by decide +kernel) rfl (KKe h)
/- 137 TableTower.saw(II)I -/
theorem t_137_0 {d : Nat} {F A : Nat → Nat → Int32} {J : Nat → Nat → Int64} {G : pG} {Q : pR → pM → Prop} {SL p q : Nat} {x1 x2 : Int32} (hG : Geo G SL p q) (h : ((x1 < 0 → Q (.inr 101) (F, A, J, gThr G)) ∧ (¬ x1 < 0 → ((x1 < (F 12 0) → ((x2 < (-9) → Q (.inl (some (.int (-99)))) (F, (wF A 26 1 ((A 26 1) + 1)), J, G)) ∧ (¬ x2 < (-9) → ((9 < x2 → Q (.inl (some (.int (-99)))) (F, (wF A 26 1 ((A 26 1) + 1)), J, G)) ∧ (¬ 9 < x2 → inB x1 10 = true ∧ (((F 22 0) < 40 → inB ((F 22 0) * 14) 560 = true ∧ inB (((F 22 0) * 14) + 1) 560 = true ∧ inB (((F 22 0) * 14) + 2) 560 = true ∧ inB (((F 22 0) * 14) + 3) 560 = true ∧ (Q (.inl (some (.int (A 31 x1.toNatClampNeg)))) ((wF (wF F 22 0 ((F 22 0) + 1)) 21 6 1), (wF (wF (wF (wF (wF A 31 x1.toNatClampNeg x2) 23 ((F 22 0) * 14).toNatClampNeg 4) 23 (((F 22 0) * 14) + 1).toNatClampNeg x1) 23 (((F 22 0) * 14) + 2).toNatClampNeg (A 31 x1.toNatClampNeg)) 23 (((F 22 0) * 14) + 3).toNatClampNeg 0), J, G))) ∧ (¬ (F 22 0) < 40 → (¬ (14 : Int32) < 0 ∧ ¬ (0 : Int32) < 0 ∧ ¬ ((39 : Int32) * 14) < 0 ∧ (14 : Int32).toNatClampNeg + ((39 : Int32) * 14).toNatClampNeg ≤ 560 ∧ (0 : Int32).toNatClampNeg + ((39 : Int32) * 14).toNatClampNeg ≤ 560) ∧ inB ((39 : Int32) * 14) 560 = true ∧ inB (((39 : Int32) * 14) + 1) 560 = true ∧ inB (((39 : Int32) * 14) + 2) 560 = true ∧ inB (((39 : Int32) * 14) + 3) 560 = true ∧ (Q (.inl (some (.int (A 31 x1.toNatClampNeg)))) ((wF (wF (wF F 22 0 39) 22 0 ((39 : Int32) + 1)) 21 6 1), (wF (wF (wF (wF (cpR (wF A 31 x1.toNatClampNeg x2) 23 23 14 0 ((39 : Int32) * 14).toNatClampNeg) 23 ((39 : Int32) * 14).toNatClampNeg 4) 23 (((39 : Int32) * 14) + 1).toNatClampNeg x1) 23 (((39 : Int32) * 14) + 2).toNatClampNeg (A 31 x1.toNatClampNeg)) 23 (((39 : Int32) * 14) + 3).toNatClampNeg 0), J, G))))))))) ∧ (¬ x1 < (F 12 0) → Q (.inr 101) (F, A, J, gThr G)))))) : X (d + 3) 137 0 [.ref 0, .int x1, .int x2] [] (F, A, J, G) Q := by
  refine Y_al0 i_137_0 ?_
  refine Y_il1 i_137_1 ?_
  refine Y_iv1 (L0 := [.ref 0, .int x1]) i_137_2 ow_137 lm_9_162 ((k_0 hG).trans ow_171.symm) rfl mx_171 rfl rfl hd_137 ?_
  refine Y_il1 i_171_0 ?_
  refine Y_zlt i_171_1 (fun e1 => ?_) (fun e1 => ?_)
  · replace h := h.1 e1
    exact Y_thr i_171_15 ow_171 lc_9_157 (by decide +kernel) rfl (KKe h)
  · replace h := h.2 e1
    refine Y_il1 i_171_4 ?_
    refine Y_al0 i_171_5 ?_
    refine Y_gR i_171_6 ow_171 lf_9_40 (k_0 hG) (r_0_6 hG) ?_
    refine Y_gI (v := (F 12 0)) i_171_9 ow_171 lf_9_111 (by decide) (k_12 hG) rfl ?_
    refine Y_clt i_171_12 (fun e2 => ?_) (fun e2 => ?_)
    · replace h := h.1 e2
      refine Y_vret i_171_26 rt_171 (KKv ?_)
      refine Y_al0 i_137_5 ?_
      refine Y_gR i_137_6 ow_137 lf_9_48 (k_0 hG) (r_0_7 hG) ?_
      refine Y_il1 i_137_9 ?_
      refine Y_il2 i_137_10 ?_
      refine Y_iv2 (L0 := [.ref 21, .int x1, .int x2, .null]) i_137_11 ow_137 lm_9_236 ((k_21 hG).trans ow_68.symm) rfl mx_68 rfl rfl hd_137 ?_
      refine Y_il2 i_68_0 ?_
      refine Y_bipush (v := (-9)) i_68_1 (by decide) ?_
      refine Y_clt i_68_3 (fun e3 => ?_) (fun e3 => ?_)
      · replace h := h.1 e3
        refine Y_al0 i_68_12 ?_
        refine Y_iconst (v := 1) i_68_13 (by decide) ?_
        refine Y_iv1 (L0 := [.ref 21, .int 1]) i_68_14 ow_68 lm_5_71 ((k_21 hG).trans ow_63.symm) rfl mx_63 rfl rfl hd_68 ?_
        refine Y_al0 i_63_0 ?_
        refine Y_gR i_63_1 ow_63 lf_5_25 (k_21 hG) (r_21_5 hG) ?_
        refine Y_il1 i_63_4 ?_
        refine Y_dup2 i_63_5 rfl rfl ?_
        refine Y_iaload (k := 1) (v := (A 26 1)) i_63_6 (k_26 hG) (l_26 hG) (by decide) (by decide) rfl ?_
        refine Y_iconst (v := 1) i_63_7 (by decide) ?_
        refine Y_iadd i_63_8 ?_
        refine Y_iast (k := 1) i_63_9 (k_26 hG) (l_26 hG) (by decide) (by decide) ?_
        refine Y_iconst (v := (-1)) i_63_10 (by decide) ?_
        refine Y_iret i_63_11 rt_63 (KKi ?_)
        refine Y_pop i_68_17 rfl ?_
        refine Y_bipush (v := (-99)) i_68_18 (by decide) ?_
        refine Y_iret i_68_20 rt_68 (KKi ?_)
        exact Y_iret i_137_14 rt_137 h
      · replace h := h.2 e3
        refine Y_il2 i_68_6 ?_
        refine Y_bipush (v := 9) i_68_7 (by decide) ?_
        refine Y_cle i_68_9 (fun e4 => ?_) (fun e4 => ?_)
        · replace h := h.1 e4
          refine Y_al0 i_68_12 ?_
          refine Y_iconst (v := 1) i_68_13 (by decide) ?_
          refine Y_iv1 (L0 := [.ref 21, .int 1]) i_68_14 ow_68 lm_5_71 ((k_21 hG).trans ow_63.symm) rfl mx_63 rfl rfl hd_68 ?_
          refine Y_al0 i_63_0 ?_
          refine Y_gR i_63_1 ow_63 lf_5_25 (k_21 hG) (r_21_5 hG) ?_
          refine Y_il1 i_63_4 ?_
          refine Y_dup2 i_63_5 rfl rfl ?_
          refine Y_iaload (k := 1) (v := (A 26 1)) i_63_6 (k_26 hG) (l_26 hG) (by decide) (by decide) rfl ?_
          refine Y_iconst (v := 1) i_63_7 (by decide) ?_
          refine Y_iadd i_63_8 ?_
          refine Y_iast (k := 1) i_63_9 (k_26 hG) (l_26 hG) (by decide) (by decide) ?_
          refine Y_iconst (v := (-1)) i_63_10 (by decide) ?_
          refine Y_iret i_63_11 rt_63 (KKi ?_)
          refine Y_pop i_68_17 rfl ?_
          refine Y_bipush (v := (-99)) i_68_18 (by decide) ?_
          refine Y_iret i_68_20 rt_68 (KKi ?_)
          exact Y_iret i_137_14 rt_137 h
        · replace h := h.2 e4
          refine Y_al0 i_68_21 ?_
          refine Y_gR i_68_22 ow_68 lf_5_33 (k_21 hG) (r_21_0 hG) ?_
          refine Y_gR i_68_25 ow_68 lf_5_95 (k_27 hG) (r_27_7 hG) ?_
          refine Y_il1 i_68_28 ?_
          have o5 := h.1
          replace h := h.2
          refine Y_iaload (k := x1.toNatClampNeg) (v := (A 31 x1.toNatClampNeg)) i_68_29 (k_31 hG) (l_31 hG) o5 rfl rfl ?_
          refine Y_is3 i_68_30 rfl ?_
          refine Y_al0 i_68_31 ?_
          refine Y_gR i_68_32 ow_68 lf_5_33 (k_21 hG) (r_21_0 hG) ?_
          refine Y_gR i_68_35 ow_68 lf_5_95 (k_27 hG) (r_27_7 hG) ?_
          refine Y_il1 i_68_38 ?_
          refine Y_il2 i_68_39 ?_
          refine Y_iast i_68_40 (k_31 hG) (l_31 hG) o5 rfl ?_
          refine Y_al0 i_68_41 ?_
          refine Y_iconst (v := 4) i_68_42 (by decide) ?_
          refine Y_il1 i_68_43 ?_
          refine Y_il3 i_68_44 ?_
          refine Y_iconst (v := 0) i_68_45 (by decide) ?_
          refine Y_iv4 (L0 := [.ref 21, .int 4, .int x1, .int (A 31 x1.toNatClampNeg), .int 0]) i_68_46 ow_68 lm_5_78 ((k_21 hG).trans ow_73.symm) rfl mx_73 rfl rfl hd_68 ?_
          refine Y_al0 i_73_0 ?_
          refine Y_gR i_73_1 ow_73 lf_5_12 (k_21 hG) (r_21_1 hG) ?_
          refine Y_il1 i_73_4 ?_
          refine Y_il2 i_73_5 ?_
          refine Y_il3 i_73_6 ?_
          refine Y_il4 i_73_7 ?_
          refine Y_iv4 (L0 := [.ref 22, .int 4, .int x1, .int (A 31 x1.toNatClampNeg), .int 0, .null]) i_73_9 ow_73 lm_5_114 ((k_22 hG).trans ow_2.symm) rfl mx_2 rfl rfl hd_73 ?_
          refine Y_al0 i_2_0 ?_
          refine Y_gI (v := (F 22 0)) i_2_1 ow_2 lf_0_15 (by decide) (k_22 hG) rfl ?_
          refine Y_bipush (v := 40) i_2_4 (by decide) ?_
          refine Y_clt i_2_6 (fun e6 => ?_) (fun e6 => ?_)
          · replace h := h.1 e6
            refine Y_al0 i_2_36 ?_
            refine Y_gI (v := (F 22 0)) i_2_37 ow_2 lf_0_15 (by decide) (k_22 hG) rfl ?_
            refine Y_bipush (v := 14) i_2_40 (by decide) ?_
            refine Y_imul i_2_42 ?_
            refine Y_is5 i_2_43 rfl ?_
            refine Y_al0 i_2_45 ?_
            refine Y_gR i_2_46 ow_2 lf_0_11 (k_22 hG) (r_22_1 hG) ?_
            refine Y_il5 i_2_49 ?_
            refine Y_il1 i_2_51 ?_
            have o7 := h.1
            replace h := h.2
            refine Y_iast i_2_52 (k_23 hG) (l_23 hG) o7 rfl ?_
            refine Y_al0 i_2_53 ?_
            refine Y_gR i_2_54 ow_2 lf_0_11 (k_22 hG) (r_22_1 hG) ?_
            refine Y_il5 i_2_57 ?_
            refine Y_iconst (v := 1) i_2_59 (by decide) ?_
            refine Y_iadd i_2_60 ?_
            refine Y_il2 i_2_61 ?_
            have o8 := h.1
            replace h := h.2
            refine Y_iast i_2_62 (k_23 hG) (l_23 hG) o8 rfl ?_
            refine Y_al0 i_2_63 ?_
            refine Y_gR i_2_64 ow_2 lf_0_11 (k_22 hG) (r_22_1 hG) ?_
            refine Y_il5 i_2_67 ?_
            refine Y_iconst (v := 2) i_2_69 (by decide) ?_
            refine Y_iadd i_2_70 ?_
            refine Y_il3 i_2_71 ?_
            have o9 := h.1
            replace h := h.2
            refine Y_iast i_2_72 (k_23 hG) (l_23 hG) o9 rfl ?_
            refine Y_al0 i_2_73 ?_
            refine Y_gR i_2_74 ow_2 lf_0_11 (k_22 hG) (r_22_1 hG) ?_
            refine Y_il5 i_2_77 ?_
            refine Y_iconst (v := 3) i_2_79 (by decide) ?_
            refine Y_iadd i_2_80 ?_
            refine Y_il4 i_2_81 ?_
            have o10 := h.1
            replace h := h.2
            refine Y_iast i_2_83 (k_23 hG) (l_23 hG) o10 rfl ?_
            refine Y_al0 i_2_84 ?_
            refine Y_dup i_2_85 rfl ?_
            refine Y_gI (v := (F 22 0)) i_2_86 ow_2 lf_0_15 (by decide) (k_22 hG) rfl ?_
            refine Y_iconst (v := 1) i_2_89 (by decide) ?_
            refine Y_iadd i_2_90 ?_
            refine Y_pI i_2_91 ow_2 lf_0_15 (k_22 hG) ?_
            refine Y_vret i_2_94 rt_2 (KKv ?_)
            refine Y_al0 i_73_12 ?_
            refine Y_iconst (v := 1) i_73_13 (by decide) ?_
            refine Y_pB i_73_14 ow_73 lf_5_37 (k_21 hG) (by decide) ?_
            refine Y_vret i_73_17 rt_73 (KKv ?_)
            refine Y_il3 i_68_49 ?_
            refine Y_iret i_68_50 rt_68 (KKi ?_)
            exact Y_iret i_137_14 rt_137 h
          · replace h := h.2 e6
            refine Y_al0 i_2_9 ?_
            refine Y_bipush (v := 39) i_2_10 (by decide) ?_
            refine Y_pI i_2_12 ow_2 lf_0_15 (k_22 hG) ?_
            refine Y_al0 i_2_15 ?_
            refine Y_gR i_2_16 ow_2 lf_0_11 (k_22 hG) (r_22_1 hG) ?_
            refine Y_bipush (v := 14) i_2_19 (by decide) ?_
            refine Y_al0 i_2_21 ?_
            refine Y_gR i_2_22 ow_2 lf_0_11 (k_22 hG) (r_22_1 hG) ?_
            refine Y_iconst (v := 0) i_2_25 (by decide) ?_
            refine Y_al0 i_2_26 ?_
            refine Y_gI (v := 39) i_2_27 ow_2 lf_0_15 (by decide) (k_22 hG) (by simp [wF, wJ, va_up, cpR, bF, bA]) ?_
            refine Y_bipush (v := 14) i_2_30 (by decide) ?_
            refine Y_imul i_2_32 ?_
            have o11 := h.1
            replace h := h.2
            refine Y_acp (ksp := 14) (kdp := 0) (kn := ((39 : Int32) * 14).toNatClampNeg) i_2_33 ow_2 lm_0_19 rfl (k_23 hG) (k_23 hG) (l_23 hG) (l_23 hG) o11 (by decide) (by decide) rfl ?_
            refine Y_al0 i_2_36 ?_
            refine Y_gI (v := 39) i_2_37 ow_2 lf_0_15 (by decide) (k_22 hG) (by simp [wF, wJ, va_up, cpR, bF, bA]) ?_
            refine Y_bipush (v := 14) i_2_40 (by decide) ?_
            refine Y_imul i_2_42 ?_
            refine Y_is5 i_2_43 rfl ?_
            refine Y_al0 i_2_45 ?_
            refine Y_gR i_2_46 ow_2 lf_0_11 (k_22 hG) (r_22_1 hG) ?_
            refine Y_il5 i_2_49 ?_
            refine Y_il1 i_2_51 ?_
            have o12 := h.1
            replace h := h.2
            refine Y_iast i_2_52 (k_23 hG) (l_23 hG) o12 rfl ?_
            refine Y_al0 i_2_53 ?_
            refine Y_gR i_2_54 ow_2 lf_0_11 (k_22 hG) (r_22_1 hG) ?_
            refine Y_il5 i_2_57 ?_
            refine Y_iconst (v := 1) i_2_59 (by decide) ?_
            refine Y_iadd i_2_60 ?_
            refine Y_il2 i_2_61 ?_
            have o13 := h.1
            replace h := h.2
            refine Y_iast i_2_62 (k_23 hG) (l_23 hG) o13 rfl ?_
            refine Y_al0 i_2_63 ?_
            refine Y_gR i_2_64 ow_2 lf_0_11 (k_22 hG) (r_22_1 hG) ?_
            refine Y_il5 i_2_67 ?_
            refine Y_iconst (v := 2) i_2_69 (by decide) ?_
            refine Y_iadd i_2_70 ?_
            refine Y_il3 i_2_71 ?_
            have o14 := h.1
            replace h := h.2
            refine Y_iast i_2_72 (k_23 hG) (l_23 hG) o14 rfl ?_
            refine Y_al0 i_2_73 ?_
            refine Y_gR i_2_74 ow_2 lf_0_11 (k_22 hG) (r_22_1 hG) ?_
            refine Y_il5 i_2_77 ?_
            refine Y_iconst (v := 3) i_2_79 (by decide) ?_
            refine Y_iadd i_2_80 ?_
            refine Y_il4 i_2_81 ?_
            have o15 := h.1
            replace h := h.2
            refine Y_iast i_2_83 (k_23 hG) (l_23 hG) o15 rfl ?_
            refine Y_al0 i_2_84 ?_
            refine Y_dup i_2_85 rfl ?_
            refine Y_gI (v := 39) i_2_86 ow_2 lf_0_15 (by decide) (k_22 hG) (by simp [wF, wJ, va_up, cpR, bF, bA]) ?_
            refine Y_iconst (v := 1) i_2_89 (by decide) ?_
            refine Y_iadd i_2_90 ?_
            refine Y_pI i_2_91 ow_2 lf_0_15 (k_22 hG) ?_
            refine Y_vret i_2_94 rt_2 (KKv ?_)
            refine Y_al0 i_73_12 ?_
            refine Y_iconst (v := 1) i_73_13 (by decide) ?_
            refine Y_pB i_73_14 ow_73 lf_5_37 (k_21 hG) (by decide) ?_
            refine Y_vret i_73_17 rt_73 (KKv ?_)
            refine Y_il3 i_68_49 ?_
            refine Y_iret i_68_50 rt_68 (KKi ?_)
            exact Y_iret i_137_14 rt_137 h
    · replace h := h.2 e2
      exact Y_thr i_171_15 ow_171 lc_9_157 (by decide +kernel) rfl (KKe h)
/- 138 TableTower.supper()I -/
theorem t_138_0 {d : Nat} {F A : Nat → Nat → Int32} {J : Nat → Nat → Int64} {G : pG} {Q : pR → pM → Prop} {SL p q : Nat} (hG : Geo G SL p q) (h : X (d + 4) 69 0 [.ref 21, .int (F 12 2)] [] (F, A, J, G) (KK (d + 5) 138 14 [.ref 0] [] Q)) : X (d + 5) 138 0 [.ref 0] [] (F, A, J, G) Q := by
  refine Y_al0 i_138_0 ?_
  refine Y_gR i_138_1 ow_138 lf_9_48 (k_0 hG) (r_0_7 hG) ?_
  refine Y_al0 i_138_4 ?_
  refine Y_gR i_138_5 ow_138 lf_9_40 (k_0 hG) (r_0_6 hG) ?_
  refine Y_gI (v := (F 12 2)) i_138_8 ow_138 lf_9_122 (by decide) (k_12 hG) rfl ?_
  exact Y_iv1 (L0 := [.ref 21, .int (F 12 2)]) i_138_11 ow_138 lm_9_239 ((k_21 hG).trans ow_69.symm) rfl mx_69 rfl rfl hd_138 h
theorem k_138_14 {d : Nat} {F A : Nat → Nat → Int32} {J : Nat → Nat → Int64} {G : pG} {Q : pR → pM → Prop} {SL p q : Nat} {r r : Int32} (hG : Geo G SL p q) (h : Q (.inl (some (.int r))) (F, A, J, G)) : KK (d + 5) 138 14 [.ref 0] [] Q (.inl (some (.int r))) (F, A, J, G) := by
  refine KKi ?_
  exact Y_iret i_138_14 rt_138 h
/- 139 TableTower.years(I)I -/
theorem t_139_0 {d : Nat} {F A : Nat → Nat → Int32} {J : Nat → Nat → Int64} {G : pG} {Q : pR → pM → Prop} {SL p q : Nat} {x1 : Int32} (hG : Geo G SL p q) (h : ((x1 < 1 → Q (.inl (some (.int (-1)))) (F, (wF A 26 1 ((A 26 1) + 1)), J, G)) ∧ (¬ x1 < 1 → ((30 < x1 → Q (.inl (some (.int (-1)))) (F, (wF A 26 1 ((A 26 1) + 1)), J, G)) ∧ (¬ 30 < x1 → ((999 < ((F 27 2) + x1) → Q (.inl (some (.int (-1)))) (F, (wF A 26 1 ((A 26 1) + 1)), J, G)) ∧ (¬ 999 < ((F 27 2) + x1) → (((F 22 0) < 40 → inB ((F 22 0) * 14) 560 = true ∧ inB (((F 22 0) * 14) + 1) 560 = true ∧ inB (((F 22 0) * 14) + 2) 560 = true ∧ inB (((F 22 0) * 14) + 3) 560 = true ∧ (Q (.inl (some (.int ((F 27 2) + x1)))) ((wF (wF (wF F 27 2 ((F 27 2) + x1)) 22 0 ((F 22 0) + 1)) 21 6 1), (wF (wF (wF (wF A 23 ((F 22 0) * 14).toNatClampNeg 6) 23 (((F 22 0) * 14) + 1).toNatClampNeg x1) 23 (((F 22 0) * 14) + 2).toNatClampNeg 0) 23 (((F 22 0) * 14) + 3).toNatClampNeg 0), J, G))) ∧ (¬ (F 22 0) < 40 → (¬ (14 : Int32) < 0 ∧ ¬ (0 : Int32) < 0 ∧ ¬ ((39 : Int32) * 14) < 0 ∧ (14 : Int32).toNatClampNeg + ((39 : Int32) * 14).toNatClampNeg ≤ 560 ∧ (0 : Int32).toNatClampNeg + ((39 : Int32) * 14).toNatClampNeg ≤ 560) ∧ inB ((39 : Int32) * 14) 560 = true ∧ inB (((39 : Int32) * 14) + 1) 560 = true ∧ inB (((39 : Int32) * 14) + 2) 560 = true ∧ inB (((39 : Int32) * 14) + 3) 560 = true ∧ (Q (.inl (some (.int ((F 27 2) + x1)))) ((wF (wF (wF (wF F 27 2 ((F 27 2) + x1)) 22 0 39) 22 0 ((39 : Int32) + 1)) 21 6 1), (wF (wF (wF (wF (cpR A 23 23 14 0 ((39 : Int32) * 14).toNatClampNeg) 23 ((39 : Int32) * 14).toNatClampNeg 6) 23 (((39 : Int32) * 14) + 1).toNatClampNeg x1) 23 (((39 : Int32) * 14) + 2).toNatClampNeg 0) 23 (((39 : Int32) * 14) + 3).toNatClampNeg 0), J, G))))))))))) : X (d + 3) 139 0 [.ref 0, .int x1] [] (F, A, J, G) Q := by
  refine Y_al0 i_139_0 ?_
  refine Y_gR i_139_1 ow_139 lf_9_48 (k_0 hG) (r_0_7 hG) ?_
  refine Y_il1 i_139_4 ?_
  refine Y_iv1 (L0 := [.ref 21, .int x1]) i_139_5 ow_139 lm_9_242 ((k_21 hG).trans ow_70.symm) rfl mx_70 rfl rfl hd_139 ?_
  refine Y_il1 i_70_0 ?_
  refine Y_iconst (v := 1) i_70_1 (by decide) ?_
  refine Y_clt i_70_2 (fun e1 => ?_) (fun e1 => ?_)
  · replace h := h.1 e1
    refine Y_al0 i_70_26 ?_
    refine Y_iconst (v := 1) i_70_27 (by decide) ?_
    refine Y_iv1 (L0 := [.ref 21, .int 1]) i_70_28 ow_70 lm_5_71 ((k_21 hG).trans ow_63.symm) rfl mx_63 rfl rfl hd_70 ?_
    refine Y_al0 i_63_0 ?_
    refine Y_gR i_63_1 ow_63 lf_5_25 (k_21 hG) (r_21_5 hG) ?_
    refine Y_il1 i_63_4 ?_
    refine Y_dup2 i_63_5 rfl rfl ?_
    refine Y_iaload (k := 1) (v := (A 26 1)) i_63_6 (k_26 hG) (l_26 hG) (by decide) (by decide) rfl ?_
    refine Y_iconst (v := 1) i_63_7 (by decide) ?_
    refine Y_iadd i_63_8 ?_
    refine Y_iast (k := 1) i_63_9 (k_26 hG) (l_26 hG) (by decide) (by decide) ?_
    refine Y_iconst (v := (-1)) i_63_10 (by decide) ?_
    refine Y_iret i_63_11 rt_63 (KKi ?_)
    refine Y_iret i_70_31 rt_70 (KKi ?_)
    exact Y_iret i_139_8 rt_139 h
  · replace h := h.2 e1
    refine Y_il1 i_70_5 ?_
    refine Y_bipush (v := 30) i_70_6 (by decide) ?_
    refine Y_cgt i_70_8 (fun e2 => ?_) (fun e2 => ?_)
    · replace h := h.1 e2
      refine Y_al0 i_70_26 ?_
      refine Y_iconst (v := 1) i_70_27 (by decide) ?_
      refine Y_iv1 (L0 := [.ref 21, .int 1]) i_70_28 ow_70 lm_5_71 ((k_21 hG).trans ow_63.symm) rfl mx_63 rfl rfl hd_70 ?_
      refine Y_al0 i_63_0 ?_
      refine Y_gR i_63_1 ow_63 lf_5_25 (k_21 hG) (r_21_5 hG) ?_
      refine Y_il1 i_63_4 ?_
      refine Y_dup2 i_63_5 rfl rfl ?_
      refine Y_iaload (k := 1) (v := (A 26 1)) i_63_6 (k_26 hG) (l_26 hG) (by decide) (by decide) rfl ?_
      refine Y_iconst (v := 1) i_63_7 (by decide) ?_
      refine Y_iadd i_63_8 ?_
      refine Y_iast (k := 1) i_63_9 (k_26 hG) (l_26 hG) (by decide) (by decide) ?_
      refine Y_iconst (v := (-1)) i_63_10 (by decide) ?_
      refine Y_iret i_63_11 rt_63 (KKi ?_)
      refine Y_iret i_70_31 rt_70 (KKi ?_)
      exact Y_iret i_139_8 rt_139 h
    · replace h := h.2 e2
      refine Y_al0 i_70_11 ?_
      refine Y_gR i_70_12 ow_70 lf_5_33 (k_21 hG) (r_21_0 hG) ?_
      refine Y_gI (v := (F 27 2)) i_70_15 ow_70 lf_5_107 (by decide) (k_27 hG) rfl ?_
      refine Y_il1 i_70_18 ?_
      refine Y_iadd i_70_19 ?_
      refine Y_sipush (v := 999) i_70_20 (by decide) ?_
      refine Y_cle i_70_23 (fun e3 => ?_) (fun e3 => ?_)
      · replace h := h.1 e3
        refine Y_al0 i_70_26 ?_
        refine Y_iconst (v := 1) i_70_27 (by decide) ?_
        refine Y_iv1 (L0 := [.ref 21, .int 1]) i_70_28 ow_70 lm_5_71 ((k_21 hG).trans ow_63.symm) rfl mx_63 rfl rfl hd_70 ?_
        refine Y_al0 i_63_0 ?_
        refine Y_gR i_63_1 ow_63 lf_5_25 (k_21 hG) (r_21_5 hG) ?_
        refine Y_il1 i_63_4 ?_
        refine Y_dup2 i_63_5 rfl rfl ?_
        refine Y_iaload (k := 1) (v := (A 26 1)) i_63_6 (k_26 hG) (l_26 hG) (by decide) (by decide) rfl ?_
        refine Y_iconst (v := 1) i_63_7 (by decide) ?_
        refine Y_iadd i_63_8 ?_
        refine Y_iast (k := 1) i_63_9 (k_26 hG) (l_26 hG) (by decide) (by decide) ?_
        refine Y_iconst (v := (-1)) i_63_10 (by decide) ?_
        refine Y_iret i_63_11 rt_63 (KKi ?_)
        refine Y_iret i_70_31 rt_70 (KKi ?_)
        exact Y_iret i_139_8 rt_139 h
      · replace h := h.2 e3
        refine Y_al0 i_70_32 ?_
        refine Y_gR i_70_33 ow_70 lf_5_33 (k_21 hG) (r_21_0 hG) ?_
        refine Y_dup i_70_36 rfl ?_
        refine Y_gI (v := (F 27 2)) i_70_37 ow_70 lf_5_107 (by decide) (k_27 hG) rfl ?_
        refine Y_il1 i_70_40 ?_
        refine Y_iadd i_70_41 ?_
        refine Y_pI i_70_42 ow_70 lf_5_107 (k_27 hG) ?_
        refine Y_al0 i_70_45 ?_
        refine Y_bipush (v := 6) i_70_46 (by decide) ?_
        refine Y_il1 i_70_48 ?_
        refine Y_iconst (v := 0) i_70_49 (by decide) ?_
        refine Y_iconst (v := 0) i_70_50 (by decide) ?_
        refine Y_iv4 (L0 := [.ref 21, .int 6, .int x1, .int 0, .int 0]) i_70_51 ow_70 lm_5_78 ((k_21 hG).trans ow_73.symm) rfl mx_73 rfl rfl hd_70 ?_
        refine Y_al0 i_73_0 ?_
        refine Y_gR i_73_1 ow_73 lf_5_12 (k_21 hG) (r_21_1 hG) ?_
        refine Y_il1 i_73_4 ?_
        refine Y_il2 i_73_5 ?_
        refine Y_il3 i_73_6 ?_
        refine Y_il4 i_73_7 ?_
        refine Y_iv4 (L0 := [.ref 22, .int 6, .int x1, .int 0, .int 0, .null]) i_73_9 ow_73 lm_5_114 ((k_22 hG).trans ow_2.symm) rfl mx_2 rfl rfl hd_73 ?_
        refine Y_al0 i_2_0 ?_
        refine Y_gI (v := (F 22 0)) i_2_1 ow_2 lf_0_15 (by decide) (k_22 hG) (by simp [wF, wJ, va_up, cpR, bF, bA]) ?_
        refine Y_bipush (v := 40) i_2_4 (by decide) ?_
        refine Y_clt i_2_6 (fun e4 => ?_) (fun e4 => ?_)
        · replace h := h.1 e4
          refine Y_al0 i_2_36 ?_
          refine Y_gI (v := (F 22 0)) i_2_37 ow_2 lf_0_15 (by decide) (k_22 hG) (by simp [wF, wJ, va_up, cpR, bF, bA]) ?_
          refine Y_bipush (v := 14) i_2_40 (by decide) ?_
          refine Y_imul i_2_42 ?_
          refine Y_is5 i_2_43 rfl ?_
          refine Y_al0 i_2_45 ?_
          refine Y_gR i_2_46 ow_2 lf_0_11 (k_22 hG) (r_22_1 hG) ?_
          refine Y_il5 i_2_49 ?_
          refine Y_il1 i_2_51 ?_
          have o5 := h.1
          replace h := h.2
          refine Y_iast i_2_52 (k_23 hG) (l_23 hG) o5 rfl ?_
          refine Y_al0 i_2_53 ?_
          refine Y_gR i_2_54 ow_2 lf_0_11 (k_22 hG) (r_22_1 hG) ?_
          refine Y_il5 i_2_57 ?_
          refine Y_iconst (v := 1) i_2_59 (by decide) ?_
          refine Y_iadd i_2_60 ?_
          refine Y_il2 i_2_61 ?_
          have o6 := h.1
          replace h := h.2
          refine Y_iast i_2_62 (k_23 hG) (l_23 hG) o6 rfl ?_
          refine Y_al0 i_2_63 ?_
          refine Y_gR i_2_64 ow_2 lf_0_11 (k_22 hG) (r_22_1 hG) ?_
          refine Y_il5 i_2_67 ?_
          refine Y_iconst (v := 2) i_2_69 (by decide) ?_
          refine Y_iadd i_2_70 ?_
          refine Y_il3 i_2_71 ?_
          have o7 := h.1
          replace h := h.2
          refine Y_iast i_2_72 (k_23 hG) (l_23 hG) o7 rfl ?_
          refine Y_al0 i_2_73 ?_
          refine Y_gR i_2_74 ow_2 lf_0_11 (k_22 hG) (r_22_1 hG) ?_
          refine Y_il5 i_2_77 ?_
          refine Y_iconst (v := 3) i_2_79 (by decide) ?_
          refine Y_iadd i_2_80 ?_
          refine Y_il4 i_2_81 ?_
          have o8 := h.1
          replace h := h.2
          refine Y_iast i_2_83 (k_23 hG) (l_23 hG) o8 rfl ?_
          refine Y_al0 i_2_84 ?_
          refine Y_dup i_2_85 rfl ?_
          refine Y_gI (v := (F 22 0)) i_2_86 ow_2 lf_0_15 (by decide) (k_22 hG) (by simp [wF, wJ, va_up, cpR, bF, bA]) ?_
          refine Y_iconst (v := 1) i_2_89 (by decide) ?_
          refine Y_iadd i_2_90 ?_
          refine Y_pI i_2_91 ow_2 lf_0_15 (k_22 hG) ?_
          refine Y_vret i_2_94 rt_2 (KKv ?_)
          refine Y_al0 i_73_12 ?_
          refine Y_iconst (v := 1) i_73_13 (by decide) ?_
          refine Y_pB i_73_14 ow_73 lf_5_37 (k_21 hG) (by decide) ?_
          refine Y_vret i_73_17 rt_73 (KKv ?_)
          refine Y_al0 i_70_54 ?_
          refine Y_gR i_70_55 ow_70 lf_5_33 (k_21 hG) (r_21_0 hG) ?_
          refine Y_gI (v := ((F 27 2) + x1)) i_70_58 ow_70 lf_5_107 (by decide) (k_27 hG) (by simp [wF, wJ, va_up, cpR, bF, bA]) ?_
          refine Y_iret i_70_61 rt_70 (KKi ?_)
          exact Y_iret i_139_8 rt_139 h
        · replace h := h.2 e4
          refine Y_al0 i_2_9 ?_
          refine Y_bipush (v := 39) i_2_10 (by decide) ?_
          refine Y_pI i_2_12 ow_2 lf_0_15 (k_22 hG) ?_
          refine Y_al0 i_2_15 ?_
          refine Y_gR i_2_16 ow_2 lf_0_11 (k_22 hG) (r_22_1 hG) ?_
          refine Y_bipush (v := 14) i_2_19 (by decide) ?_
          refine Y_al0 i_2_21 ?_
          refine Y_gR i_2_22 ow_2 lf_0_11 (k_22 hG) (r_22_1 hG) ?_
          refine Y_iconst (v := 0) i_2_25 (by decide) ?_
          refine Y_al0 i_2_26 ?_
          refine Y_gI (v := 39) i_2_27 ow_2 lf_0_15 (by decide) (k_22 hG) (by simp [wF, wJ, va_up, cpR, bF, bA]) ?_
          refine Y_bipush (v := 14) i_2_30 (by decide) ?_
          refine Y_imul i_2_32 ?_
          have o9 := h.1
          replace h := h.2
          refine Y_acp (ksp := 14) (kdp := 0) (kn := ((39 : Int32) * 14).toNatClampNeg) i_2_33 ow_2 lm_0_19 rfl (k_23 hG) (k_23 hG) (l_23 hG) (l_23 hG) o9 (by decide) (by decide) rfl ?_
          refine Y_al0 i_2_36 ?_
          refine Y_gI (v := 39) i_2_37 ow_2 lf_0_15 (by decide) (k_22 hG) (by simp [wF, wJ, va_up, cpR, bF, bA]) ?_
          refine Y_bipush (v := 14) i_2_40 (by decide) ?_
          refine Y_imul i_2_42 ?_
          refine Y_is5 i_2_43 rfl ?_
          refine Y_al0 i_2_45 ?_
          refine Y_gR i_2_46 ow_2 lf_0_11 (k_22 hG) (r_22_1 hG) ?_
          refine Y_il5 i_2_49 ?_
          refine Y_il1 i_2_51 ?_
          have o10 := h.1
          replace h := h.2
          refine Y_iast i_2_52 (k_23 hG) (l_23 hG) o10 rfl ?_
          refine Y_al0 i_2_53 ?_
          refine Y_gR i_2_54 ow_2 lf_0_11 (k_22 hG) (r_22_1 hG) ?_
          refine Y_il5 i_2_57 ?_
          refine Y_iconst (v := 1) i_2_59 (by decide) ?_
          refine Y_iadd i_2_60 ?_
          refine Y_il2 i_2_61 ?_
          have o11 := h.1
          replace h := h.2
          refine Y_iast i_2_62 (k_23 hG) (l_23 hG) o11 rfl ?_
          refine Y_al0 i_2_63 ?_
          refine Y_gR i_2_64 ow_2 lf_0_11 (k_22 hG) (r_22_1 hG) ?_
          refine Y_il5 i_2_67 ?_
          refine Y_iconst (v := 2) i_2_69 (by decide) ?_
          refine Y_iadd i_2_70 ?_
          refine Y_il3 i_2_71 ?_
          have o12 := h.1
          replace h := h.2
          refine Y_iast i_2_72 (k_23 hG) (l_23 hG) o12 rfl ?_
          refine Y_al0 i_2_73 ?_
          refine Y_gR i_2_74 ow_2 lf_0_11 (k_22 hG) (r_22_1 hG) ?_
          refine Y_il5 i_2_77 ?_
          refine Y_iconst (v := 3) i_2_79 (by decide) ?_
          refine Y_iadd i_2_80 ?_
          refine Y_il4 i_2_81 ?_
          have o13 := h.1
          replace h := h.2
          refine Y_iast i_2_83 (k_23 hG) (l_23 hG) o13 rfl ?_
          refine Y_al0 i_2_84 ?_
          refine Y_dup i_2_85 rfl ?_
          refine Y_gI (v := 39) i_2_86 ow_2 lf_0_15 (by decide) (k_22 hG) (by simp [wF, wJ, va_up, cpR, bF, bA]) ?_
          refine Y_iconst (v := 1) i_2_89 (by decide) ?_
          refine Y_iadd i_2_90 ?_
          refine Y_pI i_2_91 ow_2 lf_0_15 (k_22 hG) ?_
          refine Y_vret i_2_94 rt_2 (KKv ?_)
          refine Y_al0 i_73_12 ?_
          refine Y_iconst (v := 1) i_73_13 (by decide) ?_
          refine Y_pB i_73_14 ow_73 lf_5_37 (k_21 hG) (by decide) ?_
          refine Y_vret i_73_17 rt_73 (KKv ?_)
          refine Y_al0 i_70_54 ?_
          refine Y_gR i_70_55 ow_70 lf_5_33 (k_21 hG) (r_21_0 hG) ?_
          refine Y_gI (v := ((F 27 2) + x1)) i_70_58 ow_70 lf_5_107 (by decide) (k_27 hG) (by simp [wF, wJ, va_up, cpR, bF, bA]) ?_
          refine Y_iret i_70_61 rt_70 (KKi ?_)
          exact Y_iret i_139_8 rt_139 h
/- 140 TableTower.undo()I -/
theorem t_140_0 {d : Nat} {F A : Nat → Nat → Int32} {J : Nat → Nat → Int64} {G : pG} {Q : pR → pM → Prop} {SL p q : Nat} (hG : Geo G SL p q) (h : X (d + 3) 71 0 [.ref 21] [] (F, A, J, G) (KK (d + 4) 140 7 [.ref 0] [] Q)) : X (d + 4) 140 0 [.ref 0] [] (F, A, J, G) Q := by
  refine Y_al0 i_140_0 ?_
  refine Y_gR i_140_1 ow_140 lf_9_48 (k_0 hG) (r_0_7 hG) ?_
  exact Y_iv0 (L0 := [.ref 21]) i_140_4 ow_140 lm_9_245 ((k_21 hG).trans ow_71.symm) rfl mx_71 rfl rfl hd_140 h
theorem k_140_7 {d : Nat} {F A : Nat → Nat → Int32} {J : Nat → Nat → Int64} {G : pG} {Q : pR → pM → Prop} {SL p q : Nat} {r r : Int32} (hG : Geo G SL p q) (h : Q (.inl (some (.int r))) (F, A, J, G)) : KK (d + 4) 140 7 [.ref 0] [] Q (.inl (some (.int r))) (F, A, J, G) := by
  refine KKi ?_
  exact Y_iret i_140_7 rt_140 h
/- 141 TableTower.more()I -/
theorem t_141_0 {d : Nat} {F A : Nat → Nat → Int32} {J : Nat → Nat → Int64} {G : pG} {Q : pR → pM → Prop} {SL p q : Nat} (hG : Geo G SL p q) (h : X (d + 4) 89 0 [.ref 27, .null, .null] [] (F, A, J, G) (KK (d + 5) 141 10 [.ref 0] [] Q)) : X (d + 5) 141 0 [.ref 0] [] (F, A, J, G) Q := by
  refine Y_al0 i_141_0 ?_
  refine Y_gR i_141_1 ow_141 lf_9_48 (k_0 hG) (r_0_7 hG) ?_
  refine Y_gR i_141_4 ow_141 lf_9_57 (k_21 hG) (r_21_0 hG) ?_
  exact Y_iv0 (L0 := [.ref 27, .null, .null]) i_141_7 ow_141 lm_9_248 ((k_27 hG).trans ow_89.symm) rfl mx_89 rfl rfl hd_141 h
theorem k_141_10 {d : Nat} {F A : Nat → Nat → Int32} {J : Nat → Nat → Int64} {G : pG} {Q : pR → pM → Prop} {SL p q : Nat} {r r : Int32} (hG : Geo G SL p q) (h : Q (.inl (some (.int r))) (F, A, J, G)) : KK (d + 5) 141 10 [.ref 0] [] Q (.inl (some (.int r))) (F, A, J, G) := by
  refine KKi ?_
  exact Y_iret i_141_10 rt_141 h
/- 142 TableTower.without(I)Z -/
theorem t_142_0 {d : Nat} {F A : Nat → Nat → Int32} {J : Nat → Nat → Int64} {G : pG} {Q : pR → pM → Prop} {SL p q : Nat} {x1 : Int32} (hG : Geo G SL p q) (h : ((x1 < 0 → Q (.inr 101) (F, A, J, gThr G)) ∧ (¬ x1 < 0 → ((x1 < (F 12 0) → hB (F 27 1) = true ∧ (((lvI (A 28) (F 27 1) x1) = (-1) → Q (.inl (some (.int 0))) (F, A, J, G)) ∧ (¬ (lvI (A 28) (F 27 1) x1) = (-1) → X (d + 5) 105 0 [.ref 49, .int x1] [] (F, A, J, G) (KK (d + 6) 142 28 [.ref 0, .int x1] [] Q)))) ∧ (¬ x1 < (F 12 0) → Q (.inr 101) (F, A, J, gThr G)))))) : X (d + 6) 142 0 [.ref 0, .int x1] [] (F, A, J, G) Q := by
  refine Y_al0 i_142_0 ?_
  refine Y_il1 i_142_1 ?_
  refine Y_iv1 (L0 := [.ref 0, .int x1]) i_142_2 ow_142 lm_9_162 ((k_0 hG).trans ow_171.symm) rfl mx_171 rfl rfl hd_142 ?_
  refine Y_il1 i_171_0 ?_
  refine Y_zlt i_171_1 (fun e1 => ?_) (fun e1 => ?_)
  · replace h := h.1 e1
    exact Y_thr i_171_15 ow_171 lc_9_157 (by decide +kernel) rfl (KKe h)
  · replace h := h.2 e1
    refine Y_il1 i_171_4 ?_
    refine Y_al0 i_171_5 ?_
    refine Y_gR i_171_6 ow_171 lf_9_40 (k_0 hG) (r_0_6 hG) ?_
    refine Y_gI (v := (F 12 0)) i_171_9 ow_171 lf_9_111 (by decide) (k_12 hG) rfl ?_
    refine Y_clt i_171_12 (fun e2 => ?_) (fun e2 => ?_)
    · replace h := h.1 e2
      refine Y_vret i_171_26 rt_171 (KKv ?_)
      refine Y_al0 i_142_5 ?_
      refine Y_gR i_142_6 ow_142 lf_9_48 (k_0 hG) (r_0_7 hG) ?_
      refine Y_gR i_142_9 ow_142 lf_9_57 (k_21 hG) (r_21_0 hG) ?_
      refine Y_il1 i_142_12 ?_
      have o3 := h.1
      replace h := h.2
      refine Y_iv1 (L0 := [.ref 27, .int x1, .null]) i_142_13 ow_142 lm_9_187 ((k_27 hG).trans ow_77.symm) rfl mx_77 rfl rfl hd_142 ?_
      refine c_77 hG tw_27 o3 (KKi' (v' := (lvI (A 28) (F 27 1) x1)) (by simp [wF, wJ, va_up, cpR, bF, bA]) ?_)
      refine Y_iconst (v := (-1)) i_142_16 (by decide) ?_
      refine Y_ceq i_142_17 (fun e4 => ?_) (fun e4 => ?_)
      · replace h := h.1 e4
        refine Y_iconst (v := 0) i_142_36 (by decide) ?_
        exact Y_bret i_142_37 rt_142 (by decide) h
      · replace h := h.2 e4
        refine Y_al0 i_142_20 ?_
        refine Y_gR i_142_21 ow_142 lf_9_64 (k_0 hG) (r_0_9 hG) ?_
        refine Y_il1 i_142_24 ?_
        exact Y_iv1 (L0 := [.ref 49, .int x1]) i_142_25 ow_142 lm_9_251 ((k_49 hG).trans ow_105.symm) rfl mx_105 rfl rfl hd_142 h
    · replace h := h.2 e2
      exact Y_thr i_171_15 ow_171 lc_9_157 (by decide +kernel) rfl (KKe h)
theorem k_142_28 {d : Nat} {F A : Nat → Nat → Int32} {J : Nat → Nat → Int64} {G : pG} {Q : pR → pM → Prop} {SL p q : Nat} {x1 r r : Int32} (hG : Geo G SL p q) (h : ((r = (-1) → Q (.inl (some (.int 0))) (F, A, J, G)) ∧ (¬ r = (-1) → Q (.inl (some (.int 1))) (F, A, J, G)))) : KK (d + 6) 142 28 [.ref 0, .int x1] [] Q (.inl (some (.int r))) (F, A, J, G) := by
  refine KKi ?_
  refine Y_iconst (v := (-1)) i_142_28 (by decide) ?_
  refine Y_ceq i_142_29 (fun e1 => ?_) (fun e1 => ?_)
  · replace h := h.1 e1
    refine Y_iconst (v := 0) i_142_36 (by decide) ?_
    exact Y_bret i_142_37 rt_142 (by decide) h
  · replace h := h.2 e1
    refine Y_iconst (v := 1) i_142_32 (by decide) ?_
    refine Y_goto i_142_33 ?_
    exact Y_bret i_142_37 rt_142 (by decide) h
/- 143 TableTower.most(I)I -/
theorem t_143_0 {d : Nat} {F A : Nat → Nat → Int32} {J : Nat → Nat → Int64} {G : pG} {Q : pR → pM → Prop} {SL p q : Nat} {x1 : Int32} (hG : Geo G SL p q) (h : ((x1 = 0 → X (d + 6) 18 0 [.ref 61] [] (F, A, J, G) (KK (d + 7) 143 26 [.ref 0, .int x1] [] Q)) ∧ (¬ x1 = 0 → ((x1 = 1 → X (d + 6) 18 0 [.ref 61] [] (F, A, J, G) (KK (d + 7) 143 26 [.ref 0, .int x1] [] Q)) ∧ (¬ x1 = 1 → Q (.inr 101) (F, A, J, gThr G)))))) : X (d + 7) 143 0 [.ref 0, .int x1] [] (F, A, J, G) Q := by
  refine Y_il1 i_143_0 ?_
  refine Y_zeq i_143_1 (fun e1 => ?_) (fun e1 => ?_)
  · replace h := h.1 e1
    refine Y_al0 i_143_19 ?_
    refine Y_gR i_143_20 ow_143 lf_9_73 (k_0 hG) (r_0_10 hG) ?_
    exact Y_iv0 (L0 := [.ref 61]) i_143_23 ow_143 lm_9_256 ((k_61 hG).trans ow_18.symm) rfl mx_18 rfl rfl hd_143 h
  · replace h := h.2 e1
    refine Y_il1 i_143_4 ?_
    refine Y_iconst (v := 1) i_143_5 (by decide) ?_
    refine Y_ceq i_143_6 (fun e2 => ?_) (fun e2 => ?_)
    · replace h := h.1 e2
      refine Y_al0 i_143_19 ?_
      refine Y_gR i_143_20 ow_143 lf_9_73 (k_0 hG) (r_0_10 hG) ?_
      exact Y_iv0 (L0 := [.ref 61]) i_143_23 ow_143 lm_9_256 ((k_61 hG).trans ow_18.symm) rfl mx_18 rfl rfl hd_143 h
    · replace h := h.2 e2
      exact Y_thr i_143_9 ow_143 lc_9_157 (by decide +kernel) rfl h
theorem k_143_26 {d : Nat} {F A : Nat → Nat → Int32} {J : Nat → Nat → Int64} {G : pG} {Q : pR → pM → Prop} {SL p q : Nat} {x1 : Int32} (hG : Geo G SL p q) (h : ((x1 = 0 → inB (F 61 2) 1024 = true ∧ (Q (.inl (some (.int (nI (pcn (F 61 2).toNatClampNeg))))) (F, A, J, G))) ∧ (¬ x1 = 0 → Q (.inl (some (.int (F 61 2)))) (F, A, J, G)))) : KK (d + 7) 143 26 [.ref 0, .int x1] [] Q (.inl none) (F, A, J, G) := by
  refine KKv ?_
  refine Y_il1 i_143_26 ?_
  refine Y_zne i_143_27 (fun e1 => ?_) (fun e1 => ?_)
  · replace h := h.1 e1
    refine Y_al0 i_143_30 ?_
    refine Y_gR i_143_31 ow_143 lf_9_73 (k_0 hG) (r_0_10 hG) ?_
    refine Y_gI (v := (F 61 2)) i_143_34 ow_143 lf_9_259 (by decide) (k_61 hG) rfl ?_
    have o2 := h.1
    replace h := h.2
    refine Y_is_1 (L0 := [.int (F 61 2)]) i_143_37 ow_143 lm_9_262 rfl mx_289 rfl rfl hd_143 ?_
    refine c_289 hG o2 (KKi ?_)
    refine Y_goto i_143_40 ?_
    exact Y_iret i_143_50 rt_143 h
  · replace h := h.2 e1
    refine Y_al0 i_143_43 ?_
    refine Y_gR i_143_44 ow_143 lf_9_73 (k_0 hG) (r_0_10 hG) ?_
    refine Y_gI (v := (F 61 2)) i_143_47 ow_143 lf_9_259 (by decide) (k_61 hG) rfl ?_
    exact Y_iret i_143_50 rt_143 h
/- 144 TableTower.row(I)I -/
theorem t_144_0 {d : Nat} {F A : Nat → Nat → Int32} {J : Nat → Nat → Int64} {G : pG} {Q : pR → pM → Prop} {SL p q : Nat} {x1 : Int32} (hG : Geo G SL p q) (h : X (d + 6) 18 0 [.ref 61] [] (F, A, J, G) (KK (d + 7) 144 7 [.ref 0, .int x1] [] Q)) : X (d + 7) 144 0 [.ref 0, .int x1] [] (F, A, J, G) Q := by
  refine Y_al0 i_144_0 ?_
  refine Y_gR i_144_1 ow_144 lf_9_73 (k_0 hG) (r_0_10 hG) ?_
  exact Y_iv0 (L0 := [.ref 61]) i_144_4 ow_144 lm_9_256 ((k_61 hG).trans ow_18.symm) rfl mx_18 rfl rfl hd_144 h
theorem k_144_7 {d : Nat} {F A : Nat → Nat → Int32} {J : Nat → Nat → Int64} {G : pG} {Q : pR → pM → Prop} {SL p q : Nat} {x1 : Int32} (hG : Geo G SL p q) (h : ((x1 < 0 → Q (.inr 101) (F, A, J, gThr G)) ∧ (¬ x1 < 0 → inB (F 61 2) 1024 = true ∧ ((x1 < (nI (pcn (F 61 2).toNatClampNeg)) → inB x1 10 = true ∧ (Q (.inl (some (.int (A 62 x1.toNatClampNeg)))) (F, A, J, G))) ∧ (¬ x1 < (nI (pcn (F 61 2).toNatClampNeg)) → Q (.inr 101) (F, A, J, gThr G)))))) : KK (d + 7) 144 7 [.ref 0, .int x1] [] Q (.inl none) (F, A, J, G) := by
  refine KKv ?_
  refine Y_il1 i_144_7 ?_
  refine Y_zlt i_144_8 (fun e1 => ?_) (fun e1 => ?_)
  · replace h := h.1 e1
    exact Y_thr i_144_25 ow_144 lc_9_157 (by decide +kernel) rfl h
  · replace h := h.2 e1
    refine Y_il1 i_144_11 ?_
    refine Y_al0 i_144_12 ?_
    refine Y_gR i_144_13 ow_144 lf_9_73 (k_0 hG) (r_0_10 hG) ?_
    refine Y_gI (v := (F 61 2)) i_144_16 ow_144 lf_9_259 (by decide) (k_61 hG) rfl ?_
    have o2 := h.1
    replace h := h.2
    refine Y_is_1 (L0 := [.int (F 61 2)]) i_144_19 ow_144 lm_9_262 rfl mx_289 rfl rfl hd_144 ?_
    refine c_289 hG o2 (KKi ?_)
    refine Y_clt i_144_22 (fun e3 => ?_) (fun e3 => ?_)
    · replace h := h.1 e3
      refine Y_al0 i_144_36 ?_
      refine Y_gR i_144_37 ow_144 lf_9_73 (k_0 hG) (r_0_10 hG) ?_
      refine Y_gR i_144_40 ow_144 lf_9_269 (k_61 hG) (r_61_3 hG) ?_
      refine Y_il1 i_144_43 ?_
      have o4 := h.1
      replace h := h.2
      refine Y_iaload (k := x1.toNatClampNeg) (v := (A 62 x1.toNatClampNeg)) i_144_44 (k_62 hG) (l_62 hG) o4 rfl rfl ?_
      exact Y_iret i_144_45 rt_144 h
    · replace h := h.2 e3
      exact Y_thr i_144_25 ow_144 lc_9_157 (by decide +kernel) rfl h
/- 145 TableTower.orders()J -/
theorem t_145_0 {d : Nat} {F A : Nat → Nat → Int32} {J : Nat → Nat → Int64} {G : pG} {Q : pR → pM → Prop} {SL p q : Nat} (hG : Geo G SL p q) (h : X (d + 5) 19 0 [.ref 61, .int 0, .int 0] [] (F, A, J, G) (KK (d + 6) 145 9 [.ref 0] [] Q)) : X (d + 6) 145 0 [.ref 0] [] (F, A, J, G) Q := by
  refine Y_al0 i_145_0 ?_
  refine Y_gR i_145_1 ow_145 lf_9_73 (k_0 hG) (r_0_10 hG) ?_
  refine Y_iconst (v := 0) i_145_4 (by decide) ?_
  refine Y_iconst (v := 0) i_145_5 (by decide) ?_
  exact Y_iv2 (L0 := [.ref 61, .int 0, .int 0]) i_145_6 ow_145 lm_9_272 ((k_61 hG).trans ow_19.symm) rfl mx_19 rfl rfl hd_145 h
theorem k_145_9 {d : Nat} {F A : Nat → Nat → Int32} {J : Nat → Nat → Int64} {G : pG} {Q : pR → pM → Prop} {SL p q : Nat} {r r : Int64} (hG : Geo G SL p q) (h : Q (.inl (some (.long r))) (F, A, J, G)) : KK (d + 6) 145 9 [.ref 0] [] Q (.inl (some (.long r))) (F, A, J, G) := by
  refine KKl ?_
  exact Y_lret i_145_9 rt_145 h
/- 146 TableTower.wedges()I -/
theorem t_146_0 {d : Nat} {F A : Nat → Nat → Int32} {J : Nat → Nat → Int64} {G : pG} {Q : pR → pM → Prop} {SL p q : Nat} (hG : Geo G SL p q) (h : X (d + 2) 116 0 [.ref 49, .null, .null] [] (F, A, J, G) (KK (d + 3) 146 7 [.ref 0] [] Q)) : X (d + 3) 146 0 [.ref 0] [] (F, A, J, G) Q := by
  refine Y_al0 i_146_0 ?_
  refine Y_gR i_146_1 ow_146 lf_9_64 (k_0 hG) (r_0_9 hG) ?_
  exact Y_iv0 (L0 := [.ref 49, .null, .null]) i_146_4 ow_146 lm_9_276 ((k_49 hG).trans ow_116.symm) rfl mx_116 rfl rfl hd_146 h
theorem k_146_7 {d : Nat} {F A : Nat → Nat → Int32} {J : Nat → Nat → Int64} {G : pG} {Q : pR → pM → Prop} {SL p q : Nat} {r r : Int32} (hG : Geo G SL p q) (h : Q (.inl (some (.int r))) (F, A, J, G)) : KK (d + 3) 146 7 [.ref 0] [] Q (.inl (some (.int r))) (F, A, J, G) := by
  refine KKi ?_
  exact Y_iret i_146_7 rt_146 h
/- 147 TableTower.when()I -/
theorem t_147_0 {d : Nat} {F A : Nat → Nat → Int32} {J : Nat → Nat → Int64} {G : pG} {Q : pR → pM → Prop} {SL p q : Nat} (hG : Geo G SL p q) (h : X (d + 5) 112 0 [.ref 49, .null] [] (F, A, J, G) (KK (d + 6) 147 7 [.ref 0] [] Q)) : X (d + 6) 147 0 [.ref 0] [] (F, A, J, G) Q := by
  refine Y_al0 i_147_0 ?_
  refine Y_gR i_147_1 ow_147 lf_9_64 (k_0 hG) (r_0_9 hG) ?_
  exact Y_iv0 (L0 := [.ref 49, .null]) i_147_4 ow_147 lm_9_279 ((k_49 hG).trans ow_112.symm) rfl mx_112 rfl rfl hd_147 h
theorem k_147_7 {d : Nat} {F A : Nat → Nat → Int32} {J : Nat → Nat → Int64} {G : pG} {Q : pR → pM → Prop} {SL p q : Nat} {r r : Int32} (hG : Geo G SL p q) (h : Q (.inl (some (.int r))) (F, A, J, G)) : KK (d + 6) 147 7 [.ref 0] [] Q (.inl (some (.int r))) (F, A, J, G) := by
  refine KKi ?_
  exact Y_iret i_147_7 rt_147 h
/- 148 TableTower.marriages()I -/
theorem t_148_0 {d : Nat} {F A : Nat → Nat → Int32} {J : Nat → Nat → Int64} {G : pG} {Q : pR → pM → Prop} {SL p q : Nat} (hG : Geo G SL p q) (h : X (d + 4) 26 0 [.ref 61, .null, .null, .null] [] (F, A, J, G) (KK (d + 5) 148 7 [.ref 0] [] Q)) : X (d + 5) 148 0 [.ref 0] [] (F, A, J, G) Q := by
  refine Y_al0 i_148_0 ?_
  refine Y_gR i_148_1 ow_148 lf_9_73 (k_0 hG) (r_0_10 hG) ?_
  exact Y_iv0 (L0 := [.ref 61, .null, .null, .null]) i_148_4 ow_148 lm_9_282 ((k_61 hG).trans ow_26.symm) rfl mx_26 rfl rfl hd_148 h
theorem k_148_7 {d : Nat} {F A : Nat → Nat → Int32} {J : Nat → Nat → Int64} {G : pG} {Q : pR → pM → Prop} {SL p q : Nat} {r r : Int32} (hG : Geo G SL p q) (h : Q (.inl (some (.int r))) (F, A, J, G)) : KK (d + 5) 148 7 [.ref 0] [] Q (.inl (some (.int r))) (F, A, J, G) := by
  refine KKi ?_
  exact Y_iret i_148_7 rt_148 h
/- 149 TableTower.marry(II)Z -/
theorem t_149_0 {d : Nat} {F A : Nat → Nat → Int32} {J : Nat → Nat → Int64} {G : pG} {Q : pR → pM → Prop} {SL p q : Nat} {x1 x2 : Int32} (hG : Geo G SL p q) (h : ((x1 < 0 → Q (.inr 101) (F, A, J, gThr G)) ∧ (¬ x1 < 0 → ((x1 < (F 12 0) → ((x2 < 0 → Q (.inr 101) (F, A, J, gThr G)) ∧ (¬ x2 < 0 → ((x2 < (F 12 0) → ((x1 = x2 → Q (.inr 100) (F, A, J, gThr G)) ∧ (¬ x1 = x2 → inB x1 10 = true ∧ inB x2 10 = true ∧ (Q (.inl (some (.int (bI (marB (carS (A 13 x1.toNatClampNeg) (A 15 x1.toNatClampNeg) (F 27 2) 0) (A 14 x2.toNatClampNeg) (carS (A 13 x2.toNatClampNeg) (A 15 x2.toNatClampNeg) (F 27 2) 0) (A 14 x1.toNatClampNeg)))))) (F, A, J, G))))) ∧ (¬ x2 < (F 12 0) → Q (.inr 101) (F, A, J, gThr G)))))) ∧ (¬ x1 < (F 12 0) → Q (.inr 101) (F, A, J, gThr G)))))) : X (d + 3) 149 0 [.ref 0, .int x1, .int x2] [] (F, A, J, G) Q := by
  refine Y_al0 i_149_0 ?_
  refine Y_il1 i_149_1 ?_
  refine Y_iv1 (L0 := [.ref 0, .int x1]) i_149_2 ow_149 lm_9_162 ((k_0 hG).trans ow_171.symm) rfl mx_171 rfl rfl hd_149 ?_
  refine Y_il1 i_171_0 ?_
  refine Y_zlt i_171_1 (fun e1 => ?_) (fun e1 => ?_)
  · replace h := h.1 e1
    exact Y_thr i_171_15 ow_171 lc_9_157 (by decide +kernel) rfl (KKe h)
  · replace h := h.2 e1
    refine Y_il1 i_171_4 ?_
    refine Y_al0 i_171_5 ?_
    refine Y_gR i_171_6 ow_171 lf_9_40 (k_0 hG) (r_0_6 hG) ?_
    refine Y_gI (v := (F 12 0)) i_171_9 ow_171 lf_9_111 (by decide) (k_12 hG) rfl ?_
    refine Y_clt i_171_12 (fun e2 => ?_) (fun e2 => ?_)
    · replace h := h.1 e2
      refine Y_vret i_171_26 rt_171 (KKv ?_)
      refine Y_al0 i_149_5 ?_
      refine Y_il2 i_149_6 ?_
      refine Y_iv1 (L0 := [.ref 0, .int x2]) i_149_7 ow_149 lm_9_162 ((k_0 hG).trans ow_171.symm) rfl mx_171 rfl rfl hd_149 ?_
      refine Y_il1 i_171_0 ?_
      refine Y_zlt i_171_1 (fun e3 => ?_) (fun e3 => ?_)
      · replace h := h.1 e3
        exact Y_thr i_171_15 ow_171 lc_9_157 (by decide +kernel) rfl (KKe h)
      · replace h := h.2 e3
        refine Y_il1 i_171_4 ?_
        refine Y_al0 i_171_5 ?_
        refine Y_gR i_171_6 ow_171 lf_9_40 (k_0 hG) (r_0_6 hG) ?_
        refine Y_gI (v := (F 12 0)) i_171_9 ow_171 lf_9_111 (by decide) (k_12 hG) rfl ?_
        refine Y_clt i_171_12 (fun e4 => ?_) (fun e4 => ?_)
        · replace h := h.1 e4
          refine Y_vret i_171_26 rt_171 (KKv ?_)
          refine Y_il1 i_149_10 ?_
          refine Y_il2 i_149_11 ?_
          refine Y_cne i_149_12 (fun e5 => ?_) (fun e5 => ?_)
          · replace h := h.1 e5
            exact Y_thr i_149_15 ow_149 lc_9_88 (by decide +kernel) rfl h
          · replace h := h.2 e5
            refine Y_al0 i_149_26 ?_
            refine Y_gR i_149_27 ow_149 lf_9_48 (k_0 hG) (r_0_7 hG) ?_
            refine Y_gR i_149_30 ow_149 lf_9_57 (k_21 hG) (r_21_0 hG) ?_
            refine Y_il1 i_149_33 ?_
            refine Y_il2 i_149_34 ?_
            have o6 := h.1
            replace h := h.2
            have o7 := h.1
            replace h := h.2
            refine Y_iv2 (L0 := [.ref 27, .int x1, .int x2]) i_149_35 ow_149 lm_9_287 ((k_27 hG).trans ow_96.symm) rfl mx_96 rfl rfl hd_149 ?_
            refine c_96 hG tw_27 o6 o7 (KKi ?_)
            exact Y_bret i_149_38 rt_149 (bI_01 _) h
        · replace h := h.2 e4
          exact Y_thr i_171_15 ow_171 lc_9_157 (by decide +kernel) rfl (KKe h)
    · replace h := h.2 e2
      exact Y_thr i_171_15 ow_171 lc_9_157 (by decide +kernel) rfl (KKe h)
/- 150 TableTower.nod(II)I -/
theorem t_150_0 {d : Nat} {F A : Nat → Nat → Int32} {J : Nat → Nat → Int64} {G : pG} {Q : pR → pM → Prop} {SL p q : Nat} {x1 x2 : Int32} (hG : Geo G SL p q) (h : hB (F 27 1) = true ∧ (((lvI (A 28) (F 27 1) x1) = (-1) → Q (.inr 101) (F, A, J, gThr G)) ∧ (¬ (lvI (A 28) (F 27 1) x1) = (-1) → ((x2 < 0 → Q (.inr 100) (F, A, J, gThr G)) ∧ (¬ x2 < 0 → ((99 < x2 → Q (.inr 100) (F, A, J, gThr G)) ∧ (¬ 99 < x2 → X (d + 4) 110 0 [.ref 49, .int x1, .int x2] [] (F, A, J, G) (KK (d + 5) 150 35 [.ref 0, .int x1, .int x2] [] Q)))))))) : X (d + 5) 150 0 [.ref 0, .int x1, .int x2] [] (F, A, J, G) Q := by
  refine Y_al0 i_150_0 ?_
  refine Y_il1 i_150_1 ?_
  refine Y_iv1 (L0 := [.ref 0, .int x1]) i_150_2 ow_150 lm_9_290 ((k_0 hG).trans ow_172.symm) rfl mx_172 rfl rfl hd_150 ?_
  refine Y_al0 i_172_0 ?_
  refine Y_gR i_172_1 ow_172 lf_9_48 (k_0 hG) (r_0_7 hG) ?_
  refine Y_gR i_172_4 ow_172 lf_9_57 (k_21 hG) (r_21_0 hG) ?_
  refine Y_il1 i_172_7 ?_
  have o1 := h.1
  replace h := h.2
  refine Y_iv1 (L0 := [.ref 27, .int x1, .null]) i_172_8 ow_172 lm_9_187 ((k_27 hG).trans ow_77.symm) rfl mx_77 rfl rfl hd_172 ?_
  refine c_77 hG tw_27 o1 (KKi' (v' := (lvI (A 28) (F 27 1) x1)) (by simp [wF, wJ, va_up, cpR, bF, bA]) ?_)
  refine Y_iconst (v := (-1)) i_172_11 (by decide) ?_
  refine Y_cne i_172_12 (fun e2 => ?_) (fun e2 => ?_)
  · replace h := h.1 e2
    exact Y_thr i_172_15 ow_172 lc_9_157 (by decide +kernel) rfl (KKe h)
  · replace h := h.2 e2
    refine Y_vret i_172_26 rt_172 (KKv ?_)
    refine Y_il2 i_150_5 ?_
    refine Y_zlt i_150_6 (fun e3 => ?_) (fun e3 => ?_)
    · replace h := h.1 e3
      exact Y_thr i_150_15 ow_150 lc_9_88 (by decide +kernel) rfl h
    · replace h := h.2 e3
      refine Y_il2 i_150_9 ?_
      refine Y_bipush (v := 99) i_150_10 (by decide) ?_
      refine Y_cle i_150_12 (fun e4 => ?_) (fun e4 => ?_)
      · replace h := h.1 e4
        exact Y_thr i_150_15 ow_150 lc_9_88 (by decide +kernel) rfl h
      · replace h := h.2 e4
        refine Y_al0 i_150_26 ?_
        refine Y_gR i_150_27 ow_150 lf_9_64 (k_0 hG) (r_0_9 hG) ?_
        refine Y_il1 i_150_30 ?_
        refine Y_il2 i_150_31 ?_
        exact Y_iv2 (L0 := [.ref 49, .int x1, .int x2]) i_150_32 ow_150 lm_9_295 ((k_49 hG).trans ow_110.symm) rfl mx_110 rfl rfl hd_150 h
theorem k_150_35 {d : Nat} {F A : Nat → Nat → Int32} {J : Nat → Nat → Int64} {G : pG} {Q : pR → pM → Prop} {SL p q : Nat} {x1 x2 r r : Int32} (hG : Geo G SL p q) (h : Q (.inl (some (.int r))) (F, A, J, G)) : KK (d + 5) 150 35 [.ref 0, .int x1, .int x2] [] Q (.inl (some (.int r))) (F, A, J, G) := by
  refine KKi ?_
  exact Y_iret i_150_35 rt_150 h
/- 151 TableTower.fair()I -/
theorem t_151_0 {d : Nat} {F A : Nat → Nat → Int32} {J : Nat → Nat → Int64} {G : pG} {Q : pR → pM → Prop} {SL p q : Nat} (hG : Geo G SL p q) (h : X (d + 4) 114 0 [.ref 49, .null] [] (F, A, J, G) (KK (d + 5) 151 7 [.ref 0] [] Q)) : X (d + 5) 151 0 [.ref 0] [] (F, A, J, G) Q := by
  refine Y_al0 i_151_0 ?_
  refine Y_gR i_151_1 ow_151 lf_9_64 (k_0 hG) (r_0_9 hG) ?_
  exact Y_iv0 (L0 := [.ref 49, .null]) i_151_4 ow_151 lm_9_298 ((k_49 hG).trans ow_114.symm) rfl mx_114 rfl rfl hd_151 h
theorem k_151_7 {d : Nat} {F A : Nat → Nat → Int32} {J : Nat → Nat → Int64} {G : pG} {Q : pR → pM → Prop} {SL p q : Nat} {r r : Int32} (hG : Geo G SL p q) (h : Q (.inl (some (.int r))) (F, A, J, G)) : KK (d + 5) 151 7 [.ref 0] [] Q (.inl (some (.int r))) (F, A, J, G) := by
  refine KKi ?_
  exact Y_iret i_151_7 rt_151 h
/- 152 TableTower.out(I)I -/
theorem t_152_0 {d : Nat} {F A : Nat → Nat → Int32} {J : Nat → Nat → Int64} {G : pG} {Q : pR → pM → Prop} {SL p q : Nat} {x1 : Int32} (hG : Geo G SL p q) (h : hB (F 27 1) = true ∧ (((lvI (A 28) (F 27 1) x1) = (-1) → Q (.inr 101) (F, A, J, gThr G)) ∧ (¬ (lvI (A 28) (F 27 1) x1) = (-1) → X (d + 6) 107 0 [.ref 49, .int x1, .null, .null, .null, .null] [] (F, A, J, G) (KK (d + 7) 152 13 [.ref 0, .int x1] [] Q)))) : X (d + 7) 152 0 [.ref 0, .int x1] [] (F, A, J, G) Q := by
  refine Y_al0 i_152_0 ?_
  refine Y_il1 i_152_1 ?_
  refine Y_iv1 (L0 := [.ref 0, .int x1]) i_152_2 ow_152 lm_9_290 ((k_0 hG).trans ow_172.symm) rfl mx_172 rfl rfl hd_152 ?_
  refine Y_al0 i_172_0 ?_
  refine Y_gR i_172_1 ow_172 lf_9_48 (k_0 hG) (r_0_7 hG) ?_
  refine Y_gR i_172_4 ow_172 lf_9_57 (k_21 hG) (r_21_0 hG) ?_
  refine Y_il1 i_172_7 ?_
  have o1 := h.1
  replace h := h.2
  refine Y_iv1 (L0 := [.ref 27, .int x1, .null]) i_172_8 ow_172 lm_9_187 ((k_27 hG).trans ow_77.symm) rfl mx_77 rfl rfl hd_172 ?_
  refine c_77 hG tw_27 o1 (KKi' (v' := (lvI (A 28) (F 27 1) x1)) (by simp [wF, wJ, va_up, cpR, bF, bA]) ?_)
  refine Y_iconst (v := (-1)) i_172_11 (by decide) ?_
  refine Y_cne i_172_12 (fun e2 => ?_) (fun e2 => ?_)
  · replace h := h.1 e2
    exact Y_thr i_172_15 ow_172 lc_9_157 (by decide +kernel) rfl (KKe h)
  · replace h := h.2 e2
    refine Y_vret i_172_26 rt_172 (KKv ?_)
    refine Y_al0 i_152_5 ?_
    refine Y_gR i_152_6 ow_152 lf_9_64 (k_0 hG) (r_0_9 hG) ?_
    refine Y_il1 i_152_9 ?_
    exact Y_iv1 (L0 := [.ref 49, .int x1, .null, .null, .null, .null]) i_152_10 ow_152 lm_9_301 ((k_49 hG).trans ow_107.symm) rfl mx_107 rfl rfl hd_152 h
theorem k_152_13 {d : Nat} {F A : Nat → Nat → Int32} {J : Nat → Nat → Int64} {G : pG} {Q : pR → pM → Prop} {SL p q : Nat} {x1 r r : Int32} (hG : Geo G SL p q) (h : Q (.inl (some (.int r))) (F, A, J, G)) : KK (d + 7) 152 13 [.ref 0, .int x1] [] Q (.inl (some (.int r))) (F, A, J, G) := by
  refine KKi ?_
  exact Y_iret i_152_13 rt_152 h
/- 153 TableTower.oneWedge()I -/
theorem t_153_0 {d : Nat} {F A : Nat → Nat → Int32} {J : Nat → Nat → Int64} {G : pG} {Q : pR → pM → Prop} {SL p q : Nat} (hG : Geo G SL p q) (h : X (d + 5) 115 0 [.ref 49, .null, .null, .null] [] (F, A, J, G) (KK (d + 6) 153 7 [.ref 0] [] Q)) : X (d + 6) 153 0 [.ref 0] [] (F, A, J, G) Q := by
  refine Y_al0 i_153_0 ?_
  refine Y_gR i_153_1 ow_153 lf_9_64 (k_0 hG) (r_0_9 hG) ?_
  exact Y_iv0 (L0 := [.ref 49, .null, .null, .null]) i_153_4 ow_153 lm_9_304 ((k_49 hG).trans ow_115.symm) rfl mx_115 rfl rfl hd_153 h
theorem k_153_7 {d : Nat} {F A : Nat → Nat → Int32} {J : Nat → Nat → Int64} {G : pG} {Q : pR → pM → Prop} {SL p q : Nat} {r r : Int32} (hG : Geo G SL p q) (h : Q (.inl (some (.int r))) (F, A, J, G)) : KK (d + 6) 153 7 [.ref 0] [] Q (.inl (some (.int r))) (F, A, J, G) := by
  refine KKi ?_
  exact Y_iret i_153_7 rt_153 h
/- 154 TableTower.lifted(II)J -/
theorem t_154_0 {d : Nat} {F A : Nat → Nat → Int32} {J : Nat → Nat → Int64} {G : pG} {Q : pR → pM → Prop} {SL p q : Nat} {x1 x2 : Int32} (hG : Geo G SL p q) (h : (((x1 &&& ((((1 : Int32) <<< ((F 12 0) &&& 31)) - 1) ^^^ (-1))) = 0 → ((x2 < 0 → Q (.inr 100) (F, A, J, gThr G)) ∧ (¬ x2 < 0 → ((10 < x2 → Q (.inr 100) (F, A, J, gThr G)) ∧ (¬ 10 < x2 → X (d + 5) 19 0 [.ref 61, .int x1, .int x2] [] (F, A, J, G) (KK (d + 6) 154 44 [.ref 0, .int x1, .int x2] [] Q)))))) ∧ (¬ (x1 &&& ((((1 : Int32) <<< ((F 12 0) &&& 31)) - 1) ^^^ (-1))) = 0 → Q (.inr 100) (F, A, J, gThr G)))) : X (d + 6) 154 0 [.ref 0, .int x1, .int x2] [] (F, A, J, G) Q := by
  refine Y_il1 i_154_0 ?_
  refine Y_al0 i_154_1 ?_
  refine Y_gR i_154_2 ow_154 lf_9_40 (k_0 hG) (r_0_6 hG) ?_
  refine Y_iv0 (L0 := [.ref 12]) i_154_5 ow_154 lm_9_216 ((k_12 hG).trans ow_100.symm) rfl mx_100 rfl rfl hd_154 ?_
  refine Y_iconst (v := 1) i_100_0 (by decide) ?_
  refine Y_al0 i_100_1 ?_
  refine Y_gI (v := (F 12 0)) i_100_2 ow_100 lf_7_37 (by decide) (k_12 hG) rfl ?_
  refine Y_ishl i_100_5 ?_
  refine Y_iconst (v := 1) i_100_6 (by decide) ?_
  refine Y_isub i_100_7 ?_
  refine Y_iret i_100_8 rt_100 (KKi ?_)
  refine Y_iconst (v := (-1)) i_154_8 (by decide) ?_
  refine Y_ixor i_154_9 ?_
  refine Y_iand i_154_10 ?_
  refine Y_zne i_154_11 (fun e1 => ?_) (fun e1 => ?_)
  · replace h := h.1 e1
    refine Y_il2 i_154_14 ?_
    refine Y_zlt i_154_15 (fun e2 => ?_) (fun e2 => ?_)
    · replace h := h.1 e2
      exact Y_thr i_154_24 ow_154 lc_9_88 (by decide +kernel) rfl h
    · replace h := h.2 e2
      refine Y_il2 i_154_18 ?_
      refine Y_bipush (v := 10) i_154_19 (by decide) ?_
      refine Y_cle i_154_21 (fun e3 => ?_) (fun e3 => ?_)
      · replace h := h.1 e3
        exact Y_thr i_154_24 ow_154 lc_9_88 (by decide +kernel) rfl h
      · replace h := h.2 e3
        refine Y_al0 i_154_35 ?_
        refine Y_gR i_154_36 ow_154 lf_9_73 (k_0 hG) (r_0_10 hG) ?_
        refine Y_il1 i_154_39 ?_
        refine Y_il2 i_154_40 ?_
        exact Y_iv2 (L0 := [.ref 61, .int x1, .int x2]) i_154_41 ow_154 lm_9_272 ((k_61 hG).trans ow_19.symm) rfl mx_19 rfl rfl hd_154 h
  · replace h := h.2 e1
    exact Y_thr i_154_24 ow_154 lc_9_88 (by decide +kernel) rfl h
theorem k_154_44 {d : Nat} {F A : Nat → Nat → Int32} {J : Nat → Nat → Int64} {G : pG} {Q : pR → pM → Prop} {SL p q : Nat} {x1 x2 : Int32} {r r : Int64} (hG : Geo G SL p q) (h : Q (.inl (some (.long r))) (F, A, J, G)) : KK (d + 6) 154 44 [.ref 0, .int x1, .int x2] [] Q (.inl (some (.long r))) (F, A, J, G) := by
  refine KKl ?_
  exact Y_lret i_154_44 rt_154 h
/- 155 TableTower.swap()I -/
theorem t_155_0 {d : Nat} {F A : Nat → Nat → Int32} {J : Nat → Nat → Int64} {G : pG} {Q : pR → pM → Prop} {SL p q : Nat} (hG : Geo G SL p q) (h : X (d + 5) 109 0 [.ref 49, .null, .null, .null, .null, .null] [] (F, A, J, G) (KK (d + 6) 155 7 [.ref 0] [] Q)) : X (d + 6) 155 0 [.ref 0] [] (F, A, J, G) Q := by
  refine Y_al0 i_155_0 ?_
  refine Y_gR i_155_1 ow_155 lf_9_64 (k_0 hG) (r_0_9 hG) ?_
  exact Y_iv0 (L0 := [.ref 49, .null, .null, .null, .null, .null]) i_155_4 ow_155 lm_9_309 ((k_49 hG).trans ow_109.symm) rfl mx_109 rfl rfl hd_155 h
theorem k_155_7 {d : Nat} {F A : Nat → Nat → Int32} {J : Nat → Nat → Int64} {G : pG} {Q : pR → pM → Prop} {SL p q : Nat} {r r : Int32} (hG : Geo G SL p q) (h : Q (.inl (some (.int r))) (F, A, J, G)) : KK (d + 6) 155 7 [.ref 0] [] Q (.inl (some (.int r))) (F, A, J, G) := by
  refine KKi ?_
  exact Y_iret i_155_7 rt_155 h
/- 156 TableTower.slack(I)I -/
theorem t_156_0 {d : Nat} {F A : Nat → Nat → Int32} {J : Nat → Nat → Int64} {G : pG} {Q : pR → pM → Prop} {SL p q : Nat} {x1 : Int32} (hG : Geo G SL p q) (h : ((x1 < 0 → Q (.inr 101) (F, A, J, gThr G)) ∧ (¬ x1 < 0 → ((x1 < (F 27 1) → X (d + 2) 84 0 [.ref 27, .null, .null, .null] [] (F, A, J, G) (KK (d + 3) 156 15 [.ref 0, .int x1] [] Q)) ∧ (¬ x1 < (F 27 1) → Q (.inr 101) (F, A, J, gThr G)))))) : X (d + 3) 156 0 [.ref 0, .int x1] [] (F, A, J, G) Q := by
  refine Y_al0 i_156_0 ?_
  refine Y_il1 i_156_1 ?_
  refine Y_iv1 (L0 := [.ref 0, .int x1]) i_156_2 ow_156 lm_9_192 ((k_0 hG).trans ow_173.symm) rfl mx_173 rfl rfl hd_156 ?_
  refine Y_il1 i_173_0 ?_
  refine Y_zlt i_173_1 (fun e1 => ?_) (fun e1 => ?_)
  · replace h := h.1 e1
    exact Y_thr i_173_18 ow_173 lc_9_157 (by decide +kernel) rfl (KKe h)
  · replace h := h.2 e1
    refine Y_il1 i_173_4 ?_
    refine Y_al0 i_173_5 ?_
    refine Y_gR i_173_6 ow_173 lf_9_48 (k_0 hG) (r_0_7 hG) ?_
    refine Y_gR i_173_9 ow_173 lf_9_57 (k_21 hG) (r_21_0 hG) ?_
    refine Y_gI (v := (F 27 1)) i_173_12 ow_173 lf_9_114 (by decide) (k_27 hG) rfl ?_
    refine Y_clt i_173_15 (fun e2 => ?_) (fun e2 => ?_)
    · replace h := h.1 e2
      refine Y_vret i_173_29 rt_173 (KKv ?_)
      refine Y_al0 i_156_5 ?_
      refine Y_gR i_156_6 ow_156 lf_9_48 (k_0 hG) (r_0_7 hG) ?_
      refine Y_gR i_156_9 ow_156 lf_9_57 (k_21 hG) (r_21_0 hG) ?_
      exact Y_iv0 (L0 := [.ref 27, .null, .null, .null]) i_156_12 ow_156 lm_9_195 ((k_27 hG).trans ow_84.symm) rfl mx_84 rfl rfl hd_156 h
    · replace h := h.2 e2
      exact Y_thr i_173_18 ow_173 lc_9_157 (by decide +kernel) rfl (KKe h)
theorem k_156_15 {d : Nat} {F A : Nat → Nat → Int32} {J : Nat → Nat → Int64} {G : pG} {Q : pR → pM → Prop} {SL p q : Nat} {x1 : Int32} (hG : Geo G SL p q) (h : inB x1 10 = true ∧ (Q (.inl (some (.int ((A 33 x1.toNatClampNeg) - (A 32 x1.toNatClampNeg))))) (F, A, J, G))) : KK (d + 3) 156 15 [.ref 0, .int x1] [] Q (.inl none) (F, A, J, G) := by
  refine KKv ?_
  refine Y_al0 i_156_15 ?_
  refine Y_gR i_156_16 ow_156 lf_9_48 (k_0 hG) (r_0_7 hG) ?_
  refine Y_gR i_156_19 ow_156 lf_9_57 (k_21 hG) (r_21_0 hG) ?_
  refine Y_il1 i_156_22 ?_
  refine Y_iv1 (L0 := [.ref 27, .int x1]) i_156_23 ow_156 lm_9_312 ((k_27 hG).trans ow_85.symm) rfl mx_85 rfl rfl hd_156 ?_
  refine Y_al0 i_85_0 ?_
  refine Y_gR i_85_1 ow_85 lf_6_27 (k_27 hG) (r_27_9 hG) ?_
  refine Y_il1 i_85_4 ?_
  have o1 := h.1
  replace h := h.2
  refine Y_iaload (k := x1.toNatClampNeg) (v := (A 33 x1.toNatClampNeg)) i_85_5 (k_33 hG) (l_33 hG) o1 rfl rfl ?_
  refine Y_al0 i_85_6 ?_
  refine Y_gR i_85_7 ow_85 lf_6_24 (k_27 hG) (r_27_8 hG) ?_
  refine Y_il1 i_85_10 ?_
  refine Y_iaload (k := x1.toNatClampNeg) (v := (A 32 x1.toNatClampNeg)) i_85_11 (k_32 hG) (l_32 hG) o1 rfl rfl ?_
  refine Y_isub i_85_12 ?_
  refine Y_iret i_85_13 rt_85 (KKi ?_)
  exact Y_iret i_156_26 rt_156 h
/- 157 TableTower.broken(I)I -/
theorem t_157_0 {d : Nat} {F A : Nat → Nat → Int32} {J : Nat → Nat → Int64} {G : pG} {Q : pR → pM → Prop} {SL p q : Nat} {x1 : Int32} (hG : Geo G SL p q) (h : ((x1 < 0 → Q (.inr 100) (F, A, J, gThr G)) ∧ (¬ x1 < 0 → ((99 < x1 → Q (.inr 100) (F, A, J, gThr G)) ∧ (¬ 99 < x1 → X (d + 4) 111 0 [.ref 49, .int x1] [] (F, A, J, G) (KK (d + 5) 157 29 [.ref 0, .int x1] [] Q)))))) : X (d + 5) 157 0 [.ref 0, .int x1] [] (F, A, J, G) Q := by
  refine Y_il1 i_157_0 ?_
  refine Y_zlt i_157_1 (fun e1 => ?_) (fun e1 => ?_)
  · replace h := h.1 e1
    exact Y_thr i_157_10 ow_157 lc_9_88 (by decide +kernel) rfl h
  · replace h := h.2 e1
    refine Y_il1 i_157_4 ?_
    refine Y_bipush (v := 99) i_157_5 (by decide) ?_
    refine Y_cle i_157_7 (fun e2 => ?_) (fun e2 => ?_)
    · replace h := h.1 e2
      exact Y_thr i_157_10 ow_157 lc_9_88 (by decide +kernel) rfl h
    · replace h := h.2 e2
      refine Y_al0 i_157_21 ?_
      refine Y_gR i_157_22 ow_157 lf_9_64 (k_0 hG) (r_0_9 hG) ?_
      refine Y_il1 i_157_25 ?_
      exact Y_iv1 (L0 := [.ref 49, .int x1]) i_157_26 ow_157 lm_9_315 ((k_49 hG).trans ow_111.symm) rfl mx_111 rfl rfl hd_157 h
theorem k_157_29 {d : Nat} {F A : Nat → Nat → Int32} {J : Nat → Nat → Int64} {G : pG} {Q : pR → pM → Prop} {SL p q : Nat} {x1 r r : Int32} (hG : Geo G SL p q) (h : Q (.inl (some (.int r))) (F, A, J, G)) : KK (d + 5) 157 29 [.ref 0, .int x1] [] Q (.inl (some (.int r))) (F, A, J, G) := by
  refine KKi ?_
  exact Y_iret i_157_29 rt_157 h
/- 158 TableTower.crooked()I -/
theorem t_158_0 {d : Nat} {F A : Nat → Nat → Int32} {J : Nat → Nat → Int64} {G : pG} {Q : pR → pM → Prop} {SL p q : Nat} (hG : Geo G SL p q) (h : X (d + 3) 95 0 [.ref 27, .null, .null] [] (F, A, J, G) (KK (d + 4) 158 10 [.ref 0] [] Q)) : X (d + 4) 158 0 [.ref 0] [] (F, A, J, G) Q := by
  refine Y_al0 i_158_0 ?_
  refine Y_gR i_158_1 ow_158 lf_9_48 (k_0 hG) (r_0_7 hG) ?_
  refine Y_gR i_158_4 ow_158 lf_9_57 (k_21 hG) (r_21_0 hG) ?_
  exact Y_iv0 (L0 := [.ref 27, .null, .null]) i_158_7 ow_158 lm_9_318 ((k_27 hG).trans ow_95.symm) rfl mx_95 rfl rfl hd_158 h
theorem k_158_10 {d : Nat} {F A : Nat → Nat → Int32} {J : Nat → Nat → Int64} {G : pG} {Q : pR → pM → Prop} {SL p q : Nat} {r r : Int32} (hG : Geo G SL p q) (h : Q (.inl (some (.int r))) (F, A, J, G)) : KK (d + 4) 158 10 [.ref 0] [] Q (.inl (some (.int r))) (F, A, J, G) := by
  refine KKi ?_
  exact Y_iret i_158_10 rt_158 h
/- 159 TableTower.top(I)I -/
theorem t_159_0 {d : Nat} {F A : Nat → Nat → Int32} {J : Nat → Nat → Int64} {G : pG} {Q : pR → pM → Prop} {SL p q : Nat} {x1 : Int32} (hG : Geo G SL p q) (h : ((x1 < 0 → Q (.inr 100) (F, A, J, gThr G)) ∧ (¬ x1 < 0 → ((999 < x1 → Q (.inr 100) (F, A, J, gThr G)) ∧ (¬ 999 < x1 → X (d + 4) 113 0 [.ref 49, .int x1] [] (F, A, J, G) (KK (d + 5) 159 30 [.ref 0, .int x1] [] Q)))))) : X (d + 5) 159 0 [.ref 0, .int x1] [] (F, A, J, G) Q := by
  refine Y_il1 i_159_0 ?_
  refine Y_zlt i_159_1 (fun e1 => ?_) (fun e1 => ?_)
  · replace h := h.1 e1
    exact Y_thr i_159_11 ow_159 lc_9_88 (by decide +kernel) rfl h
  · replace h := h.2 e1
    refine Y_il1 i_159_4 ?_
    refine Y_sipush (v := 999) i_159_5 (by decide) ?_
    refine Y_cle i_159_8 (fun e2 => ?_) (fun e2 => ?_)
    · replace h := h.1 e2
      exact Y_thr i_159_11 ow_159 lc_9_88 (by decide +kernel) rfl h
    · replace h := h.2 e2
      refine Y_al0 i_159_22 ?_
      refine Y_gR i_159_23 ow_159 lf_9_64 (k_0 hG) (r_0_9 hG) ?_
      refine Y_il1 i_159_26 ?_
      exact Y_iv1 (L0 := [.ref 49, .int x1]) i_159_27 ow_159 lm_9_323 ((k_49 hG).trans ow_113.symm) rfl mx_113 rfl rfl hd_159 h
theorem k_159_30 {d : Nat} {F A : Nat → Nat → Int32} {J : Nat → Nat → Int64} {G : pG} {Q : pR → pM → Prop} {SL p q : Nat} {x1 r r : Int32} (hG : Geo G SL p q) (h : Q (.inl (some (.int r))) (F, A, J, G)) : KK (d + 5) 159 30 [.ref 0, .int x1] [] Q (.inl (some (.int r))) (F, A, J, G) := by
  refine KKi ?_
  exact Y_iret i_159_30 rt_159 h
/- 160 TableTower.relief()I -/
theorem t_160_0 {d : Nat} {F A : Nat → Nat → Int32} {J : Nat → Nat → Int64} {G : pG} {Q : pR → pM → Prop} {SL p q : Nat} (hG : Geo G SL p q) (h : X (d + 6) 106 0 [.ref 49, .null, .null, .null, .null] [] (F, A, J, G) (KK (d + 7) 160 7 [.ref 0] [] Q)) : X (d + 7) 160 0 [.ref 0] [] (F, A, J, G) Q := by
  refine Y_al0 i_160_0 ?_
  refine Y_gR i_160_1 ow_160 lf_9_64 (k_0 hG) (r_0_9 hG) ?_
  exact Y_iv0 (L0 := [.ref 49, .null, .null, .null, .null]) i_160_4 ow_160 lm_9_326 ((k_49 hG).trans ow_106.symm) rfl mx_106 rfl rfl hd_160 h
theorem k_160_7 {d : Nat} {F A : Nat → Nat → Int32} {J : Nat → Nat → Int64} {G : pG} {Q : pR → pM → Prop} {SL p q : Nat} {r r : Int32} (hG : Geo G SL p q) (h : Q (.inl (some (.int r))) (F, A, J, G)) : KK (d + 7) 160 7 [.ref 0] [] Q (.inl (some (.int r))) (F, A, J, G) := by
  refine KKi ?_
  exact Y_iret i_160_7 rt_160 h
/- 161 TableTower.hungriest()I -/
theorem t_161_0 {d : Nat} {F A : Nat → Nat → Int32} {J : Nat → Nat → Int64} {G : pG} {Q : pR → pM → Prop} {SL p q : Nat} (hG : Geo G SL p q) (h : X (d + 1) 94 0 [.ref 27, .null, .null, .null, .null, .null] [] (F, A, J, G) (KK (d + 2) 161 10 [.ref 0] [] Q)) : X (d + 2) 161 0 [.ref 0] [] (F, A, J, G) Q := by
  refine Y_al0 i_161_0 ?_
  refine Y_gR i_161_1 ow_161 lf_9_48 (k_0 hG) (r_0_7 hG) ?_
  refine Y_gR i_161_4 ow_161 lf_9_57 (k_21 hG) (r_21_0 hG) ?_
  exact Y_iv0 (L0 := [.ref 27, .null, .null, .null, .null, .null]) i_161_7 ow_161 lm_9_329 ((k_27 hG).trans ow_94.symm) rfl mx_94 rfl rfl hd_161 h
theorem k_161_10 {d : Nat} {F A : Nat → Nat → Int32} {J : Nat → Nat → Int64} {G : pG} {Q : pR → pM → Prop} {SL p q : Nat} {r r : Int32} (hG : Geo G SL p q) (h : Q (.inl (some (.int r))) (F, A, J, G)) : KK (d + 2) 161 10 [.ref 0] [] Q (.inl (some (.int r))) (F, A, J, G) := by
  refine KKi ?_
  exact Y_iret i_161_10 rt_161 h
/- 162 TableTower.see(II)I -/
theorem t_162_0 {d : Nat} {F A : Nat → Nat → Int32} {J : Nat → Nat → Int64} {G : pG} {Q : pR → pM → Prop} {SL p q : Nat} {x1 x2 : Int32} (hG : Geo G SL p q) (h : ((x1 < 0 → (((F 21 2) < 8 → Q (.inl (some (.int (-1)))) (F, (wF A 26 2 ((A 26 2) + 1)), J, G)) ∧ (¬ (F 21 2) < 8 → Q (.inl (some (.int (-1)))) (F, (wF A 26 2 ((A 26 2) + 1)), J, G)))) ∧ (¬ x1 < 0 → ((x1 < (F 27 1) → (((F 21 2) < 8 → ((x2 < (-99) → Q (.inl (some (.int (-1)))) (F, (wF A 26 2 ((A 26 2) + 1)), J, G)) ∧ (¬ x2 < (-99) → ((99 < x2 → Q (.inl (some (.int (-1)))) (F, (wF A 26 2 ((A 26 2) + 1)), J, G)) ∧ (¬ 99 < x2 → inB (F 21 2) 8 = true ∧ (Q (.inl (some (.int ((F 21 2) + 1)))) ((wF F 21 2 ((F 21 2) + 1)), (wF (wF A 24 (F 21 2).toNatClampNeg x1) 25 (F 21 2).toNatClampNeg x2), J, G))))))) ∧ (¬ (F 21 2) < 8 → Q (.inl (some (.int (-1)))) (F, (wF A 26 2 ((A 26 2) + 1)), J, G)))) ∧ (¬ x1 < (F 27 1) → (((F 21 2) < 8 → Q (.inl (some (.int (-1)))) (F, (wF A 26 2 ((A 26 2) + 1)), J, G)) ∧ (¬ (F 21 2) < 8 → Q (.inl (some (.int (-1)))) (F, (wF A 26 2 ((A 26 2) + 1)), J, G)))))))) : X (d + 2) 162 0 [.ref 0, .int x1, .int x2] [] (F, A, J, G) Q := by
  refine Y_al0 i_162_0 ?_
  refine Y_gR i_162_1 ow_162 lf_9_48 (k_0 hG) (r_0_7 hG) ?_
  refine Y_il1 i_162_4 ?_
  refine Y_il2 i_162_5 ?_
  refine Y_iv2 (L0 := [.ref 21, .int x1, .int x2, .null]) i_162_6 ow_162 lm_9_332 ((k_21 hG).trans ow_72.symm) rfl mx_72 rfl rfl hd_162 ?_
  refine Y_il1 i_72_0 ?_
  refine Y_zlt i_72_1 (fun e1 => ?_) (fun e1 => ?_)
  · replace h := h.1 e1
    refine Y_iconst (v := 1) i_72_15 (by decide) ?_
    refine Y_goto i_72_16 ?_
    refine Y_is3 i_72_20 rfl ?_
    refine Y_al0 i_72_21 ?_
    refine Y_gI (v := (F 21 2)) i_72_22 ow_72 lf_5_48 (by decide) (k_21 hG) rfl ?_
    refine Y_bipush (v := 8) i_72_25 (by decide) ?_
    refine Y_cge i_72_27 (fun e2 => ?_) (fun e2 => ?_)
    · replace h := h.1 e2
      refine Y_il3 i_72_30 ?_
      refine Y_zT i_72_31 (by decide) ?_
      refine Y_al0 i_72_46 ?_
      refine Y_iconst (v := 2) i_72_47 (by decide) ?_
      refine Y_iv1 (L0 := [.ref 21, .int 2]) i_72_48 ow_72 lm_5_71 ((k_21 hG).trans ow_63.symm) rfl mx_63 rfl rfl hd_72 ?_
      refine Y_al0 i_63_0 ?_
      refine Y_gR i_63_1 ow_63 lf_5_25 (k_21 hG) (r_21_5 hG) ?_
      refine Y_il1 i_63_4 ?_
      refine Y_dup2 i_63_5 rfl rfl ?_
      refine Y_iaload (k := 2) (v := (A 26 2)) i_63_6 (k_26 hG) (l_26 hG) (by decide) (by decide) rfl ?_
      refine Y_iconst (v := 1) i_63_7 (by decide) ?_
      refine Y_iadd i_63_8 ?_
      refine Y_iast (k := 2) i_63_9 (k_26 hG) (l_26 hG) (by decide) (by decide) ?_
      refine Y_iconst (v := (-1)) i_63_10 (by decide) ?_
      refine Y_iret i_63_11 rt_63 (KKi ?_)
      refine Y_iret i_72_51 rt_72 (KKi ?_)
      exact Y_iret i_162_9 rt_162 h
    · replace h := h.2 e2
      refine Y_al0 i_72_46 ?_
      refine Y_iconst (v := 2) i_72_47 (by decide) ?_
      refine Y_iv1 (L0 := [.ref 21, .int 2]) i_72_48 ow_72 lm_5_71 ((k_21 hG).trans ow_63.symm) rfl mx_63 rfl rfl hd_72 ?_
      refine Y_al0 i_63_0 ?_
      refine Y_gR i_63_1 ow_63 lf_5_25 (k_21 hG) (r_21_5 hG) ?_
      refine Y_il1 i_63_4 ?_
      refine Y_dup2 i_63_5 rfl rfl ?_
      refine Y_iaload (k := 2) (v := (A 26 2)) i_63_6 (k_26 hG) (l_26 hG) (by decide) (by decide) rfl ?_
      refine Y_iconst (v := 1) i_63_7 (by decide) ?_
      refine Y_iadd i_63_8 ?_
      refine Y_iast (k := 2) i_63_9 (k_26 hG) (l_26 hG) (by decide) (by decide) ?_
      refine Y_iconst (v := (-1)) i_63_10 (by decide) ?_
      refine Y_iret i_63_11 rt_63 (KKi ?_)
      refine Y_iret i_72_51 rt_72 (KKi ?_)
      exact Y_iret i_162_9 rt_162 h
  · replace h := h.2 e1
    refine Y_il1 i_72_4 ?_
    refine Y_al0 i_72_5 ?_
    refine Y_gR i_72_6 ow_72 lf_5_33 (k_21 hG) (r_21_0 hG) ?_
    refine Y_gI (v := (F 27 1)) i_72_9 ow_72 lf_5_68 (by decide) (k_27 hG) rfl ?_
    refine Y_clt i_72_12 (fun e3 => ?_) (fun e3 => ?_)
    · replace h := h.1 e3
      refine Y_iconst (v := 0) i_72_19 (by decide) ?_
      refine Y_is3 i_72_20 rfl ?_
      refine Y_al0 i_72_21 ?_
      refine Y_gI (v := (F 21 2)) i_72_22 ow_72 lf_5_48 (by decide) (k_21 hG) rfl ?_
      refine Y_bipush (v := 8) i_72_25 (by decide) ?_
      refine Y_cge i_72_27 (fun e4 => ?_) (fun e4 => ?_)
      · replace h := h.1 e4
        refine Y_il3 i_72_30 ?_
        refine Y_zF i_72_31 (by decide) ?_
        refine Y_il2 i_72_34 ?_
        refine Y_bipush (v := (-99)) i_72_35 (by decide) ?_
        refine Y_clt i_72_37 (fun e5 => ?_) (fun e5 => ?_)
        · replace h := h.1 e5
          refine Y_al0 i_72_46 ?_
          refine Y_iconst (v := 2) i_72_47 (by decide) ?_
          refine Y_iv1 (L0 := [.ref 21, .int 2]) i_72_48 ow_72 lm_5_71 ((k_21 hG).trans ow_63.symm) rfl mx_63 rfl rfl hd_72 ?_
          refine Y_al0 i_63_0 ?_
          refine Y_gR i_63_1 ow_63 lf_5_25 (k_21 hG) (r_21_5 hG) ?_
          refine Y_il1 i_63_4 ?_
          refine Y_dup2 i_63_5 rfl rfl ?_
          refine Y_iaload (k := 2) (v := (A 26 2)) i_63_6 (k_26 hG) (l_26 hG) (by decide) (by decide) rfl ?_
          refine Y_iconst (v := 1) i_63_7 (by decide) ?_
          refine Y_iadd i_63_8 ?_
          refine Y_iast (k := 2) i_63_9 (k_26 hG) (l_26 hG) (by decide) (by decide) ?_
          refine Y_iconst (v := (-1)) i_63_10 (by decide) ?_
          refine Y_iret i_63_11 rt_63 (KKi ?_)
          refine Y_iret i_72_51 rt_72 (KKi ?_)
          exact Y_iret i_162_9 rt_162 h
        · replace h := h.2 e5
          refine Y_il2 i_72_40 ?_
          refine Y_bipush (v := 99) i_72_41 (by decide) ?_
          refine Y_cle i_72_43 (fun e6 => ?_) (fun e6 => ?_)
          · replace h := h.1 e6
            refine Y_al0 i_72_46 ?_
            refine Y_iconst (v := 2) i_72_47 (by decide) ?_
            refine Y_iv1 (L0 := [.ref 21, .int 2]) i_72_48 ow_72 lm_5_71 ((k_21 hG).trans ow_63.symm) rfl mx_63 rfl rfl hd_72 ?_
            refine Y_al0 i_63_0 ?_
            refine Y_gR i_63_1 ow_63 lf_5_25 (k_21 hG) (r_21_5 hG) ?_
            refine Y_il1 i_63_4 ?_
            refine Y_dup2 i_63_5 rfl rfl ?_
            refine Y_iaload (k := 2) (v := (A 26 2)) i_63_6 (k_26 hG) (l_26 hG) (by decide) (by decide) rfl ?_
            refine Y_iconst (v := 1) i_63_7 (by decide) ?_
            refine Y_iadd i_63_8 ?_
            refine Y_iast (k := 2) i_63_9 (k_26 hG) (l_26 hG) (by decide) (by decide) ?_
            refine Y_iconst (v := (-1)) i_63_10 (by decide) ?_
            refine Y_iret i_63_11 rt_63 (KKi ?_)
            refine Y_iret i_72_51 rt_72 (KKi ?_)
            exact Y_iret i_162_9 rt_162 h
          · replace h := h.2 e6
            refine Y_al0 i_72_52 ?_
            refine Y_gR i_72_53 ow_72 lf_5_18 (k_21 hG) (r_21_3 hG) ?_
            refine Y_al0 i_72_56 ?_
            refine Y_gI (v := (F 21 2)) i_72_57 ow_72 lf_5_48 (by decide) (k_21 hG) rfl ?_
            refine Y_il1 i_72_60 ?_
            have o7 := h.1
            replace h := h.2
            refine Y_iast i_72_61 (k_24 hG) (l_24 hG) o7 rfl ?_
            refine Y_al0 i_72_62 ?_
            refine Y_gR i_72_63 ow_72 lf_5_22 (k_21 hG) (r_21_4 hG) ?_
            refine Y_al0 i_72_66 ?_
            refine Y_gI (v := (F 21 2)) i_72_67 ow_72 lf_5_48 (by decide) (k_21 hG) rfl ?_
            refine Y_il2 i_72_70 ?_
            refine Y_iast i_72_71 (k_25 hG) (l_25 hG) o7 rfl ?_
            refine Y_al0 i_72_72 ?_
            refine Y_dup i_72_73 rfl ?_
            refine Y_gI (v := (F 21 2)) i_72_74 ow_72 lf_5_48 (by decide) (k_21 hG) rfl ?_
            refine Y_iconst (v := 1) i_72_77 (by decide) ?_
            refine Y_iadd i_72_78 ?_
            refine Y_pI i_72_79 ow_72 lf_5_48 (k_21 hG) ?_
            refine Y_al0 i_72_82 ?_
            refine Y_gI (v := ((F 21 2) + 1)) i_72_83 ow_72 lf_5_48 (by decide) (k_21 hG) (by simp [wF, wJ, va_up, cpR, bF, bA]) ?_
            refine Y_iret i_72_86 rt_72 (KKi ?_)
            exact Y_iret i_162_9 rt_162 h
      · replace h := h.2 e4
        refine Y_al0 i_72_46 ?_
        refine Y_iconst (v := 2) i_72_47 (by decide) ?_
        refine Y_iv1 (L0 := [.ref 21, .int 2]) i_72_48 ow_72 lm_5_71 ((k_21 hG).trans ow_63.symm) rfl mx_63 rfl rfl hd_72 ?_
        refine Y_al0 i_63_0 ?_
        refine Y_gR i_63_1 ow_63 lf_5_25 (k_21 hG) (r_21_5 hG) ?_
        refine Y_il1 i_63_4 ?_
        refine Y_dup2 i_63_5 rfl rfl ?_
        refine Y_iaload (k := 2) (v := (A 26 2)) i_63_6 (k_26 hG) (l_26 hG) (by decide) (by decide) rfl ?_
        refine Y_iconst (v := 1) i_63_7 (by decide) ?_
        refine Y_iadd i_63_8 ?_
        refine Y_iast (k := 2) i_63_9 (k_26 hG) (l_26 hG) (by decide) (by decide) ?_
        refine Y_iconst (v := (-1)) i_63_10 (by decide) ?_
        refine Y_iret i_63_11 rt_63 (KKi ?_)
        refine Y_iret i_72_51 rt_72 (KKi ?_)
        exact Y_iret i_162_9 rt_162 h
    · replace h := h.2 e3
      refine Y_iconst (v := 1) i_72_15 (by decide) ?_
      refine Y_goto i_72_16 ?_
      refine Y_is3 i_72_20 rfl ?_
      refine Y_al0 i_72_21 ?_
      refine Y_gI (v := (F 21 2)) i_72_22 ow_72 lf_5_48 (by decide) (k_21 hG) rfl ?_
      refine Y_bipush (v := 8) i_72_25 (by decide) ?_
      refine Y_cge i_72_27 (fun e8 => ?_) (fun e8 => ?_)
      · replace h := h.1 e8
        refine Y_il3 i_72_30 ?_
        refine Y_zT i_72_31 (by decide) ?_
        refine Y_al0 i_72_46 ?_
        refine Y_iconst (v := 2) i_72_47 (by decide) ?_
        refine Y_iv1 (L0 := [.ref 21, .int 2]) i_72_48 ow_72 lm_5_71 ((k_21 hG).trans ow_63.symm) rfl mx_63 rfl rfl hd_72 ?_
        refine Y_al0 i_63_0 ?_
        refine Y_gR i_63_1 ow_63 lf_5_25 (k_21 hG) (r_21_5 hG) ?_
        refine Y_il1 i_63_4 ?_
        refine Y_dup2 i_63_5 rfl rfl ?_
        refine Y_iaload (k := 2) (v := (A 26 2)) i_63_6 (k_26 hG) (l_26 hG) (by decide) (by decide) rfl ?_
        refine Y_iconst (v := 1) i_63_7 (by decide) ?_
        refine Y_iadd i_63_8 ?_
        refine Y_iast (k := 2) i_63_9 (k_26 hG) (l_26 hG) (by decide) (by decide) ?_
        refine Y_iconst (v := (-1)) i_63_10 (by decide) ?_
        refine Y_iret i_63_11 rt_63 (KKi ?_)
        refine Y_iret i_72_51 rt_72 (KKi ?_)
        exact Y_iret i_162_9 rt_162 h
      · replace h := h.2 e8
        refine Y_al0 i_72_46 ?_
        refine Y_iconst (v := 2) i_72_47 (by decide) ?_
        refine Y_iv1 (L0 := [.ref 21, .int 2]) i_72_48 ow_72 lm_5_71 ((k_21 hG).trans ow_63.symm) rfl mx_63 rfl rfl hd_72 ?_
        refine Y_al0 i_63_0 ?_
        refine Y_gR i_63_1 ow_63 lf_5_25 (k_21 hG) (r_21_5 hG) ?_
        refine Y_il1 i_63_4 ?_
        refine Y_dup2 i_63_5 rfl rfl ?_
        refine Y_iaload (k := 2) (v := (A 26 2)) i_63_6 (k_26 hG) (l_26 hG) (by decide) (by decide) rfl ?_
        refine Y_iconst (v := 1) i_63_7 (by decide) ?_
        refine Y_iadd i_63_8 ?_
        refine Y_iast (k := 2) i_63_9 (k_26 hG) (l_26 hG) (by decide) (by decide) ?_
        refine Y_iconst (v := (-1)) i_63_10 (by decide) ?_
        refine Y_iret i_63_11 rt_63 (KKi ?_)
        refine Y_iret i_72_51 rt_72 (KKi ?_)
        exact Y_iret i_162_9 rt_162 h
/- 163 TableTower.which(I)I -/
theorem t_163_0 {d : Nat} {F A : Nat → Nat → Int32} {J : Nat → Nat → Int64} {G : pG} {Q : pR → pM → Prop} {SL p q : Nat} {x1 : Int32} (hG : Geo G SL p q) (h : ((x1 = 0 → X (d + 3) 9 0 [.ref 66, .null, .null, .null, .null] [] (F, A, J, G) (KK (d + 4) 163 35 [.ref 0, .int x1] [] Q)) ∧ (x1 = 1 → X (d + 3) 10 0 [.ref 66, .null, .null, .null] [] (F, A, J, G) (KK (d + 4) 163 43 [.ref 0, .int x1] [] Q)) ∧ (x1 = 2 → X (d + 3) 8 0 [.ref 66] [] (F, A, J, G) (KK (d + 4) 163 51 [.ref 0, .int x1] [] Q)) ∧ (((x1 : Int32).toInt < 0 ∨ 2 < (x1 : Int32).toInt) → Q (.inr 101) (F, A, J, gThr G)))) : X (d + 4) 163 0 [.ref 0, .int x1] [] (F, A, J, G) Q := by
  refine Y_il1 i_163_0 ?_
  by_cases f0 : x1 = 0
  · replace h := h.1 f0
    refine Y_sw (t := 28) f0 i_163_1 (fun _ => rfl) rfl (fun _ => rfl) (fun _ => rfl) ?_
    refine Y_al0 i_163_28 ?_
    refine Y_gR i_163_29 ow_163 lf_9_80 (k_0 hG) (r_0_11 hG) ?_
    exact Y_iv0 (L0 := [.ref 66, .null, .null, .null, .null]) i_163_32 ow_163 lm_9_335 ((k_66 hG).trans ow_9.symm) rfl mx_9 rfl rfl hd_163 h
  by_cases f1 : x1 = 1
  · replace h := h.2.1 f1
    refine Y_sw (t := 36) f1 i_163_1 (fun _ => rfl) rfl (fun _ => rfl) (fun _ => rfl) ?_
    refine Y_al0 i_163_36 ?_
    refine Y_gR i_163_37 ow_163 lf_9_80 (k_0 hG) (r_0_11 hG) ?_
    exact Y_iv0 (L0 := [.ref 66, .null, .null, .null]) i_163_40 ow_163 lm_9_338 ((k_66 hG).trans ow_10.symm) rfl mx_10 rfl rfl hd_163 h
  by_cases f2 : x1 = 2
  · replace h := h.2.2.1 f2
    refine Y_sw (t := 44) f2 i_163_1 (fun _ => rfl) rfl (fun _ => rfl) (fun _ => rfl) ?_
    refine Y_al0 i_163_44 ?_
    refine Y_gR i_163_45 ow_163 lf_9_80 (k_0 hG) (r_0_11 hG) ?_
    exact Y_iv0 (L0 := [.ref 66]) i_163_48 ow_163 lm_9_341 ((k_66 hG).trans ow_8.symm) rfl mx_8 rfl rfl hd_163 h
  have eD : (x1 : Int32).toInt < 0 ∨ 2 < (x1 : Int32).toInt := by
    have q := ts_out (x := x1) (lo := 0) (n := 3) (by
      intro j hj
      have : j = 0 ∨ j = 1 ∨ j = 2 := by omega
      rcases this with rfl | rfl | rfl
      · exact ne_toInt f0 (by decide)
      · exact ne_toInt f1 (by decide)
      · exact ne_toInt f2 (by decide)
      )
    omega
  replace h := h.2.2.2 eD
  refine Y_tsD (t := 60) eD i_163_1 (by decide) ?_
  exact Y_thr i_163_60 ow_163 lc_9_157 (by decide +kernel) rfl h
theorem k_163_35 {d : Nat} {F A : Nat → Nat → Int32} {J : Nat → Nat → Int64} {G : pG} {Q : pR → pM → Prop} {SL p q : Nat} {x1 r r : Int32} (hG : Geo G SL p q) (h : Q (.inl (some (.int r))) (F, A, J, G)) : KK (d + 4) 163 35 [.ref 0, .int x1] [] Q (.inl (some (.int r))) (F, A, J, G) := by
  refine KKi ?_
  exact Y_iret i_163_35 rt_163 h
theorem k_163_43 {d : Nat} {F A : Nat → Nat → Int32} {J : Nat → Nat → Int64} {G : pG} {Q : pR → pM → Prop} {SL p q : Nat} {x1 r r : Int32} (hG : Geo G SL p q) (h : Q (.inl (some (.int r))) (F, A, J, G)) : KK (d + 4) 163 43 [.ref 0, .int x1] [] Q (.inl (some (.int r))) (F, A, J, G) := by
  refine KKi ?_
  exact Y_iret i_163_43 rt_163 h
theorem k_163_51 {d : Nat} {F A : Nat → Nat → Int32} {J : Nat → Nat → Int64} {G : pG} {Q : pR → pM → Prop} {SL p q : Nat} {x1 r r : Int32} (hG : Geo G SL p q) (h : ((r = 0 → Q (.inl (some (.int 0))) (F, A, J, G)) ∧ (¬ r = 0 → Q (.inl (some (.int 1))) (F, A, J, G)))) : KK (d + 4) 163 51 [.ref 0, .int x1] [] Q (.inl (some (.int r))) (F, A, J, G) := by
  refine KKi ?_
  refine Y_zeq i_163_51 (fun e1 => ?_) (fun e1 => ?_)
  · replace h := h.1 e1
    refine Y_iconst (v := 0) i_163_58 (by decide) ?_
    exact Y_iret i_163_59 rt_163 h
  · replace h := h.2 e1
    refine Y_iconst (v := 1) i_163_54 (by decide) ?_
    refine Y_goto i_163_55 ?_
    exact Y_iret i_163_59 rt_163 h
/- 164 TableTower.look()I -/
theorem t_164_0 {d : Nat} {F A : Nat → Nat → Int32} {J : Nat → Nat → Int64} {G : pG} {Q : pR → pM → Prop} {SL p q : Nat} (hG : Geo G SL p q) (h : X (d + 4) 11 0 [.ref 66, .null, .null, .null, .null] [] (F, A, J, G) (KK (d + 5) 164 7 [.ref 0] [] Q)) : X (d + 5) 164 0 [.ref 0] [] (F, A, J, G) Q := by
  refine Y_al0 i_164_0 ?_
  refine Y_gR i_164_1 ow_164 lf_9_80 (k_0 hG) (r_0_11 hG) ?_
  exact Y_iv0 (L0 := [.ref 66, .null, .null, .null, .null]) i_164_4 ow_164 lm_9_346 ((k_66 hG).trans ow_11.symm) rfl mx_11 rfl rfl hd_164 h
theorem k_164_7 {d : Nat} {F A : Nat → Nat → Int32} {J : Nat → Nat → Int64} {G : pG} {Q : pR → pM → Prop} {SL p q : Nat} {r r : Int32} (hG : Geo G SL p q) (h : Q (.inl (some (.int r))) (F, A, J, G)) : KK (d + 5) 164 7 [.ref 0] [] Q (.inl (some (.int r))) (F, A, J, G) := by
  refine KKi ?_
  exact Y_iret i_164_7 rt_164 h
/- 165 TableTower.forget()V -/
theorem t_165_0 {d : Nat} {F A : Nat → Nat → Int32} {J : Nat → Nat → Int64} {G : pG} {Q : pR → pM → Prop} {SL p q : Nat} (hG : Geo G SL p q) (h : Q (.inl none) ((wF F 21 2 0), A, J, G)) : X d 165 0 [.ref 0] [] (F, A, J, G) Q := by
  refine Y_al0 i_165_0 ?_
  refine Y_gR i_165_1 ow_165 lf_9_48 (k_0 hG) (r_0_7 hG) ?_
  refine Y_iconst (v := 0) i_165_4 (by decide) ?_
  refine Y_pI i_165_5 ow_165 lf_9_150 (k_21 hG) ?_
  exact Y_vret i_165_8 rt_165 h
/- 166 TableTower.game(I)I -/
theorem t_166_0 {d : Nat} {F A : Nat → Nat → Int32} {J : Nat → Nat → Int64} {G : pG} {Q : pR → pM → Prop} {SL p q : Nat} {x1 : Int32} (hG : Geo G SL p q) (h : ((x1 = 0 → X (d + 6) 118 0 [.ref 49, .null, .null] [] (F, A, J, G) (KK (d + 7) 166 27 [.ref 0, .int x1] [] Q)) ∧ (¬ x1 = 0 → ((x1 = 1 → X (d + 6) 118 0 [.ref 49, .null, .null] [] (F, A, J, G) (KK (d + 7) 166 27 [.ref 0, .int x1] [] Q)) ∧ (¬ x1 = 1 → Q (.inr 101) (F, A, J, gThr G)))))) : X (d + 7) 166 0 [.ref 0, .int x1] [] (F, A, J, G) Q := by
  refine Y_il1 i_166_0 ?_
  refine Y_zeq i_166_1 (fun e1 => ?_) (fun e1 => ?_)
  · replace h := h.1 e1
    refine Y_al0 i_166_20 ?_
    refine Y_gR i_166_21 ow_166 lf_9_64 (k_0 hG) (r_0_9 hG) ?_
    exact Y_iv0 (L0 := [.ref 49, .null, .null]) i_166_24 ow_166 lm_9_351 ((k_49 hG).trans ow_118.symm) rfl mx_118 rfl rfl hd_166 h
  · replace h := h.2 e1
    refine Y_il1 i_166_4 ?_
    refine Y_iconst (v := 1) i_166_5 (by decide) ?_
    refine Y_ceq i_166_6 (fun e2 => ?_) (fun e2 => ?_)
    · replace h := h.1 e2
      refine Y_al0 i_166_20 ?_
      refine Y_gR i_166_21 ow_166 lf_9_64 (k_0 hG) (r_0_9 hG) ?_
      exact Y_iv0 (L0 := [.ref 49, .null, .null]) i_166_24 ow_166 lm_9_351 ((k_49 hG).trans ow_118.symm) rfl mx_118 rfl rfl hd_166 h
    · replace h := h.2 e2
      exact Y_thr i_166_9 ow_166 lc_9_157 (by decide +kernel) rfl h
theorem k_166_27 {d : Nat} {F A : Nat → Nat → Int32} {J : Nat → Nat → Int64} {G : pG} {Q : pR → pM → Prop} {SL p q : Nat} {x1 : Int32} (hG : Geo G SL p q) (h : ((x1 = 0 → Q (.inl (some (.int (F 49 3)))) (F, A, J, G)) ∧ (¬ x1 = 0 → Q (.inl (some (.int (F 49 4)))) (F, A, J, G)))) : KK (d + 7) 166 27 [.ref 0, .int x1] [] Q (.inl none) (F, A, J, G) := by
  refine KKv ?_
  refine Y_il1 i_166_27 ?_
  refine Y_zne i_166_28 (fun e1 => ?_) (fun e1 => ?_)
  · replace h := h.1 e1
    refine Y_al0 i_166_31 ?_
    refine Y_gR i_166_32 ow_166 lf_9_64 (k_0 hG) (r_0_9 hG) ?_
    refine Y_gI (v := (F 49 3)) i_166_35 ow_166 lf_9_354 (by decide) (k_49 hG) rfl ?_
    refine Y_goto i_166_38 ?_
    exact Y_iret i_166_48 rt_166 h
  · replace h := h.2 e1
    refine Y_al0 i_166_41 ?_
    refine Y_gR i_166_42 ow_166 lf_9_64 (k_0 hG) (r_0_9 hG) ?_
    refine Y_gI (v := (F 49 4)) i_166_45 ow_166 lf_9_357 (by decide) (k_49 hG) rfl ?_
    exact Y_iret i_166_48 rt_166 h
/- 167 TableTower.decades(III)I -/
theorem t_167_0 {d : Nat} {F A : Nat → Nat → Int32} {J : Nat → Nat → Int64} {G : pG} {Q : pR → pM → Prop} {SL p q : Nat} {x1 x2 x3 : Int32} (hG : Geo G SL p q) (h : ((x3 < 0 → Q (.inr 101) (F, A, J, gThr G)) ∧ (¬ x3 < 0 → ((2 < x3 → Q (.inr 101) (F, A, J, gThr G)) ∧ (¬ 2 < x3 → ((x2 < 0 → Q (.inr 100) (F, A, J, gThr G)) ∧ (¬ x2 < 0 → ((40 < x2 → Q (.inr 100) (F, A, J, gThr G)) ∧ (¬ 40 < x2 → X (d + 5) 122 0 [.ref 49, .int x1, .int x2, .null] [] (F, A, J, G) (KK (d + 6) 167 50 [.ref 0, .int x1, .int x2, .int x3] [] Q)))))))))) : X (d + 6) 167 0 [.ref 0, .int x1, .int x2, .int x3] [] (F, A, J, G) Q := by
  refine Y_il3 i_167_0 ?_
  refine Y_zlt i_167_1 (fun e1 => ?_) (fun e1 => ?_)
  · replace h := h.1 e1
    exact Y_thr i_167_9 ow_167 lc_9_157 (by decide +kernel) rfl h
  · replace h := h.2 e1
    refine Y_il3 i_167_4 ?_
    refine Y_iconst (v := 2) i_167_5 (by decide) ?_
    refine Y_cle i_167_6 (fun e2 => ?_) (fun e2 => ?_)
    · replace h := h.1 e2
      exact Y_thr i_167_9 ow_167 lc_9_157 (by decide +kernel) rfl h
    · replace h := h.2 e2
      refine Y_il2 i_167_20 ?_
      refine Y_zlt i_167_21 (fun e3 => ?_) (fun e3 => ?_)
      · replace h := h.1 e3
        exact Y_thr i_167_30 ow_167 lc_9_88 (by decide +kernel) rfl h
      · replace h := h.2 e3
        refine Y_il2 i_167_24 ?_
        refine Y_bipush (v := 40) i_167_25 (by decide) ?_
        refine Y_cle i_167_27 (fun e4 => ?_) (fun e4 => ?_)
        · replace h := h.1 e4
          exact Y_thr i_167_30 ow_167 lc_9_88 (by decide +kernel) rfl h
        · replace h := h.2 e4
          refine Y_al0 i_167_41 ?_
          refine Y_gR i_167_42 ow_167 lf_9_64 (k_0 hG) (r_0_9 hG) ?_
          refine Y_il1 i_167_45 ?_
          refine Y_il2 i_167_46 ?_
          exact Y_iv2 (L0 := [.ref 49, .int x1, .int x2, .null]) i_167_47 ow_167 lm_9_364 ((k_49 hG).trans ow_122.symm) rfl mx_122 rfl rfl hd_167 h
theorem k_167_50 {d : Nat} {F A : Nat → Nat → Int32} {J : Nat → Nat → Int64} {G : pG} {Q : pR → pM → Prop} {SL p q : Nat} {x1 x2 x3 : Int32} (hG : Geo G SL p q) (h : ((x3 = 0 → Q (.inl (some (.int (F 49 5)))) (F, A, J, G)) ∧ (¬ x3 = 0 → ((x3 = 1 → Q (.inl (some (.int (F 49 6)))) (F, A, J, G)) ∧ (¬ x3 = 1 → Q (.inl (some (.int (F 49 7)))) (F, A, J, G)))))) : KK (d + 6) 167 50 [.ref 0, .int x1, .int x2, .int x3] [] Q (.inl none) (F, A, J, G) := by
  refine KKv ?_
  refine Y_il3 i_167_50 ?_
  refine Y_zne i_167_51 (fun e1 => ?_) (fun e1 => ?_)
  · replace h := h.1 e1
    refine Y_al0 i_167_54 ?_
    refine Y_gR i_167_55 ow_167 lf_9_64 (k_0 hG) (r_0_9 hG) ?_
    refine Y_gI (v := (F 49 5)) i_167_58 ow_167 lf_9_368 (by decide) (k_49 hG) rfl ?_
    exact Y_iret i_167_61 rt_167 h
  · replace h := h.2 e1
    refine Y_il3 i_167_62 ?_
    refine Y_iconst (v := 1) i_167_63 (by decide) ?_
    refine Y_cne i_167_64 (fun e2 => ?_) (fun e2 => ?_)
    · replace h := h.1 e2
      refine Y_al0 i_167_67 ?_
      refine Y_gR i_167_68 ow_167 lf_9_64 (k_0 hG) (r_0_9 hG) ?_
      refine Y_gI (v := (F 49 6)) i_167_71 ow_167 lf_9_371 (by decide) (k_49 hG) rfl ?_
      refine Y_goto i_167_74 ?_
      exact Y_iret i_167_84 rt_167 h
    · replace h := h.2 e2
      refine Y_al0 i_167_77 ?_
      refine Y_gR i_167_78 ow_167 lf_9_64 (k_0 hG) (r_0_9 hG) ?_
      refine Y_gI (v := (F 49 7)) i_167_81 ow_167 lf_9_374 (by decide) (k_49 hG) rfl ?_
      exact Y_iret i_167_84 rt_167 h
/- 168 TableTower.image()V -/
theorem t_168_0 {d : Nat} {F A : Nat → Nat → Int32} {J : Nat → Nat → Int64} {G : pG} {Q : pR → pM → Prop} {SL p q : Nat} (hG : Geo G SL p q) (h : (¬ (0 : Int32) < 0 ∧ ¬ (0 : Int32) < 0 ∧ ¬ ((F 22 0) * 14) < 0 ∧ (0 : Int32).toNatClampNeg + ((F 22 0) * 14).toNatClampNeg ≤ 560 ∧ (0 : Int32).toNatClampNeg + ((F 22 0) * 14).toNatClampNeg ≤ 560) ∧ (Q (.inl none) ((wF (wF (wF (wF (bF F 41 27) 36 0 (F 22 0)) 35 2 (F 21 2)) 35 6 1) 0 3 1), (cpR (cpR (cpR (cpR (bA A 41 27) 37 23 0 0 ((F 22 0) * 14).toNatClampNeg) 38 24 0 0 8) 39 25 0 0 8) 40 26 0 0 3), J, G))) : X (d + 2) 168 0 [.ref 0] [] (F, A, J, G) Q := by
  refine Y_al0 i_168_0 ?_
  refine Y_gR i_168_1 ow_168 lf_9_52 (k_0 hG) (r_0_8 hG) ?_
  refine Y_al0 i_168_4 ?_
  refine Y_gR i_168_5 ow_168 lf_9_48 (k_0 hG) (r_0_7 hG) ?_
  refine Y_iv1 (L0 := [.ref 35, .ref 21]) i_168_8 ow_168 lm_9_377 ((k_35 hG).trans ow_62.symm) rfl mx_62 rfl rfl hd_168 ?_
  refine Y_al0 i_62_0 ?_
  refine Y_gR i_62_1 ow_62 lf_5_33 (k_35 hG) (r_35_0 hG) ?_
  refine Y_al1 i_62_4 ?_
  refine Y_gR i_62_5 ow_62 lf_5_33 (k_21 hG) (r_21_0 hG) ?_
  refine Y_iv1 (L0 := [.ref 41, .ref 27]) i_62_8 ow_62 lm_5_51 ((k_41 hG).trans ow_76.symm) rfl mx_76 rfl rfl hd_62 ?_
  refine c_76_41_27 hG tw_41 (KKv ?_)
  refine Y_al0 i_62_11 ?_
  refine Y_gR i_62_12 ow_62 lf_5_12 (k_35 hG) (r_35_1 hG) ?_
  refine Y_al1 i_62_15 ?_
  refine Y_gR i_62_16 ow_62 lf_5_12 (k_21 hG) (r_21_1 hG) ?_
  refine Y_iv1 (L0 := [.ref 36, .ref 22]) i_62_19 ow_62 lm_5_55 ((k_36 hG).trans ow_1.symm) rfl mx_1 rfl rfl hd_62 ?_
  refine Y_al0 i_1_0 ?_
  refine Y_al1 i_1_1 ?_
  refine Y_gI (v := (F 22 0)) i_1_2 ow_1 lf_0_15 (by decide) (k_22 hG) (by simp [wF, wJ, va_up, cpR, bF, bA]) ?_
  refine Y_pI i_1_5 ow_1 lf_0_15 (k_36 hG) ?_
  refine Y_al1 i_1_8 ?_
  refine Y_gR i_1_9 ow_1 lf_0_11 (k_22 hG) (r_22_1 hG) ?_
  refine Y_iconst (v := 0) i_1_12 (by decide) ?_
  refine Y_al0 i_1_13 ?_
  refine Y_gR i_1_14 ow_1 lf_0_11 (k_36 hG) (r_36_1 hG) ?_
  refine Y_iconst (v := 0) i_1_17 (by decide) ?_
  refine Y_al0 i_1_18 ?_
  refine Y_gI (v := (F 22 0)) i_1_19 ow_1 lf_0_15 (by decide) (k_36 hG) (by simp [wF, wJ, va_up, cpR, bF, bA]) ?_
  refine Y_bipush (v := 14) i_1_22 (by decide) ?_
  refine Y_imul i_1_24 ?_
  have o1 := h.1
  replace h := h.2
  refine Y_acp (ksp := 0) (kdp := 0) (kn := ((F 22 0) * 14).toNatClampNeg) i_1_25 ow_1 lm_0_19 rfl (k_37 hG) (k_23 hG) (l_37 hG) (l_23 hG) o1 (by decide) (by decide) rfl ?_
  refine Y_vret i_1_28 rt_1 (KKv ?_)
  refine Y_al0 i_62_22 ?_
  refine Y_al1 i_62_23 ?_
  refine Y_gI (v := (F 21 2)) i_62_24 ow_62 lf_5_48 (by decide) (k_21 hG) (by simp [wF, wJ, va_up, cpR, bF, bA]) ?_
  refine Y_pI i_62_27 ow_62 lf_5_48 (k_35 hG) ?_
  refine Y_al1 i_62_30 ?_
  refine Y_gR i_62_31 ow_62 lf_5_18 (k_21 hG) (r_21_3 hG) ?_
  refine Y_iconst (v := 0) i_62_34 (by decide) ?_
  refine Y_al0 i_62_35 ?_
  refine Y_gR i_62_36 ow_62 lf_5_18 (k_35 hG) (r_35_3 hG) ?_
  refine Y_iconst (v := 0) i_62_39 (by decide) ?_
  refine Y_bipush (v := 8) i_62_40 (by decide) ?_
  refine Y_acp (ksp := 0) (kdp := 0) (kn := 8) i_62_42 ow_62 lm_5_58 rfl (k_38 hG) (k_24 hG) (l_38 hG) (l_24 hG) (by decide) (by decide) (by decide) (by decide) ?_
  refine Y_al1 i_62_45 ?_
  refine Y_gR i_62_46 ow_62 lf_5_22 (k_21 hG) (r_21_4 hG) ?_
  refine Y_iconst (v := 0) i_62_49 (by decide) ?_
  refine Y_al0 i_62_50 ?_
  refine Y_gR i_62_51 ow_62 lf_5_22 (k_35 hG) (r_35_4 hG) ?_
  refine Y_iconst (v := 0) i_62_54 (by decide) ?_
  refine Y_bipush (v := 8) i_62_55 (by decide) ?_
  refine Y_acp (ksp := 0) (kdp := 0) (kn := 8) i_62_57 ow_62 lm_5_58 rfl (k_39 hG) (k_25 hG) (l_39 hG) (l_25 hG) (by decide) (by decide) (by decide) (by decide) ?_
  refine Y_al1 i_62_60 ?_
  refine Y_gR i_62_61 ow_62 lf_5_25 (k_21 hG) (r_21_5 hG) ?_
  refine Y_iconst (v := 0) i_62_64 (by decide) ?_
  refine Y_al0 i_62_65 ?_
  refine Y_gR i_62_66 ow_62 lf_5_25 (k_35 hG) (r_35_5 hG) ?_
  refine Y_iconst (v := 0) i_62_69 (by decide) ?_
  refine Y_iconst (v := 3) i_62_70 (by decide) ?_
  refine Y_acp (ksp := 0) (kdp := 0) (kn := 3) i_62_71 ow_62 lm_5_58 rfl (k_40 hG) (k_26 hG) (l_40 hG) (l_26 hG) (by decide) (by decide) (by decide) (by decide) ?_
  refine Y_al0 i_62_74 ?_
  refine Y_iconst (v := 1) i_62_75 (by decide) ?_
  refine Y_pB i_62_76 ow_62 lf_5_37 (k_35 hG) (by decide) ?_
  refine Y_vret i_62_79 rt_62 (KKv ?_)
  refine Y_al0 i_168_11 ?_
  refine Y_iconst (v := 1) i_168_12 (by decide) ?_
  refine Y_pB i_168_13 ow_168 lf_9_20 (k_0 hG) (by decide) ?_
  exact Y_vret i_168_16 rt_168 h
/- 169 TableTower.restore()Z -/
theorem t_169_0 {d : Nat} {F A : Nat → Nat → Int32} {J : Nat → Nat → Int64} {G : pG} {Q : pR → pM → Prop} {SL p q : Nat} (hG : Geo G SL p q) (h : (((F 0 3) = 0 → Q (.inl (some (.int 0))) (F, A, J, G)) ∧ (¬ (F 0 3) = 0 → (¬ (0 : Int32) < 0 ∧ ¬ (0 : Int32) < 0 ∧ ¬ ((F 36 0) * 14) < 0 ∧ (0 : Int32).toNatClampNeg + ((F 36 0) * 14).toNatClampNeg ≤ 560 ∧ (0 : Int32).toNatClampNeg + ((F 36 0) * 14).toNatClampNeg ≤ 560) ∧ (Q (.inl (some (.int 1))) ((wF (wF (wF (bF F 27 41) 22 0 (F 36 0)) 21 2 (F 35 2)) 21 6 1), (cpR (cpR (cpR (cpR (bA A 27 41) 23 37 0 0 ((F 36 0) * 14).toNatClampNeg) 24 38 0 0 8) 25 39 0 0 8) 26 40 0 0 3), J, G))))) : X (d + 2) 169 0 [.ref 0] [] (F, A, J, G) Q := by
  refine Y_al0 i_169_0 ?_
  refine Y_gI (v := (F 0 3)) i_169_1 ow_169 lf_9_20 (by decide) (k_0 hG) rfl ?_
  refine Y_zne i_169_4 (fun e1 => ?_) (fun e1 => ?_)
  · replace h := h.1 e1
    refine Y_iconst (v := 0) i_169_7 (by decide) ?_
    exact Y_bret i_169_8 rt_169 (by decide) h
  · replace h := h.2 e1
    refine Y_al0 i_169_9 ?_
    refine Y_gR i_169_10 ow_169 lf_9_48 (k_0 hG) (r_0_7 hG) ?_
    refine Y_al0 i_169_13 ?_
    refine Y_gR i_169_14 ow_169 lf_9_52 (k_0 hG) (r_0_8 hG) ?_
    refine Y_iv1 (L0 := [.ref 21, .ref 35]) i_169_17 ow_169 lm_9_377 ((k_21 hG).trans ow_62.symm) rfl mx_62 rfl rfl hd_169 ?_
    refine Y_al0 i_62_0 ?_
    refine Y_gR i_62_1 ow_62 lf_5_33 (k_21 hG) (r_21_0 hG) ?_
    refine Y_al1 i_62_4 ?_
    refine Y_gR i_62_5 ow_62 lf_5_33 (k_35 hG) (r_35_0 hG) ?_
    refine Y_iv1 (L0 := [.ref 27, .ref 41]) i_62_8 ow_62 lm_5_51 ((k_27 hG).trans ow_76.symm) rfl mx_76 rfl rfl hd_62 ?_
    refine c_76_27_41 hG tw_27 (KKv ?_)
    refine Y_al0 i_62_11 ?_
    refine Y_gR i_62_12 ow_62 lf_5_12 (k_21 hG) (r_21_1 hG) ?_
    refine Y_al1 i_62_15 ?_
    refine Y_gR i_62_16 ow_62 lf_5_12 (k_35 hG) (r_35_1 hG) ?_
    refine Y_iv1 (L0 := [.ref 22, .ref 36]) i_62_19 ow_62 lm_5_55 ((k_22 hG).trans ow_1.symm) rfl mx_1 rfl rfl hd_62 ?_
    refine Y_al0 i_1_0 ?_
    refine Y_al1 i_1_1 ?_
    refine Y_gI (v := (F 36 0)) i_1_2 ow_1 lf_0_15 (by decide) (k_36 hG) (by simp [wF, wJ, va_up, cpR, bF, bA]) ?_
    refine Y_pI i_1_5 ow_1 lf_0_15 (k_22 hG) ?_
    refine Y_al1 i_1_8 ?_
    refine Y_gR i_1_9 ow_1 lf_0_11 (k_36 hG) (r_36_1 hG) ?_
    refine Y_iconst (v := 0) i_1_12 (by decide) ?_
    refine Y_al0 i_1_13 ?_
    refine Y_gR i_1_14 ow_1 lf_0_11 (k_22 hG) (r_22_1 hG) ?_
    refine Y_iconst (v := 0) i_1_17 (by decide) ?_
    refine Y_al0 i_1_18 ?_
    refine Y_gI (v := (F 36 0)) i_1_19 ow_1 lf_0_15 (by decide) (k_22 hG) (by simp [wF, wJ, va_up, cpR, bF, bA]) ?_
    refine Y_bipush (v := 14) i_1_22 (by decide) ?_
    refine Y_imul i_1_24 ?_
    have o2 := h.1
    replace h := h.2
    refine Y_acp (ksp := 0) (kdp := 0) (kn := ((F 36 0) * 14).toNatClampNeg) i_1_25 ow_1 lm_0_19 rfl (k_23 hG) (k_37 hG) (l_23 hG) (l_37 hG) o2 (by decide) (by decide) rfl ?_
    refine Y_vret i_1_28 rt_1 (KKv ?_)
    refine Y_al0 i_62_22 ?_
    refine Y_al1 i_62_23 ?_
    refine Y_gI (v := (F 35 2)) i_62_24 ow_62 lf_5_48 (by decide) (k_35 hG) (by simp [wF, wJ, va_up, cpR, bF, bA]) ?_
    refine Y_pI i_62_27 ow_62 lf_5_48 (k_21 hG) ?_
    refine Y_al1 i_62_30 ?_
    refine Y_gR i_62_31 ow_62 lf_5_18 (k_35 hG) (r_35_3 hG) ?_
    refine Y_iconst (v := 0) i_62_34 (by decide) ?_
    refine Y_al0 i_62_35 ?_
    refine Y_gR i_62_36 ow_62 lf_5_18 (k_21 hG) (r_21_3 hG) ?_
    refine Y_iconst (v := 0) i_62_39 (by decide) ?_
    refine Y_bipush (v := 8) i_62_40 (by decide) ?_
    refine Y_acp (ksp := 0) (kdp := 0) (kn := 8) i_62_42 ow_62 lm_5_58 rfl (k_24 hG) (k_38 hG) (l_24 hG) (l_38 hG) (by decide) (by decide) (by decide) (by decide) ?_
    refine Y_al1 i_62_45 ?_
    refine Y_gR i_62_46 ow_62 lf_5_22 (k_35 hG) (r_35_4 hG) ?_
    refine Y_iconst (v := 0) i_62_49 (by decide) ?_
    refine Y_al0 i_62_50 ?_
    refine Y_gR i_62_51 ow_62 lf_5_22 (k_21 hG) (r_21_4 hG) ?_
    refine Y_iconst (v := 0) i_62_54 (by decide) ?_
    refine Y_bipush (v := 8) i_62_55 (by decide) ?_
    refine Y_acp (ksp := 0) (kdp := 0) (kn := 8) i_62_57 ow_62 lm_5_58 rfl (k_25 hG) (k_39 hG) (l_25 hG) (l_39 hG) (by decide) (by decide) (by decide) (by decide) ?_
    refine Y_al1 i_62_60 ?_
    refine Y_gR i_62_61 ow_62 lf_5_25 (k_35 hG) (r_35_5 hG) ?_
    refine Y_iconst (v := 0) i_62_64 (by decide) ?_
    refine Y_al0 i_62_65 ?_
    refine Y_gR i_62_66 ow_62 lf_5_25 (k_21 hG) (r_21_5 hG) ?_
    refine Y_iconst (v := 0) i_62_69 (by decide) ?_
    refine Y_iconst (v := 3) i_62_70 (by decide) ?_
    refine Y_acp (ksp := 0) (kdp := 0) (kn := 3) i_62_71 ow_62 lm_5_58 rfl (k_26 hG) (k_40 hG) (l_26 hG) (l_40 hG) (by decide) (by decide) (by decide) (by decide) ?_
    refine Y_al0 i_62_74 ?_
    refine Y_iconst (v := 1) i_62_75 (by decide) ?_
    refine Y_pB i_62_76 ow_62 lf_5_37 (k_21 hG) (by decide) ?_
    refine Y_vret i_62_79 rt_62 (KKv ?_)
    refine Y_iconst (v := 1) i_169_20 (by decide) ?_
    exact Y_bret i_169_21 rt_169 (by decide) h
/- 170 TableTower.feedOne(I)V -/
theorem t_170_0 {d : Nat} {F A : Nat → Nat → Int32} {J : Nat → Nat → Int64} {G : pG} {Q : pR → pM → Prop} {SL p q : Nat} {x1 : Int32} (hG : Geo G SL p q) (h : X d 170 3 [.ref 0, .int x1, .int 24] [] (F, A, J, G) Q) : X d 170 0 [.ref 0, .int x1, .null] [] (F, A, J, G) Q := by
  refine Y_bipush (v := 24) i_170_0 (by decide) ?_
  refine Y_is2 i_170_2 rfl ?_
  exact h
theorem t_170_3 {d : Nat} {F A : Nat → Nat → Int32} {J : Nat → Nat → Int64} {G : pG} {Q : pR → pM → Prop} {SL p q : Nat} {x1 x2 : Int32} (hG : Geo G SL p q) (h : ((x2 < 0 → Q (.inl none) (F, A, J, G)) ∧ (¬ x2 < 0 → inB (F 0 1) 600 = true ∧ (X d 170 3 [.ref 0, .int x1, .int (x2 + (-8))] [] ((wF F 0 1 ((F 0 1) + 1)), (wF A 1 (F 0 1).toNatClampNeg (jbyte ((jushr x1 x2).toInt8.toInt32))), J, G) Q)))) : X d 170 3 [.ref 0, .int x1, .int x2] [] (F, A, J, G) Q := by
  refine Y_il2 i_170_3 ?_
  refine Y_zlt i_170_4 (fun e1 => ?_) (fun e1 => ?_)
  · replace h := h.1 e1
    exact Y_vret i_170_36 rt_170 h
  · replace h := h.2 e1
    refine Y_al0 i_170_7 ?_
    refine Y_gR i_170_8 ow_170 lf_9_9 (k_0 hG) (r_0_0 hG) ?_
    refine Y_al0 i_170_11 ?_
    refine Y_gI (v := (F 0 1)) i_170_12 ow_170 lf_9_13 (by decide) (k_0 hG) rfl ?_
    refine Y_il1 i_170_15 ?_
    refine Y_il2 i_170_16 ?_
    refine Y_iushr i_170_17 ?_
    refine Y_i2b i_170_18 ?_
    have o2 := h.1
    replace h := h.2
    refine Y_bast i_170_19 (k_1 hG) (l_1 hG) o2 rfl ?_
    refine Y_al0 i_170_20 ?_
    refine Y_dup i_170_21 rfl ?_
    refine Y_gI (v := (F 0 1)) i_170_22 ow_170 lf_9_13 (by decide) (k_0 hG) rfl ?_
    refine Y_iconst (v := 1) i_170_25 (by decide) ?_
    refine Y_iadd i_170_26 ?_
    refine Y_pI i_170_27 ow_170 lf_9_13 (k_0 hG) ?_
    refine Y_ii2 (v := (-8)) i_170_30 (by decide) rfl ?_
    refine Y_goto i_170_33 ?_
    exact h
/- 171 TableTower.needTable(I)V -/
theorem t_171_0 {d : Nat} {F A : Nat → Nat → Int32} {J : Nat → Nat → Int64} {G : pG} {Q : pR → pM → Prop} {SL p q : Nat} {x1 : Int32} (hG : Geo G SL p q) (h : ((x1 < 0 → Q (.inr 101) (F, A, J, gThr G)) ∧ (¬ x1 < 0 → ((x1 < (F 12 0) → Q (.inl none) (F, A, J, G)) ∧ (¬ x1 < (F 12 0) → Q (.inr 101) (F, A, J, gThr G)))))) : X d 171 0 [.ref 0, .int x1] [] (F, A, J, G) Q := by
  refine Y_il1 i_171_0 ?_
  refine Y_zlt i_171_1 (fun e1 => ?_) (fun e1 => ?_)
  · replace h := h.1 e1
    exact Y_thr i_171_15 ow_171 lc_9_157 (by decide +kernel) rfl h
  · replace h := h.2 e1
    refine Y_il1 i_171_4 ?_
    refine Y_al0 i_171_5 ?_
    refine Y_gR i_171_6 ow_171 lf_9_40 (k_0 hG) (r_0_6 hG) ?_
    refine Y_gI (v := (F 12 0)) i_171_9 ow_171 lf_9_111 (by decide) (k_12 hG) rfl ?_
    refine Y_clt i_171_12 (fun e2 => ?_) (fun e2 => ?_)
    · replace h := h.1 e2
      exact Y_vret i_171_26 rt_171 h
    · replace h := h.2 e2
      exact Y_thr i_171_15 ow_171 lc_9_157 (by decide +kernel) rfl h
/- 172 TableTower.needTableInTower(I)V -/
theorem t_172_0 {d : Nat} {F A : Nat → Nat → Int32} {J : Nat → Nat → Int64} {G : pG} {Q : pR → pM → Prop} {SL p q : Nat} {x1 : Int32} (hG : Geo G SL p q) (h : hB (F 27 1) = true ∧ (((lvI (A 28) (F 27 1) x1) = (-1) → Q (.inr 101) (F, A, J, gThr G)) ∧ (¬ (lvI (A 28) (F 27 1) x1) = (-1) → Q (.inl none) (F, A, J, G)))) : X (d + 1) 172 0 [.ref 0, .int x1] [] (F, A, J, G) Q := by
  refine Y_al0 i_172_0 ?_
  refine Y_gR i_172_1 ow_172 lf_9_48 (k_0 hG) (r_0_7 hG) ?_
  refine Y_gR i_172_4 ow_172 lf_9_57 (k_21 hG) (r_21_0 hG) ?_
  refine Y_il1 i_172_7 ?_
  have o1 := h.1
  replace h := h.2
  refine Y_iv1 (L0 := [.ref 27, .int x1, .null]) i_172_8 ow_172 lm_9_187 ((k_27 hG).trans ow_77.symm) rfl mx_77 rfl rfl hd_172 ?_
  refine c_77 hG tw_27 o1 (KKi' (v' := (lvI (A 28) (F 27 1) x1)) (by simp [wF, wJ, va_up, cpR, bF, bA]) ?_)
  refine Y_iconst (v := (-1)) i_172_11 (by decide) ?_
  refine Y_cne i_172_12 (fun e2 => ?_) (fun e2 => ?_)
  · replace h := h.1 e2
    exact Y_thr i_172_15 ow_172 lc_9_157 (by decide +kernel) rfl h
  · replace h := h.2 e2
    exact Y_vret i_172_26 rt_172 h
/- 173 TableTower.needLevel(I)V -/
theorem t_173_0 {d : Nat} {F A : Nat → Nat → Int32} {J : Nat → Nat → Int64} {G : pG} {Q : pR → pM → Prop} {SL p q : Nat} {x1 : Int32} (hG : Geo G SL p q) (h : ((x1 < 0 → Q (.inr 101) (F, A, J, gThr G)) ∧ (¬ x1 < 0 → ((x1 < (F 27 1) → Q (.inl none) (F, A, J, G)) ∧ (¬ x1 < (F 27 1) → Q (.inr 101) (F, A, J, gThr G)))))) : X d 173 0 [.ref 0, .int x1] [] (F, A, J, G) Q := by
  refine Y_il1 i_173_0 ?_
  refine Y_zlt i_173_1 (fun e1 => ?_) (fun e1 => ?_)
  · replace h := h.1 e1
    exact Y_thr i_173_18 ow_173 lc_9_157 (by decide +kernel) rfl h
  · replace h := h.2 e1
    refine Y_il1 i_173_4 ?_
    refine Y_al0 i_173_5 ?_
    refine Y_gR i_173_6 ow_173 lf_9_48 (k_0 hG) (r_0_7 hG) ?_
    refine Y_gR i_173_9 ow_173 lf_9_57 (k_21 hG) (r_21_0 hG) ?_
    refine Y_gI (v := (F 27 1)) i_173_12 ow_173 lf_9_114 (by decide) (k_27 hG) rfl ?_
    refine Y_clt i_173_15 (fun e2 => ?_) (fun e2 => ?_)
    · replace h := h.1 e2
      exact Y_vret i_173_29 rt_173 h
    · replace h := h.2 e2
      exact Y_thr i_173_18 ow_173 lc_9_157 (by decide +kernel) rfl h
end Tr14a
