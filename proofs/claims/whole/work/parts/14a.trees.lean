section Tr14a
/- 1 Acts.become(LTableTower$Acts;)V -/
theorem t_1a_0 {d : Nat} {F A : Nat → Nat → Int32} {J : Nat → Nat → Int64} {G : pG} {Q : pR → pM → Prop} {SL p q : Nat} (hG : Geo G SL p q) (h : (¬ (0 : Int32) < 0 ∧ ¬ (0 : Int32) < 0 ∧ ¬ ((F 22 0) * 14) < 0 ∧ (0 : Int32).toNatClampNeg + ((F 22 0) * 14).toNatClampNeg ≤ 560 ∧ (0 : Int32).toNatClampNeg + ((F 22 0) * 14).toNatClampNeg ≤ 560) ∧ (Q (.inl none) ((wF F 36 0 (F 22 0)), (cpR A 37 23 0 0 ((F 22 0) * 14).toNatClampNeg), J, G))) : X d 1 0 [.ref 36, .ref 22] [] (F, A, J, G) Q := by
  refine Y_al0 i_1_0 ?_
  refine Y_al1 i_1_1 ?_
  refine Y_gI (v := (F 22 0)) i_1_2 ow_1 lf_0_15 (by decide) (k_22 hG) rfl ?_
  refine Y_pI i_1_5 ow_1 lf_0_15 (k_36 hG) ?_
  refine Y_al1 i_1_8 ?_
  refine Y_gR i_1_9 ow_1 lf_0_11 (k_22 hG) (r_22_1 hG) ?_
  refine Y_iconst (v := 0) i_1_12 (by decide) ?_
  refine Y_al0 i_1_13 ?_
  refine Y_gR i_1_14 ow_1 lf_0_11 (k_36 hG) (r_36_1 hG) ?_
  refine Y_iconst (v := 0) i_1_17 (by decide) ?_
  refine Y_al0 i_1_18 ?_
  refine Y_gI (v := (F 22 0)) i_1_19 ow_1 lf_0_15 (by decide) (k_36 hG) (by simp [wF, wJ, va_up, cpR, bF, bA]) ?_
  refine Y_bipush (v := 14) i_1_22 (by decide) ?_
  refine Y_imul i_1_24 ?_
  have o1 := h.1
  replace h := h.2
  refine Y_acp (ksp := 0) (kdp := 0) (kn := ((F 22 0) * 14).toNatClampNeg) i_1_25 ow_1 lm_0_19 rfl (k_37 hG) (k_23 hG) (l_37 hG) (l_23 hG) o1 (by decide) (by decide) rfl ?_
  exact Y_vret i_1_28 rt_1 h
/- 1 Acts.become(LTableTower$Acts;)V -/
theorem t_1b_0 {d : Nat} {F A : Nat → Nat → Int32} {J : Nat → Nat → Int64} {G : pG} {Q : pR → pM → Prop} {SL p q : Nat} (hG : Geo G SL p q) (h : (¬ (0 : Int32) < 0 ∧ ¬ (0 : Int32) < 0 ∧ ¬ ((F 36 0) * 14) < 0 ∧ (0 : Int32).toNatClampNeg + ((F 36 0) * 14).toNatClampNeg ≤ 560 ∧ (0 : Int32).toNatClampNeg + ((F 36 0) * 14).toNatClampNeg ≤ 560) ∧ (Q (.inl none) ((wF F 22 0 (F 36 0)), (cpR A 23 37 0 0 ((F 36 0) * 14).toNatClampNeg), J, G))) : X d 1 0 [.ref 22, .ref 36] [] (F, A, J, G) Q := by
  refine Y_al0 i_1_0 ?_
  refine Y_al1 i_1_1 ?_
  refine Y_gI (v := (F 36 0)) i_1_2 ow_1 lf_0_15 (by decide) (k_36 hG) rfl ?_
  refine Y_pI i_1_5 ow_1 lf_0_15 (k_22 hG) ?_
  refine Y_al1 i_1_8 ?_
  refine Y_gR i_1_9 ow_1 lf_0_11 (k_36 hG) (r_36_1 hG) ?_
  refine Y_iconst (v := 0) i_1_12 (by decide) ?_
  refine Y_al0 i_1_13 ?_
  refine Y_gR i_1_14 ow_1 lf_0_11 (k_22 hG) (r_22_1 hG) ?_
  refine Y_iconst (v := 0) i_1_17 (by decide) ?_
  refine Y_al0 i_1_18 ?_
  refine Y_gI (v := (F 36 0)) i_1_19 ow_1 lf_0_15 (by decide) (k_22 hG) (by simp [wF, wJ, va_up, cpR, bF, bA]) ?_
  refine Y_bipush (v := 14) i_1_22 (by decide) ?_
  refine Y_imul i_1_24 ?_
  have o1 := h.1
  replace h := h.2
  refine Y_acp (ksp := 0) (kdp := 0) (kn := ((F 36 0) * 14).toNatClampNeg) i_1_25 ow_1 lm_0_19 rfl (k_23 hG) (k_37 hG) (l_23 hG) (l_37 hG) o1 (by decide) (by decide) rfl ?_
  exact Y_vret i_1_28 rt_1 h
/- 2 Acts.keep(IIII)V -/
theorem t_2_0 {d : Nat} {F A : Nat → Nat → Int32} {J : Nat → Nat → Int64} {G : pG} {Q : pR → pM → Prop} {SL p q : Nat} {x1 x2 x3 x4 : Int32} (hG : Geo G SL p q) (h : (((F 22 0) < 40 → inB ((F 22 0) * 14) 560 = true ∧ inB (((F 22 0) * 14) + 1) 560 = true ∧ inB (((F 22 0) * 14) + 2) 560 = true ∧ inB (((F 22 0) * 14) + 3) 560 = true ∧ (Q (.inl none) ((wF F 22 0 ((F 22 0) + 1)), (wF (wF (wF (wF A 23 ((F 22 0) * 14).toNatClampNeg x1) 23 (((F 22 0) * 14) + 1).toNatClampNeg x2) 23 (((F 22 0) * 14) + 2).toNatClampNeg x3) 23 (((F 22 0) * 14) + 3).toNatClampNeg x4), J, G))) ∧ (¬ (F 22 0) < 40 → (¬ (14 : Int32) < 0 ∧ ¬ (0 : Int32) < 0 ∧ ¬ ((39 : Int32) * 14) < 0 ∧ (14 : Int32).toNatClampNeg + ((39 : Int32) * 14).toNatClampNeg ≤ 560 ∧ (0 : Int32).toNatClampNeg + ((39 : Int32) * 14).toNatClampNeg ≤ 560) ∧ inB ((39 : Int32) * 14) 560 = true ∧ inB (((39 : Int32) * 14) + 1) 560 = true ∧ inB (((39 : Int32) * 14) + 2) 560 = true ∧ inB (((39 : Int32) * 14) + 3) 560 = true ∧ (Q (.inl none) ((wF (wF F 22 0 39) 22 0 ((39 : Int32) + 1)), (wF (wF (wF (wF (cpR A 23 23 14 0 ((39 : Int32) * 14).toNatClampNeg) 23 ((39 : Int32) * 14).toNatClampNeg x1) 23 (((39 : Int32) * 14) + 1).toNatClampNeg x2) 23 (((39 : Int32) * 14) + 2).toNatClampNeg x3) 23 (((39 : Int32) * 14) + 3).toNatClampNeg x4), J, G))))) : X d 2 0 [.ref 22, .int x1, .int x2, .int x3, .int x4, .null] [] (F, A, J, G) Q := by
  refine Y_al0 i_2_0 ?_
  refine Y_gI (v := (F 22 0)) i_2_1 ow_2 lf_0_15 (by decide) (k_22 hG) rfl ?_
  refine Y_bipush (v := 40) i_2_4 (by decide) ?_
  refine Y_clt i_2_6 (fun e1 => ?_) (fun e1 => ?_)
  · replace h := h.1 e1
    refine Y_al0 i_2_36 ?_
    refine Y_gI (v := (F 22 0)) i_2_37 ow_2 lf_0_15 (by decide) (k_22 hG) rfl ?_
    refine Y_bipush (v := 14) i_2_40 (by decide) ?_
    refine Y_imul i_2_42 ?_
    refine Y_is5 i_2_43 rfl ?_
    refine Y_al0 i_2_45 ?_
    refine Y_gR i_2_46 ow_2 lf_0_11 (k_22 hG) (r_22_1 hG) ?_
    refine Y_il5 i_2_49 ?_
    refine Y_il1 i_2_51 ?_
    have o2 := h.1
    replace h := h.2
    refine Y_iast i_2_52 (k_23 hG) (l_23 hG) o2 rfl ?_
    refine Y_al0 i_2_53 ?_
    refine Y_gR i_2_54 ow_2 lf_0_11 (k_22 hG) (r_22_1 hG) ?_
    refine Y_il5 i_2_57 ?_
    refine Y_iconst (v := 1) i_2_59 (by decide) ?_
    refine Y_iadd i_2_60 ?_
    refine Y_il2 i_2_61 ?_
    have o3 := h.1
    replace h := h.2
    refine Y_iast i_2_62 (k_23 hG) (l_23 hG) o3 rfl ?_
    refine Y_al0 i_2_63 ?_
    refine Y_gR i_2_64 ow_2 lf_0_11 (k_22 hG) (r_22_1 hG) ?_
    refine Y_il5 i_2_67 ?_
    refine Y_iconst (v := 2) i_2_69 (by decide) ?_
    refine Y_iadd i_2_70 ?_
    refine Y_il3 i_2_71 ?_
    have o4 := h.1
    replace h := h.2
    refine Y_iast i_2_72 (k_23 hG) (l_23 hG) o4 rfl ?_
    refine Y_al0 i_2_73 ?_
    refine Y_gR i_2_74 ow_2 lf_0_11 (k_22 hG) (r_22_1 hG) ?_
    refine Y_il5 i_2_77 ?_
    refine Y_iconst (v := 3) i_2_79 (by decide) ?_
    refine Y_iadd i_2_80 ?_
    refine Y_il4 i_2_81 ?_
    have o5 := h.1
    replace h := h.2
    refine Y_iast i_2_83 (k_23 hG) (l_23 hG) o5 rfl ?_
    refine Y_al0 i_2_84 ?_
    refine Y_dup i_2_85 rfl ?_
    refine Y_gI (v := (F 22 0)) i_2_86 ow_2 lf_0_15 (by decide) (k_22 hG) rfl ?_
    refine Y_iconst (v := 1) i_2_89 (by decide) ?_
    refine Y_iadd i_2_90 ?_
    refine Y_pI i_2_91 ow_2 lf_0_15 (k_22 hG) ?_
    exact Y_vret i_2_94 rt_2 h
  · replace h := h.2 e1
    refine Y_al0 i_2_9 ?_
    refine Y_bipush (v := 39) i_2_10 (by decide) ?_
    refine Y_pI i_2_12 ow_2 lf_0_15 (k_22 hG) ?_
    refine Y_al0 i_2_15 ?_
    refine Y_gR i_2_16 ow_2 lf_0_11 (k_22 hG) (r_22_1 hG) ?_
    refine Y_bipush (v := 14) i_2_19 (by decide) ?_
    refine Y_al0 i_2_21 ?_
    refine Y_gR i_2_22 ow_2 lf_0_11 (k_22 hG) (r_22_1 hG) ?_
    refine Y_iconst (v := 0) i_2_25 (by decide) ?_
    refine Y_al0 i_2_26 ?_
    refine Y_gI (v := 39) i_2_27 ow_2 lf_0_15 (by decide) (k_22 hG) (by simp [wF, wJ, va_up, cpR, bF, bA]) ?_
    refine Y_bipush (v := 14) i_2_30 (by decide) ?_
    refine Y_imul i_2_32 ?_
    have o6 := h.1
    replace h := h.2
    refine Y_acp (ksp := 14) (kdp := 0) (kn := ((39 : Int32) * 14).toNatClampNeg) i_2_33 ow_2 lm_0_19 rfl (k_23 hG) (k_23 hG) (l_23 hG) (l_23 hG) o6 (by decide) (by decide) rfl ?_
    refine Y_al0 i_2_36 ?_
    refine Y_gI (v := 39) i_2_37 ow_2 lf_0_15 (by decide) (k_22 hG) (by simp [wF, wJ, va_up, cpR, bF, bA]) ?_
    refine Y_bipush (v := 14) i_2_40 (by decide) ?_
    refine Y_imul i_2_42 ?_
    refine Y_is5 i_2_43 rfl ?_
    refine Y_al0 i_2_45 ?_
    refine Y_gR i_2_46 ow_2 lf_0_11 (k_22 hG) (r_22_1 hG) ?_
    refine Y_il5 i_2_49 ?_
    refine Y_il1 i_2_51 ?_
    have o7 := h.1
    replace h := h.2
    refine Y_iast i_2_52 (k_23 hG) (l_23 hG) o7 rfl ?_
    refine Y_al0 i_2_53 ?_
    refine Y_gR i_2_54 ow_2 lf_0_11 (k_22 hG) (r_22_1 hG) ?_
    refine Y_il5 i_2_57 ?_
    refine Y_iconst (v := 1) i_2_59 (by decide) ?_
    refine Y_iadd i_2_60 ?_
    refine Y_il2 i_2_61 ?_
    have o8 := h.1
    replace h := h.2
    refine Y_iast i_2_62 (k_23 hG) (l_23 hG) o8 rfl ?_
    refine Y_al0 i_2_63 ?_
    refine Y_gR i_2_64 ow_2 lf_0_11 (k_22 hG) (r_22_1 hG) ?_
    refine Y_il5 i_2_67 ?_
    refine Y_iconst (v := 2) i_2_69 (by decide) ?_
    refine Y_iadd i_2_70 ?_
    refine Y_il3 i_2_71 ?_
    have o9 := h.1
    replace h := h.2
    refine Y_iast i_2_72 (k_23 hG) (l_23 hG) o9 rfl ?_
    refine Y_al0 i_2_73 ?_
    refine Y_gR i_2_74 ow_2 lf_0_11 (k_22 hG) (r_22_1 hG) ?_
    refine Y_il5 i_2_77 ?_
    refine Y_iconst (v := 3) i_2_79 (by decide) ?_
    refine Y_iadd i_2_80 ?_
    refine Y_il4 i_2_81 ?_
    have o10 := h.1
    replace h := h.2
    refine Y_iast i_2_83 (k_23 hG) (l_23 hG) o10 rfl ?_
    refine Y_al0 i_2_84 ?_
    refine Y_dup i_2_85 rfl ?_
    refine Y_gI (v := 39) i_2_86 ow_2 lf_0_15 (by decide) (k_22 hG) (by simp [wF, wJ, va_up, cpR, bF, bA]) ?_
    refine Y_iconst (v := 1) i_2_89 (by decide) ?_
    refine Y_iadd i_2_90 ?_
    refine Y_pI i_2_91 ow_2 lf_0_15 (k_22 hG) ?_
    exact Y_vret i_2_94 rt_2 h
/- 3 Acts.keepSupper(LTableTower$Tower;)V -/
theorem t_3_0 {d : Nat} {F A : Nat → Nat → Int32} {J : Nat → Nat → Int64} {G : pG} {Q : pR → pM → Prop} {SL p q : Nat} (hG : Geo G SL p q) (h : (((F 22 0) < 40 → inB ((F 22 0) * 14) 560 = true ∧ inB (((F 22 0) * 14) + 1) 560 = true ∧ inB (((F 22 0) * 14) + 2) 560 = true ∧ inB (((F 22 0) * 14) + 3) 560 = true ∧ (¬ (0 : Int32) < 0 ∧ ¬ (((((F 22 0) + 1) - 1) * 14) + 4) < 0 ∧ ¬ (10 : Int32) < 0 ∧ (0 : Int32).toNatClampNeg + (10 : Int32).toNatClampNeg ≤ 10 ∧ (((((F 22 0) + 1) - 1) * 14) + 4).toNatClampNeg + (10 : Int32).toNatClampNeg ≤ 560) ∧ (Q (.inl none) ((wF F 22 0 ((F 22 0) + 1)), (cpR (wF (wF (wF (wF A 23 ((F 22 0) * 14).toNatClampNeg 5) 23 (((F 22 0) * 14) + 1).toNatClampNeg (F 27 3)) 23 (((F 22 0) * 14) + 2).toNatClampNeg 0) 23 (((F 22 0) * 14) + 3).toNatClampNeg 0) 23 29 0 (((((F 22 0) + 1) - 1) * 14) + 4).toNatClampNeg 10), J, G))) ∧ (¬ (F 22 0) < 40 → (¬ (14 : Int32) < 0 ∧ ¬ (0 : Int32) < 0 ∧ ¬ ((39 : Int32) * 14) < 0 ∧ (14 : Int32).toNatClampNeg + ((39 : Int32) * 14).toNatClampNeg ≤ 560 ∧ (0 : Int32).toNatClampNeg + ((39 : Int32) * 14).toNatClampNeg ≤ 560) ∧ inB ((39 : Int32) * 14) 560 = true ∧ inB (((39 : Int32) * 14) + 1) 560 = true ∧ inB (((39 : Int32) * 14) + 2) 560 = true ∧ inB (((39 : Int32) * 14) + 3) 560 = true ∧ (¬ (0 : Int32) < 0 ∧ ¬ (((((39 : Int32) + 1) - 1) * 14) + 4) < 0 ∧ ¬ (10 : Int32) < 0 ∧ (0 : Int32).toNatClampNeg + (10 : Int32).toNatClampNeg ≤ 10 ∧ (((((39 : Int32) + 1) - 1) * 14) + 4).toNatClampNeg + (10 : Int32).toNatClampNeg ≤ 560) ∧ (Q (.inl none) ((wF (wF F 22 0 39) 22 0 ((39 : Int32) + 1)), (cpR (wF (wF (wF (wF (cpR A 23 23 14 0 ((39 : Int32) * 14).toNatClampNeg) 23 ((39 : Int32) * 14).toNatClampNeg 5) 23 (((39 : Int32) * 14) + 1).toNatClampNeg (F 27 3)) 23 (((39 : Int32) * 14) + 2).toNatClampNeg 0) 23 (((39 : Int32) * 14) + 3).toNatClampNeg 0) 23 29 0 (((((39 : Int32) + 1) - 1) * 14) + 4).toNatClampNeg 10), J, G))))) : X (d + 1) 3 0 [.ref 22, .ref 27] [] (F, A, J, G) Q := by
  refine Y_al0 i_3_0 ?_
  refine Y_iconst (v := 5) i_3_1 (by decide) ?_
  refine Y_al1 i_3_2 ?_
  refine Y_gI (v := (F 27 3)) i_3_3 ow_3 lf_0_25 (by decide) (k_27 hG) rfl ?_
  refine Y_iconst (v := 0) i_3_6 (by decide) ?_
  refine Y_iconst (v := 0) i_3_7 (by decide) ?_
  refine Y_iv4 (L0 := [.ref 22, .int 5, .int (F 27 3), .int 0, .int 0, .null]) i_3_8 ow_3 lm_0_30 ((k_22 hG).trans ow_2.symm) rfl mx_2 rfl rfl hd_3 ?_
  refine Y_al0 i_2_0 ?_
  refine Y_gI (v := (F 22 0)) i_2_1 ow_2 lf_0_15 (by decide) (k_22 hG) rfl ?_
  refine Y_bipush (v := 40) i_2_4 (by decide) ?_
  refine Y_clt i_2_6 (fun e1 => ?_) (fun e1 => ?_)
  · replace h := h.1 e1
    refine Y_al0 i_2_36 ?_
    refine Y_gI (v := (F 22 0)) i_2_37 ow_2 lf_0_15 (by decide) (k_22 hG) rfl ?_
    refine Y_bipush (v := 14) i_2_40 (by decide) ?_
    refine Y_imul i_2_42 ?_
    refine Y_is5 i_2_43 rfl ?_
    refine Y_al0 i_2_45 ?_
    refine Y_gR i_2_46 ow_2 lf_0_11 (k_22 hG) (r_22_1 hG) ?_
    refine Y_il5 i_2_49 ?_
    refine Y_il1 i_2_51 ?_
    have o2 := h.1
    replace h := h.2
    refine Y_iast i_2_52 (k_23 hG) (l_23 hG) o2 rfl ?_
    refine Y_al0 i_2_53 ?_
    refine Y_gR i_2_54 ow_2 lf_0_11 (k_22 hG) (r_22_1 hG) ?_
    refine Y_il5 i_2_57 ?_
    refine Y_iconst (v := 1) i_2_59 (by decide) ?_
    refine Y_iadd i_2_60 ?_
    refine Y_il2 i_2_61 ?_
    have o3 := h.1
    replace h := h.2
    refine Y_iast i_2_62 (k_23 hG) (l_23 hG) o3 rfl ?_
    refine Y_al0 i_2_63 ?_
    refine Y_gR i_2_64 ow_2 lf_0_11 (k_22 hG) (r_22_1 hG) ?_
    refine Y_il5 i_2_67 ?_
    refine Y_iconst (v := 2) i_2_69 (by decide) ?_
    refine Y_iadd i_2_70 ?_
    refine Y_il3 i_2_71 ?_
    have o4 := h.1
    replace h := h.2
    refine Y_iast i_2_72 (k_23 hG) (l_23 hG) o4 rfl ?_
    refine Y_al0 i_2_73 ?_
    refine Y_gR i_2_74 ow_2 lf_0_11 (k_22 hG) (r_22_1 hG) ?_
    refine Y_il5 i_2_77 ?_
    refine Y_iconst (v := 3) i_2_79 (by decide) ?_
    refine Y_iadd i_2_80 ?_
    refine Y_il4 i_2_81 ?_
    have o5 := h.1
    replace h := h.2
    refine Y_iast i_2_83 (k_23 hG) (l_23 hG) o5 rfl ?_
    refine Y_al0 i_2_84 ?_
    refine Y_dup i_2_85 rfl ?_
    refine Y_gI (v := (F 22 0)) i_2_86 ow_2 lf_0_15 (by decide) (k_22 hG) rfl ?_
    refine Y_iconst (v := 1) i_2_89 (by decide) ?_
    refine Y_iadd i_2_90 ?_
    refine Y_pI i_2_91 ow_2 lf_0_15 (k_22 hG) ?_
    refine Y_vret i_2_94 rt_2 (KKv ?_)
    refine Y_al1 i_3_11 ?_
    refine Y_gR i_3_12 ow_3 lf_0_34 (k_27 hG) (r_27_5 hG) ?_
    refine Y_iconst (v := 0) i_3_15 (by decide) ?_
    refine Y_al0 i_3_16 ?_
    refine Y_gR i_3_17 ow_3 lf_0_11 (k_22 hG) (r_22_1 hG) ?_
    refine Y_al0 i_3_20 ?_
    refine Y_gI (v := ((F 22 0) + 1)) i_3_21 ow_3 lf_0_15 (by decide) (k_22 hG) (by simp [wF, wJ, va_up, cpR, bF, bA]) ?_
    refine Y_iconst (v := 1) i_3_24 (by decide) ?_
    refine Y_isub i_3_25 ?_
    refine Y_bipush (v := 14) i_3_26 (by decide) ?_
    refine Y_imul i_3_28 ?_
    refine Y_iconst (v := 4) i_3_29 (by decide) ?_
    refine Y_iadd i_3_30 ?_
    refine Y_bipush (v := 10) i_3_31 (by decide) ?_
    have o6 := h.1
    replace h := h.2
    refine Y_acp (ksp := 0) (kdp := (((((F 22 0) + 1) - 1) * 14) + 4).toNatClampNeg) (kn := 10) i_3_33 ow_3 lm_0_19 rfl (k_23 hG) (k_29 hG) (l_23 hG) (l_29 hG) o6 (by decide) rfl (by decide) ?_
    exact Y_vret i_3_36 rt_3 h
  · replace h := h.2 e1
    refine Y_al0 i_2_9 ?_
    refine Y_bipush (v := 39) i_2_10 (by decide) ?_
    refine Y_pI i_2_12 ow_2 lf_0_15 (k_22 hG) ?_
    refine Y_al0 i_2_15 ?_
    refine Y_gR i_2_16 ow_2 lf_0_11 (k_22 hG) (r_22_1 hG) ?_
    refine Y_bipush (v := 14) i_2_19 (by decide) ?_
    refine Y_al0 i_2_21 ?_
    refine Y_gR i_2_22 ow_2 lf_0_11 (k_22 hG) (r_22_1 hG) ?_
    refine Y_iconst (v := 0) i_2_25 (by decide) ?_
    refine Y_al0 i_2_26 ?_
    refine Y_gI (v := 39) i_2_27 ow_2 lf_0_15 (by decide) (k_22 hG) (by simp [wF, wJ, va_up, cpR, bF, bA]) ?_
    refine Y_bipush (v := 14) i_2_30 (by decide) ?_
    refine Y_imul i_2_32 ?_
    have o7 := h.1
    replace h := h.2
    refine Y_acp (ksp := 14) (kdp := 0) (kn := ((39 : Int32) * 14).toNatClampNeg) i_2_33 ow_2 lm_0_19 rfl (k_23 hG) (k_23 hG) (l_23 hG) (l_23 hG) o7 (by decide) (by decide) rfl ?_
    refine Y_al0 i_2_36 ?_
    refine Y_gI (v := 39) i_2_37 ow_2 lf_0_15 (by decide) (k_22 hG) (by simp [wF, wJ, va_up, cpR, bF, bA]) ?_
    refine Y_bipush (v := 14) i_2_40 (by decide) ?_
    refine Y_imul i_2_42 ?_
    refine Y_is5 i_2_43 rfl ?_
    refine Y_al0 i_2_45 ?_
    refine Y_gR i_2_46 ow_2 lf_0_11 (k_22 hG) (r_22_1 hG) ?_
    refine Y_il5 i_2_49 ?_
    refine Y_il1 i_2_51 ?_
    have o8 := h.1
    replace h := h.2
    refine Y_iast i_2_52 (k_23 hG) (l_23 hG) o8 rfl ?_
    refine Y_al0 i_2_53 ?_
    refine Y_gR i_2_54 ow_2 lf_0_11 (k_22 hG) (r_22_1 hG) ?_
    refine Y_il5 i_2_57 ?_
    refine Y_iconst (v := 1) i_2_59 (by decide) ?_
    refine Y_iadd i_2_60 ?_
    refine Y_il2 i_2_61 ?_
    have o9 := h.1
    replace h := h.2
    refine Y_iast i_2_62 (k_23 hG) (l_23 hG) o9 rfl ?_
    refine Y_al0 i_2_63 ?_
    refine Y_gR i_2_64 ow_2 lf_0_11 (k_22 hG) (r_22_1 hG) ?_
    refine Y_il5 i_2_67 ?_
    refine Y_iconst (v := 2) i_2_69 (by decide) ?_
    refine Y_iadd i_2_70 ?_
    refine Y_il3 i_2_71 ?_
    have o10 := h.1
    replace h := h.2
    refine Y_iast i_2_72 (k_23 hG) (l_23 hG) o10 rfl ?_
    refine Y_al0 i_2_73 ?_
    refine Y_gR i_2_74 ow_2 lf_0_11 (k_22 hG) (r_22_1 hG) ?_
    refine Y_il5 i_2_77 ?_
    refine Y_iconst (v := 3) i_2_79 (by decide) ?_
    refine Y_iadd i_2_80 ?_
    refine Y_il4 i_2_81 ?_
    have o11 := h.1
    replace h := h.2
    refine Y_iast i_2_83 (k_23 hG) (l_23 hG) o11 rfl ?_
    refine Y_al0 i_2_84 ?_
    refine Y_dup i_2_85 rfl ?_
    refine Y_gI (v := 39) i_2_86 ow_2 lf_0_15 (by decide) (k_22 hG) (by simp [wF, wJ, va_up, cpR, bF, bA]) ?_
    refine Y_iconst (v := 1) i_2_89 (by decide) ?_
    refine Y_iadd i_2_90 ?_
    refine Y_pI i_2_91 ow_2 lf_0_15 (k_22 hG) ?_
    refine Y_vret i_2_94 rt_2 (KKv ?_)
    refine Y_al1 i_3_11 ?_
    refine Y_gR i_3_12 ow_3 lf_0_34 (k_27 hG) (r_27_5 hG) ?_
    refine Y_iconst (v := 0) i_3_15 (by decide) ?_
    refine Y_al0 i_3_16 ?_
    refine Y_gR i_3_17 ow_3 lf_0_11 (k_22 hG) (r_22_1 hG) ?_
    refine Y_al0 i_3_20 ?_
    refine Y_gI (v := ((39 : Int32) + 1)) i_3_21 ow_3 lf_0_15 (by decide) (k_22 hG) (by simp [wF, wJ, va_up, cpR, bF, bA]) ?_
    refine Y_iconst (v := 1) i_3_24 (by decide) ?_
    refine Y_isub i_3_25 ?_
    refine Y_bipush (v := 14) i_3_26 (by decide) ?_
    refine Y_imul i_3_28 ?_
    refine Y_iconst (v := 4) i_3_29 (by decide) ?_
    refine Y_iadd i_3_30 ?_
    refine Y_bipush (v := 10) i_3_31 (by decide) ?_
    have o12 := h.1
    replace h := h.2
    refine Y_acp (ksp := 0) (kdp := (((((39 : Int32) + 1) - 1) * 14) + 4).toNatClampNeg) (kn := 10) i_3_33 ow_3 lm_0_19 rfl (k_23 hG) (k_29 hG) (l_23 hG) (l_29 hG) o12 (by decide) rfl (by decide) ?_
    exact Y_vret i_3_36 rt_3 h
/- 4 Acts.undoLast(LTableTower$Tower;)Z -/
theorem t_4_0 {d : Nat} {F A : Nat → Nat → Int32} {J : Nat → Nat → Int64} {G : pG} {Q : pR → pM → Prop} {SL p q : Nat} (hG : Geo G SL p q) (h : ((0 < (F 22 0) → inB ((((F 22 0) - 1) * 14) + 1) 560 = true ∧ inB ((((F 22 0) - 1) * 14) + 2) 560 = true ∧ inB (((F 22 0) - 1) * 14) 560 = true ∧ (((A 23 (((F 22 0) - 1) * 14).toNatClampNeg) = 0 → X (d + 1) 80 0 [.ref 27, .int (A 23 ((((F 22 0) - 1) * 14) + 1).toNatClampNeg), .null] [] ((wF F 22 0 ((F 22 0) - 1)), A, J, G) (KK (d + 2) 4 97 [.ref 22, .ref 27, .int (((F 22 0) - 1) * 14), .int (A 23 ((((F 22 0) - 1) * 14) + 1).toNatClampNeg), .int (A 23 ((((F 22 0) - 1) * 14) + 2).toNatClampNeg)] [] Q)) ∧ ((A 23 (((F 22 0) - 1) * 14).toNatClampNeg) = 1 → inB ((((F 22 0) - 1) * 14) + 3) 560 = true ∧ (X (d + 1) 5 0 [.ref 27, .int (A 23 ((((F 22 0) - 1) * 14) + 1).toNatClampNeg), .int (A 23 ((((F 22 0) - 1) * 14) + 2).toNatClampNeg), .int (A 23 ((((F 22 0) - 1) * 14) + 3).toNatClampNeg)] [] ((wF F 22 0 ((F 22 0) - 1)), A, J, G) (KK (d + 2) 4 115 [.ref 22, .ref 27, .int (((F 22 0) - 1) * 14), .int (A 23 ((((F 22 0) - 1) * 14) + 1).toNatClampNeg), .int (A 23 ((((F 22 0) - 1) * 14) + 2).toNatClampNeg)] [] Q))) ∧ ((A 23 (((F 22 0) - 1) * 14).toNatClampNeg) = 2 → inB (A 23 ((((F 22 0) - 1) * 14) + 1).toNatClampNeg) 10 = true ∧ inB (A 23 ((((F 22 0) - 1) * 14) + 2).toNatClampNeg) 10 = true ∧ (Q (.inl (some (.int 1))) ((wF F 22 0 ((F 22 0) - 1)), (wF (wF A 28 (A 23 ((((F 22 0) - 1) * 14) + 1).toNatClampNeg).toNatClampNeg (A 28 (A 23 ((((F 22 0) - 1) * 14) + 2).toNatClampNeg).toNatClampNeg)) 28 (A 23 ((((F 22 0) - 1) * 14) + 2).toNatClampNeg).toNatClampNeg (A 28 (A 23 ((((F 22 0) - 1) * 14) + 1).toNatClampNeg).toNatClampNeg)), J, G))) ∧ ((A 23 (((F 22 0) - 1) * 14).toNatClampNeg) = 3 → inB (A 23 ((((F 22 0) - 1) * 14) + 1).toNatClampNeg) 10 = true ∧ (Q (.inl (some (.int 1))) ((wF F 22 0 ((F 22 0) - 1)), (wF A 30 (A 23 ((((F 22 0) - 1) * 14) + 1).toNatClampNeg).toNatClampNeg (A 23 ((((F 22 0) - 1) * 14) + 2).toNatClampNeg)), J, G))) ∧ ((A 23 (((F 22 0) - 1) * 14).toNatClampNeg) = 4 → inB (A 23 ((((F 22 0) - 1) * 14) + 1).toNatClampNeg) 10 = true ∧ (Q (.inl (some (.int 1))) ((wF F 22 0 ((F 22 0) - 1)), (wF A 31 (A 23 ((((F 22 0) - 1) * 14) + 1).toNatClampNeg).toNatClampNeg (A 23 ((((F 22 0) - 1) * 14) + 2).toNatClampNeg)), J, G))) ∧ ((A 23 (((F 22 0) - 1) * 14).toNatClampNeg) = 5 → (¬ ((((F 22 0) - 1) * 14) + 4) < 0 ∧ ¬ (0 : Int32) < 0 ∧ ¬ (10 : Int32) < 0 ∧ ((((F 22 0) - 1) * 14) + 4).toNatClampNeg + (10 : Int32).toNatClampNeg ≤ 560 ∧ (0 : Int32).toNatClampNeg + (10 : Int32).toNatClampNeg ≤ 10) ∧ (Q (.inl (some (.int 1))) ((wF (wF F 22 0 ((F 22 0) - 1)) 27 3 (A 23 ((((F 22 0) - 1) * 14) + 1).toNatClampNeg)), (cpR A 29 23 ((((F 22 0) - 1) * 14) + 4).toNatClampNeg 0 10), J, G))) ∧ ((((A 23 (((F 22 0) - 1) * 14).toNatClampNeg) : Int32).toInt < 0 ∨ 5 < ((A 23 (((F 22 0) - 1) * 14).toNatClampNeg) : Int32).toInt) → Q (.inl (some (.int 1))) ((wF (wF F 22 0 ((F 22 0) - 1)) 27 2 ((F 27 2) - (A 23 ((((F 22 0) - 1) * 14) + 1).toNatClampNeg))), A, J, G)))) ∧ (¬ 0 < (F 22 0) → Q (.inl (some (.int 0))) (F, A, J, G)))) : X (d + 2) 4 0 [.ref 22, .ref 27, .null, .null, .null] [] (F, A, J, G) Q := by
  refine Y_al0 i_4_0 ?_
  refine Y_gI (v := (F 22 0)) i_4_1 ow_4 lf_0_15 (by decide) (k_22 hG) rfl ?_
  refine Y_zgt i_4_4 (fun e1 => ?_) (fun e1 => ?_)
  · replace h := h.1 e1
    refine Y_al0 i_4_9 ?_
    refine Y_dup i_4_10 rfl ?_
    refine Y_gI (v := (F 22 0)) i_4_11 ow_4 lf_0_15 (by decide) (k_22 hG) rfl ?_
    refine Y_iconst (v := 1) i_4_14 (by decide) ?_
    refine Y_isub i_4_15 ?_
    refine Y_pI i_4_16 ow_4 lf_0_15 (k_22 hG) ?_
    refine Y_al0 i_4_19 ?_
    refine Y_gI (v := ((F 22 0) - 1)) i_4_20 ow_4 lf_0_15 (by decide) (k_22 hG) (by simp [wF, wJ, va_up, cpR, bF, bA]) ?_
    refine Y_bipush (v := 14) i_4_23 (by decide) ?_
    refine Y_imul i_4_25 ?_
    refine Y_is2 i_4_26 rfl ?_
    refine Y_al0 i_4_27 ?_
    refine Y_gR i_4_28 ow_4 lf_0_11 (k_22 hG) (r_22_1 hG) ?_
    refine Y_il2 i_4_31 ?_
    refine Y_iconst (v := 1) i_4_32 (by decide) ?_
    refine Y_iadd i_4_33 ?_
    have o2 := h.1
    replace h := h.2
    refine Y_iaload (k := ((((F 22 0) - 1) * 14) + 1).toNatClampNeg) (v := (A 23 ((((F 22 0) - 1) * 14) + 1).toNatClampNeg)) i_4_34 (k_23 hG) (l_23 hG) o2 rfl rfl ?_
    refine Y_is3 i_4_35 rfl ?_
    refine Y_al0 i_4_36 ?_
    refine Y_gR i_4_37 ow_4 lf_0_11 (k_22 hG) (r_22_1 hG) ?_
    refine Y_il2 i_4_40 ?_
    refine Y_iconst (v := 2) i_4_41 (by decide) ?_
    refine Y_iadd i_4_42 ?_
    have o3 := h.1
    replace h := h.2
    refine Y_iaload (k := ((((F 22 0) - 1) * 14) + 2).toNatClampNeg) (v := (A 23 ((((F 22 0) - 1) * 14) + 2).toNatClampNeg)) i_4_43 (k_23 hG) (l_23 hG) o3 rfl rfl ?_
    refine Y_is4 i_4_44 rfl ?_
    refine Y_al0 i_4_46 ?_
    refine Y_gR i_4_47 ow_4 lf_0_11 (k_22 hG) (r_22_1 hG) ?_
    refine Y_il2 i_4_50 ?_
    have o4 := h.1
    replace h := h.2
    refine Y_iaload (k := (((F 22 0) - 1) * 14).toNatClampNeg) (v := (A 23 (((F 22 0) - 1) * 14).toNatClampNeg)) i_4_51 (k_23 hG) (l_23 hG) o4 rfl rfl ?_
    by_cases f0 : (A 23 (((F 22 0) - 1) * 14).toNatClampNeg) = 0
    · replace h := h.1 f0
      refine Y_sw (t := 92) f0 i_4_52 (fun _ => rfl) rfl (fun _ => rfl) (fun _ => rfl) ?_
      refine Y_al1 i_4_92 ?_
      refine Y_il3 i_4_93 ?_
      exact Y_iv1 (L0 := [.ref 27, .int (A 23 ((((F 22 0) - 1) * 14) + 1).toNatClampNeg), .null]) i_4_94 ow_4 lm_0_37 ((k_27 hG).trans ow_80.symm) rfl mx_80 rfl rfl hd_4 h
    by_cases f1 : (A 23 (((F 22 0) - 1) * 14).toNatClampNeg) = 1
    · replace h := h.2.1 f1
      refine Y_sw (t := 100) f1 i_4_52 (fun _ => rfl) rfl (fun _ => rfl) (fun _ => rfl) ?_
      refine Y_al1 i_4_100 ?_
      refine Y_il3 i_4_101 ?_
      refine Y_il4 i_4_102 ?_
      refine Y_al0 i_4_104 ?_
      refine Y_gR i_4_105 ow_4 lf_0_11 (k_22 hG) (r_22_1 hG) ?_
      refine Y_il2 i_4_108 ?_
      refine Y_iconst (v := 3) i_4_109 (by decide) ?_
      refine Y_iadd i_4_110 ?_
      have o5 := h.1
      replace h := h.2
      refine Y_iaload (k := ((((F 22 0) - 1) * 14) + 3).toNatClampNeg) (v := (A 23 ((((F 22 0) - 1) * 14) + 3).toNatClampNeg)) i_4_111 (k_23 hG) (l_23 hG) o5 rfl rfl ?_
      exact Y_is_4 (L0 := [.ref 27, .int (A 23 ((((F 22 0) - 1) * 14) + 1).toNatClampNeg), .int (A 23 ((((F 22 0) - 1) * 14) + 2).toNatClampNeg), .int (A 23 ((((F 22 0) - 1) * 14) + 3).toNatClampNeg)]) i_4_112 ow_4 lm_0_41 rfl mx_5 rfl rfl hd_4 h
    by_cases f2 : (A 23 (((F 22 0) - 1) * 14).toNatClampNeg) = 2
    · replace h := h.2.2.1 f2
      refine Y_sw (t := 118) f2 i_4_52 (fun _ => rfl) rfl (fun _ => rfl) (fun _ => rfl) ?_
      refine Y_al1 i_4_118 ?_
      refine Y_il3 i_4_119 ?_
      refine Y_il4 i_4_120 ?_
      refine Y_iv2 (L0 := [.ref 27, .int (A 23 ((((F 22 0) - 1) * 14) + 1).toNatClampNeg), .int (A 23 ((((F 22 0) - 1) * 14) + 2).toNatClampNeg), .null]) i_4_122 ow_4 lm_0_45 ((k_27 hG).trans ow_81.symm) rfl mx_81 rfl rfl hd_4 ?_
      refine Y_al0 i_81_0 ?_
      refine Y_gR i_81_1 ow_81 lf_6_9 (k_27 hG) (r_27_4 hG) ?_
      refine Y_il1 i_81_4 ?_
      have o6 := h.1
      replace h := h.2
      refine Y_iaload (k := (A 23 ((((F 22 0) - 1) * 14) + 1).toNatClampNeg).toNatClampNeg) (v := (A 28 (A 23 ((((F 22 0) - 1) * 14) + 1).toNatClampNeg).toNatClampNeg)) i_81_5 (k_28 hG) (l_28 hG) o6 rfl rfl ?_
      refine Y_is3 i_81_6 rfl ?_
      refine Y_al0 i_81_7 ?_
      refine Y_gR i_81_8 ow_81 lf_6_9 (k_27 hG) (r_27_4 hG) ?_
      refine Y_il1 i_81_11 ?_
      refine Y_al0 i_81_12 ?_
      refine Y_gR i_81_13 ow_81 lf_6_9 (k_27 hG) (r_27_4 hG) ?_
      refine Y_il2 i_81_16 ?_
      have o7 := h.1
      replace h := h.2
      refine Y_iaload (k := (A 23 ((((F 22 0) - 1) * 14) + 2).toNatClampNeg).toNatClampNeg) (v := (A 28 (A 23 ((((F 22 0) - 1) * 14) + 2).toNatClampNeg).toNatClampNeg)) i_81_17 (k_28 hG) (l_28 hG) o7 rfl rfl ?_
      refine Y_iast i_81_18 (k_28 hG) (l_28 hG) o6 rfl ?_
      refine Y_al0 i_81_19 ?_
      refine Y_gR i_81_20 ow_81 lf_6_9 (k_27 hG) (r_27_4 hG) ?_
      refine Y_il2 i_81_23 ?_
      refine Y_il3 i_81_24 ?_
      refine Y_iast i_81_25 (k_28 hG) (l_28 hG) o7 rfl ?_
      refine Y_vret i_81_26 rt_81 (KKv ?_)
      refine Y_goto i_4_125 ?_
      refine Y_iconst (v := 1) i_4_169 (by decide) ?_
      exact Y_bret i_4_170 rt_4 (by decide) h
    by_cases f3 : (A 23 (((F 22 0) - 1) * 14).toNatClampNeg) = 3
    · replace h := h.2.2.2.1 f3
      refine Y_sw (t := 128) f3 i_4_52 (fun _ => rfl) rfl (fun _ => rfl) (fun _ => rfl) ?_
      refine Y_al1 i_4_128 ?_
      refine Y_gR i_4_129 ow_4 lf_0_49 (k_27 hG) (r_27_6 hG) ?_
      refine Y_il3 i_4_132 ?_
      refine Y_il4 i_4_133 ?_
      have o8 := h.1
      replace h := h.2
      refine Y_iast i_4_135 (k_30 hG) (l_30 hG) o8 rfl ?_
      refine Y_goto i_4_136 ?_
      refine Y_iconst (v := 1) i_4_169 (by decide) ?_
      exact Y_bret i_4_170 rt_4 (by decide) h
    by_cases f4 : (A 23 (((F 22 0) - 1) * 14).toNatClampNeg) = 4
    · replace h := h.2.2.2.2.1 f4
      refine Y_sw (t := 139) f4 i_4_52 (fun _ => rfl) rfl (fun _ => rfl) (fun _ => rfl) ?_
      refine Y_al1 i_4_139 ?_
      refine Y_gR i_4_140 ow_4 lf_0_52 (k_27 hG) (r_27_7 hG) ?_
      refine Y_il3 i_4_143 ?_
      refine Y_il4 i_4_144 ?_
      have o9 := h.1
      replace h := h.2
      refine Y_iast i_4_146 (k_31 hG) (l_31 hG) o9 rfl ?_
      refine Y_goto i_4_147 ?_
      refine Y_iconst (v := 1) i_4_169 (by decide) ?_
      exact Y_bret i_4_170 rt_4 (by decide) h
    by_cases f5 : (A 23 (((F 22 0) - 1) * 14).toNatClampNeg) = 5
    · replace h := h.2.2.2.2.2.1 f5
      refine Y_sw (t := 150) f5 i_4_52 (fun _ => rfl) rfl (fun _ => rfl) (fun _ => rfl) ?_
      refine Y_al0 i_4_150 ?_
      refine Y_al1 i_4_151 ?_
      refine Y_il2 i_4_152 ?_
      refine Y_iv2 (L0 := [.ref 22, .ref 27, .int (((F 22 0) - 1) * 14)]) i_4_153 ow_4 lm_0_55 ((k_22 hG).trans ow_6.symm) rfl mx_6 rfl rfl hd_4 ?_
      refine Y_al1 i_6_0 ?_
      refine Y_al0 i_6_1 ?_
      refine Y_gR i_6_2 ow_6 lf_0_11 (k_22 hG) (r_22_1 hG) ?_
      refine Y_il2 i_6_5 ?_
      refine Y_iconst (v := 1) i_6_6 (by decide) ?_
      refine Y_iadd i_6_7 ?_
      refine Y_iaload (k := ((((F 22 0) - 1) * 14) + 1).toNatClampNeg) (v := (A 23 ((((F 22 0) - 1) * 14) + 1).toNatClampNeg)) i_6_8 (k_23 hG) (l_23 hG) o2 rfl rfl ?_
      refine Y_pI i_6_9 ow_6 lf_0_25 (k_27 hG) ?_
      refine Y_al0 i_6_12 ?_
      refine Y_gR i_6_13 ow_6 lf_0_11 (k_22 hG) (r_22_1 hG) ?_
      refine Y_il2 i_6_16 ?_
      refine Y_iconst (v := 4) i_6_17 (by decide) ?_
      refine Y_iadd i_6_18 ?_
      refine Y_al1 i_6_19 ?_
      refine Y_gR i_6_20 ow_6 lf_0_34 (k_27 hG) (r_27_5 hG) ?_
      refine Y_iconst (v := 0) i_6_23 (by decide) ?_
      refine Y_bipush (v := 10) i_6_24 (by decide) ?_
      have o10 := h.1
      replace h := h.2
      refine Y_acp (ksp := ((((F 22 0) - 1) * 14) + 4).toNatClampNeg) (kdp := 0) (kn := 10) i_6_26 ow_6 lm_0_19 rfl (k_29 hG) (k_23 hG) (l_29 hG) (l_23 hG) o10 rfl (by decide) (by decide) ?_
      refine Y_vret i_6_29 rt_6 (KKv ?_)
      refine Y_goto i_4_156 ?_
      refine Y_iconst (v := 1) i_4_169 (by decide) ?_
      exact Y_bret i_4_170 rt_4 (by decide) h
    have eD : ((A 23 (((F 22 0) - 1) * 14).toNatClampNeg) : Int32).toInt < 0 ∨ 5 < ((A 23 (((F 22 0) - 1) * 14).toNatClampNeg) : Int32).toInt := by
      have q := ts_out (x := (A 23 (((F 22 0) - 1) * 14).toNatClampNeg)) (lo := 0) (n := 6) (by
        intro j hj
        have : j = 0 ∨ j = 1 ∨ j = 2 ∨ j = 3 ∨ j = 4 ∨ j = 5 := by omega
        rcases this with rfl | rfl | rfl | rfl | rfl | rfl
        · exact ne_toInt f0 (by decide)
        · exact ne_toInt f1 (by decide)
        · exact ne_toInt f2 (by decide)
        · exact ne_toInt f3 (by decide)
        · exact ne_toInt f4 (by decide)
        · exact ne_toInt f5 (by decide)
        )
      omega
    replace h := h.2.2.2.2.2.2 eD
    refine Y_tsD (t := 159) eD i_4_52 (by decide) ?_
    refine Y_al1 i_4_159 ?_
    refine Y_dup i_4_160 rfl ?_
    refine Y_gI (v := (F 27 2)) i_4_161 ow_4 lf_0_59 (by decide) (k_27 hG) (by simp [wF, wJ, va_up, cpR, bF, bA]) ?_
    refine Y_il3 i_4_164 ?_
    refine Y_isub i_4_165 ?_
    refine Y_pI i_4_166 ow_4 lf_0_59 (k_27 hG) ?_
    refine Y_iconst (v := 1) i_4_169 (by decide) ?_
    exact Y_bret i_4_170 rt_4 (by decide) h
  · replace h := h.2 e1
    refine Y_iconst (v := 0) i_4_7 (by decide) ?_
    exact Y_bret i_4_8 rt_4 (by decide) h
theorem k_4_97 {d : Nat} {F A : Nat → Nat → Int32} {J : Nat → Nat → Int64} {G : pG} {Q : pR → pM → Prop} {SL p q : Nat} {x2 x3 x4 : Int32} (hG : Geo G SL p q) (h : Q (.inl (some (.int 1))) (F, A, J, G)) : KK (d + 2) 4 97 [.ref 22, .ref 27, .int x2, .int x3, .int x4] [] Q (.inl none) (F, A, J, G) := by
  refine KKv ?_
  refine Y_goto i_4_97 ?_
  refine Y_iconst (v := 1) i_4_169 (by decide) ?_
  exact Y_bret i_4_170 rt_4 (by decide) h
theorem k_4_115 {d : Nat} {F A : Nat → Nat → Int32} {J : Nat → Nat → Int64} {G : pG} {Q : pR → pM → Prop} {SL p q : Nat} {x2 x3 x4 : Int32} (hG : Geo G SL p q) (h : Q (.inl (some (.int 1))) (F, A, J, G)) : KK (d + 2) 4 115 [.ref 22, .ref 27, .int x2, .int x3, .int x4] [] Q (.inl none) (F, A, J, G) := by
  refine KKv ?_
  refine Y_goto i_4_115 ?_
  refine Y_iconst (v := 1) i_4_169 (by decide) ?_
  exact Y_bret i_4_170 rt_4 (by decide) h
/- 5 Acts.putBack(LTableTower$Tower;III)V -/
theorem t_5_0 {d : Nat} {F A : Nat → Nat → Int32} {J : Nat → Nat → Int64} {G : pG} {Q : pR → pM → Prop} {SL p q : Nat} {x1 x2 x3 : Int32} (hG : Geo G SL p q) (h : X d 79 0 [.ref 27, .int x1, .int x2, .null] [] (F, A, J, G) (KK (d + 1) 5 6 [.ref 27, .int x1, .int x2, .int x3] [] Q)) : X (d + 1) 5 0 [.ref 27, .int x1, .int x2, .int x3] [] (F, A, J, G) Q := by
  refine Y_al0 i_5_0 ?_
  refine Y_il1 i_5_1 ?_
  refine Y_il2 i_5_2 ?_
  exact Y_iv2 (L0 := [.ref 27, .int x1, .int x2, .null]) i_5_3 ow_5 lm_0_62 ((k_27 hG).trans ow_79.symm) rfl mx_79 rfl rfl hd_5 h
theorem k_5_6 {d : Nat} {F A : Nat → Nat → Int32} {J : Nat → Nat → Int64} {G : pG} {Q : pR → pM → Prop} {SL p q : Nat} {x1 x2 x3 : Int32} (hG : Geo G SL p q) (h : inB x1 10 = true ∧ (Q (.inl none) (F, (wF A 29 x1.toNatClampNeg x3), J, G))) : KK (d + 1) 5 6 [.ref 27, .int x1, .int x2, .int x3] [] Q (.inl none) (F, A, J, G) := by
  refine KKv ?_
  refine Y_al0 i_5_6 ?_
  refine Y_gR i_5_7 ow_5 lf_0_34 (k_27 hG) (r_27_5 hG) ?_
  refine Y_il1 i_5_10 ?_
  refine Y_il3 i_5_11 ?_
  have o1 := h.1
  replace h := h.2
  refine Y_iast i_5_12 (k_29 hG) (l_29 hG) o1 rfl ?_
  exact Y_vret i_5_13 rt_5 h
/- 6 Acts.clearSupper(LTableTower$Tower;I)V -/
theorem t_6_0 {d : Nat} {F A : Nat → Nat → Int32} {J : Nat → Nat → Int64} {G : pG} {Q : pR → pM → Prop} {SL p q : Nat} {x2 : Int32} (hG : Geo G SL p q) (h : inB (x2 + 1) 560 = true ∧ (¬ (x2 + 4) < 0 ∧ ¬ (0 : Int32) < 0 ∧ ¬ (10 : Int32) < 0 ∧ (x2 + 4).toNatClampNeg + (10 : Int32).toNatClampNeg ≤ 560 ∧ (0 : Int32).toNatClampNeg + (10 : Int32).toNatClampNeg ≤ 10) ∧ (Q (.inl none) ((wF F 27 3 (A 23 (x2 + 1).toNatClampNeg)), (cpR A 29 23 (x2 + 4).toNatClampNeg 0 10), J, G))) : X d 6 0 [.ref 22, .ref 27, .int x2] [] (F, A, J, G) Q := by
  refine Y_al1 i_6_0 ?_
  refine Y_al0 i_6_1 ?_
  refine Y_gR i_6_2 ow_6 lf_0_11 (k_22 hG) (r_22_1 hG) ?_
  refine Y_il2 i_6_5 ?_
  refine Y_iconst (v := 1) i_6_6 (by decide) ?_
  refine Y_iadd i_6_7 ?_
  have o1 := h.1
  replace h := h.2
  refine Y_iaload (k := (x2 + 1).toNatClampNeg) (v := (A 23 (x2 + 1).toNatClampNeg)) i_6_8 (k_23 hG) (l_23 hG) o1 rfl rfl ?_
  refine Y_pI i_6_9 ow_6 lf_0_25 (k_27 hG) ?_
  refine Y_al0 i_6_12 ?_
  refine Y_gR i_6_13 ow_6 lf_0_11 (k_22 hG) (r_22_1 hG) ?_
  refine Y_il2 i_6_16 ?_
  refine Y_iconst (v := 4) i_6_17 (by decide) ?_
  refine Y_iadd i_6_18 ?_
  refine Y_al1 i_6_19 ?_
  refine Y_gR i_6_20 ow_6 lf_0_34 (k_27 hG) (r_27_5 hG) ?_
  refine Y_iconst (v := 0) i_6_23 (by decide) ?_
  refine Y_bipush (v := 10) i_6_24 (by decide) ?_
  have o2 := h.1
  replace h := h.2
  refine Y_acp (ksp := (x2 + 4).toNatClampNeg) (kdp := 0) (kn := 10) i_6_26 ow_6 lm_0_19 rfl (k_29 hG) (k_23 hG) (l_29 hG) (l_23 hG) o2 rfl (by decide) (by decide) ?_
  exact Y_vret i_6_29 rt_6 h
/- 8 Legs.soWithout()Z -/
theorem t_8_0 {d : Nat} {F A : Nat → Nat → Int32} {J : Nat → Nat → Int64} {G : pG} {Q : pR → pM → Prop} {SL p q : Nat} (hG : Geo G SL p q) (h : X (d + 2) 84 0 [.ref 27, .null, .null, .null] [] (F, A, J, G) (KK (d + 3) 8 10 [.ref 66] [] Q)) : X (d + 3) 8 0 [.ref 66] [] (F, A, J, G) Q := by
  refine Y_al0 i_8_0 ?_
  refine Y_gR i_8_1 ow_8 lf_1_19 (k_66 hG) (r_66_1 hG) ?_
  refine Y_gR i_8_4 ow_8 lf_1_23 (k_21 hG) (r_21_0 hG) ?_
  exact Y_iv0 (L0 := [.ref 27, .null, .null, .null]) i_8_7 ow_8 lm_1_29 ((k_27 hG).trans ow_84.symm) rfl mx_84 rfl rfl hd_8 h
theorem k_8_10 {d : Nat} {F A : Nat → Nat → Int32} {J : Nat → Nat → Int64} {G : pG} {Q : pR → pM → Prop} {SL p q : Nat} (hG : Geo G SL p q) (h : X (d + 2) 16 0 [.ref 66, .int 0, .int 0, .null, .null, .null, .null] [] (F, A, J, G) (KK (d + 3) 8 16 [.ref 66] [] Q)) : KK (d + 3) 8 10 [.ref 66] [] Q (.inl none) (F, A, J, G) := by
  refine KKv ?_
  refine Y_al0 i_8_10 ?_
  refine Y_iconst (v := 0) i_8_11 (by decide) ?_
  refine Y_iconst (v := 0) i_8_12 (by decide) ?_
  exact Y_iv2 (L0 := [.ref 66, .int 0, .int 0, .null, .null, .null, .null]) i_8_13 ow_8 lm_1_34 ((k_66 hG).trans ow_16.symm) rfl mx_16 rfl rfl hd_8 h
theorem k_8_16 {d : Nat} {F A : Nat → Nat → Int32} {J : Nat → Nat → Int64} {G : pG} {Q : pR → pM → Prop} {SL p q : Nat} {r : Int32} (hG : Geo G SL p q) (h : (r = 0 ∨ r = 1) ∧ (Q (.inl (some (.int r))) (F, A, J, G))) : KK (d + 3) 8 16 [.ref 66] [] Q (.inl (some (.int r))) (F, A, J, G) := by
  refine KKi ?_
  have o1 := h.1
  replace h := h.2
  exact Y_bret i_8_16 rt_8 o1 h
/- 9 Legs.howMany()I -/
theorem t_9_0 {d : Nat} {F A : Nat → Nat → Int32} {J : Nat → Nat → Int64} {G : pG} {Q : pR → pM → Prop} {SL p q : Nat} (hG : Geo G SL p q) (h : X (d + 2) 84 0 [.ref 27, .null, .null, .null] [] (F, A, J, G) (KK (d + 3) 9 12 [.ref 66, .ref 27, .null, .null, .null] [] Q)) : X (d + 3) 9 0 [.ref 66, .null, .null, .null, .null] [] (F, A, J, G) Q := by
  refine Y_al0 i_9_0 ?_
  refine Y_gR i_9_1 ow_9 lf_1_19 (k_66 hG) (r_66_1 hG) ?_
  refine Y_gR i_9_4 ow_9 lf_1_23 (k_21 hG) (r_21_0 hG) ?_
  refine Y_as1 i_9_7 rfl ?_
  refine Y_al1 i_9_8 ?_
  exact Y_iv0 (L0 := [.ref 27, .null, .null, .null]) i_9_9 ow_9 lm_1_29 ((k_27 hG).trans ow_84.symm) rfl mx_84 rfl rfl hd_9 h
theorem k_9_12 {d : Nat} {F A : Nat → Nat → Int32} {J : Nat → Nat → Int64} {G : pG} {Q : pR → pM → Prop} {SL p q : Nat} (hG : Geo G SL p q) (h : X (d + 3) 9 16 [.ref 66, .ref 27, .int 0, .int 0, .null] [] (F, A, J, G) Q) : KK (d + 3) 9 12 [.ref 66, .ref 27, .null, .null, .null] [] Q (.inl none) (F, A, J, G) := by
  refine KKv ?_
  refine Y_iconst (v := 0) i_9_12 (by decide) ?_
  refine Y_is2 i_9_13 rfl ?_
  refine Y_iconst (v := 0) i_9_14 (by decide) ?_
  refine Y_is3 i_9_15 rfl ?_
  exact h
theorem t_9_16 {d : Nat} {F A : Nat → Nat → Int32} {J : Nat → Nat → Int64} {G : pG} {Q : pR → pM → Prop} {SL p q : Nat} {x2 x3 : Int32} {v4 : Value} (hG : Geo G SL p q) (h : ((x3 < (F 27 1) → X (d + 3) 9 28 [.ref 66, .ref 27, .int x2, .int x3, .int (-9)] [] (F, A, J, G) Q) ∧ (¬ x3 < (F 27 1) → Q (.inl (some (.int x2))) (F, A, J, G)))) : X (d + 3) 9 16 [.ref 66, .ref 27, .int x2, .int x3, v4] [] (F, A, J, G) Q := by
  refine Y_il3 i_9_16 ?_
  refine Y_al1 i_9_17 ?_
  refine Y_gI (v := (F 27 1)) i_9_18 ow_9 lf_1_38 (by decide) (k_27 hG) rfl ?_
  refine Y_cge i_9_21 (fun e1 => ?_) (fun e1 => ?_)
  · replace h := h.1 e1
    refine Y_bipush (v := (-9)) i_9_24 (by decide) ?_
    refine Y_is4 i_9_26 rfl ?_
    exact h
  · replace h := h.2 e1
    refine Y_il2 i_9_65 ?_
    exact Y_iret i_9_66 rt_9 h
theorem t_9_28 {d : Nat} {F A : Nat → Nat → Int32} {J : Nat → Nat → Int64} {G : pG} {Q : pR → pM → Prop} {SL p q : Nat} {x2 x3 x4 : Int32} (hG : Geo G SL p q) (h : ((9 < x4 → X (d + 3) 9 16 [.ref 66, .ref 27, .int x2, .int (x3 + 1), .int x4] [] (F, A, J, G) Q) ∧ (¬ 9 < x4 → X (d + 2) 14 0 [.ref 66, .int x3, .int x4] [] (F, A, J, G) (KK (d + 3) 9 43 [.ref 66, .ref 27, .int x2, .int x3, .int x4] [.int x2] Q)))) : X (d + 3) 9 28 [.ref 66, .ref 27, .int x2, .int x3, .int x4] [] (F, A, J, G) Q := by
  refine Y_il4 i_9_28 ?_
  refine Y_bipush (v := 9) i_9_30 (by decide) ?_
  refine Y_cgt i_9_32 (fun e1 => ?_) (fun e1 => ?_)
  · replace h := h.1 e1
    refine Y_ii3 (v := 1) i_9_59 (by decide) rfl ?_
    refine Y_goto i_9_62 ?_
    exact h
  · replace h := h.2 e1
    refine Y_il2 i_9_35 ?_
    refine Y_al0 i_9_36 ?_
    refine Y_il3 i_9_37 ?_
    refine Y_il4 i_9_38 ?_
    exact Y_iv2 (L0 := [.ref 66, .int x3, .int x4]) i_9_40 ow_9 lm_1_42 ((k_66 hG).trans ow_14.symm) rfl mx_14 rfl rfl hd_9 h
theorem k_9_43 {d : Nat} {F A : Nat → Nat → Int32} {J : Nat → Nat → Int64} {G : pG} {Q : pR → pM → Prop} {SL p q : Nat} {x2 x3 x4 r s0 : Int32} (hG : Geo G SL p q) (h : ((r = 0 → X (d + 3) 9 28 [.ref 66, .ref 27, .int (s0 + 0), .int x3, .int (x4 + 1)] [] (F, A, J, G) Q) ∧ (¬ r = 0 → X (d + 3) 9 28 [.ref 66, .ref 27, .int (s0 + 1), .int x3, .int (x4 + 1)] [] (F, A, J, G) Q))) : KK (d + 3) 9 43 [.ref 66, .ref 27, .int x2, .int x3, .int x4] [.int s0] Q (.inl (some (.int r))) (F, A, J, G) := by
  refine KKi ?_
  refine Y_zeq i_9_43 (fun e1 => ?_) (fun e1 => ?_)
  · replace h := h.1 e1
    refine Y_iconst (v := 0) i_9_50 (by decide) ?_
    refine Y_iadd i_9_51 ?_
    refine Y_is2 i_9_52 rfl ?_
    refine Y_ii4 (v := 1) i_9_53 (by decide) rfl ?_
    refine Y_goto i_9_56 ?_
    exact h
  · replace h := h.2 e1
    refine Y_iconst (v := 1) i_9_46 (by decide) ?_
    refine Y_goto i_9_47 ?_
    refine Y_iadd i_9_51 ?_
    refine Y_is2 i_9_52 rfl ?_
    refine Y_ii4 (v := 1) i_9_53 (by decide) rfl ?_
    refine Y_goto i_9_56 ?_
    exact h
/- 10 Legs.first()I -/
theorem t_10_0 {d : Nat} {F A : Nat → Nat → Int32} {J : Nat → Nat → Int64} {G : pG} {Q : pR → pM → Prop} {SL p q : Nat} (hG : Geo G SL p q) (h : X (d + 2) 84 0 [.ref 27, .null, .null, .null] [] (F, A, J, G) (KK (d + 3) 10 12 [.ref 66, .ref 27, .null, .null] [] Q)) : X (d + 3) 10 0 [.ref 66, .null, .null, .null] [] (F, A, J, G) Q := by
  refine Y_al0 i_10_0 ?_
  refine Y_gR i_10_1 ow_10 lf_1_19 (k_66 hG) (r_66_1 hG) ?_
  refine Y_gR i_10_4 ow_10 lf_1_23 (k_21 hG) (r_21_0 hG) ?_
  refine Y_as1 i_10_7 rfl ?_
  refine Y_al1 i_10_8 ?_
  exact Y_iv0 (L0 := [.ref 27, .null, .null, .null]) i_10_9 ow_10 lm_1_29 ((k_27 hG).trans ow_84.symm) rfl mx_84 rfl rfl hd_10 h
theorem k_10_12 {d : Nat} {F A : Nat → Nat → Int32} {J : Nat → Nat → Int64} {G : pG} {Q : pR → pM → Prop} {SL p q : Nat} (hG : Geo G SL p q) (h : X (d + 3) 10 14 [.ref 66, .ref 27, .int 0, .null] [] (F, A, J, G) Q) : KK (d + 3) 10 12 [.ref 66, .ref 27, .null, .null] [] Q (.inl none) (F, A, J, G) := by
  refine KKv ?_
  refine Y_iconst (v := 0) i_10_12 (by decide) ?_
  refine Y_is2 i_10_13 rfl ?_
  exact h
theorem t_10_14 {d : Nat} {F A : Nat → Nat → Int32} {J : Nat → Nat → Int64} {G : pG} {Q : pR → pM → Prop} {SL p q : Nat} {x2 : Int32} {v3 : Value} (hG : Geo G SL p q) (h : ((x2 < (F 27 1) → X (d + 3) 10 25 [.ref 66, .ref 27, .int x2, .int (-9)] [] (F, A, J, G) Q) ∧ (¬ x2 < (F 27 1) → Q (.inl (some (.int (-1)))) (F, A, J, G)))) : X (d + 3) 10 14 [.ref 66, .ref 27, .int x2, v3] [] (F, A, J, G) Q := by
  refine Y_il2 i_10_14 ?_
  refine Y_al1 i_10_15 ?_
  refine Y_gI (v := (F 27 1)) i_10_16 ow_10 lf_1_38 (by decide) (k_27 hG) rfl ?_
  refine Y_cge i_10_19 (fun e1 => ?_) (fun e1 => ?_)
  · replace h := h.1 e1
    refine Y_bipush (v := (-9)) i_10_22 (by decide) ?_
    refine Y_is3 i_10_24 rfl ?_
    exact h
  · replace h := h.2 e1
    refine Y_iconst (v := (-1)) i_10_67 (by decide) ?_
    exact Y_iret i_10_68 rt_10 h
theorem t_10_25 {d : Nat} {F A : Nat → Nat → Int32} {J : Nat → Nat → Int64} {G : pG} {Q : pR → pM → Prop} {SL p q : Nat} {x2 x3 : Int32} (hG : Geo G SL p q) (h : ((9 < x3 → X (d + 3) 10 14 [.ref 66, .ref 27, .int (x2 + 1), .int x3] [] (F, A, J, G) Q) ∧ (¬ 9 < x3 → X (d + 2) 14 0 [.ref 66, .int x2, .int x3] [] (F, A, J, G) (KK (d + 3) 10 37 [.ref 66, .ref 27, .int x2, .int x3] [] Q)))) : X (d + 3) 10 25 [.ref 66, .ref 27, .int x2, .int x3] [] (F, A, J, G) Q := by
  refine Y_il3 i_10_25 ?_
  refine Y_bipush (v := 9) i_10_26 (by decide) ?_
  refine Y_cgt i_10_28 (fun e1 => ?_) (fun e1 => ?_)
  · replace h := h.1 e1
    refine Y_ii2 (v := 1) i_10_61 (by decide) rfl ?_
    refine Y_goto i_10_64 ?_
    exact h
  · replace h := h.2 e1
    refine Y_al0 i_10_31 ?_
    refine Y_il2 i_10_32 ?_
    refine Y_il3 i_10_33 ?_
    exact Y_iv2 (L0 := [.ref 66, .int x2, .int x3]) i_10_34 ow_10 lm_1_42 ((k_66 hG).trans ow_14.symm) rfl mx_14 rfl rfl hd_10 h
theorem k_10_37 {d : Nat} {F A : Nat → Nat → Int32} {J : Nat → Nat → Int64} {G : pG} {Q : pR → pM → Prop} {SL p q : Nat} {x2 x3 r : Int32} (hG : Geo G SL p q) (h : ((r = 0 → X (d + 3) 10 25 [.ref 66, .ref 27, .int x2, .int (x3 + 1)] [] (F, A, J, G) Q) ∧ (¬ r = 0 → inB x2 10 = true ∧ (Q (.inl (some (.int ((((100 : Int32) * (A 28 x2.toNatClampNeg)) + x3) + 50)))) (F, A, J, G))))) : KK (d + 3) 10 37 [.ref 66, .ref 27, .int x2, .int x3] [] Q (.inl (some (.int r))) (F, A, J, G) := by
  refine KKi ?_
  refine Y_zeq i_10_37 (fun e1 => ?_) (fun e1 => ?_)
  · replace h := h.1 e1
    refine Y_ii3 (v := 1) i_10_55 (by decide) rfl ?_
    refine Y_goto i_10_58 ?_
    exact h
  · replace h := h.2 e1
    refine Y_bipush (v := 100) i_10_40 (by decide) ?_
    refine Y_al1 i_10_42 ?_
    refine Y_gR i_10_43 ow_10 lf_1_45 (k_27 hG) (r_27_4 hG) ?_
    refine Y_il2 i_10_46 ?_
    have o2 := h.1
    replace h := h.2
    refine Y_iaload (k := x2.toNatClampNeg) (v := (A 28 x2.toNatClampNeg)) i_10_47 (k_28 hG) (l_28 hG) o2 rfl rfl ?_
    refine Y_imul i_10_48 ?_
    refine Y_il3 i_10_49 ?_
    refine Y_iadd i_10_50 ?_
    refine Y_bipush (v := 50) i_10_51 (by decide) ?_
    refine Y_iadd i_10_53 ?_
    exact Y_iret i_10_54 rt_10 h
/- 11 Legs.bestLevel()I -/
theorem t_11_0 {d : Nat} {F A : Nat → Nat → Int32} {J : Nat → Nat → Int64} {G : pG} {Q : pR → pM → Prop} {SL p q : Nat} (hG : Geo G SL p q) (h : X (d + 3) 84 0 [.ref 27, .null, .null, .null] [] (F, A, J, G) (KK (d + 4) 11 10 [.ref 66, .null, .null, .null, .null] [] Q)) : X (d + 4) 11 0 [.ref 66, .null, .null, .null, .null] [] (F, A, J, G) Q := by
  refine Y_al0 i_11_0 ?_
  refine Y_gR i_11_1 ow_11 lf_1_19 (k_66 hG) (r_66_1 hG) ?_
  refine Y_gR i_11_4 ow_11 lf_1_23 (k_21 hG) (r_21_0 hG) ?_
  exact Y_iv0 (L0 := [.ref 27, .null, .null, .null]) i_11_7 ow_11 lm_1_29 ((k_27 hG).trans ow_84.symm) rfl mx_84 rfl rfl hd_11 h
theorem k_11_10 {d : Nat} {F A : Nat → Nat → Int32} {J : Nat → Nat → Int64} {G : pG} {Q : pR → pM → Prop} {SL p q : Nat} (hG : Geo G SL p q) (h : X (d + 4) 11 16 [.ref 66, .int (-1), .int 0, .int 0, .null] [] (F, A, J, G) Q) : KK (d + 4) 11 10 [.ref 66, .null, .null, .null, .null] [] Q (.inl none) (F, A, J, G) := by
  refine KKv ?_
  refine Y_iconst (v := (-1)) i_11_10 (by decide) ?_
  refine Y_is1 i_11_11 rfl ?_
  refine Y_iconst (v := 0) i_11_12 (by decide) ?_
  refine Y_is2 i_11_13 rfl ?_
  refine Y_iconst (v := 0) i_11_14 (by decide) ?_
  refine Y_is3 i_11_15 rfl ?_
  exact h
theorem t_11_16 {d : Nat} {F A : Nat → Nat → Int32} {J : Nat → Nat → Int64} {G : pG} {Q : pR → pM → Prop} {SL p q : Nat} {x1 x2 x3 : Int32} {v4 : Value} (hG : Geo G SL p q) (h : ((x3 < (F 27 1) → X (d + 3) 12 0 [.ref 66, .int x3, .null, .null, .null] [] (F, A, J, G) (KK (d + 4) 11 35 [.ref 66, .int x1, .int x2, .int x3, v4] [] Q)) ∧ (¬ x3 < (F 27 1) → Q (.inl (some (.int x1))) (F, A, J, G)))) : X (d + 4) 11 16 [.ref 66, .int x1, .int x2, .int x3, v4] [] (F, A, J, G) Q := by
  refine Y_il3 i_11_16 ?_
  refine Y_al0 i_11_17 ?_
  refine Y_gR i_11_18 ow_11 lf_1_19 (k_66 hG) (r_66_1 hG) ?_
  refine Y_gR i_11_21 ow_11 lf_1_23 (k_21 hG) (r_21_0 hG) ?_
  refine Y_gI (v := (F 27 1)) i_11_24 ow_11 lf_1_38 (by decide) (k_27 hG) rfl ?_
  refine Y_cge i_11_27 (fun e1 => ?_) (fun e1 => ?_)
  · replace h := h.1 e1
    refine Y_al0 i_11_30 ?_
    refine Y_il3 i_11_31 ?_
    exact Y_iv1 (L0 := [.ref 66, .int x3, .null, .null, .null]) i_11_32 ow_11 lm_1_48 ((k_66 hG).trans ow_12.symm) rfl mx_12 rfl rfl hd_11 h
  · replace h := h.2 e1
    refine Y_il1 i_11_54 ?_
    exact Y_iret i_11_55 rt_11 h
theorem k_11_35 {d : Nat} {F A : Nat → Nat → Int32} {J : Nat → Nat → Int64} {G : pG} {Q : pR → pM → Prop} {SL p q : Nat} {x1 x2 x3 r : Int32} {v4 : Value} (hG : Geo G SL p q) (h : ((x2 < r → X (d + 4) 11 16 [.ref 66, .int x3, .int r, .int (x3 + 1), .int r] [] (F, A, J, G) Q) ∧ (¬ x2 < r → X (d + 4) 11 16 [.ref 66, .int x1, .int x2, .int (x3 + 1), .int r] [] (F, A, J, G) Q))) : KK (d + 4) 11 35 [.ref 66, .int x1, .int x2, .int x3, v4] [] Q (.inl (some (.int r))) (F, A, J, G) := by
  refine KKi ?_
  refine Y_is4 i_11_35 rfl ?_
  refine Y_il4 i_11_37 ?_
  refine Y_il2 i_11_39 ?_
  refine Y_cle i_11_40 (fun e1 => ?_) (fun e1 => ?_)
  · replace h := h.1 e1
    refine Y_il3 i_11_43 ?_
    refine Y_is1 i_11_44 rfl ?_
    refine Y_il4 i_11_45 ?_
    refine Y_is2 i_11_47 rfl ?_
    refine Y_ii3 (v := 1) i_11_48 (by decide) rfl ?_
    refine Y_goto i_11_51 ?_
    exact h
  · replace h := h.2 e1
    refine Y_ii3 (v := 1) i_11_48 (by decide) rfl ?_
    refine Y_goto i_11_51 ?_
    exact h
/- 12 Legs.unlikeTilts(I)I -/
theorem t_12_0 {d : Nat} {F A : Nat → Nat → Int32} {J : Nat → Nat → Int64} {G : pG} {Q : pR → pM → Prop} {SL p q : Nat} {x1 : Int32} (hG : Geo G SL p q) (h : X (d + 3) 12 14 [.ref 66, .int x1, .int 0, .int 0, .null] [] ((wF F 66 3 ((F 66 3) + 1)), A, J, G) Q) : X (d + 3) 12 0 [.ref 66, .int x1, .null, .null, .null] [] (F, A, J, G) Q := by
  refine Y_al0 i_12_0 ?_
  refine Y_dup i_12_1 rfl ?_
  refine Y_gI (v := (F 66 3)) i_12_2 ow_12 lf_1_52 (by decide) (k_66 hG) rfl ?_
  refine Y_iconst (v := 1) i_12_5 (by decide) ?_
  refine Y_iadd i_12_6 ?_
  refine Y_pI i_12_7 ow_12 lf_1_52 (k_66 hG) ?_
  refine Y_iconst (v := 0) i_12_10 (by decide) ?_
  refine Y_is2 i_12_11 rfl ?_
  refine Y_iconst (v := 0) i_12_12 (by decide) ?_
  refine Y_is3 i_12_13 rfl ?_
  exact h
theorem t_12_14 {d : Nat} {F A : Nat → Nat → Int32} {J : Nat → Nat → Int64} {G : pG} {Q : pR → pM → Prop} {SL p q : Nat} {x1 x2 x3 : Int32} {v4 : Value} (hG : Geo G SL p q) (h : ((x3 < (F 27 1) → X (d + 3) 12 32 [.ref 66, .int x1, .int x2, .int x3, .int (-9)] [] (F, A, J, G) Q) ∧ (¬ x3 < (F 27 1) → Q (.inl (some (.int x2))) (F, A, J, G)))) : X (d + 3) 12 14 [.ref 66, .int x1, .int x2, .int x3, v4] [] (F, A, J, G) Q := by
  refine Y_il3 i_12_14 ?_
  refine Y_al0 i_12_15 ?_
  refine Y_gR i_12_16 ow_12 lf_1_19 (k_66 hG) (r_66_1 hG) ?_
  refine Y_gR i_12_19 ow_12 lf_1_23 (k_21 hG) (r_21_0 hG) ?_
  refine Y_gI (v := (F 27 1)) i_12_22 ow_12 lf_1_38 (by decide) (k_27 hG) rfl ?_
  refine Y_cge i_12_25 (fun e1 => ?_) (fun e1 => ?_)
  · replace h := h.1 e1
    refine Y_bipush (v := (-9)) i_12_28 (by decide) ?_
    refine Y_is4 i_12_30 rfl ?_
    exact h
  · replace h := h.2 e1
    refine Y_il2 i_12_84 ?_
    exact Y_iret i_12_85 rt_12 h
theorem t_12_32 {d : Nat} {F A : Nat → Nat → Int32} {J : Nat → Nat → Int64} {G : pG} {Q : pR → pM → Prop} {SL p q : Nat} {x1 x2 x3 x4 : Int32} (hG : Geo G SL p q) (h : ((9 < x4 → X (d + 3) 12 14 [.ref 66, .int x1, .int x2, .int (x3 + 1), .int x4] [] (F, A, J, G) Q) ∧ (¬ 9 < x4 → X (d + 2) 14 0 [.ref 66, .int x3, .int x4] [] (F, A, J, G) (KK (d + 3) 12 46 [.ref 66, .int x1, .int x2, .int x3, .int x4] [] Q)))) : X (d + 3) 12 32 [.ref 66, .int x1, .int x2, .int x3, .int x4] [] (F, A, J, G) Q := by
  refine Y_il4 i_12_32 ?_
  refine Y_bipush (v := 9) i_12_34 (by decide) ?_
  refine Y_cgt i_12_36 (fun e1 => ?_) (fun e1 => ?_)
  · replace h := h.1 e1
    refine Y_ii3 (v := 1) i_12_78 (by decide) rfl ?_
    refine Y_goto i_12_81 ?_
    exact h
  · replace h := h.2 e1
    refine Y_al0 i_12_39 ?_
    refine Y_il3 i_12_40 ?_
    refine Y_il4 i_12_41 ?_
    exact Y_iv2 (L0 := [.ref 66, .int x3, .int x4]) i_12_43 ow_12 lm_1_42 ((k_66 hG).trans ow_14.symm) rfl mx_14 rfl rfl hd_12 h
theorem k_12_46 {d : Nat} {F A : Nat → Nat → Int32} {J : Nat → Nat → Int64} {G : pG} {Q : pR → pM → Prop} {SL p q : Nat} {x1 x2 x3 x4 r : Int32} (hG : Geo G SL p q) (h : ((r = 0 → X (d + 3) 12 32 [.ref 66, .int x1, .int x2, .int x3, .int (x4 + 1)] [] (F, A, J, G) Q) ∧ (¬ r = 0 → ((x1 < x3 → ((((0 : Int32) + 36) < 0 → X (d + 3) 12 32 [.ref 66, .int x1, .int (x2 + 0), .int x3, .int (x4 + 1)] [] (F, A, J, G) Q) ∧ (¬ ((0 : Int32) + 36) < 0 → ((((0 : Int32) + 36) < 73 → inB ((0 : Int32) + 36) 73 = true ∧ (((A 67 ((0 : Int32) + 36).toNatClampNeg) = (F 66 3) → X (d + 3) 12 32 [.ref 66, .int x1, .int (x2 + 0), .int x3, .int (x4 + 1)] [] (F, A, J, G) Q) ∧ (¬ (A 67 ((0 : Int32) + 36).toNatClampNeg) = (F 66 3) → X (d + 3) 12 32 [.ref 66, .int x1, .int (x2 + 1), .int x3, .int (x4 + 1)] [] (F, (wF A 67 ((0 : Int32) + 36).toNatClampNeg (F 66 3)), J, G) Q))) ∧ (¬ ((0 : Int32) + 36) < 73 → X (d + 3) 12 32 [.ref 66, .int x1, .int (x2 + 0), .int x3, .int (x4 + 1)] [] (F, A, J, G) Q))))) ∧ (¬ x1 < x3 → inB x3 10 = true ∧ inB (A 28 x3.toNatClampNeg) 10 = true ∧ (((((ltm (A 13 (A 28 x3.toNatClampNeg).toNatClampNeg)) * (x4 - (A 31 (A 28 x3.toNatClampNeg).toNatClampNeg))) + 36) < 0 → X (d + 3) 12 32 [.ref 66, .int x1, .int (x2 + 0), .int x3, .int (x4 + 1)] [] (F, A, J, G) Q) ∧ (¬ (((ltm (A 13 (A 28 x3.toNatClampNeg).toNatClampNeg)) * (x4 - (A 31 (A 28 x3.toNatClampNeg).toNatClampNeg))) + 36) < 0 → (((((ltm (A 13 (A 28 x3.toNatClampNeg).toNatClampNeg)) * (x4 - (A 31 (A 28 x3.toNatClampNeg).toNatClampNeg))) + 36) < 73 → inB (((ltm (A 13 (A 28 x3.toNatClampNeg).toNatClampNeg)) * (x4 - (A 31 (A 28 x3.toNatClampNeg).toNatClampNeg))) + 36) 73 = true ∧ (((A 67 (((ltm (A 13 (A 28 x3.toNatClampNeg).toNatClampNeg)) * (x4 - (A 31 (A 28 x3.toNatClampNeg).toNatClampNeg))) + 36).toNatClampNeg) = (F 66 3) → X (d + 3) 12 32 [.ref 66, .int x1, .int (x2 + 0), .int x3, .int (x4 + 1)] [] (F, A, J, G) Q) ∧ (¬ (A 67 (((ltm (A 13 (A 28 x3.toNatClampNeg).toNatClampNeg)) * (x4 - (A 31 (A 28 x3.toNatClampNeg).toNatClampNeg))) + 36).toNatClampNeg) = (F 66 3) → X (d + 3) 12 32 [.ref 66, .int x1, .int (x2 + 1), .int x3, .int (x4 + 1)] [] (F, (wF A 67 (((ltm (A 13 (A 28 x3.toNatClampNeg).toNatClampNeg)) * (x4 - (A 31 (A 28 x3.toNatClampNeg).toNatClampNeg))) + 36).toNatClampNeg (F 66 3)), J, G) Q))) ∧ (¬ (((ltm (A 13 (A 28 x3.toNatClampNeg).toNatClampNeg)) * (x4 - (A 31 (A 28 x3.toNatClampNeg).toNatClampNeg))) + 36) < 73 → X (d + 3) 12 32 [.ref 66, .int x1, .int (x2 + 0), .int x3, .int (x4 + 1)] [] (F, A, J, G) Q))))))))) : KK (d + 3) 12 46 [.ref 66, .int x1, .int x2, .int x3, .int x4] [] Q (.inl (some (.int r))) (F, A, J, G) := by
  refine KKi ?_
  refine Y_zeq i_12_46 (fun e1 => ?_) (fun e1 => ?_)
  · replace h := h.1 e1
    refine Y_ii4 (v := 1) i_12_72 (by decide) rfl ?_
    refine Y_goto i_12_75 ?_
    exact h
  · replace h := h.2 e1
    refine Y_il2 i_12_49 ?_
    refine Y_al0 i_12_50 ?_
    refine Y_il3 i_12_51 ?_
    refine Y_il1 i_12_52 ?_
    refine Y_cgt i_12_53 (fun e2 => ?_) (fun e2 => ?_)
    · replace h := h.1 e2
      refine Y_iconst (v := 0) i_12_66 (by decide) ?_
      refine Y_iv1 (L0 := [.ref 66, .int 0, .null]) i_12_67 ow_12 lm_1_59 ((k_66 hG).trans ow_13.symm) rfl mx_13 rfl rfl hd_12 ?_
      refine Y_il1 i_13_0 ?_
      refine Y_bipush (v := 36) i_13_1 (by decide) ?_
      refine Y_iadd i_13_3 ?_
      refine Y_is2 i_13_4 rfl ?_
      refine Y_il2 i_13_5 ?_
      refine Y_zlt i_13_6 (fun e3 => ?_) (fun e3 => ?_)
      · replace h := h.1 e3
        refine Y_iconst (v := 0) i_13_31 (by decide) ?_
        refine Y_iret i_13_32 rt_13 (KKi ?_)
        refine Y_iadd i_12_70 ?_
        refine Y_is2 i_12_71 rfl ?_
        refine Y_ii4 (v := 1) i_12_72 (by decide) rfl ?_
        refine Y_goto i_12_75 ?_
        exact h
      · replace h := h.2 e3
        refine Y_il2 i_13_9 ?_
        refine Y_al0 i_13_10 ?_
        refine Y_gR i_13_11 ow_13 lf_1_11 (k_66 hG) (r_66_2 hG) ?_
        refine Y_alen (v := 73) i_13_14 (Or.inl (k_67 hG)) (l_67 hG) (by decide) ?_
        refine Y_cge i_13_15 (fun e4 => ?_) (fun e4 => ?_)
        · replace h := h.1 e4
          refine Y_al0 i_13_18 ?_
          refine Y_gR i_13_19 ow_13 lf_1_11 (k_66 hG) (r_66_2 hG) ?_
          refine Y_il2 i_13_22 ?_
          have o5 := h.1
          replace h := h.2
          refine Y_iaload (k := ((0 : Int32) + 36).toNatClampNeg) (v := (A 67 ((0 : Int32) + 36).toNatClampNeg)) i_13_23 (k_67 hG) (l_67 hG) o5 rfl rfl ?_
          refine Y_al0 i_13_24 ?_
          refine Y_gI (v := (F 66 3)) i_13_25 ow_13 lf_1_52 (by decide) (k_66 hG) rfl ?_
          refine Y_cne i_13_28 (fun e6 => ?_) (fun e6 => ?_)
          · replace h := h.1 e6
            refine Y_iconst (v := 0) i_13_31 (by decide) ?_
            refine Y_iret i_13_32 rt_13 (KKi ?_)
            refine Y_iadd i_12_70 ?_
            refine Y_is2 i_12_71 rfl ?_
            refine Y_ii4 (v := 1) i_12_72 (by decide) rfl ?_
            refine Y_goto i_12_75 ?_
            exact h
          · replace h := h.2 e6
            refine Y_al0 i_13_33 ?_
            refine Y_gR i_13_34 ow_13 lf_1_11 (k_66 hG) (r_66_2 hG) ?_
            refine Y_il2 i_13_37 ?_
            refine Y_al0 i_13_38 ?_
            refine Y_gI (v := (F 66 3)) i_13_39 ow_13 lf_1_52 (by decide) (k_66 hG) rfl ?_
            refine Y_iast i_13_42 (k_67 hG) (l_67 hG) o5 rfl ?_
            refine Y_iconst (v := 1) i_13_43 (by decide) ?_
            refine Y_iret i_13_44 rt_13 (KKi ?_)
            refine Y_iadd i_12_70 ?_
            refine Y_is2 i_12_71 rfl ?_
            refine Y_ii4 (v := 1) i_12_72 (by decide) rfl ?_
            refine Y_goto i_12_75 ?_
            exact h
        · replace h := h.2 e4
          refine Y_iconst (v := 0) i_13_31 (by decide) ?_
          refine Y_iret i_13_32 rt_13 (KKi ?_)
          refine Y_iadd i_12_70 ?_
          refine Y_is2 i_12_71 rfl ?_
          refine Y_ii4 (v := 1) i_12_72 (by decide) rfl ?_
          refine Y_goto i_12_75 ?_
          exact h
    · replace h := h.2 e2
      refine Y_al0 i_12_56 ?_
      refine Y_il3 i_12_57 ?_
      refine Y_il4 i_12_58 ?_
      refine Y_iv2 (L0 := [.ref 66, .int x3, .int x4, .null]) i_12_60 ow_12 lm_1_55 ((k_66 hG).trans ow_15.symm) rfl mx_15 rfl rfl hd_12 ?_
      refine Y_al0 i_15_0 ?_
      refine Y_gR i_15_1 ow_15 lf_1_19 (k_66 hG) (r_66_1 hG) ?_
      refine Y_gR i_15_4 ow_15 lf_1_23 (k_21 hG) (r_21_0 hG) ?_
      refine Y_gR i_15_7 ow_15 lf_1_45 (k_27 hG) (r_27_4 hG) ?_
      refine Y_il1 i_15_10 ?_
      have o7 := h.1
      replace h := h.2
      refine Y_iaload (k := x3.toNatClampNeg) (v := (A 28 x3.toNatClampNeg)) i_15_11 (k_28 hG) (l_28 hG) o7 rfl rfl ?_
      refine Y_is3 i_15_12 rfl ?_
      refine Y_al0 i_15_13 ?_
      refine Y_gR i_15_14 ow_15 lf_1_15 (k_66 hG) (r_66_0 hG) ?_
      refine Y_il3 i_15_17 ?_
      have o8 := h.1
      replace h := h.2
      refine Y_iv1 (L0 := [.ref 12, .int (A 28 x3.toNatClampNeg)]) i_15_18 ow_15 lm_1_65 ((k_12 hG).trans ow_102.symm) rfl mx_102 rfl rfl hd_15 ?_
      refine c_102 hG o8 (KKi ?_)
      refine Y_il2 i_15_21 ?_
      refine Y_al0 i_15_22 ?_
      refine Y_gR i_15_23 ow_15 lf_1_19 (k_66 hG) (r_66_1 hG) ?_
      refine Y_gR i_15_26 ow_15 lf_1_23 (k_21 hG) (r_21_0 hG) ?_
      refine Y_gR i_15_29 ow_15 lf_1_62 (k_27 hG) (r_27_7 hG) ?_
      refine Y_il3 i_15_32 ?_
      refine Y_iaload (k := (A 28 x3.toNatClampNeg).toNatClampNeg) (v := (A 31 (A 28 x3.toNatClampNeg).toNatClampNeg)) i_15_33 (k_31 hG) (l_31 hG) o8 rfl rfl ?_
      refine Y_isub i_15_34 ?_
      refine Y_imul i_15_35 ?_
      refine Y_iret i_15_36 rt_15 (KKi ?_)
      refine Y_goto i_12_63 ?_
      refine Y_iv1 (L0 := [.ref 66, .int ((ltm (A 13 (A 28 x3.toNatClampNeg).toNatClampNeg)) * (x4 - (A 31 (A 28 x3.toNatClampNeg).toNatClampNeg))), .null]) i_12_67 ow_12 lm_1_59 ((k_66 hG).trans ow_13.symm) rfl mx_13 rfl rfl hd_12 ?_
      refine Y_il1 i_13_0 ?_
      refine Y_bipush (v := 36) i_13_1 (by decide) ?_
      refine Y_iadd i_13_3 ?_
      refine Y_is2 i_13_4 rfl ?_
      refine Y_il2 i_13_5 ?_
      refine Y_zlt i_13_6 (fun e9 => ?_) (fun e9 => ?_)
      · replace h := h.1 e9
        refine Y_iconst (v := 0) i_13_31 (by decide) ?_
        refine Y_iret i_13_32 rt_13 (KKi ?_)
        refine Y_iadd i_12_70 ?_
        refine Y_is2 i_12_71 rfl ?_
        refine Y_ii4 (v := 1) i_12_72 (by decide) rfl ?_
        refine Y_goto i_12_75 ?_
        exact h
      · replace h := h.2 e9
        refine Y_il2 i_13_9 ?_
        refine Y_al0 i_13_10 ?_
        refine Y_gR i_13_11 ow_13 lf_1_11 (k_66 hG) (r_66_2 hG) ?_
        refine Y_alen (v := 73) i_13_14 (Or.inl (k_67 hG)) (l_67 hG) (by decide) ?_
        refine Y_cge i_13_15 (fun e10 => ?_) (fun e10 => ?_)
        · replace h := h.1 e10
          refine Y_al0 i_13_18 ?_
          refine Y_gR i_13_19 ow_13 lf_1_11 (k_66 hG) (r_66_2 hG) ?_
          refine Y_il2 i_13_22 ?_
          have o11 := h.1
          replace h := h.2
          refine Y_iaload (k := (((ltm (A 13 (A 28 x3.toNatClampNeg).toNatClampNeg)) * (x4 - (A 31 (A 28 x3.toNatClampNeg).toNatClampNeg))) + 36).toNatClampNeg) (v := (A 67 (((ltm (A 13 (A 28 x3.toNatClampNeg).toNatClampNeg)) * (x4 - (A 31 (A 28 x3.toNatClampNeg).toNatClampNeg))) + 36).toNatClampNeg)) i_13_23 (k_67 hG) (l_67 hG) o11 rfl rfl ?_
          refine Y_al0 i_13_24 ?_
          refine Y_gI (v := (F 66 3)) i_13_25 ow_13 lf_1_52 (by decide) (k_66 hG) rfl ?_
          refine Y_cne i_13_28 (fun e12 => ?_) (fun e12 => ?_)
          · replace h := h.1 e12
            refine Y_iconst (v := 0) i_13_31 (by decide) ?_
            refine Y_iret i_13_32 rt_13 (KKi ?_)
            refine Y_iadd i_12_70 ?_
            refine Y_is2 i_12_71 rfl ?_
            refine Y_ii4 (v := 1) i_12_72 (by decide) rfl ?_
            refine Y_goto i_12_75 ?_
            exact h
          · replace h := h.2 e12
            refine Y_al0 i_13_33 ?_
            refine Y_gR i_13_34 ow_13 lf_1_11 (k_66 hG) (r_66_2 hG) ?_
            refine Y_il2 i_13_37 ?_
            refine Y_al0 i_13_38 ?_
            refine Y_gI (v := (F 66 3)) i_13_39 ow_13 lf_1_52 (by decide) (k_66 hG) rfl ?_
            refine Y_iast i_13_42 (k_67 hG) (l_67 hG) o11 rfl ?_
            refine Y_iconst (v := 1) i_13_43 (by decide) ?_
            refine Y_iret i_13_44 rt_13 (KKi ?_)
            refine Y_iadd i_12_70 ?_
            refine Y_is2 i_12_71 rfl ?_
            refine Y_ii4 (v := 1) i_12_72 (by decide) rfl ?_
            refine Y_goto i_12_75 ?_
            exact h
        · replace h := h.2 e10
          refine Y_iconst (v := 0) i_13_31 (by decide) ?_
          refine Y_iret i_13_32 rt_13 (KKi ?_)
          refine Y_iadd i_12_70 ?_
          refine Y_is2 i_12_71 rfl ?_
          refine Y_ii4 (v := 1) i_12_72 (by decide) rfl ?_
          refine Y_goto i_12_75 ?_
          exact h
/- 13 Legs.countOnce(I)I -/
theorem t_13_0 {d : Nat} {F A : Nat → Nat → Int32} {J : Nat → Nat → Int64} {G : pG} {Q : pR → pM → Prop} {SL p q : Nat} {x1 : Int32} (hG : Geo G SL p q) (h : (((x1 + 36) < 0 → Q (.inl (some (.int 0))) (F, A, J, G)) ∧ (¬ (x1 + 36) < 0 → (((x1 + 36) < 73 → inB (x1 + 36) 73 = true ∧ (((A 67 (x1 + 36).toNatClampNeg) = (F 66 3) → Q (.inl (some (.int 0))) (F, A, J, G)) ∧ (¬ (A 67 (x1 + 36).toNatClampNeg) = (F 66 3) → Q (.inl (some (.int 1))) (F, (wF A 67 (x1 + 36).toNatClampNeg (F 66 3)), J, G)))) ∧ (¬ (x1 + 36) < 73 → Q (.inl (some (.int 0))) (F, A, J, G)))))) : X d 13 0 [.ref 66, .int x1, .null] [] (F, A, J, G) Q := by
  refine Y_il1 i_13_0 ?_
  refine Y_bipush (v := 36) i_13_1 (by decide) ?_
  refine Y_iadd i_13_3 ?_
  refine Y_is2 i_13_4 rfl ?_
  refine Y_il2 i_13_5 ?_
  refine Y_zlt i_13_6 (fun e1 => ?_) (fun e1 => ?_)
  · replace h := h.1 e1
    refine Y_iconst (v := 0) i_13_31 (by decide) ?_
    exact Y_iret i_13_32 rt_13 h
  · replace h := h.2 e1
    refine Y_il2 i_13_9 ?_
    refine Y_al0 i_13_10 ?_
    refine Y_gR i_13_11 ow_13 lf_1_11 (k_66 hG) (r_66_2 hG) ?_
    refine Y_alen (v := 73) i_13_14 (Or.inl (k_67 hG)) (l_67 hG) (by decide) ?_
    refine Y_cge i_13_15 (fun e2 => ?_) (fun e2 => ?_)
    · replace h := h.1 e2
      refine Y_al0 i_13_18 ?_
      refine Y_gR i_13_19 ow_13 lf_1_11 (k_66 hG) (r_66_2 hG) ?_
      refine Y_il2 i_13_22 ?_
      have o3 := h.1
      replace h := h.2
      refine Y_iaload (k := (x1 + 36).toNatClampNeg) (v := (A 67 (x1 + 36).toNatClampNeg)) i_13_23 (k_67 hG) (l_67 hG) o3 rfl rfl ?_
      refine Y_al0 i_13_24 ?_
      refine Y_gI (v := (F 66 3)) i_13_25 ow_13 lf_1_52 (by decide) (k_66 hG) rfl ?_
      refine Y_cne i_13_28 (fun e4 => ?_) (fun e4 => ?_)
      · replace h := h.1 e4
        refine Y_iconst (v := 0) i_13_31 (by decide) ?_
        exact Y_iret i_13_32 rt_13 h
      · replace h := h.2 e4
        refine Y_al0 i_13_33 ?_
        refine Y_gR i_13_34 ow_13 lf_1_11 (k_66 hG) (r_66_2 hG) ?_
        refine Y_il2 i_13_37 ?_
        refine Y_al0 i_13_38 ?_
        refine Y_gI (v := (F 66 3)) i_13_39 ow_13 lf_1_52 (by decide) (k_66 hG) rfl ?_
        refine Y_iast i_13_42 (k_67 hG) (l_67 hG) o3 rfl ?_
        refine Y_iconst (v := 1) i_13_43 (by decide) ?_
        exact Y_iret i_13_44 rt_13 h
    · replace h := h.2 e2
      refine Y_iconst (v := 0) i_13_31 (by decide) ?_
      exact Y_iret i_13_32 rt_13 h
/- 14 Legs.mayBe(II)Z -/
theorem t_14_0 {d : Nat} {F A : Nat → Nat → Int32} {J : Nat → Nat → Int64} {G : pG} {Q : pR → pM → Prop} {SL p q : Nat} {x1 x2 : Int32} (hG : Geo G SL p q) (h : inB x1 10 = true ∧ inB (A 28 x1.toNatClampNeg) 10 = true ∧ ((x2 = (A 31 (A 28 x1.toNatClampNeg).toNatClampNeg) → Q (.inl (some (.int 0))) (F, A, J, G)) ∧ (¬ x2 = (A 31 (A 28 x1.toNatClampNeg).toNatClampNeg) → X (d + 1) 16 0 [.ref 66, .int x1, .int ((ltm (A 13 (A 28 x1.toNatClampNeg).toNatClampNeg)) * (x2 - (A 31 (A 28 x1.toNatClampNeg).toNatClampNeg))), .null, .null, .null, .null] [] (F, A, J, G) (KK (d + 2) 14 38 [.ref 66, .int x1, .int x2] [] Q)))) : X (d + 2) 14 0 [.ref 66, .int x1, .int x2] [] (F, A, J, G) Q := by
  refine Y_il2 i_14_0 ?_
  refine Y_al0 i_14_1 ?_
  refine Y_gR i_14_2 ow_14 lf_1_19 (k_66 hG) (r_66_1 hG) ?_
  refine Y_gR i_14_5 ow_14 lf_1_23 (k_21 hG) (r_21_0 hG) ?_
  refine Y_gR i_14_8 ow_14 lf_1_62 (k_27 hG) (r_27_7 hG) ?_
  refine Y_al0 i_14_11 ?_
  refine Y_gR i_14_12 ow_14 lf_1_19 (k_66 hG) (r_66_1 hG) ?_
  refine Y_gR i_14_15 ow_14 lf_1_23 (k_21 hG) (r_21_0 hG) ?_
  refine Y_gR i_14_18 ow_14 lf_1_45 (k_27 hG) (r_27_4 hG) ?_
  refine Y_il1 i_14_21 ?_
  have o1 := h.1
  replace h := h.2
  refine Y_iaload (k := x1.toNatClampNeg) (v := (A 28 x1.toNatClampNeg)) i_14_22 (k_28 hG) (l_28 hG) o1 rfl rfl ?_
  have o2 := h.1
  replace h := h.2
  refine Y_iaload (k := (A 28 x1.toNatClampNeg).toNatClampNeg) (v := (A 31 (A 28 x1.toNatClampNeg).toNatClampNeg)) i_14_23 (k_31 hG) (l_31 hG) o2 rfl rfl ?_
  refine Y_ceq i_14_24 (fun e3 => ?_) (fun e3 => ?_)
  · replace h := h.1 e3
    refine Y_iconst (v := 0) i_14_45 (by decide) ?_
    exact Y_bret i_14_46 rt_14 (by decide) h
  · replace h := h.2 e3
    refine Y_al0 i_14_27 ?_
    refine Y_il1 i_14_28 ?_
    refine Y_al0 i_14_29 ?_
    refine Y_il1 i_14_30 ?_
    refine Y_il2 i_14_31 ?_
    refine Y_iv2 (L0 := [.ref 66, .int x1, .int x2, .null]) i_14_32 ow_14 lm_1_55 ((k_66 hG).trans ow_15.symm) rfl mx_15 rfl rfl hd_14 ?_
    refine Y_al0 i_15_0 ?_
    refine Y_gR i_15_1 ow_15 lf_1_19 (k_66 hG) (r_66_1 hG) ?_
    refine Y_gR i_15_4 ow_15 lf_1_23 (k_21 hG) (r_21_0 hG) ?_
    refine Y_gR i_15_7 ow_15 lf_1_45 (k_27 hG) (r_27_4 hG) ?_
    refine Y_il1 i_15_10 ?_
    refine Y_iaload (k := x1.toNatClampNeg) (v := (A 28 x1.toNatClampNeg)) i_15_11 (k_28 hG) (l_28 hG) o1 rfl rfl ?_
    refine Y_is3 i_15_12 rfl ?_
    refine Y_al0 i_15_13 ?_
    refine Y_gR i_15_14 ow_15 lf_1_15 (k_66 hG) (r_66_0 hG) ?_
    refine Y_il3 i_15_17 ?_
    refine Y_iv1 (L0 := [.ref 12, .int (A 28 x1.toNatClampNeg)]) i_15_18 ow_15 lm_1_65 ((k_12 hG).trans ow_102.symm) rfl mx_102 rfl rfl hd_15 ?_
    refine c_102 hG o2 (KKi ?_)
    refine Y_il2 i_15_21 ?_
    refine Y_al0 i_15_22 ?_
    refine Y_gR i_15_23 ow_15 lf_1_19 (k_66 hG) (r_66_1 hG) ?_
    refine Y_gR i_15_26 ow_15 lf_1_23 (k_21 hG) (r_21_0 hG) ?_
    refine Y_gR i_15_29 ow_15 lf_1_62 (k_27 hG) (r_27_7 hG) ?_
    refine Y_il3 i_15_32 ?_
    refine Y_iaload (k := (A 28 x1.toNatClampNeg).toNatClampNeg) (v := (A 31 (A 28 x1.toNatClampNeg).toNatClampNeg)) i_15_33 (k_31 hG) (l_31 hG) o2 rfl rfl ?_
    refine Y_isub i_15_34 ?_
    refine Y_imul i_15_35 ?_
    refine Y_iret i_15_36 rt_15 (KKi ?_)
    exact Y_iv2 (L0 := [.ref 66, .int x1, .int ((ltm (A 13 (A 28 x1.toNatClampNeg).toNatClampNeg)) * (x2 - (A 31 (A 28 x1.toNatClampNeg).toNatClampNeg))), .null, .null, .null, .null]) i_14_35 ow_14 lm_1_34 ((k_66 hG).trans ow_16.symm) rfl mx_16 rfl rfl hd_14 h
theorem k_14_38 {d : Nat} {F A : Nat → Nat → Int32} {J : Nat → Nat → Int64} {G : pG} {Q : pR → pM → Prop} {SL p q : Nat} {x1 x2 r : Int32} (hG : Geo G SL p q) (h : ((r = 0 → Q (.inl (some (.int 0))) (F, A, J, G)) ∧ (¬ r = 0 → Q (.inl (some (.int 1))) (F, A, J, G)))) : KK (d + 2) 14 38 [.ref 66, .int x1, .int x2] [] Q (.inl (some (.int r))) (F, A, J, G) := by
  refine KKi ?_
  refine Y_zeq i_14_38 (fun e1 => ?_) (fun e1 => ?_)
  · replace h := h.1 e1
    refine Y_iconst (v := 0) i_14_45 (by decide) ?_
    exact Y_bret i_14_46 rt_14 (by decide) h
  · replace h := h.2 e1
    refine Y_iconst (v := 1) i_14_41 (by decide) ?_
    refine Y_goto i_14_42 ?_
    exact Y_bret i_14_46 rt_14 (by decide) h
/- 15 Legs.shift(II)I -/
theorem t_15_0 {d : Nat} {F A : Nat → Nat → Int32} {J : Nat → Nat → Int64} {G : pG} {Q : pR → pM → Prop} {SL p q : Nat} {x1 x2 : Int32} (hG : Geo G SL p q) (h : inB x1 10 = true ∧ inB (A 28 x1.toNatClampNeg) 10 = true ∧ (Q (.inl (some (.int ((ltm (A 13 (A 28 x1.toNatClampNeg).toNatClampNeg)) * (x2 - (A 31 (A 28 x1.toNatClampNeg).toNatClampNeg)))))) (F, A, J, G))) : X (d + 1) 15 0 [.ref 66, .int x1, .int x2, .null] [] (F, A, J, G) Q := by
  refine Y_al0 i_15_0 ?_
  refine Y_gR i_15_1 ow_15 lf_1_19 (k_66 hG) (r_66_1 hG) ?_
  refine Y_gR i_15_4 ow_15 lf_1_23 (k_21 hG) (r_21_0 hG) ?_
  refine Y_gR i_15_7 ow_15 lf_1_45 (k_27 hG) (r_27_4 hG) ?_
  refine Y_il1 i_15_10 ?_
  have o1 := h.1
  replace h := h.2
  refine Y_iaload (k := x1.toNatClampNeg) (v := (A 28 x1.toNatClampNeg)) i_15_11 (k_28 hG) (l_28 hG) o1 rfl rfl ?_
  refine Y_is3 i_15_12 rfl ?_
  refine Y_al0 i_15_13 ?_
  refine Y_gR i_15_14 ow_15 lf_1_15 (k_66 hG) (r_66_0 hG) ?_
  refine Y_il3 i_15_17 ?_
  have o2 := h.1
  replace h := h.2
  refine Y_iv1 (L0 := [.ref 12, .int (A 28 x1.toNatClampNeg)]) i_15_18 ow_15 lm_1_65 ((k_12 hG).trans ow_102.symm) rfl mx_102 rfl rfl hd_15 ?_
  refine c_102 hG o2 (KKi ?_)
  refine Y_il2 i_15_21 ?_
  refine Y_al0 i_15_22 ?_
  refine Y_gR i_15_23 ow_15 lf_1_19 (k_66 hG) (r_66_1 hG) ?_
  refine Y_gR i_15_26 ow_15 lf_1_23 (k_21 hG) (r_21_0 hG) ?_
  refine Y_gR i_15_29 ow_15 lf_1_62 (k_27 hG) (r_27_7 hG) ?_
  refine Y_il3 i_15_32 ?_
  refine Y_iaload (k := (A 28 x1.toNatClampNeg).toNatClampNeg) (v := (A 31 (A 28 x1.toNatClampNeg).toNatClampNeg)) i_15_33 (k_31 hG) (l_31 hG) o2 rfl rfl ?_
  refine Y_isub i_15_34 ?_
  refine Y_imul i_15_35 ?_
  exact Y_iret i_15_36 rt_15 h
/- 16 Legs.allSo(II)Z -/
theorem t_16_0 {d : Nat} {F A : Nat → Nat → Int32} {J : Nat → Nat → Int64} {G : pG} {Q : pR → pM → Prop} {SL p q : Nat} {x1 x2 : Int32} (hG : Geo G SL p q) (h : X d 16 11 [.ref 66, .int x1, .int x2, .ref 27, .int 0, .null, .null] [] (F, A, J, G) Q) : X d 16 0 [.ref 66, .int x1, .int x2, .null, .null, .null, .null] [] (F, A, J, G) Q := by
  refine Y_al0 i_16_0 ?_
  refine Y_gR i_16_1 ow_16 lf_1_19 (k_66 hG) (r_66_1 hG) ?_
  refine Y_gR i_16_4 ow_16 lf_1_23 (k_21 hG) (r_21_0 hG) ?_
  refine Y_as3 i_16_7 rfl ?_
  refine Y_iconst (v := 0) i_16_8 (by decide) ?_
  refine Y_is4 i_16_9 rfl ?_
  exact h
theorem t_16_11 {d : Nat} {F A : Nat → Nat → Int32} {J : Nat → Nat → Int64} {G : pG} {Q : pR → pM → Prop} {SL p q : Nat} {x1 x2 x4 : Int32} {v5 v6 : Value} (hG : Geo G SL p q) (h : ((x4 < (F 21 2) → inB x4 8 = true ∧ (((A 24 x4.toNatClampNeg) < (F 27 1) → inB (A 24 x4.toNatClampNeg) 10 = true ∧ (((A 24 x4.toNatClampNeg) < x1 → ((((A 34 (A 24 x4.toNatClampNeg).toNatClampNeg) + 0) = (A 25 x4.toNatClampNeg) → X d 16 11 [.ref 66, .int x1, .int x2, .ref 27, .int (x4 + 1), .int (A 24 x4.toNatClampNeg), .int ((A 34 (A 24 x4.toNatClampNeg).toNatClampNeg) + 0)] [] (F, A, J, G) Q) ∧ (¬ ((A 34 (A 24 x4.toNatClampNeg).toNatClampNeg) + 0) = (A 25 x4.toNatClampNeg) → Q (.inl (some (.int 0))) (F, A, J, G)))) ∧ (¬ (A 24 x4.toNatClampNeg) < x1 → ((((A 34 (A 24 x4.toNatClampNeg).toNatClampNeg) + x2) = (A 25 x4.toNatClampNeg) → X d 16 11 [.ref 66, .int x1, .int x2, .ref 27, .int (x4 + 1), .int (A 24 x4.toNatClampNeg), .int ((A 34 (A 24 x4.toNatClampNeg).toNatClampNeg) + x2)] [] (F, A, J, G) Q) ∧ (¬ ((A 34 (A 24 x4.toNatClampNeg).toNatClampNeg) + x2) = (A 25 x4.toNatClampNeg) → Q (.inl (some (.int 0))) (F, A, J, G)))))) ∧ (¬ (A 24 x4.toNatClampNeg) < (F 27 1) → Q (.inl (some (.int 0))) (F, A, J, G)))) ∧ (¬ x4 < (F 21 2) → Q (.inl (some (.int 1))) (F, A, J, G)))) : X d 16 11 [.ref 66, .int x1, .int x2, .ref 27, .int x4, v5, v6] [] (F, A, J, G) Q := by
  refine Y_il4 i_16_11 ?_
  refine Y_al0 i_16_13 ?_
  refine Y_gR i_16_14 ow_16 lf_1_19 (k_66 hG) (r_66_1 hG) ?_
  refine Y_gI (v := (F 21 2)) i_16_17 ow_16 lf_1_70 (by decide) (k_21 hG) rfl ?_
  refine Y_cge i_16_20 (fun e1 => ?_) (fun e1 => ?_)
  · replace h := h.1 e1
    refine Y_al0 i_16_23 ?_
    refine Y_gR i_16_24 ow_16 lf_1_19 (k_66 hG) (r_66_1 hG) ?_
    refine Y_gR i_16_27 ow_16 lf_1_73 (k_21 hG) (r_21_3 hG) ?_
    refine Y_il4 i_16_30 ?_
    have o2 := h.1
    replace h := h.2
    refine Y_iaload (k := x4.toNatClampNeg) (v := (A 24 x4.toNatClampNeg)) i_16_32 (k_24 hG) (l_24 hG) o2 rfl rfl ?_
    refine Y_is5 i_16_33 rfl ?_
    refine Y_il5 i_16_35 ?_
    refine Y_al3 i_16_37 ?_
    refine Y_gI (v := (F 27 1)) i_16_38 ow_16 lf_1_38 (by decide) (k_27 hG) rfl ?_
    refine Y_clt i_16_41 (fun e3 => ?_) (fun e3 => ?_)
    · replace h := h.1 e3
      refine Y_al3 i_16_46 ?_
      refine Y_gR i_16_47 ow_16 lf_1_76 (k_27 hG) (r_27_10 hG) ?_
      refine Y_il5 i_16_50 ?_
      have o4 := h.1
      replace h := h.2
      refine Y_iaload (k := (A 24 x4.toNatClampNeg).toNatClampNeg) (v := (A 34 (A 24 x4.toNatClampNeg).toNatClampNeg)) i_16_52 (k_34 hG) (l_34 hG) o4 rfl rfl ?_
      refine Y_il5 i_16_53 ?_
      refine Y_il1 i_16_55 ?_
      refine Y_clt i_16_56 (fun e5 => ?_) (fun e5 => ?_)
      · replace h := h.1 e5
        refine Y_iconst (v := 0) i_16_63 (by decide) ?_
        refine Y_iadd i_16_64 ?_
        refine Y_is6 i_16_65 rfl ?_
        refine Y_il6 i_16_67 ?_
        refine Y_al0 i_16_69 ?_
        refine Y_gR i_16_70 ow_16 lf_1_19 (k_66 hG) (r_66_1 hG) ?_
        refine Y_gR i_16_73 ow_16 lf_1_79 (k_21 hG) (r_21_4 hG) ?_
        refine Y_il4 i_16_76 ?_
        refine Y_iaload (k := x4.toNatClampNeg) (v := (A 25 x4.toNatClampNeg)) i_16_78 (k_25 hG) (l_25 hG) o2 rfl rfl ?_
        refine Y_ceq i_16_79 (fun e6 => ?_) (fun e6 => ?_)
        · replace h := h.1 e6
          refine Y_ii4 (v := 1) i_16_84 (by decide) rfl ?_
          refine Y_goto i_16_87 ?_
          exact h
        · replace h := h.2 e6
          refine Y_iconst (v := 0) i_16_82 (by decide) ?_
          exact Y_bret i_16_83 rt_16 (by decide) h
      · replace h := h.2 e5
        refine Y_il2 i_16_59 ?_
        refine Y_goto i_16_60 ?_
        refine Y_iadd i_16_64 ?_
        refine Y_is6 i_16_65 rfl ?_
        refine Y_il6 i_16_67 ?_
        refine Y_al0 i_16_69 ?_
        refine Y_gR i_16_70 ow_16 lf_1_19 (k_66 hG) (r_66_1 hG) ?_
        refine Y_gR i_16_73 ow_16 lf_1_79 (k_21 hG) (r_21_4 hG) ?_
        refine Y_il4 i_16_76 ?_
        refine Y_iaload (k := x4.toNatClampNeg) (v := (A 25 x4.toNatClampNeg)) i_16_78 (k_25 hG) (l_25 hG) o2 rfl rfl ?_
        refine Y_ceq i_16_79 (fun e7 => ?_) (fun e7 => ?_)
        · replace h := h.1 e7
          refine Y_ii4 (v := 1) i_16_84 (by decide) rfl ?_
          refine Y_goto i_16_87 ?_
          exact h
        · replace h := h.2 e7
          refine Y_iconst (v := 0) i_16_82 (by decide) ?_
          exact Y_bret i_16_83 rt_16 (by decide) h
    · replace h := h.2 e3
      refine Y_iconst (v := 0) i_16_44 (by decide) ?_
      exact Y_bret i_16_45 rt_16 (by decide) h
  · replace h := h.2 e1
    refine Y_iconst (v := 1) i_16_90 (by decide) ?_
    exact Y_bret i_16_91 rt_16 (by decide) h
/- 18 Piles.findMost()V -/
theorem t_18_0 {d : Nat} {F A : Nat → Nat → Int32} {J : Nat → Nat → Int64} {G : pG} {Q : pR → pM → Prop} {SL p q : Nat} (hG : Geo G SL p q) (h : (((F 21 6) = 0 → Q (.inl none) (F, A, J, G)) ∧ (¬ (F 21 6) = 0 → X (d + 5) 22 0 [.ref 61, .null, .null, .null, .null] [] ((wF F 21 6 0), A, J, G) (KK (d + 6) 18 23 [.ref 61] [] Q)))) : X (d + 6) 18 0 [.ref 61] [] (F, A, J, G) Q := by
  refine Y_al0 i_18_0 ?_
  refine Y_gR i_18_1 ow_18 lf_2_28 (k_61 hG) (r_61_1 hG) ?_
  refine Y_gI (v := (F 21 6)) i_18_4 ow_18 lf_2_32 (by decide) (k_21 hG) rfl ?_
  refine Y_zne i_18_7 (fun e1 => ?_) (fun e1 => ?_)
  · replace h := h.1 e1
    exact Y_vret i_18_10 rt_18 h
  · replace h := h.2 e1
    refine Y_al0 i_18_11 ?_
    refine Y_gR i_18_12 ow_18 lf_2_28 (k_61 hG) (r_61_1 hG) ?_
    refine Y_iconst (v := 0) i_18_15 (by decide) ?_
    refine Y_pB i_18_16 ow_18 lf_2_32 (k_21 hG) (by decide) ?_
    refine Y_al0 i_18_19 ?_
    exact Y_iv0 (L0 := [.ref 61, .null, .null, .null, .null]) i_18_20 ow_18 lm_2_38 ((k_61 hG).trans ow_22.symm) rfl mx_22 rfl rfl hd_18 h
theorem k_18_23 {d : Nat} {F A : Nat → Nat → Int32} {J : Nat → Nat → Int64} {G : pG} {Q : pR → pM → Prop} {SL p q : Nat} (hG : Geo G SL p q) (h : X (d + 5) 20 0 [.ref 61, .null, .null] [] (F, A, J, G) (KK (d + 6) 18 28 [.ref 61] [.ref 61] Q)) : KK (d + 6) 18 23 [.ref 61] [] Q (.inl none) (F, A, J, G) := by
  refine KKv ?_
  refine Y_al0 i_18_23 ?_
  refine Y_al0 i_18_24 ?_
  exact Y_iv0 (L0 := [.ref 61, .null, .null]) i_18_25 ow_18 lm_2_41 ((k_61 hG).trans ow_20.symm) rfl mx_20 rfl rfl hd_18 h
theorem k_18_28 {d : Nat} {F A : Nat → Nat → Int32} {J : Nat → Nat → Int64} {G : pG} {Q : pR → pM → Prop} {SL p q : Nat} {r : Int32} (hG : Geo G SL p q) (h : X (d + 5) 23 0 [.ref 61, .int r, .int 0, .int 0, .null, .null] [] ((wF F 61 2 r), A, J, G) (KK (d + 6) 18 41 [.ref 61] [] Q)) : KK (d + 6) 18 28 [.ref 61] [.ref 61] Q (.inl (some (.int r))) (F, A, J, G) := by
  refine KKi ?_
  refine Y_pI i_18_28 ow_18 lf_2_45 (k_61 hG) ?_
  refine Y_al0 i_18_31 ?_
  refine Y_al0 i_18_32 ?_
  refine Y_gI (v := r) i_18_33 ow_18 lf_2_45 (by decide) (k_61 hG) (by simp [wF, wJ, va_up, cpR, bF, bA]) ?_
  refine Y_iconst (v := 0) i_18_36 (by decide) ?_
  refine Y_iconst (v := 0) i_18_37 (by decide) ?_
  exact Y_iv3 (L0 := [.ref 61, .int r, .int 0, .int 0, .null, .null]) i_18_38 ow_18 lm_2_49 ((k_61 hG).trans ow_23.symm) rfl mx_23 rfl rfl hd_18 h
theorem k_18_41 {d : Nat} {F A : Nat → Nat → Int32} {J : Nat → Nat → Int64} {G : pG} {Q : pR → pM → Prop} {SL p q : Nat} {r : Int32} (hG : Geo G SL p q) (h : X (d + 5) 21 0 [.ref 61, .null, .null, .null, .null, .null] [] (F, A, J, G) (KK (d + 6) 18 46 [.ref 61] [] Q)) : KK (d + 6) 18 41 [.ref 61] [] Q (.inl (some (.int r))) (F, A, J, G) := by
  refine KKi ?_
  refine Y_pop i_18_41 rfl ?_
  refine Y_al0 i_18_42 ?_
  exact Y_iv0 (L0 := [.ref 61, .null, .null, .null, .null, .null]) i_18_43 ow_18 lm_2_53 ((k_61 hG).trans ow_21.symm) rfl mx_21 rfl rfl hd_18 h
theorem k_18_46 {d : Nat} {F A : Nat → Nat → Int32} {J : Nat → Nat → Int64} {G : pG} {Q : pR → pM → Prop} {SL p q : Nat} (hG : Geo G SL p q) (h : Q (.inl none) (F, A, J, G)) : KK (d + 6) 18 46 [.ref 61] [] Q (.inl none) (F, A, J, G) := by
  refine KKv ?_
  exact Y_vret i_18_46 rt_18 h
/- 19 Piles.ordersOfTower(II)J -/
theorem t_19_0 {d : Nat} {F A : Nat → Nat → Int32} {J : Nat → Nat → Int64} {G : pG} {Q : pR → pM → Prop} {SL p q : Nat} {x1 x2 : Int32} (hG : Geo G SL p q) (h : X (d + 4) 22 0 [.ref 61, .null, .null, .null, .null] [] (F, A, J, G) (KK (d + 5) 19 4 [.ref 61, .int x1, .int x2] [] Q)) : X (d + 5) 19 0 [.ref 61, .int x1, .int x2] [] (F, A, J, G) Q := by
  refine Y_al0 i_19_0 ?_
  exact Y_iv0 (L0 := [.ref 61, .null, .null, .null, .null]) i_19_1 ow_19 lm_2_38 ((k_61 hG).trans ow_22.symm) rfl mx_22 rfl rfl hd_19 h
theorem k_19_4 {d : Nat} {F A : Nat → Nat → Int32} {J : Nat → Nat → Int64} {G : pG} {Q : pR → pM → Prop} {SL p q : Nat} {x1 x2 : Int32} (hG : Geo G SL p q) (h : hB (F 27 1) = true ∧ (X (d + 4) 23 0 [.ref 61, .int (bitsI (A 28) (F 27 1)), .int x1, .int x2, .null, .null] [] (F, A, J, G) (KK (d + 5) 19 20 [.ref 61, .int x1, .int x2] [] Q))) : KK (d + 5) 19 4 [.ref 61, .int x1, .int x2] [] Q (.inl none) (F, A, J, G) := by
  refine KKv ?_
  refine Y_al0 i_19_4 ?_
  refine Y_al0 i_19_5 ?_
  refine Y_gR i_19_6 ow_19 lf_2_28 (k_61 hG) (r_61_1 hG) ?_
  refine Y_gR i_19_9 ow_19 lf_2_56 (k_21 hG) (r_21_0 hG) ?_
  have o1 := h.1
  replace h := h.2
  refine Y_iv0 (L0 := [.ref 27, .null, .null]) i_19_12 ow_19 lm_2_60 ((k_27 hG).trans ow_78.symm) rfl mx_78 rfl rfl hd_19 ?_
  refine c_78 hG tw_27 o1 (KKi' (v' := (bitsI (A 28) (F 27 1))) (by simp [wF, wJ, va_up, cpR, bF, bA]) ?_)
  refine Y_il1 i_19_15 ?_
  refine Y_il2 i_19_16 ?_
  exact Y_iv3 (L0 := [.ref 61, .int (bitsI (A 28) (F 27 1)), .int x1, .int x2, .null, .null]) i_19_17 ow_19 lm_2_49 ((k_61 hG).trans ow_23.symm) rfl mx_23 rfl rfl hd_19 h
theorem k_19_20 {d : Nat} {F A : Nat → Nat → Int32} {J : Nat → Nat → Int64} {G : pG} {Q : pR → pM → Prop} {SL p q : Nat} {x1 x2 r : Int32} (hG : Geo G SL p q) (h : Q (.inl (some (.long r.toInt64))) (F, A, J, G)) : KK (d + 5) 19 20 [.ref 61, .int x1, .int x2] [] Q (.inl (some (.int r))) (F, A, J, G) := by
  refine KKi ?_
  refine Y_i2l i_19_20 ?_
  exact Y_lret i_19_21 rt_19 h
/- 20 Piles.greatestSet()I -/
theorem t_20_0 {d : Nat} {F A : Nat → Nat → Int32} {J : Nat → Nat → Int64} {G : pG} {Q : pR → pM → Prop} {SL p q : Nat} (hG : Geo G SL p q) (h : X (d + 5) 20 8 [.ref 61, .int (F 12 0), .null] [] (F, A, J, G) Q) : X (d + 5) 20 0 [.ref 61, .null, .null] [] (F, A, J, G) Q := by
  refine Y_al0 i_20_0 ?_
  refine Y_gR i_20_1 ow_20 lf_2_24 (k_61 hG) (r_61_0 hG) ?_
  refine Y_gI (v := (F 12 0)) i_20_4 ow_20 lf_2_65 (by decide) (k_12 hG) rfl ?_
  refine Y_is1 i_20_7 rfl ?_
  exact h
theorem t_20_8 {d : Nat} {F A : Nat → Nat → Int32} {J : Nat → Nat → Int64} {G : pG} {Q : pR → pM → Prop} {SL p q : Nat} {x1 : Int32} {v2 : Value} (hG : Geo G SL p q) (h : ((0 < x1 → X (d + 5) 20 14 [.ref 61, .int x1, .int 0] [] (F, A, J, G) Q) ∧ (¬ 0 < x1 → Q (.inl (some (.int 0))) (F, A, J, G)))) : X (d + 5) 20 8 [.ref 61, .int x1, v2] [] (F, A, J, G) Q := by
  refine Y_il1 i_20_8 ?_
  refine Y_zle i_20_9 (fun e1 => ?_) (fun e1 => ?_)
  · replace h := h.1 e1
    refine Y_iconst (v := 0) i_20_12 (by decide) ?_
    refine Y_is2 i_20_13 rfl ?_
    exact h
  · replace h := h.2 e1
    refine Y_iconst (v := 0) i_20_57 (by decide) ?_
    exact Y_iret i_20_58 rt_20 h
theorem t_20_14 {d : Nat} {F A : Nat → Nat → Int32} {J : Nat → Nat → Int64} {G : pG} {Q : pR → pM → Prop} {SL p q : Nat} {x1 x2 : Int32} (hG : Geo G SL p q) (h : (((((1 : Int32) <<< ((F 12 0) &&& 31)) - 1) < x2 → X (d + 5) 20 8 [.ref 61, .int (x1 + (-1)), .int x2] [] (F, A, J, G) Q) ∧ (¬ (((1 : Int32) <<< ((F 12 0) &&& 31)) - 1) < x2 → inB x2 1024 = true ∧ (((nI (pcn x2.toNatClampNeg)) = x1 → X (d + 4) 23 0 [.ref 61, .int x2, .int 0, .int 0, .null, .null] [] (F, A, J, G) (KK (d + 5) 20 40 [.ref 61, .int x1, .int x2] [] Q)) ∧ (¬ (nI (pcn x2.toNatClampNeg)) = x1 → X (d + 5) 20 14 [.ref 61, .int x1, .int (x2 + 1)] [] (F, A, J, G) Q))))) : X (d + 5) 20 14 [.ref 61, .int x1, .int x2] [] (F, A, J, G) Q := by
  refine Y_il2 i_20_14 ?_
  refine Y_al0 i_20_15 ?_
  refine Y_gR i_20_16 ow_20 lf_2_24 (k_61 hG) (r_61_0 hG) ?_
  refine Y_iv0 (L0 := [.ref 12]) i_20_19 ow_20 lm_2_70 ((k_12 hG).trans ow_100.symm) rfl mx_100 rfl rfl hd_20 ?_
  refine Y_iconst (v := 1) i_100_0 (by decide) ?_
  refine Y_al0 i_100_1 ?_
  refine Y_gI (v := (F 12 0)) i_100_2 ow_100 lf_7_37 (by decide) (k_12 hG) rfl ?_
  refine Y_ishl i_100_5 ?_
  refine Y_iconst (v := 1) i_100_6 (by decide) ?_
  refine Y_isub i_100_7 ?_
  refine Y_iret i_100_8 rt_100 (KKi ?_)
  refine Y_cgt i_20_22 (fun e1 => ?_) (fun e1 => ?_)
  · replace h := h.1 e1
    refine Y_ii1 (v := (-1)) i_20_51 (by decide) rfl ?_
    refine Y_goto i_20_54 ?_
    exact h
  · replace h := h.2 e1
    refine Y_il2 i_20_25 ?_
    have o2 := h.1
    replace h := h.2
    refine Y_is_1 (L0 := [.int x2]) i_20_26 ow_20 lm_2_73 rfl mx_289 rfl rfl hd_20 ?_
    refine c_289 hG o2 (KKi ?_)
    refine Y_il1 i_20_29 ?_
    refine Y_cne i_20_30 (fun e3 => ?_) (fun e3 => ?_)
    · replace h := h.1 e3
      refine Y_al0 i_20_33 ?_
      refine Y_il2 i_20_34 ?_
      refine Y_iconst (v := 0) i_20_35 (by decide) ?_
      refine Y_iconst (v := 0) i_20_36 (by decide) ?_
      exact Y_iv3 (L0 := [.ref 61, .int x2, .int 0, .int 0, .null, .null]) i_20_37 ow_20 lm_2_49 ((k_61 hG).trans ow_23.symm) rfl mx_23 rfl rfl hd_20 h
    · replace h := h.2 e3
      refine Y_ii2 (v := 1) i_20_45 (by decide) rfl ?_
      refine Y_goto i_20_48 ?_
      exact h
theorem k_20_40 {d : Nat} {F A : Nat → Nat → Int32} {J : Nat → Nat → Int64} {G : pG} {Q : pR → pM → Prop} {SL p q : Nat} {x1 x2 r : Int32} (hG : Geo G SL p q) (h : ((0 < r → Q (.inl (some (.int x2))) (F, A, J, G)) ∧ (¬ 0 < r → X (d + 5) 20 14 [.ref 61, .int x1, .int (x2 + 1)] [] (F, A, J, G) Q))) : KK (d + 5) 20 40 [.ref 61, .int x1, .int x2] [] Q (.inl (some (.int r))) (F, A, J, G) := by
  refine KKi ?_
  refine Y_zle i_20_40 (fun e1 => ?_) (fun e1 => ?_)
  · replace h := h.1 e1
    refine Y_il2 i_20_43 ?_
    exact Y_iret i_20_44 rt_20 h
  · replace h := h.2 e1
    refine Y_ii2 (v := 1) i_20_45 (by decide) rfl ?_
    refine Y_goto i_20_48 ?_
    exact h
/- 21 Piles.fillRow()V -/
theorem t_21_0 {d : Nat} {F A : Nat → Nat → Int32} {J : Nat → Nat → Int64} {G : pG} {Q : pR → pM → Prop} {SL p q : Nat} (hG : Geo G SL p q) (h : X (d + 3) 21 4 [.ref 61, .int 0, .int 0, .null, .null, .null] [] (F, A, J, G) Q) : X (d + 3) 21 0 [.ref 61, .null, .null, .null, .null, .null] [] (F, A, J, G) Q := by
  refine Y_iconst (v := 0) i_21_0 (by decide) ?_
  refine Y_is1 i_21_1 rfl ?_
  refine Y_iconst (v := 0) i_21_2 (by decide) ?_
  refine Y_is2 i_21_3 rfl ?_
  exact h
theorem t_21_4 {d : Nat} {F A : Nat → Nat → Int32} {J : Nat → Nat → Int64} {G : pG} {Q : pR → pM → Prop} {SL p q : Nat} {x1 x2 : Int32} {v3 v4 v5 : Value} (hG : Geo G SL p q) (h : ((x2 < 10 → ((x1 = (F 61 7) → Q (.inl none) (F, A, J, G)) ∧ (¬ x1 = (F 61 7) → X (d + 3) 21 31 [.ref 61, .int x1, .int x2, .int 0, .int ((F 12 0) - 1), v5] [] (F, A, J, G) Q))) ∧ (¬ x2 < 10 → Q (.inl none) (F, A, J, G)))) : X (d + 3) 21 4 [.ref 61, .int x1, .int x2, v3, v4, v5] [] (F, A, J, G) Q := by
  refine Y_il2 i_21_4 ?_
  refine Y_bipush (v := 10) i_21_5 (by decide) ?_
  refine Y_cge i_21_7 (fun e1 => ?_) (fun e1 => ?_)
  · replace h := h.1 e1
    refine Y_il1 i_21_10 ?_
    refine Y_al0 i_21_11 ?_
    refine Y_gI (v := (F 61 7)) i_21_12 ow_21 lf_2_79 (by decide) (k_61 hG) rfl ?_
    refine Y_ceq i_21_15 (fun e2 => ?_) (fun e2 => ?_)
    · replace h := h.1 e2
      exact Y_vret i_21_106 rt_21 h
    · replace h := h.2 e2
      refine Y_iconst (v := 0) i_21_18 (by decide) ?_
      refine Y_is3 i_21_19 rfl ?_
      refine Y_al0 i_21_20 ?_
      refine Y_gR i_21_21 ow_21 lf_2_24 (k_61 hG) (r_61_0 hG) ?_
      refine Y_gI (v := (F 12 0)) i_21_24 ow_21 lf_2_65 (by decide) (k_12 hG) rfl ?_
      refine Y_iconst (v := 1) i_21_27 (by decide) ?_
      refine Y_isub i_21_28 ?_
      refine Y_is4 i_21_29 rfl ?_
      exact h
  · replace h := h.2 e1
    exact Y_vret i_21_106 rt_21 h
theorem t_21_31 {d : Nat} {F A : Nat → Nat → Int32} {J : Nat → Nat → Int64} {G : pG} {Q : pR → pM → Prop} {SL p q : Nat} {x1 x2 x3 x4 : Int32} {v5 : Value} (hG : Geo G SL p q) (h : ((x4 < 0 → inB x2 10 = true ∧ (X (d + 3) 21 4 [.ref 61, .int (x1 ||| ((1 : Int32) <<< (x3 &&& 31))), .int (x2 + 1), .int x3, .int x4, v5] [] (F, (wF A 62 x2.toNatClampNeg x3), J, G) Q)) ∧ (¬ x4 < 0 → (((((F 61 7) &&& (x1 ^^^ (-1))) &&& ((1 : Int32) <<< (x4 &&& 31))) = 0 → X (d + 3) 21 31 [.ref 61, .int x1, .int x2, .int x3, .int (x4 + (-1)), .int 0] [] (F, A, J, G) Q) ∧ (¬ (((F 61 7) &&& (x1 ^^^ (-1))) &&& ((1 : Int32) <<< (x4 &&& 31))) = 0 → X (d + 2) 25 0 [.ref 61, .int x1, .int x4, .null, .null, .null, .null] [] (F, A, J, G) (KK (d + 3) 21 71 [.ref 61, .int x1, .int x2, .int x3, .int x4, .int 1] [] Q)))))) : X (d + 3) 21 31 [.ref 61, .int x1, .int x2, .int x3, .int x4, v5] [] (F, A, J, G) Q := by
  refine Y_il4 i_21_31 ?_
  refine Y_zlt i_21_33 (fun e1 => ?_) (fun e1 => ?_)
  · replace h := h.1 e1
    refine Y_al0 i_21_87 ?_
    refine Y_gR i_21_88 ow_21 lf_2_9 (k_61 hG) (r_61_3 hG) ?_
    refine Y_il2 i_21_91 ?_
    refine Y_il3 i_21_92 ?_
    have o2 := h.1
    replace h := h.2
    refine Y_iast i_21_93 (k_62 hG) (l_62 hG) o2 rfl ?_
    refine Y_il1 i_21_94 ?_
    refine Y_iconst (v := 1) i_21_95 (by decide) ?_
    refine Y_il3 i_21_96 ?_
    refine Y_ishl i_21_97 ?_
    refine Y_ior i_21_98 ?_
    refine Y_is1 i_21_99 rfl ?_
    refine Y_ii2 (v := 1) i_21_100 (by decide) rfl ?_
    refine Y_goto i_21_103 ?_
    exact h
  · replace h := h.2 e1
    refine Y_al0 i_21_36 ?_
    refine Y_gI (v := (F 61 7)) i_21_37 ow_21 lf_2_79 (by decide) (k_61 hG) rfl ?_
    refine Y_il1 i_21_40 ?_
    refine Y_iconst (v := (-1)) i_21_41 (by decide) ?_
    refine Y_ixor i_21_42 ?_
    refine Y_iand i_21_43 ?_
    refine Y_iconst (v := 1) i_21_44 (by decide) ?_
    refine Y_il4 i_21_45 ?_
    refine Y_ishl i_21_47 ?_
    refine Y_iand i_21_48 ?_
    refine Y_zeq i_21_49 (fun e3 => ?_) (fun e3 => ?_)
    · replace h := h.1 e3
      refine Y_iconst (v := 0) i_21_56 (by decide) ?_
      refine Y_is5 i_21_57 rfl ?_
      refine Y_il5 i_21_59 ?_
      refine Y_zT i_21_61 (by decide) ?_
      refine Y_il3 i_21_79 ?_
      refine Y_is3 i_21_80 rfl ?_
      refine Y_ii4 (v := (-1)) i_21_81 (by decide) rfl ?_
      refine Y_goto i_21_84 ?_
      exact h
    · replace h := h.2 e3
      refine Y_iconst (v := 1) i_21_52 (by decide) ?_
      refine Y_goto i_21_53 ?_
      refine Y_is5 i_21_57 rfl ?_
      refine Y_il5 i_21_59 ?_
      refine Y_zF i_21_61 (by decide) ?_
      refine Y_al0 i_21_64 ?_
      refine Y_il1 i_21_65 ?_
      refine Y_il4 i_21_66 ?_
      exact Y_iv2 (L0 := [.ref 61, .int x1, .int x4, .null, .null, .null, .null]) i_21_68 ow_21 lm_2_82 ((k_61 hG).trans ow_25.symm) rfl mx_25 rfl rfl hd_21 h
theorem k_21_71 {d : Nat} {F A : Nat → Nat → Int32} {J : Nat → Nat → Int64} {G : pG} {Q : pR → pM → Prop} {SL p q : Nat} {x1 x2 x3 x4 x5 r : Int32} (hG : Geo G SL p q) (h : ((0 < r → X (d + 3) 21 31 [.ref 61, .int x1, .int x2, .int x4, .int (x4 + (-1)), .int x5] [] (F, A, J, G) Q) ∧ (¬ 0 < r → X (d + 3) 21 31 [.ref 61, .int x1, .int x2, .int x3, .int (x4 + (-1)), .int x5] [] (F, A, J, G) Q))) : KK (d + 3) 21 71 [.ref 61, .int x1, .int x2, .int x3, .int x4, .int x5] [] Q (.inl (some (.int r))) (F, A, J, G) := by
  refine KKi ?_
  refine Y_zle i_21_71 (fun e1 => ?_) (fun e1 => ?_)
  · replace h := h.1 e1
    refine Y_il4 i_21_74 ?_
    refine Y_goto i_21_76 ?_
    refine Y_is3 i_21_80 rfl ?_
    refine Y_ii4 (v := (-1)) i_21_81 (by decide) rfl ?_
    refine Y_goto i_21_84 ?_
    exact h
  · replace h := h.2 e1
    refine Y_il3 i_21_79 ?_
    refine Y_is3 i_21_80 rfl ?_
    refine Y_ii4 (v := (-1)) i_21_81 (by decide) rfl ?_
    refine Y_goto i_21_84 ?_
    exact h
/- 22 Piles.weighSets()V -/
theorem t_22_0 {d : Nat} {F A : Nat → Nat → Int32} {J : Nat → Nat → Int64} {G : pG} {Q : pR → pM → Prop} {SL p q : Nat} (hG : Geo G SL p q) (h : X (d + 2) 22 10 [.ref 61, .ref 27, .int 0, .null, .null] [] (F, A, J, G) Q) : X (d + 2) 22 0 [.ref 61, .null, .null, .null, .null] [] (F, A, J, G) Q := by
  refine Y_al0 i_22_0 ?_
  refine Y_gR i_22_1 ow_22 lf_2_28 (k_61 hG) (r_61_1 hG) ?_
  refine Y_gR i_22_4 ow_22 lf_2_56 (k_21 hG) (r_21_0 hG) ?_
  refine Y_as1 i_22_7 rfl ?_
  refine Y_iconst (v := 0) i_22_8 (by decide) ?_
  refine Y_is2 i_22_9 rfl ?_
  exact h
theorem t_22_10 {d : Nat} {F A : Nat → Nat → Int32} {J : Nat → Nat → Int64} {G : pG} {Q : pR → pM → Prop} {SL p q : Nat} {x2 : Int32} {v3 v4 : Value} (hG : Geo G SL p q) (h : ((x2 < (F 12 0) → X (d + 2) 22 28 [.ref 61, .ref 27, .int x2, .int ((1 : Int32) <<< (x2 &&& 31)), .int 0] [] (F, A, J, G) Q) ∧ (¬ x2 < (F 12 0) → Q (.inl none) (F, A, J, G)))) : X (d + 2) 22 10 [.ref 61, .ref 27, .int x2, v3, v4] [] (F, A, J, G) Q := by
  refine Y_il2 i_22_10 ?_
  refine Y_al0 i_22_11 ?_
  refine Y_gR i_22_12 ow_22 lf_2_24 (k_61 hG) (r_61_0 hG) ?_
  refine Y_gI (v := (F 12 0)) i_22_15 ow_22 lf_2_65 (by decide) (k_12 hG) rfl ?_
  refine Y_cge i_22_18 (fun e1 => ?_) (fun e1 => ?_)
  · replace h := h.1 e1
    refine Y_iconst (v := 1) i_22_21 (by decide) ?_
    refine Y_il2 i_22_22 ?_
    refine Y_ishl i_22_23 ?_
    refine Y_is3 i_22_24 rfl ?_
    refine Y_iconst (v := 0) i_22_25 (by decide) ?_
    refine Y_is4 i_22_26 rfl ?_
    exact h
  · replace h := h.2 e1
    exact Y_vret i_22_101 rt_22 h
theorem t_22_28 {d : Nat} {F A : Nat → Nat → Int32} {J : Nat → Nat → Int64} {G : pG} {Q : pR → pM → Prop} {SL p q : Nat} {x2 x3 x4 : Int32} (hG : Geo G SL p q) (h : ((x4 < x3 → inB x4 1024 = true ∧ inB x2 10 = true ∧ inB (x4 ||| x3) 1024 = true ∧ (X (d + 2) 22 28 [.ref 61, .ref 27, .int x2, .int x3, .int (x4 + 1)] [] (F, (wF (wF A 63 (x4 ||| x3).toNatClampNeg (((A 63 x4.toNatClampNeg) + (A 14 x2.toNatClampNeg)) + (A 29 x2.toNatClampNeg))) 64 (x4 ||| x3).toNatClampNeg ((A 64 x4.toNatClampNeg) + (lnS (A 13 x2.toNatClampNeg) (A 31 x2.toNatClampNeg) (A 30 x2.toNatClampNeg)))), J, G) Q)) ∧ (¬ x4 < x3 → X (d + 2) 22 10 [.ref 61, .ref 27, .int (x2 + 1), .int x3, .int x4] [] (F, A, J, G) Q))) : X (d + 2) 22 28 [.ref 61, .ref 27, .int x2, .int x3, .int x4] [] (F, A, J, G) Q := by
  refine Y_il4 i_22_28 ?_
  refine Y_il3 i_22_30 ?_
  refine Y_cge i_22_31 (fun e1 => ?_) (fun e1 => ?_)
  · replace h := h.1 e1
    refine Y_al0 i_22_34 ?_
    refine Y_gR i_22_35 ow_22 lf_2_15 (k_61 hG) (r_61_4 hG) ?_
    refine Y_il4 i_22_38 ?_
    refine Y_il3 i_22_40 ?_
    refine Y_ior i_22_41 ?_
    refine Y_al0 i_22_42 ?_
    refine Y_gR i_22_43 ow_22 lf_2_15 (k_61 hG) (r_61_4 hG) ?_
    refine Y_il4 i_22_46 ?_
    have o2 := h.1
    replace h := h.2
    refine Y_iaload (k := x4.toNatClampNeg) (v := (A 63 x4.toNatClampNeg)) i_22_48 (k_63 hG) (l_63 hG) o2 rfl rfl ?_
    refine Y_al0 i_22_49 ?_
    refine Y_gR i_22_50 ow_22 lf_2_24 (k_61 hG) (r_61_0 hG) ?_
    refine Y_gR i_22_53 ow_22 lf_2_86 (k_12 hG) (r_12_4 hG) ?_
    refine Y_il2 i_22_56 ?_
    have o3 := h.1
    replace h := h.2
    refine Y_iaload (k := x2.toNatClampNeg) (v := (A 14 x2.toNatClampNeg)) i_22_57 (k_14 hG) (l_14 hG) o3 rfl rfl ?_
    refine Y_iadd i_22_58 ?_
    refine Y_al1 i_22_59 ?_
    refine Y_gR i_22_60 ow_22 lf_2_89 (k_27 hG) (r_27_5 hG) ?_
    refine Y_il2 i_22_63 ?_
    refine Y_iaload (k := x2.toNatClampNeg) (v := (A 29 x2.toNatClampNeg)) i_22_64 (k_29 hG) (l_29 hG) o3 rfl rfl ?_
    refine Y_iadd i_22_65 ?_
    have o4 := h.1
    replace h := h.2
    refine Y_iast i_22_66 (k_63 hG) (l_63 hG) o4 rfl ?_
    refine Y_al0 i_22_67 ?_
    refine Y_gR i_22_68 ow_22 lf_2_18 (k_61 hG) (r_61_5 hG) ?_
    refine Y_il4 i_22_71 ?_
    refine Y_il3 i_22_73 ?_
    refine Y_ior i_22_74 ?_
    refine Y_al0 i_22_75 ?_
    refine Y_gR i_22_76 ow_22 lf_2_18 (k_61 hG) (r_61_5 hG) ?_
    refine Y_il4 i_22_79 ?_
    refine Y_iaload (k := x4.toNatClampNeg) (v := (A 64 x4.toNatClampNeg)) i_22_81 (k_64 hG) (l_64 hG) o2 rfl (by simp [wF, wJ, va_up, cpR, bF, bA]) ?_
    refine Y_al1 i_22_82 ?_
    refine Y_il2 i_22_83 ?_
    refine Y_iv1 (L0 := [.ref 27, .int x2]) i_22_84 ow_22 lm_2_92 ((k_27 hG).trans ow_83.symm) rfl mx_83 rfl rfl hd_22 ?_
    refine c_83 hG tw_27 o3 (KKi' (v' := (lnS (A 13 x2.toNatClampNeg) (A 31 x2.toNatClampNeg) (A 30 x2.toNatClampNeg))) (by simp [wF, wJ, va_up, cpR, bF, bA]) ?_)
    refine Y_iadd i_22_87 ?_
    refine Y_iast i_22_88 (k_64 hG) (l_64 hG) o4 rfl ?_
    refine Y_ii4 (v := 1) i_22_89 (by decide) rfl ?_
    refine Y_goto i_22_92 ?_
    exact h
  · replace h := h.2 e1
    refine Y_ii2 (v := 1) i_22_95 (by decide) rfl ?_
    refine Y_goto i_22_98 ?_
    exact h
/- 23 Piles.ordersOf(III)I -/
theorem t_23_0 {d : Nat} {F A : Nat → Nat → Int32} {J : Nat → Nat → Int64} {G : pG} {Q : pR → pM → Prop} {SL p q : Nat} {x1 x2 x3 : Int32} (hG : Geo G SL p q) (h : inB x1 1024 = true ∧ (((limB (F 12 1) (A 64 x1.toNatClampNeg)) = true → X (d + 4) 23 55 [.ref 61, .int x1, .int x2, .int x3, .int x1, .int 0] [] ((wF (wF (wF F 61 7 x1) 61 8 x2) 61 9 x3), (wF A 65 x1.toNatClampNeg 1), J, G) Q) ∧ ((limB (F 12 1) (A 64 x1.toNatClampNeg)) = false → Q (.inl (some (.int 0))) ((wF (wF (wF F 61 7 x1) 61 8 x2) 61 9 x3), (wF A 65 x1.toNatClampNeg 1), J, G)))) : X (d + 4) 23 0 [.ref 61, .int x1, .int x2, .int x3, .null, .null] [] (F, A, J, G) Q := by
  refine Y_al0 i_23_0 ?_
  refine Y_il1 i_23_1 ?_
  refine Y_pI i_23_2 ow_23 lf_2_79 (k_61 hG) ?_
  refine Y_al0 i_23_5 ?_
  refine Y_il2 i_23_6 ?_
  refine Y_pI i_23_7 ow_23 lf_2_95 (k_61 hG) ?_
  refine Y_al0 i_23_10 ?_
  refine Y_il3 i_23_11 ?_
  refine Y_pI i_23_12 ow_23 lf_2_98 (k_61 hG) ?_
  refine Y_al0 i_23_15 ?_
  refine Y_gR i_23_16 ow_23 lf_2_21 (k_61 hG) (r_61_6 hG) ?_
  refine Y_al0 i_23_19 ?_
  refine Y_gI (v := x1) i_23_20 ow_23 lf_2_79 (by decide) (k_61 hG) (by simp [wF, wJ, va_up, cpR, bF, bA]) ?_
  refine Y_iconst (v := 1) i_23_23 (by decide) ?_
  have o1 := h.1
  replace h := h.2
  refine Y_iast i_23_24 (k_65 hG) (l_65 hG) o1 rfl ?_
  refine Y_al0 i_23_25 ?_
  refine Y_gR i_23_26 ow_23 lf_2_24 (k_61 hG) (r_61_0 hG) ?_
  refine Y_al0 i_23_29 ?_
  refine Y_gR i_23_30 ow_23 lf_2_18 (k_61 hG) (r_61_5 hG) ?_
  refine Y_al0 i_23_33 ?_
  refine Y_gI (v := x1) i_23_34 ow_23 lf_2_79 (by decide) (k_61 hG) (by simp [wF, wJ, va_up, cpR, bF, bA]) ?_
  refine Y_iaload (k := x1.toNatClampNeg) (v := (A 64 x1.toNatClampNeg)) i_23_37 (k_64 hG) (l_64 hG) o1 rfl (by simp [wF, wJ, va_up, cpR, bF, bA]) ?_
  refine Y_iv1 (L0 := [.ref 12, .int (A 64 x1.toNatClampNeg)]) i_23_38 ow_23 lm_2_101 ((k_12 hG).trans ow_103.symm) rfl mx_103 rfl rfl hd_23 ?_
  refine c_103 hG (KKi' (v' := (bI (limB (F 12 1) (A 64 x1.toNatClampNeg)))) (by simp [wF, wJ, va_up, cpR, bF, bA]) ?_)
  refine Y_bne i_23_41 (fun e2 => ?_) (fun e2 => ?_)
  · replace h := h.1 e2
    refine Y_al0 i_23_46 ?_
    refine Y_gI (v := x1) i_23_47 ow_23 lf_2_79 (by decide) (k_61 hG) (by simp [wF, wJ, va_up, cpR, bF, bA]) ?_
    refine Y_is4 i_23_50 rfl ?_
    refine Y_iconst (v := 0) i_23_52 (by decide) ?_
    refine Y_is5 i_23_53 rfl ?_
    exact h
  · replace h := h.2 e2
    refine Y_iconst (v := 0) i_23_44 (by decide) ?_
    exact Y_iret i_23_45 rt_23 h
theorem t_23_55 {d : Nat} {F A : Nat → Nat → Int32} {J : Nat → Nat → Int64} {G : pG} {Q : pR → pM → Prop} {SL p q : Nat} {x1 x2 x3 x4 x5 : Int32} (hG : Geo G SL p q) (h : ((x5 < 1024 → ((0 < x4 → X (d + 3) 24 0 [.ref 61, .int ((x4 - 1) &&& (F 61 7)), .null, .null, .null] [] (F, A, J, G) (KK (d + 4) 23 91 [.ref 61, .int x1, .int x2, .int x3, .int ((x4 - 1) &&& (F 61 7)), .int x5] [.int ((x4 - 1) &&& (F 61 7)), .ref 65] Q)) ∧ (¬ 0 < x4 → Q (.inl (some (.int (A 65 0)))) (F, A, J, G)))) ∧ (¬ x5 < 1024 → Q (.inl (some (.int (A 65 0)))) (F, A, J, G)))) : X (d + 4) 23 55 [.ref 61, .int x1, .int x2, .int x3, .int x4, .int x5] [] (F, A, J, G) Q := by
  refine Y_il5 i_23_55 ?_
  refine Y_sipush (v := 1024) i_23_57 (by decide) ?_
  refine Y_cge i_23_60 (fun e1 => ?_) (fun e1 => ?_)
  · replace h := h.1 e1
    refine Y_il4 i_23_63 ?_
    refine Y_zle i_23_65 (fun e2 => ?_) (fun e2 => ?_)
    · replace h := h.1 e2
      refine Y_il4 i_23_68 ?_
      refine Y_iconst (v := 1) i_23_70 (by decide) ?_
      refine Y_isub i_23_71 ?_
      refine Y_al0 i_23_72 ?_
      refine Y_gI (v := (F 61 7)) i_23_73 ow_23 lf_2_79 (by decide) (k_61 hG) rfl ?_
      refine Y_iand i_23_76 ?_
      refine Y_is4 i_23_77 rfl ?_
      refine Y_al0 i_23_79 ?_
      refine Y_gR i_23_80 ow_23 lf_2_21 (k_61 hG) (r_61_6 hG) ?_
      refine Y_il4 i_23_83 ?_
      refine Y_al0 i_23_85 ?_
      refine Y_il4 i_23_86 ?_
      exact Y_iv1 (L0 := [.ref 61, .int ((x4 - 1) &&& (F 61 7)), .null, .null, .null]) i_23_88 ow_23 lm_2_105 ((k_61 hG).trans ow_24.symm) rfl mx_24 rfl rfl hd_23 h
    · replace h := h.2 e2
      refine Y_al0 i_23_98 ?_
      refine Y_gR i_23_99 ow_23 lf_2_21 (k_61 hG) (r_61_6 hG) ?_
      refine Y_iconst (v := 0) i_23_102 (by decide) ?_
      refine Y_iaload (k := 0) (v := (A 65 0)) i_23_103 (k_65 hG) (l_65 hG) (by decide) (by decide) rfl ?_
      exact Y_iret i_23_104 rt_23 h
  · replace h := h.2 e1
    refine Y_al0 i_23_98 ?_
    refine Y_gR i_23_99 ow_23 lf_2_21 (k_61 hG) (r_61_6 hG) ?_
    refine Y_iconst (v := 0) i_23_102 (by decide) ?_
    refine Y_iaload (k := 0) (v := (A 65 0)) i_23_103 (k_65 hG) (l_65 hG) (by decide) (by decide) rfl ?_
    exact Y_iret i_23_104 rt_23 h
theorem k_23_91 {d : Nat} {F A : Nat → Nat → Int32} {J : Nat → Nat → Int64} {G : pG} {Q : pR → pM → Prop} {SL p q : Nat} {x1 x2 x3 x4 x5 r s0 : Int32} (hG : Geo G SL p q) (h : inB s0 1024 = true ∧ (X (d + 4) 23 55 [.ref 61, .int x1, .int x2, .int x3, .int x4, .int (x5 + 1)] [] (F, (wF A 65 s0.toNatClampNeg r), J, G) Q)) : KK (d + 4) 23 91 [.ref 61, .int x1, .int x2, .int x3, .int x4, .int x5] [.int s0, .ref 65] Q (.inl (some (.int r))) (F, A, J, G) := by
  refine KKi ?_
  have o1 := h.1
  replace h := h.2
  refine Y_iast i_23_91 (k_65 hG) (l_65 hG) o1 rfl ?_
  refine Y_ii5 (v := 1) i_23_92 (by decide) rfl ?_
  refine Y_goto i_23_95 ?_
  exact h
/- 24 Piles.waysUpon(I)I -/
theorem t_24_0 {d : Nat} {F A : Nat → Nat → Int32} {J : Nat → Nat → Int64} {G : pG} {Q : pR → pM → Prop} {SL p q : Nat} {x1 : Int32} (hG : Geo G SL p q) (h : X (d + 3) 24 14 [.ref 61, .int x1, .int 0, .int ((F 61 7) &&& (x1 ^^^ (-1))), .int 0] [] (F, A, J, G) Q) : X (d + 3) 24 0 [.ref 61, .int x1, .null, .null, .null] [] (F, A, J, G) Q := by
  refine Y_iconst (v := 0) i_24_0 (by decide) ?_
  refine Y_is2 i_24_1 rfl ?_
  refine Y_al0 i_24_2 ?_
  refine Y_gI (v := (F 61 7)) i_24_3 ow_24 lf_2_79 (by decide) (k_61 hG) rfl ?_
  refine Y_il1 i_24_6 ?_
  refine Y_iconst (v := (-1)) i_24_7 (by decide) ?_
  refine Y_ixor i_24_8 ?_
  refine Y_iand i_24_9 ?_
  refine Y_is3 i_24_10 rfl ?_
  refine Y_iconst (v := 0) i_24_11 (by decide) ?_
  refine Y_is4 i_24_12 rfl ?_
  exact h
theorem t_24_14 {d : Nat} {F A : Nat → Nat → Int32} {J : Nat → Nat → Int64} {G : pG} {Q : pR → pM → Prop} {SL p q : Nat} {x1 x2 x3 x4 : Int32} (hG : Geo G SL p q) (h : ((x4 < (F 12 0) → ((((x3 >>> (x4 &&& 31)) &&& 1) = 0 → X (d + 3) 24 14 [.ref 61, .int x1, .int x2, .int x3, .int (x4 + 1)] [] (F, A, J, G) Q) ∧ (¬ ((x3 >>> (x4 &&& 31)) &&& 1) = 0 → X (d + 2) 25 0 [.ref 61, .int x1, .int x4, .null, .null, .null, .null] [] (F, A, J, G) (KK (d + 3) 24 43 [.ref 61, .int x1, .int x2, .int x3, .int x4] [.int x2] Q)))) ∧ (¬ x4 < (F 12 0) → Q (.inl (some (.int x2))) (F, A, J, G)))) : X (d + 3) 24 14 [.ref 61, .int x1, .int x2, .int x3, .int x4] [] (F, A, J, G) Q := by
  refine Y_il4 i_24_14 ?_
  refine Y_al0 i_24_16 ?_
  refine Y_gR i_24_17 ow_24 lf_2_24 (k_61 hG) (r_61_0 hG) ?_
  refine Y_gI (v := (F 12 0)) i_24_20 ow_24 lf_2_65 (by decide) (k_12 hG) rfl ?_
  refine Y_cge i_24_23 (fun e1 => ?_) (fun e1 => ?_)
  · replace h := h.1 e1
    refine Y_il3 i_24_26 ?_
    refine Y_il4 i_24_27 ?_
    refine Y_ishr i_24_29 ?_
    refine Y_iconst (v := 1) i_24_30 (by decide) ?_
    refine Y_iand i_24_31 ?_
    refine Y_zeq i_24_32 (fun e2 => ?_) (fun e2 => ?_)
    · replace h := h.1 e2
      refine Y_ii4 (v := 1) i_24_45 (by decide) rfl ?_
      refine Y_goto i_24_48 ?_
      exact h
    · replace h := h.2 e2
      refine Y_il2 i_24_35 ?_
      refine Y_al0 i_24_36 ?_
      refine Y_il1 i_24_37 ?_
      refine Y_il4 i_24_38 ?_
      exact Y_iv2 (L0 := [.ref 61, .int x1, .int x4, .null, .null, .null, .null]) i_24_40 ow_24 lm_2_82 ((k_61 hG).trans ow_25.symm) rfl mx_25 rfl rfl hd_24 h
  · replace h := h.2 e1
    refine Y_il2 i_24_51 ?_
    exact Y_iret i_24_52 rt_24 h
theorem k_24_43 {d : Nat} {F A : Nat → Nat → Int32} {J : Nat → Nat → Int64} {G : pG} {Q : pR → pM → Prop} {SL p q : Nat} {x1 x2 x3 x4 r s0 : Int32} (hG : Geo G SL p q) (h : X (d + 3) 24 14 [.ref 61, .int x1, .int (s0 + r), .int x3, .int (x4 + 1)] [] (F, A, J, G) Q) : KK (d + 3) 24 43 [.ref 61, .int x1, .int x2, .int x3, .int x4] [.int s0] Q (.inl (some (.int r))) (F, A, J, G) := by
  refine KKi ?_
  refine Y_iadd i_24_43 ?_
  refine Y_is2 i_24_44 rfl ?_
  refine Y_ii4 (v := 1) i_24_45 (by decide) rfl ?_
  refine Y_goto i_24_48 ?_
  exact h
/- 25 Piles.waysWith(II)I -/
theorem t_25_0 {d : Nat} {F A : Nat → Nat → Int32} {J : Nat → Nat → Int64} {G : pG} {Q : pR → pM → Prop} {SL p q : Nat} {x1 x2 : Int32} (hG : Geo G SL p q) (h : inB (x1 ||| ((1 : Int32) <<< (x2 &&& 31))) 1024 = true ∧ (((A 65 (x1 ||| ((1 : Int32) <<< (x2 &&& 31))).toNatClampNeg) = 0 → Q (.inl (some (.int 0))) (F, A, J, G)) ∧ (¬ (A 65 (x1 ||| ((1 : Int32) <<< (x2 &&& 31))).toNatClampNeg) = 0 → (((limB (F 12 1) (A 64 (x1 ||| ((1 : Int32) <<< (x2 &&& 31))).toNatClampNeg)) = true → ((((F 61 8) &&& ((1 : Int32) <<< (x2 &&& 31))) = 0 → inB ((F 61 7) &&& ((x1 ||| ((1 : Int32) <<< (x2 &&& 31))) ^^^ (-1))) 1024 = true ∧ inB x2 10 = true ∧ ((((F 61 7) &&& ((x1 ||| ((1 : Int32) <<< (x2 &&& 31))) ^^^ (-1))) = 0 → (((carS (A 13 x2.toNatClampNeg) (A 15 x2.toNatClampNeg) (F 27 2) 1) < ((A 63 ((F 61 7) &&& ((x1 ||| ((1 : Int32) <<< (x2 &&& 31))) ^^^ (-1))).toNatClampNeg) + (A 29 x2.toNatClampNeg)) → Q (.inl (some (.int 0))) (F, A, J, G)) ∧ (¬ (carS (A 13 x2.toNatClampNeg) (A 15 x2.toNatClampNeg) (F 27 2) 1) < ((A 63 ((F 61 7) &&& ((x1 ||| ((1 : Int32) <<< (x2 &&& 31))) ^^^ (-1))).toNatClampNeg) + (A 29 x2.toNatClampNeg)) → Q (.inl (some (.int (A 65 (x1 ||| ((1 : Int32) <<< (x2 &&& 31))).toNatClampNeg)))) (F, A, J, G)))) ∧ (¬ ((F 61 7) &&& ((x1 ||| ((1 : Int32) <<< (x2 &&& 31))) ^^^ (-1))) = 0 → (((carS (A 13 x2.toNatClampNeg) (A 15 x2.toNatClampNeg) (F 27 2) 0) < ((A 63 ((F 61 7) &&& ((x1 ||| ((1 : Int32) <<< (x2 &&& 31))) ^^^ (-1))).toNatClampNeg) + (A 29 x2.toNatClampNeg)) → Q (.inl (some (.int 0))) (F, A, J, G)) ∧ (¬ (carS (A 13 x2.toNatClampNeg) (A 15 x2.toNatClampNeg) (F 27 2) 0) < ((A 63 ((F 61 7) &&& ((x1 ||| ((1 : Int32) <<< (x2 &&& 31))) ^^^ (-1))).toNatClampNeg) + (A 29 x2.toNatClampNeg)) → Q (.inl (some (.int (A 65 (x1 ||| ((1 : Int32) <<< (x2 &&& 31))).toNatClampNeg)))) (F, A, J, G)))))) ∧ (¬ ((F 61 8) &&& ((1 : Int32) <<< (x2 &&& 31))) = 0 → inB x1 1024 = true ∧ (((nI (pcn x1.toNatClampNeg)) < (F 61 9) → Q (.inl (some (.int 0))) (F, A, J, G)) ∧ (¬ (nI (pcn x1.toNatClampNeg)) < (F 61 9) → inB ((F 61 7) &&& ((x1 ||| ((1 : Int32) <<< (x2 &&& 31))) ^^^ (-1))) 1024 = true ∧ inB x2 10 = true ∧ ((((F 61 7) &&& ((x1 ||| ((1 : Int32) <<< (x2 &&& 31))) ^^^ (-1))) = 0 → (((carS (A 13 x2.toNatClampNeg) (A 15 x2.toNatClampNeg) (F 27 2) 1) < ((A 63 ((F 61 7) &&& ((x1 ||| ((1 : Int32) <<< (x2 &&& 31))) ^^^ (-1))).toNatClampNeg) + (A 29 x2.toNatClampNeg)) → Q (.inl (some (.int 0))) (F, A, J, G)) ∧ (¬ (carS (A 13 x2.toNatClampNeg) (A 15 x2.toNatClampNeg) (F 27 2) 1) < ((A 63 ((F 61 7) &&& ((x1 ||| ((1 : Int32) <<< (x2 &&& 31))) ^^^ (-1))).toNatClampNeg) + (A 29 x2.toNatClampNeg)) → Q (.inl (some (.int (A 65 (x1 ||| ((1 : Int32) <<< (x2 &&& 31))).toNatClampNeg)))) (F, A, J, G)))) ∧ (¬ ((F 61 7) &&& ((x1 ||| ((1 : Int32) <<< (x2 &&& 31))) ^^^ (-1))) = 0 → (((carS (A 13 x2.toNatClampNeg) (A 15 x2.toNatClampNeg) (F 27 2) 0) < ((A 63 ((F 61 7) &&& ((x1 ||| ((1 : Int32) <<< (x2 &&& 31))) ^^^ (-1))).toNatClampNeg) + (A 29 x2.toNatClampNeg)) → Q (.inl (some (.int 0))) (F, A, J, G)) ∧ (¬ (carS (A 13 x2.toNatClampNeg) (A 15 x2.toNatClampNeg) (F 27 2) 0) < ((A 63 ((F 61 7) &&& ((x1 ||| ((1 : Int32) <<< (x2 &&& 31))) ^^^ (-1))).toNatClampNeg) + (A 29 x2.toNatClampNeg)) → Q (.inl (some (.int (A 65 (x1 ||| ((1 : Int32) <<< (x2 &&& 31))).toNatClampNeg)))) (F, A, J, G)))))))))) ∧ ((limB (F 12 1) (A 64 (x1 ||| ((1 : Int32) <<< (x2 &&& 31))).toNatClampNeg)) = false → Q (.inl (some (.int 0))) (F, A, J, G)))))) : X (d + 2) 25 0 [.ref 61, .int x1, .int x2, .null, .null, .null, .null] [] (F, A, J, G) Q := by
  refine Y_iconst (v := 1) i_25_0 (by decide) ?_
  refine Y_il2 i_25_1 ?_
  refine Y_ishl i_25_2 ?_
  refine Y_is3 i_25_3 rfl ?_
  refine Y_il1 i_25_4 ?_
  refine Y_il3 i_25_5 ?_
  refine Y_ior i_25_6 ?_
  refine Y_is4 i_25_7 rfl ?_
  refine Y_al0 i_25_9 ?_
  refine Y_gR i_25_10 ow_25 lf_2_21 (k_61 hG) (r_61_6 hG) ?_
  refine Y_il4 i_25_13 ?_
  have o1 := h.1
  replace h := h.2
  refine Y_iaload (k := (x1 ||| ((1 : Int32) <<< (x2 &&& 31))).toNatClampNeg) (v := (A 65 (x1 ||| ((1 : Int32) <<< (x2 &&& 31))).toNatClampNeg)) i_25_15 (k_65 hG) (l_65 hG) o1 rfl rfl ?_
  refine Y_zeq i_25_16 (fun e2 => ?_) (fun e2 => ?_)
  · replace h := h.1 e2
    refine Y_iconst (v := 0) i_25_36 (by decide) ?_
    exact Y_iret i_25_37 rt_25 h
  · replace h := h.2 e2
    refine Y_al0 i_25_19 ?_
    refine Y_gR i_25_20 ow_25 lf_2_24 (k_61 hG) (r_61_0 hG) ?_
    refine Y_al0 i_25_23 ?_
    refine Y_gR i_25_24 ow_25 lf_2_18 (k_61 hG) (r_61_5 hG) ?_
    refine Y_il4 i_25_27 ?_
    refine Y_iaload (k := (x1 ||| ((1 : Int32) <<< (x2 &&& 31))).toNatClampNeg) (v := (A 64 (x1 ||| ((1 : Int32) <<< (x2 &&& 31))).toNatClampNeg)) i_25_29 (k_64 hG) (l_64 hG) o1 rfl rfl ?_
    refine Y_iv1 (L0 := [.ref 12, .int (A 64 (x1 ||| ((1 : Int32) <<< (x2 &&& 31))).toNatClampNeg)]) i_25_30 ow_25 lm_2_101 ((k_12 hG).trans ow_103.symm) rfl mx_103 rfl rfl hd_25 ?_
    refine c_103 hG (KKi ?_)
    refine Y_bne i_25_33 (fun e3 => ?_) (fun e3 => ?_)
    · replace h := h.1 e3
      refine Y_al0 i_25_38 ?_
      refine Y_gI (v := (F 61 8)) i_25_39 ow_25 lf_2_95 (by decide) (k_61 hG) rfl ?_
      refine Y_il3 i_25_42 ?_
      refine Y_iand i_25_43 ?_
      refine Y_zeq i_25_44 (fun e4 => ?_) (fun e4 => ?_)
      · replace h := h.1 e4
        refine Y_al0 i_25_60 ?_
        refine Y_gI (v := (F 61 7)) i_25_61 ow_25 lf_2_79 (by decide) (k_61 hG) rfl ?_
        refine Y_il4 i_25_64 ?_
        refine Y_iconst (v := (-1)) i_25_66 (by decide) ?_
        refine Y_ixor i_25_67 ?_
        refine Y_iand i_25_68 ?_
        refine Y_is5 i_25_69 rfl ?_
        refine Y_al0 i_25_71 ?_
        refine Y_gR i_25_72 ow_25 lf_2_15 (k_61 hG) (r_61_4 hG) ?_
        refine Y_il5 i_25_75 ?_
        have o5 := h.1
        replace h := h.2
        refine Y_iaload (k := ((F 61 7) &&& ((x1 ||| ((1 : Int32) <<< (x2 &&& 31))) ^^^ (-1))).toNatClampNeg) (v := (A 63 ((F 61 7) &&& ((x1 ||| ((1 : Int32) <<< (x2 &&& 31))) ^^^ (-1))).toNatClampNeg)) i_25_77 (k_63 hG) (l_63 hG) o5 rfl rfl ?_
        refine Y_al0 i_25_78 ?_
        refine Y_gR i_25_79 ow_25 lf_2_28 (k_61 hG) (r_61_1 hG) ?_
        refine Y_gR i_25_82 ow_25 lf_2_56 (k_21 hG) (r_21_0 hG) ?_
        refine Y_gR i_25_85 ow_25 lf_2_89 (k_27 hG) (r_27_5 hG) ?_
        refine Y_il2 i_25_88 ?_
        have o6 := h.1
        replace h := h.2
        refine Y_iaload (k := x2.toNatClampNeg) (v := (A 29 x2.toNatClampNeg)) i_25_89 (k_29 hG) (l_29 hG) o6 rfl rfl ?_
        refine Y_iadd i_25_90 ?_
        refine Y_is6 i_25_91 rfl ?_
        refine Y_il6 i_25_93 ?_
        refine Y_al0 i_25_95 ?_
        refine Y_gR i_25_96 ow_25 lf_2_28 (k_61 hG) (r_61_1 hG) ?_
        refine Y_gR i_25_99 ow_25 lf_2_56 (k_21 hG) (r_21_0 hG) ?_
        refine Y_il2 i_25_102 ?_
        refine Y_il5 i_25_103 ?_
        refine Y_zne i_25_105 (fun e7 => ?_) (fun e7 => ?_)
        · replace h := h.1 e7
          refine Y_iconst (v := 1) i_25_108 (by decide) ?_
          refine Y_goto i_25_109 ?_
          refine Y_iv2 (L0 := [.ref 27, .int x2, .int 1, .null]) i_25_113 ow_25 lm_2_108 ((k_27 hG).trans ow_82.symm) rfl mx_82 rfl rfl hd_25 ?_
          refine c_82 hG tw_27 o6 (KKi ?_)
          refine Y_cgt i_25_116 (fun e8 => ?_) (fun e8 => ?_)
          · replace h := h.1 e8
            refine Y_iconst (v := 0) i_25_129 (by decide) ?_
            exact Y_iret i_25_130 rt_25 h
          · replace h := h.2 e8
            refine Y_al0 i_25_119 ?_
            refine Y_gR i_25_120 ow_25 lf_2_21 (k_61 hG) (r_61_6 hG) ?_
            refine Y_il4 i_25_123 ?_
            refine Y_iaload (k := (x1 ||| ((1 : Int32) <<< (x2 &&& 31))).toNatClampNeg) (v := (A 65 (x1 ||| ((1 : Int32) <<< (x2 &&& 31))).toNatClampNeg)) i_25_125 (k_65 hG) (l_65 hG) o1 rfl rfl ?_
            refine Y_goto i_25_126 ?_
            exact Y_iret i_25_130 rt_25 h
        · replace h := h.2 e7
          refine Y_iconst (v := 0) i_25_112 (by decide) ?_
          refine Y_iv2 (L0 := [.ref 27, .int x2, .int 0, .null]) i_25_113 ow_25 lm_2_108 ((k_27 hG).trans ow_82.symm) rfl mx_82 rfl rfl hd_25 ?_
          refine c_82 hG tw_27 o6 (KKi ?_)
          refine Y_cgt i_25_116 (fun e9 => ?_) (fun e9 => ?_)
          · replace h := h.1 e9
            refine Y_iconst (v := 0) i_25_129 (by decide) ?_
            exact Y_iret i_25_130 rt_25 h
          · replace h := h.2 e9
            refine Y_al0 i_25_119 ?_
            refine Y_gR i_25_120 ow_25 lf_2_21 (k_61 hG) (r_61_6 hG) ?_
            refine Y_il4 i_25_123 ?_
            refine Y_iaload (k := (x1 ||| ((1 : Int32) <<< (x2 &&& 31))).toNatClampNeg) (v := (A 65 (x1 ||| ((1 : Int32) <<< (x2 &&& 31))).toNatClampNeg)) i_25_125 (k_65 hG) (l_65 hG) o1 rfl rfl ?_
            refine Y_goto i_25_126 ?_
            exact Y_iret i_25_130 rt_25 h
      · replace h := h.2 e4
        refine Y_il1 i_25_47 ?_
        have o10 := h.1
        replace h := h.2
        refine Y_is_1 (L0 := [.int x1]) i_25_48 ow_25 lm_2_73 rfl mx_289 rfl rfl hd_25 ?_
        refine c_289 hG o10 (KKi ?_)
        refine Y_al0 i_25_51 ?_
        refine Y_gI (v := (F 61 9)) i_25_52 ow_25 lf_2_98 (by decide) (k_61 hG) rfl ?_
        refine Y_cge i_25_55 (fun e11 => ?_) (fun e11 => ?_)
        · replace h := h.1 e11
          refine Y_iconst (v := 0) i_25_58 (by decide) ?_
          exact Y_iret i_25_59 rt_25 h
        · replace h := h.2 e11
          refine Y_al0 i_25_60 ?_
          refine Y_gI (v := (F 61 7)) i_25_61 ow_25 lf_2_79 (by decide) (k_61 hG) rfl ?_
          refine Y_il4 i_25_64 ?_
          refine Y_iconst (v := (-1)) i_25_66 (by decide) ?_
          refine Y_ixor i_25_67 ?_
          refine Y_iand i_25_68 ?_
          refine Y_is5 i_25_69 rfl ?_
          refine Y_al0 i_25_71 ?_
          refine Y_gR i_25_72 ow_25 lf_2_15 (k_61 hG) (r_61_4 hG) ?_
          refine Y_il5 i_25_75 ?_
          have o12 := h.1
          replace h := h.2
          refine Y_iaload (k := ((F 61 7) &&& ((x1 ||| ((1 : Int32) <<< (x2 &&& 31))) ^^^ (-1))).toNatClampNeg) (v := (A 63 ((F 61 7) &&& ((x1 ||| ((1 : Int32) <<< (x2 &&& 31))) ^^^ (-1))).toNatClampNeg)) i_25_77 (k_63 hG) (l_63 hG) o12 rfl rfl ?_
          refine Y_al0 i_25_78 ?_
          refine Y_gR i_25_79 ow_25 lf_2_28 (k_61 hG) (r_61_1 hG) ?_
          refine Y_gR i_25_82 ow_25 lf_2_56 (k_21 hG) (r_21_0 hG) ?_
          refine Y_gR i_25_85 ow_25 lf_2_89 (k_27 hG) (r_27_5 hG) ?_
          refine Y_il2 i_25_88 ?_
          have o13 := h.1
          replace h := h.2
          refine Y_iaload (k := x2.toNatClampNeg) (v := (A 29 x2.toNatClampNeg)) i_25_89 (k_29 hG) (l_29 hG) o13 rfl rfl ?_
          refine Y_iadd i_25_90 ?_
          refine Y_is6 i_25_91 rfl ?_
          refine Y_il6 i_25_93 ?_
          refine Y_al0 i_25_95 ?_
          refine Y_gR i_25_96 ow_25 lf_2_28 (k_61 hG) (r_61_1 hG) ?_
          refine Y_gR i_25_99 ow_25 lf_2_56 (k_21 hG) (r_21_0 hG) ?_
          refine Y_il2 i_25_102 ?_
          refine Y_il5 i_25_103 ?_
          refine Y_zne i_25_105 (fun e14 => ?_) (fun e14 => ?_)
          · replace h := h.1 e14
            refine Y_iconst (v := 1) i_25_108 (by decide) ?_
            refine Y_goto i_25_109 ?_
            refine Y_iv2 (L0 := [.ref 27, .int x2, .int 1, .null]) i_25_113 ow_25 lm_2_108 ((k_27 hG).trans ow_82.symm) rfl mx_82 rfl rfl hd_25 ?_
            refine c_82 hG tw_27 o13 (KKi ?_)
            refine Y_cgt i_25_116 (fun e15 => ?_) (fun e15 => ?_)
            · replace h := h.1 e15
              refine Y_iconst (v := 0) i_25_129 (by decide) ?_
              exact Y_iret i_25_130 rt_25 h
            · replace h := h.2 e15
              refine Y_al0 i_25_119 ?_
              refine Y_gR i_25_120 ow_25 lf_2_21 (k_61 hG) (r_61_6 hG) ?_
              refine Y_il4 i_25_123 ?_
              refine Y_iaload (k := (x1 ||| ((1 : Int32) <<< (x2 &&& 31))).toNatClampNeg) (v := (A 65 (x1 ||| ((1 : Int32) <<< (x2 &&& 31))).toNatClampNeg)) i_25_125 (k_65 hG) (l_65 hG) o1 rfl rfl ?_
              refine Y_goto i_25_126 ?_
              exact Y_iret i_25_130 rt_25 h
          · replace h := h.2 e14
            refine Y_iconst (v := 0) i_25_112 (by decide) ?_
            refine Y_iv2 (L0 := [.ref 27, .int x2, .int 0, .null]) i_25_113 ow_25 lm_2_108 ((k_27 hG).trans ow_82.symm) rfl mx_82 rfl rfl hd_25 ?_
            refine c_82 hG tw_27 o13 (KKi ?_)
            refine Y_cgt i_25_116 (fun e16 => ?_) (fun e16 => ?_)
            · replace h := h.1 e16
              refine Y_iconst (v := 0) i_25_129 (by decide) ?_
              exact Y_iret i_25_130 rt_25 h
            · replace h := h.2 e16
              refine Y_al0 i_25_119 ?_
              refine Y_gR i_25_120 ow_25 lf_2_21 (k_61 hG) (r_61_6 hG) ?_
              refine Y_il4 i_25_123 ?_
              refine Y_iaload (k := (x1 ||| ((1 : Int32) <<< (x2 &&& 31))).toNatClampNeg) (v := (A 65 (x1 ||| ((1 : Int32) <<< (x2 &&& 31))).toNatClampNeg)) i_25_125 (k_65 hG) (l_65 hG) o1 rfl rfl ?_
              refine Y_goto i_25_126 ?_
              exact Y_iret i_25_130 rt_25 h
    · replace h := h.2 e3
      refine Y_iconst (v := 0) i_25_36 (by decide) ?_
      exact Y_iret i_25_37 rt_25 h
/- 26 Piles.mostCouples()I -/
theorem t_26_0 {d : Nat} {F A : Nat → Nat → Int32} {J : Nat → Nat → Int64} {G : pG} {Q : pR → pM → Prop} {SL p q : Nat} (hG : Geo G SL p q) (h : X (d + 4) 26 9 [.ref 61, .int 0, .null, .null] [] (F, (wF A 65 0 0), J, G) Q) : X (d + 4) 26 0 [.ref 61, .null, .null, .null] [] (F, A, J, G) Q := by
  refine Y_al0 i_26_0 ?_
  refine Y_gR i_26_1 ow_26 lf_2_21 (k_61 hG) (r_61_6 hG) ?_
  refine Y_iconst (v := 0) i_26_4 (by decide) ?_
  refine Y_iconst (v := 0) i_26_5 (by decide) ?_
  refine Y_iast (k := 0) i_26_6 (k_65 hG) (l_65 hG) (by decide) (by decide) ?_
  refine Y_iconst (v := 0) i_26_7 (by decide) ?_
  refine Y_is1 i_26_8 rfl ?_
  exact h
theorem t_26_9 {d : Nat} {F A : Nat → Nat → Int32} {J : Nat → Nat → Int64} {G : pG} {Q : pR → pM → Prop} {SL p q : Nat} {x1 : Int32} {v2 v3 : Value} (hG : Geo G SL p q) (h : ((x1 < (F 12 0) → X (d + 4) 26 26 [.ref 61, .int x1, .int ((1 : Int32) <<< (x1 &&& 31)), .int 0] [] (F, A, J, G) Q) ∧ (¬ x1 < (F 12 0) → inB (((1 : Int32) <<< ((F 12 0) &&& 31)) - 1) 1024 = true ∧ (Q (.inl (some (.int (A 65 (((1 : Int32) <<< ((F 12 0) &&& 31)) - 1).toNatClampNeg)))) (F, A, J, G))))) : X (d + 4) 26 9 [.ref 61, .int x1, v2, v3] [] (F, A, J, G) Q := by
  refine Y_il1 i_26_9 ?_
  refine Y_al0 i_26_10 ?_
  refine Y_gR i_26_11 ow_26 lf_2_24 (k_61 hG) (r_61_0 hG) ?_
  refine Y_gI (v := (F 12 0)) i_26_14 ow_26 lf_2_65 (by decide) (k_12 hG) rfl ?_
  refine Y_cge i_26_17 (fun e1 => ?_) (fun e1 => ?_)
  · replace h := h.1 e1
    refine Y_iconst (v := 1) i_26_20 (by decide) ?_
    refine Y_il1 i_26_21 ?_
    refine Y_ishl i_26_22 ?_
    refine Y_is2 i_26_23 rfl ?_
    refine Y_iconst (v := 0) i_26_24 (by decide) ?_
    refine Y_is3 i_26_25 rfl ?_
    exact h
  · replace h := h.2 e1
    refine Y_al0 i_26_57 ?_
    refine Y_gR i_26_58 ow_26 lf_2_21 (k_61 hG) (r_61_6 hG) ?_
    refine Y_al0 i_26_61 ?_
    refine Y_gR i_26_62 ow_26 lf_2_24 (k_61 hG) (r_61_0 hG) ?_
    refine Y_iv0 (L0 := [.ref 12]) i_26_65 ow_26 lm_2_70 ((k_12 hG).trans ow_100.symm) rfl mx_100 rfl rfl hd_26 ?_
    refine Y_iconst (v := 1) i_100_0 (by decide) ?_
    refine Y_al0 i_100_1 ?_
    refine Y_gI (v := (F 12 0)) i_100_2 ow_100 lf_7_37 (by decide) (k_12 hG) rfl ?_
    refine Y_ishl i_100_5 ?_
    refine Y_iconst (v := 1) i_100_6 (by decide) ?_
    refine Y_isub i_100_7 ?_
    refine Y_iret i_100_8 rt_100 (KKi ?_)
    have o2 := h.1
    replace h := h.2
    refine Y_iaload (k := (((1 : Int32) <<< ((F 12 0) &&& 31)) - 1).toNatClampNeg) (v := (A 65 (((1 : Int32) <<< ((F 12 0) &&& 31)) - 1).toNatClampNeg)) i_26_68 (k_65 hG) (l_65 hG) o2 rfl rfl ?_
    exact Y_iret i_26_69 rt_26 h
theorem t_26_26 {d : Nat} {F A : Nat → Nat → Int32} {J : Nat → Nat → Int64} {G : pG} {Q : pR → pM → Prop} {SL p q : Nat} {x1 x2 x3 : Int32} (hG : Geo G SL p q) (h : ((x3 < x2 → X (d + 3) 27 0 [.ref 61, .int x3, .int x1, .null, .null] [] (F, A, J, G) (KK (d + 4) 26 44 [.ref 61, .int x1, .int x2, .int x3] [.int (x3 ||| x2), .ref 65] Q)) ∧ (¬ x3 < x2 → X (d + 4) 26 9 [.ref 61, .int (x1 + 1), .int x2, .int x3] [] (F, A, J, G) Q))) : X (d + 4) 26 26 [.ref 61, .int x1, .int x2, .int x3] [] (F, A, J, G) Q := by
  refine Y_il3 i_26_26 ?_
  refine Y_il2 i_26_27 ?_
  refine Y_cge i_26_28 (fun e1 => ?_) (fun e1 => ?_)
  · replace h := h.1 e1
    refine Y_al0 i_26_31 ?_
    refine Y_gR i_26_32 ow_26 lf_2_21 (k_61 hG) (r_61_6 hG) ?_
    refine Y_il3 i_26_35 ?_
    refine Y_il2 i_26_36 ?_
    refine Y_ior i_26_37 ?_
    refine Y_al0 i_26_38 ?_
    refine Y_il3 i_26_39 ?_
    refine Y_il1 i_26_40 ?_
    exact Y_iv2 (L0 := [.ref 61, .int x3, .int x1, .null, .null]) i_26_41 ow_26 lm_2_112 ((k_61 hG).trans ow_27.symm) rfl mx_27 rfl rfl hd_26 h
  · replace h := h.2 e1
    refine Y_ii1 (v := 1) i_26_51 (by decide) rfl ?_
    refine Y_goto i_26_54 ?_
    exact h
theorem k_26_44 {d : Nat} {F A : Nat → Nat → Int32} {J : Nat → Nat → Int64} {G : pG} {Q : pR → pM → Prop} {SL p q : Nat} {x1 x2 x3 r s0 : Int32} (hG : Geo G SL p q) (h : inB s0 1024 = true ∧ (X (d + 4) 26 26 [.ref 61, .int x1, .int x2, .int (x3 + 1)] [] (F, (wF A 65 s0.toNatClampNeg r), J, G) Q)) : KK (d + 4) 26 44 [.ref 61, .int x1, .int x2, .int x3] [.int s0, .ref 65] Q (.inl (some (.int r))) (F, A, J, G) := by
  refine KKi ?_
  have o1 := h.1
  replace h := h.2
  refine Y_iast i_26_44 (k_65 hG) (l_65 hG) o1 rfl ?_
  refine Y_ii3 (v := 1) i_26_45 (by decide) rfl ?_
  refine Y_goto i_26_48 ?_
  exact h
/- 27 Piles.couplesWith(II)I -/
theorem t_27_0 {d : Nat} {F A : Nat → Nat → Int32} {J : Nat → Nat → Int64} {G : pG} {Q : pR → pM → Prop} {SL p q : Nat} {x1 x2 : Int32} (hG : Geo G SL p q) (h : inB x1 1024 = true ∧ (X (d + 3) 27 10 [.ref 61, .int x1, .int x2, .int (A 65 x1.toNatClampNeg), .int 0] [] (F, A, J, G) Q)) : X (d + 3) 27 0 [.ref 61, .int x1, .int x2, .null, .null] [] (F, A, J, G) Q := by
  refine Y_al0 i_27_0 ?_
  refine Y_gR i_27_1 ow_27 lf_2_21 (k_61 hG) (r_61_6 hG) ?_
  refine Y_il1 i_27_4 ?_
  have o1 := h.1
  replace h := h.2
  refine Y_iaload (k := x1.toNatClampNeg) (v := (A 65 x1.toNatClampNeg)) i_27_5 (k_65 hG) (l_65 hG) o1 rfl rfl ?_
  refine Y_is3 i_27_6 rfl ?_
  refine Y_iconst (v := 0) i_27_7 (by decide) ?_
  refine Y_is4 i_27_8 rfl ?_
  exact h
theorem t_27_10 {d : Nat} {F A : Nat → Nat → Int32} {J : Nat → Nat → Int64} {G : pG} {Q : pR → pM → Prop} {SL p q : Nat} {x1 x2 x3 x4 : Int32} (hG : Geo G SL p q) (h : ((x4 < x2 → ((((x1 >>> (x4 &&& 31)) &&& 1) = 0 → X (d + 3) 27 10 [.ref 61, .int x1, .int x2, .int x3, .int (x4 + 1)] [] (F, A, J, G) Q) ∧ (¬ ((x1 >>> (x4 &&& 31)) &&& 1) = 0 → inB x2 10 = true ∧ inB x4 10 = true ∧ (((marB (carS (A 13 x2.toNatClampNeg) (A 15 x2.toNatClampNeg) (F 27 2) 0) (A 14 x4.toNatClampNeg) (carS (A 13 x4.toNatClampNeg) (A 15 x4.toNatClampNeg) (F 27 2) 0) (A 14 x2.toNatClampNeg)) = true → inB (x1 &&& (((1 : Int32) <<< (x4 &&& 31)) ^^^ (-1))) 1024 = true ∧ (X (d + 3) 27 10 [.ref 61, .int x1, .int x2, .int (jmax x3 ((1 : Int32) + (A 65 (x1 &&& (((1 : Int32) <<< (x4 &&& 31)) ^^^ (-1))).toNatClampNeg))), .int (x4 + 1)] [] (F, A, J, G) Q)) ∧ ((marB (carS (A 13 x2.toNatClampNeg) (A 15 x2.toNatClampNeg) (F 27 2) 0) (A 14 x4.toNatClampNeg) (carS (A 13 x4.toNatClampNeg) (A 15 x4.toNatClampNeg) (F 27 2) 0) (A 14 x2.toNatClampNeg)) = false → X (d + 3) 27 10 [.ref 61, .int x1, .int x2, .int x3, .int (x4 + 1)] [] (F, A, J, G) Q))))) ∧ (¬ x4 < x2 → Q (.inl (some (.int x3))) (F, A, J, G)))) : X (d + 3) 27 10 [.ref 61, .int x1, .int x2, .int x3, .int x4] [] (F, A, J, G) Q := by
  refine Y_il4 i_27_10 ?_
  refine Y_il2 i_27_12 ?_
  refine Y_cge i_27_13 (fun e1 => ?_) (fun e1 => ?_)
  · replace h := h.1 e1
    refine Y_il1 i_27_16 ?_
    refine Y_il4 i_27_17 ?_
    refine Y_ishr i_27_19 ?_
    refine Y_iconst (v := 1) i_27_20 (by decide) ?_
    refine Y_iand i_27_21 ?_
    refine Y_zeq i_27_22 (fun e2 => ?_) (fun e2 => ?_)
    · replace h := h.1 e2
      refine Y_ii4 (v := 1) i_27_61 (by decide) rfl ?_
      refine Y_goto i_27_64 ?_
      exact h
    · replace h := h.2 e2
      refine Y_al0 i_27_25 ?_
      refine Y_gR i_27_26 ow_27 lf_2_28 (k_61 hG) (r_61_1 hG) ?_
      refine Y_gR i_27_29 ow_27 lf_2_56 (k_21 hG) (r_21_0 hG) ?_
      refine Y_il2 i_27_32 ?_
      refine Y_il4 i_27_33 ?_
      have o3 := h.1
      replace h := h.2
      have o4 := h.1
      replace h := h.2
      refine Y_iv2 (L0 := [.ref 27, .int x2, .int x4]) i_27_35 ow_27 lm_2_115 ((k_27 hG).trans ow_96.symm) rfl mx_96 rfl rfl hd_27 ?_
      refine c_96 hG tw_27 o3 o4 (KKi ?_)
      refine Y_beq i_27_38 (fun e5 => ?_) (fun e5 => ?_)
      · replace h := h.1 e5
        refine Y_il3 i_27_41 ?_
        refine Y_iconst (v := 1) i_27_42 (by decide) ?_
        refine Y_al0 i_27_43 ?_
        refine Y_gR i_27_44 ow_27 lf_2_21 (k_61 hG) (r_61_6 hG) ?_
        refine Y_il1 i_27_47 ?_
        refine Y_iconst (v := 1) i_27_48 (by decide) ?_
        refine Y_il4 i_27_49 ?_
        refine Y_ishl i_27_51 ?_
        refine Y_iconst (v := (-1)) i_27_52 (by decide) ?_
        refine Y_ixor i_27_53 ?_
        refine Y_iand i_27_54 ?_
        have o6 := h.1
        replace h := h.2
        refine Y_iaload (k := (x1 &&& (((1 : Int32) <<< (x4 &&& 31)) ^^^ (-1))).toNatClampNeg) (v := (A 65 (x1 &&& (((1 : Int32) <<< (x4 &&& 31)) ^^^ (-1))).toNatClampNeg)) i_27_55 (k_65 hG) (l_65 hG) o6 rfl rfl ?_
        refine Y_iadd i_27_56 ?_
        refine Y_max i_27_57 ow_27 lm_2_119 rfl ?_
        refine Y_is3 i_27_60 rfl ?_
        refine Y_ii4 (v := 1) i_27_61 (by decide) rfl ?_
        refine Y_goto i_27_64 ?_
        exact h
      · replace h := h.2 e5
        refine Y_ii4 (v := 1) i_27_61 (by decide) rfl ?_
        refine Y_goto i_27_64 ?_
        exact h
  · replace h := h.2 e1
    refine Y_il3 i_27_67 ?_
    exact Y_iret i_27_68 rt_27 h
/- 29 Reader.read(I)I -/
theorem t_29_0 {d : Nat} {F A : Nat → Nat → Int32} {J : Nat → Nat → Int64} {G : pG} {Q : pR → pM → Prop} {SL p q : Nat} {x1 : Int32} (hG : Geo G SL p q) (h : X (d + 4) 49 0 [.ref 11] [] ((wF (wF (wF (wF (wF (wF (wF (wF (wF (wF F 11 3 (jmin x1 600)) 2 0 0) 2 1 9) 2 2 100) 8 1 0) 11 9 0) 11 10 0) 11 8 0) 11 0 (-1)) 11 6 0), A, J, G) (KK (d + 5) 29 49 [.ref 11, .int x1, .null] [] Q)) : X (d + 5) 29 0 [.ref 11, .int x1, .null] [] (F, A, J, G) Q := by
  refine Y_al0 i_29_0 ?_
  refine Y_il1 i_29_1 ?_
  refine Y_al0 i_29_2 ?_
  refine Y_gR i_29_3 ow_29 lf_3_9 (k_11 hG) (r_11_1 hG) ?_
  refine Y_alen (v := 600) i_29_6 (Or.inr (Or.inl (k_1 hG))) (l_1 hG) (by decide) ?_
  refine Y_min i_29_7 ow_29 lm_3_19 rfl ?_
  refine Y_pI i_29_10 ow_29 lf_3_25 (k_11 hG) ?_
  refine Y_al0 i_29_13 ?_
  refine Y_gR i_29_14 ow_29 lf_3_15 (k_11 hG) (r_11_2 hG) ?_
  refine Y_iv0 (L0 := [.ref 2]) i_29_17 ow_29 lm_3_29 ((k_2 hG).trans ow_98.symm) rfl mx_98 rfl rfl hd_29 ?_
  refine Y_al0 i_98_0 ?_
  refine Y_iconst (v := 0) i_98_1 (by decide) ?_
  refine Y_pI i_98_2 ow_98 lf_7_37 (k_2 hG) ?_
  refine Y_al0 i_98_5 ?_
  refine Y_bipush (v := 9) i_98_6 (by decide) ?_
  refine Y_pI i_98_8 ow_98 lf_7_41 (k_2 hG) ?_
  refine Y_al0 i_98_11 ?_
  refine Y_bipush (v := 100) i_98_12 (by decide) ?_
  refine Y_pI i_98_14 ow_98 lf_7_44 (k_2 hG) ?_
  refine Y_al0 i_98_17 ?_
  refine Y_gR i_98_18 ow_98 lf_7_30 (k_2 hG) (r_2_8 hG) ?_
  refine Y_iconst (v := 0) i_98_21 (by decide) ?_
  refine Y_pI i_98_22 ow_98 lf_7_47 (k_8 hG) ?_
  refine Y_vret i_98_25 rt_98 (KKv ?_)
  refine Y_al0 i_29_20 ?_
  refine Y_iconst (v := 0) i_29_21 (by decide) ?_
  refine Y_pB i_29_22 ow_29 lf_3_34 (k_11 hG) (by decide) ?_
  refine Y_al0 i_29_25 ?_
  refine Y_iconst (v := 0) i_29_26 (by decide) ?_
  refine Y_pB i_29_27 ow_29 lf_3_38 (k_11 hG) (by decide) ?_
  refine Y_al0 i_29_30 ?_
  refine Y_iconst (v := 0) i_29_31 (by decide) ?_
  refine Y_pI i_29_32 ow_29 lf_3_41 (k_11 hG) ?_
  refine Y_al0 i_29_35 ?_
  refine Y_iconst (v := (-1)) i_29_36 (by decide) ?_
  refine Y_pI i_29_37 ow_29 lf_3_44 (k_11 hG) ?_
  refine Y_al0 i_29_40 ?_
  refine Y_iconst (v := 0) i_29_41 (by decide) ?_
  refine Y_pI i_29_42 ow_29 lf_3_47 (k_11 hG) ?_
  refine Y_al0 i_29_45 ?_
  exact Y_iv0 (L0 := [.ref 11]) i_29_46 ow_29 lm_3_50 ((k_11 hG).trans ow_49.symm) rfl mx_49 rfl rfl hd_29 h
theorem k_29_49 {d : Nat} {F A : Nat → Nat → Int32} {J : Nat → Nat → Int64} {G : pG} {Q : pR → pM → Prop} {SL p q : Nat} {x1 : Int32} (hG : Geo G SL p q) (h : X (d + 5) 29 51 [.ref 11, .int x1, .int 0] [] (F, A, J, G) Q) : KK (d + 5) 29 49 [.ref 11, .int x1, .null] [] Q (.inl none) (F, A, J, G) := by
  refine KKv ?_
  refine Y_iconst (v := 0) i_29_49 (by decide) ?_
  refine Y_is2 i_29_50 rfl ?_
  exact h
theorem t_29_51 {d : Nat} {F A : Nat → Nat → Int32} {J : Nat → Nat → Int64} {G : pG} {Q : pR → pM → Prop} {SL p q : Nat} {x1 x2 : Int32} (hG : Geo G SL p q) (h : ((x2 < 600 → (((F 11 4) = 0 → Q (.inl (some (.int 0))) (F, A, J, G)) ∧ (¬ (F 11 4) = 0 → X (d + 4) 30 0 [.ref 11, .null] [] (F, A, J, G) (KK (d + 5) 29 69 [.ref 11, .int x1, .int x2] [] Q)))) ∧ (¬ x2 < 600 → Q (.inl (some (.int 0))) (F, A, J, G)))) : X (d + 5) 29 51 [.ref 11, .int x1, .int x2] [] (F, A, J, G) Q := by
  refine Y_il2 i_29_51 ?_
  refine Y_sipush (v := 600) i_29_52 (by decide) ?_
  refine Y_cge i_29_55 (fun e1 => ?_) (fun e1 => ?_)
  · replace h := h.1 e1
    refine Y_al0 i_29_58 ?_
    refine Y_gI (v := (F 11 4)) i_29_59 ow_29 lf_3_53 (by decide) (k_11 hG) rfl ?_
    refine Y_zeq i_29_62 (fun e2 => ?_) (fun e2 => ?_)
    · replace h := h.1 e2
      refine Y_iconst (v := 0) i_29_83 (by decide) ?_
      exact Y_iret i_29_84 rt_29 h
    · replace h := h.2 e2
      refine Y_al0 i_29_65 ?_
      exact Y_iv0 (L0 := [.ref 11, .null]) i_29_66 ow_29 lm_3_56 ((k_11 hG).trans ow_30.symm) rfl mx_30 rfl rfl hd_29 h
  · replace h := h.2 e1
    refine Y_iconst (v := 0) i_29_83 (by decide) ?_
    exact Y_iret i_29_84 rt_29 h
theorem k_29_69 {d : Nat} {F A : Nat → Nat → Int32} {J : Nat → Nat → Int64} {G : pG} {Q : pR → pM → Prop} {SL p q : Nat} {x1 x2 r : Int32} (hG : Geo G SL p q) (h : ((r = 0 → Q (.inl (some (.int (F 11 8)))) (F, A, J, G)) ∧ (¬ r = 0 → X (d + 5) 29 51 [.ref 11, .int x1, .int (x2 + 1)] [] (F, A, J, G) Q))) : KK (d + 5) 29 69 [.ref 11, .int x1, .int x2] [] Q (.inl (some (.int r))) (F, A, J, G) := by
  refine KKi ?_
  refine Y_zne i_29_69 (fun e1 => ?_) (fun e1 => ?_)
  · replace h := h.1 e1
    refine Y_al0 i_29_72 ?_
    refine Y_gI (v := (F 11 8)) i_29_73 ow_29 lf_3_41 (by decide) (k_11 hG) rfl ?_
    exact Y_iret i_29_76 rt_29 h
  · replace h := h.2 e1
    refine Y_ii2 (v := 1) i_29_77 (by decide) rfl ?_
    refine Y_goto i_29_80 ?_
    exact h
/- 30 Reader.line()Z -/
theorem t_30_0 {d : Nat} {F A : Nat → Nat → Int32} {J : Nat → Nat → Int64} {G : pG} {Q : pR → pM → Prop} {SL p q : Nat} (hG : Geo G SL p q) (h : X (d + 3) 44 0 [.ref 11] [] (F, A, J, G) (KK (d + 4) 30 4 [.ref 11, .null] [] Q)) : X (d + 4) 30 0 [.ref 11, .null] [] (F, A, J, G) Q := by
  refine Y_al0 i_30_0 ?_
  exact Y_iv0 (L0 := [.ref 11]) i_30_1 ow_30 lm_3_60 ((k_11 hG).trans ow_44.symm) rfl mx_44 rfl rfl hd_30 h
theorem k_30_4 {d : Nat} {F A : Nat → Nat → Int32} {J : Nat → Nat → Int64} {G : pG} {Q : pR → pM → Prop} {SL p q : Nat} {r : Int32} (hG : Geo G SL p q) (h : ((r = (-1) → X (d + 3) 46 0 [.ref 11, .ref 1006, .null] [] (F, A, J, G) (KK (d + 4) 30 37 [.ref 11, .int r] [] Q)) ∧ (¬ r = (-1) → X (d + 3) 31 0 [.ref 11, .int r, .null, .null, .null, .null, .null, .null] [] (F, A, J, G) (KK (d + 4) 30 15 [.ref 11, .int r] [] Q)))) : KK (d + 4) 30 4 [.ref 11, .null] [] Q (.inl (some (.int r))) (F, A, J, G) := by
  refine KKi ?_
  refine Y_is1 i_30_4 rfl ?_
  refine Y_il1 i_30_5 ?_
  refine Y_iconst (v := (-1)) i_30_6 (by decide) ?_
  refine Y_ceq i_30_7 (fun e1 => ?_) (fun e1 => ?_)
  · replace h := h.1 e1
    refine Y_al0 i_30_31 ?_
    refine Y_ldcS (r := 1006) i_30_32 ow_30 li_3_71 ls_3_71 rfl ?_
    exact Y_iv1 (L0 := [.ref 11, .ref 1006, .null]) i_30_34 ow_30 lm_3_73 ((k_11 hG).trans ow_46.symm) rfl mx_46 rfl rfl hd_30 h
  · replace h := h.2 e1
    refine Y_al0 i_30_10 ?_
    refine Y_il1 i_30_11 ?_
    exact Y_iv1 (L0 := [.ref 11, .int r, .null, .null, .null, .null, .null, .null]) i_30_12 ow_30 lm_3_64 ((k_11 hG).trans ow_31.symm) rfl mx_31 rfl rfl hd_30 h
theorem k_30_15 {d : Nat} {F A : Nat → Nat → Int32} {J : Nat → Nat → Int64} {G : pG} {Q : pR → pM → Prop} {SL p q : Nat} {x1 r : Int32} (hG : Geo G SL p q) (h : ((r = 0 → Q (.inl (some (.int 0))) (F, A, J, G)) ∧ (¬ r = 0 → X (d + 3) 35 0 [.ref 11] [] (F, A, J, G) (KK (d + 4) 30 22 [.ref 11, .int x1] [] Q)))) : KK (d + 4) 30 15 [.ref 11, .int x1] [] Q (.inl (some (.int r))) (F, A, J, G) := by
  refine KKi ?_
  refine Y_zeq i_30_15 (fun e1 => ?_) (fun e1 => ?_)
  · replace h := h.1 e1
    refine Y_iconst (v := 0) i_30_29 (by decide) ?_
    exact Y_bret i_30_30 rt_30 (by decide) h
  · replace h := h.2 e1
    refine Y_al0 i_30_18 ?_
    exact Y_iv0 (L0 := [.ref 11]) i_30_19 ow_30 lm_3_68 ((k_11 hG).trans ow_35.symm) rfl mx_35 rfl rfl hd_30 h
theorem k_30_22 {d : Nat} {F A : Nat → Nat → Int32} {J : Nat → Nat → Int64} {G : pG} {Q : pR → pM → Prop} {SL p q : Nat} {x1 r : Int32} (hG : Geo G SL p q) (h : ((r = 0 → Q (.inl (some (.int 0))) (F, A, J, G)) ∧ (¬ r = 0 → Q (.inl (some (.int 1))) (F, A, J, G)))) : KK (d + 4) 30 22 [.ref 11, .int x1] [] Q (.inl (some (.int r))) (F, A, J, G) := by
  refine KKi ?_
  refine Y_zeq i_30_22 (fun e1 => ?_) (fun e1 => ?_)
  · replace h := h.1 e1
    refine Y_iconst (v := 0) i_30_29 (by decide) ?_
    exact Y_bret i_30_30 rt_30 (by decide) h
  · replace h := h.2 e1
    refine Y_iconst (v := 1) i_30_25 (by decide) ?_
    refine Y_goto i_30_26 ?_
    exact Y_bret i_30_30 rt_30 (by decide) h
theorem k_30_37 {d : Nat} {F A : Nat → Nat → Int32} {J : Nat → Nat → Int64} {G : pG} {Q : pR → pM → Prop} {SL p q : Nat} {x1 r : Int32} (hG : Geo G SL p q) (h : ((r = 0 → X (d + 3) 46 0 [.ref 11, .ref 1007, .null] [] (F, A, J, G) (KK (d + 4) 30 66 [.ref 11, .int x1] [] Q)) ∧ (¬ r = 0 → X (d + 3) 32 0 [.ref 11] [] (F, A, J, G) (KK (d + 4) 30 44 [.ref 11, .int x1] [] Q)))) : KK (d + 4) 30 37 [.ref 11, .int x1] [] Q (.inl (some (.int r))) (F, A, J, G) := by
  refine KKi ?_
  refine Y_zeq i_30_37 (fun e1 => ?_) (fun e1 => ?_)
  · replace h := h.1 e1
    refine Y_al0 i_30_60 ?_
    refine Y_ldcS (r := 1007) i_30_61 ow_30 li_3_80 ls_3_80 rfl ?_
    exact Y_iv1 (L0 := [.ref 11, .ref 1007, .null]) i_30_63 ow_30 lm_3_73 ((k_11 hG).trans ow_46.symm) rfl mx_46 rfl rfl hd_30 h
  · replace h := h.2 e1
    refine Y_al0 i_30_40 ?_
    exact Y_iv0 (L0 := [.ref 11]) i_30_41 ow_30 lm_3_77 ((k_11 hG).trans ow_32.symm) rfl mx_32 rfl rfl hd_30 h
theorem k_30_44 {d : Nat} {F A : Nat → Nat → Int32} {J : Nat → Nat → Int64} {G : pG} {Q : pR → pM → Prop} {SL p q : Nat} {x1 r : Int32} (hG : Geo G SL p q) (h : ((r = 0 → Q (.inl (some (.int 0))) (F, A, J, G)) ∧ (¬ r = 0 → X (d + 3) 35 0 [.ref 11] [] (F, A, J, G) (KK (d + 4) 30 51 [.ref 11, .int x1] [] Q)))) : KK (d + 4) 30 44 [.ref 11, .int x1] [] Q (.inl (some (.int r))) (F, A, J, G) := by
  refine KKi ?_
  refine Y_zeq i_30_44 (fun e1 => ?_) (fun e1 => ?_)
  · replace h := h.1 e1
    refine Y_iconst (v := 0) i_30_58 (by decide) ?_
    exact Y_bret i_30_59 rt_30 (by decide) h
  · replace h := h.2 e1
    refine Y_al0 i_30_47 ?_
    exact Y_iv0 (L0 := [.ref 11]) i_30_48 ow_30 lm_3_68 ((k_11 hG).trans ow_35.symm) rfl mx_35 rfl rfl hd_30 h
theorem k_30_51 {d : Nat} {F A : Nat → Nat → Int32} {J : Nat → Nat → Int64} {G : pG} {Q : pR → pM → Prop} {SL p q : Nat} {x1 r : Int32} (hG : Geo G SL p q) (h : ((r = 0 → Q (.inl (some (.int 0))) (F, A, J, G)) ∧ (¬ r = 0 → Q (.inl (some (.int 1))) (F, A, J, G)))) : KK (d + 4) 30 51 [.ref 11, .int x1] [] Q (.inl (some (.int r))) (F, A, J, G) := by
  refine KKi ?_
  refine Y_zeq i_30_51 (fun e1 => ?_) (fun e1 => ?_)
  · replace h := h.1 e1
    refine Y_iconst (v := 0) i_30_58 (by decide) ?_
    exact Y_bret i_30_59 rt_30 (by decide) h
  · replace h := h.2 e1
    refine Y_iconst (v := 1) i_30_54 (by decide) ?_
    refine Y_goto i_30_55 ?_
    exact Y_bret i_30_59 rt_30 (by decide) h
theorem k_30_66 {d : Nat} {F A : Nat → Nat → Int32} {J : Nat → Nat → Int64} {G : pG} {Q : pR → pM → Prop} {SL p q : Nat} {x1 r : Int32} (hG : Geo G SL p q) (h : ((r = 0 → X (d + 3) 46 0 [.ref 11, .ref 1008, .null] [] (F, A, J, G) (KK (d + 4) 30 95 [.ref 11, .int x1] [] Q)) ∧ (¬ r = 0 → X (d + 3) 33 0 [.ref 11] [] (F, A, J, G) (KK (d + 4) 30 73 [.ref 11, .int x1] [] Q)))) : KK (d + 4) 30 66 [.ref 11, .int x1] [] Q (.inl (some (.int r))) (F, A, J, G) := by
  refine KKi ?_
  refine Y_zeq i_30_66 (fun e1 => ?_) (fun e1 => ?_)
  · replace h := h.1 e1
    refine Y_al0 i_30_89 ?_
    refine Y_ldcS (r := 1008) i_30_90 ow_30 li_3_85 ls_3_85 rfl ?_
    exact Y_iv1 (L0 := [.ref 11, .ref 1008, .null]) i_30_92 ow_30 lm_3_73 ((k_11 hG).trans ow_46.symm) rfl mx_46 rfl rfl hd_30 h
  · replace h := h.2 e1
    refine Y_al0 i_30_69 ?_
    exact Y_iv0 (L0 := [.ref 11]) i_30_70 ow_30 lm_3_82 ((k_11 hG).trans ow_33.symm) rfl mx_33 rfl rfl hd_30 h
theorem k_30_73 {d : Nat} {F A : Nat → Nat → Int32} {J : Nat → Nat → Int64} {G : pG} {Q : pR → pM → Prop} {SL p q : Nat} {x1 r : Int32} (hG : Geo G SL p q) (h : ((r = 0 → Q (.inl (some (.int 0))) (F, A, J, G)) ∧ (¬ r = 0 → X (d + 3) 35 0 [.ref 11] [] (F, A, J, G) (KK (d + 4) 30 80 [.ref 11, .int x1] [] Q)))) : KK (d + 4) 30 73 [.ref 11, .int x1] [] Q (.inl (some (.int r))) (F, A, J, G) := by
  refine KKi ?_
  refine Y_zeq i_30_73 (fun e1 => ?_) (fun e1 => ?_)
  · replace h := h.1 e1
    refine Y_iconst (v := 0) i_30_87 (by decide) ?_
    exact Y_bret i_30_88 rt_30 (by decide) h
  · replace h := h.2 e1
    refine Y_al0 i_30_76 ?_
    exact Y_iv0 (L0 := [.ref 11]) i_30_77 ow_30 lm_3_68 ((k_11 hG).trans ow_35.symm) rfl mx_35 rfl rfl hd_30 h
theorem k_30_80 {d : Nat} {F A : Nat → Nat → Int32} {J : Nat → Nat → Int64} {G : pG} {Q : pR → pM → Prop} {SL p q : Nat} {x1 r : Int32} (hG : Geo G SL p q) (h : ((r = 0 → Q (.inl (some (.int 0))) (F, A, J, G)) ∧ (¬ r = 0 → Q (.inl (some (.int 1))) (F, A, J, G)))) : KK (d + 4) 30 80 [.ref 11, .int x1] [] Q (.inl (some (.int r))) (F, A, J, G) := by
  refine KKi ?_
  refine Y_zeq i_30_80 (fun e1 => ?_) (fun e1 => ?_)
  · replace h := h.1 e1
    refine Y_iconst (v := 0) i_30_87 (by decide) ?_
    exact Y_bret i_30_88 rt_30 (by decide) h
  · replace h := h.2 e1
    refine Y_iconst (v := 1) i_30_83 (by decide) ?_
    refine Y_goto i_30_84 ?_
    exact Y_bret i_30_88 rt_30 (by decide) h
theorem k_30_95 {d : Nat} {F A : Nat → Nat → Int32} {J : Nat → Nat → Int64} {G : pG} {Q : pR → pM → Prop} {SL p q : Nat} {x1 r : Int32} (hG : Geo G SL p q) (h : ((r = 0 → Q (.inl (some (.int 0))) ((wF (wF F 11 8 1) 11 0 (F 11 5)), A, J, G)) ∧ (¬ r = 0 → X (d + 3) 34 0 [.ref 11] [] (F, A, J, G) (KK (d + 4) 30 102 [.ref 11, .int x1] [] Q)))) : KK (d + 4) 30 95 [.ref 11, .int x1] [] Q (.inl (some (.int r))) (F, A, J, G) := by
  refine KKi ?_
  refine Y_zeq i_30_95 (fun e1 => ?_) (fun e1 => ?_)
  · replace h := h.1 e1
    refine Y_al0 i_30_118 ?_
    refine Y_iconst (v := 1) i_30_119 (by decide) ?_
    refine Y_iv1 (L0 := [.ref 11, .int 1]) i_30_120 ow_30 lm_3_90 ((k_11 hG).trans ow_48.symm) rfl mx_48 rfl rfl hd_30 ?_
    refine Y_al0 i_48_0 ?_
    refine Y_il1 i_48_1 ?_
    refine Y_pI i_48_2 ow_48 lf_3_41 (k_11 hG) ?_
    refine Y_al0 i_48_5 ?_
    refine Y_al0 i_48_6 ?_
    refine Y_gI (v := (F 11 5)) i_48_7 ow_48 lf_3_158 (by decide) (k_11 hG) (by simp [wF, wJ, va_up, cpR, bF, bA]) ?_
    refine Y_pI i_48_10 ow_48 lf_3_44 (k_11 hG) ?_
    refine Y_iconst (v := 0) i_48_13 (by decide) ?_
    refine Y_bret i_48_14 rt_48 (by decide) (KKi ?_)
    exact Y_bret i_30_123 rt_30 (by decide) h
  · replace h := h.2 e1
    refine Y_al0 i_30_98 ?_
    exact Y_iv0 (L0 := [.ref 11]) i_30_99 ow_30 lm_3_87 ((k_11 hG).trans ow_34.symm) rfl mx_34 rfl rfl hd_30 h
theorem k_30_102 {d : Nat} {F A : Nat → Nat → Int32} {J : Nat → Nat → Int64} {G : pG} {Q : pR → pM → Prop} {SL p q : Nat} {x1 r : Int32} (hG : Geo G SL p q) (h : ((r = 0 → Q (.inl (some (.int 0))) (F, A, J, G)) ∧ (¬ r = 0 → X (d + 3) 35 0 [.ref 11] [] (F, A, J, G) (KK (d + 4) 30 109 [.ref 11, .int x1] [] Q)))) : KK (d + 4) 30 102 [.ref 11, .int x1] [] Q (.inl (some (.int r))) (F, A, J, G) := by
  refine KKi ?_
  refine Y_zeq i_30_102 (fun e1 => ?_) (fun e1 => ?_)
  · replace h := h.1 e1
    refine Y_iconst (v := 0) i_30_116 (by decide) ?_
    exact Y_bret i_30_117 rt_30 (by decide) h
  · replace h := h.2 e1
    refine Y_al0 i_30_105 ?_
    exact Y_iv0 (L0 := [.ref 11]) i_30_106 ow_30 lm_3_68 ((k_11 hG).trans ow_35.symm) rfl mx_35 rfl rfl hd_30 h
theorem k_30_109 {d : Nat} {F A : Nat → Nat → Int32} {J : Nat → Nat → Int64} {G : pG} {Q : pR → pM → Prop} {SL p q : Nat} {x1 r : Int32} (hG : Geo G SL p q) (h : ((r = 0 → Q (.inl (some (.int 0))) (F, A, J, G)) ∧ (¬ r = 0 → Q (.inl (some (.int 1))) (F, A, J, G)))) : KK (d + 4) 30 109 [.ref 11, .int x1] [] Q (.inl (some (.int r))) (F, A, J, G) := by
  refine KKi ?_
  refine Y_zeq i_30_109 (fun e1 => ?_) (fun e1 => ?_)
  · replace h := h.1 e1
    refine Y_iconst (v := 0) i_30_116 (by decide) ?_
    exact Y_bret i_30_117 rt_30 (by decide) h
  · replace h := h.2 e1
    refine Y_iconst (v := 1) i_30_112 (by decide) ?_
    refine Y_goto i_30_113 ?_
    exact Y_bret i_30_117 rt_30 (by decide) h
/- 31 Reader.tableLine(I)Z -/
theorem t_31_0 {d : Nat} {F A : Nat → Nat → Int32} {J : Nat → Nat → Int64} {G : pG} {Q : pR → pM → Prop} {SL p q : Nat} {x1 : Int32} (hG : Geo G SL p q) (h : (((F 2 0) < 10 → X (d + 2) 49 0 [.ref 11] [] (F, A, J, G) (KK (d + 3) 31 24 [.ref 11, .int x1, .int (F 2 0), .null, .null, .null, .null, .null] [] Q)) ∧ (¬ (F 2 0) < 10 → Q (.inl (some (.int 0))) ((wF (wF F 11 8 2) 11 0 (F 11 5)), A, J, G)))) : X (d + 3) 31 0 [.ref 11, .int x1, .null, .null, .null, .null, .null, .null] [] (F, A, J, G) Q := by
  refine Y_al0 i_31_0 ?_
  refine Y_gR i_31_1 ow_31 lf_3_15 (k_11 hG) (r_11_2 hG) ?_
  refine Y_gI (v := (F 2 0)) i_31_4 ow_31 lf_3_93 (by decide) (k_2 hG) rfl ?_
  refine Y_is2 i_31_7 rfl ?_
  refine Y_il2 i_31_8 ?_
  refine Y_bipush (v := 10) i_31_9 (by decide) ?_
  refine Y_clt i_31_11 (fun e1 => ?_) (fun e1 => ?_)
  · replace h := h.1 e1
    refine Y_al0 i_31_20 ?_
    exact Y_iv0 (L0 := [.ref 11]) i_31_21 ow_31 lm_3_50 ((k_11 hG).trans ow_49.symm) rfl mx_49 rfl rfl hd_31 h
  · replace h := h.2 e1
    refine Y_al0 i_31_14 ?_
    refine Y_iconst (v := 2) i_31_15 (by decide) ?_
    refine Y_iv1 (L0 := [.ref 11, .int 2]) i_31_16 ow_31 lm_3_90 ((k_11 hG).trans ow_48.symm) rfl mx_48 rfl rfl hd_31 ?_
    refine Y_al0 i_48_0 ?_
    refine Y_il1 i_48_1 ?_
    refine Y_pI i_48_2 ow_48 lf_3_41 (k_11 hG) ?_
    refine Y_al0 i_48_5 ?_
    refine Y_al0 i_48_6 ?_
    refine Y_gI (v := (F 11 5)) i_48_7 ow_48 lf_3_158 (by decide) (k_11 hG) (by simp [wF, wJ, va_up, cpR, bF, bA]) ?_
    refine Y_pI i_48_10 ow_48 lf_3_44 (k_11 hG) ?_
    refine Y_iconst (v := 0) i_48_13 (by decide) ?_
    refine Y_bret i_48_14 rt_48 (by decide) (KKi ?_)
    exact Y_bret i_31_19 rt_31 (by decide) h
theorem k_31_24 {d : Nat} {F A : Nat → Nat → Int32} {J : Nat → Nat → Int64} {G : pG} {Q : pR → pM → Prop} {SL p q : Nat} {x1 x2 : Int32} (hG : Geo G SL p q) (h : X (d + 2) 43 0 [.ref 11, .int 1, .int 99, .null] [] (F, A, J, G) (KK (d + 3) 31 31 [.ref 11, .int x1, .int x2, .null, .null, .null, .null, .null] [] Q)) : KK (d + 3) 31 24 [.ref 11, .int x1, .int x2, .null, .null, .null, .null, .null] [] Q (.inl none) (F, A, J, G) := by
  refine KKv ?_
  refine Y_al0 i_31_24 ?_
  refine Y_iconst (v := 1) i_31_25 (by decide) ?_
  refine Y_bipush (v := 99) i_31_26 (by decide) ?_
  exact Y_iv2 (L0 := [.ref 11, .int 1, .int 99, .null]) i_31_28 ow_31 lm_3_96 ((k_11 hG).trans ow_43.symm) rfl mx_43 rfl rfl hd_31 h
theorem k_31_31 {d : Nat} {F A : Nat → Nat → Int32} {J : Nat → Nat → Int64} {G : pG} {Q : pR → pM → Prop} {SL p q : Nat} {x1 x2 r : Int32} (hG : Geo G SL p q) (h : (((F 11 8) = 0 → X (d + 2) 43 0 [.ref 11, .int 0, .int 999, .null] [] (F, A, J, G) (KK (d + 3) 31 47 [.ref 11, .int x1, .int x2, .int r, .null, .null, .null, .null] [] Q)) ∧ (¬ (F 11 8) = 0 → (((F 11 8) = 0 → (((F 11 4) = 4 → inB (F 11 5) 600 = true ∧ (((A 1 (F 11 5).toNatClampNeg) = 45 → X (d + 2) 49 0 [.ref 11] [] (F, A, J, G) (KK (d + 3) 31 85 [.ref 11, .int x1, .int x2, .int r, .int (-1), .int (-1), .null, .null] [] Q)) ∧ (¬ (A 1 (F 11 5).toNatClampNeg) = 45 → (((F 11 8) = 0 → X (d + 2) 43 0 [.ref 11, .int 0, .int 9, .null] [] (F, A, J, G) (KK (d + 3) 31 99 [.ref 11, .int x1, .int x2, .int r, .int (-1), .int 1, .null, .null] [] Q)) ∧ (¬ (F 11 8) = 0 → (((F 11 8) = 0 → X (d + 2) 43 0 [.ref 11, .int 0, .int 99, .null] [] (F, A, J, G) (KK (d + 3) 31 119 [.ref 11, .int x1, .int x2, .int r, .int (-1), .int 1, .int (-1), .null] [] Q)) ∧ (¬ (F 11 8) = 0 → (((F 11 8) = 0 → inB x2 10 = true ∧ (Q (.inl (some (.int 1))) ((wF F 2 0 (x2 + 1)), (wF (wF (wF (wF (wF A 3 x2.toNatClampNeg x1) 4 x2.toNatClampNeg r) 5 x2.toNatClampNeg (-1)) 6 x2.toNatClampNeg ((1 : Int32) * (-1))) 7 x2.toNatClampNeg (-1)), J, G))) ∧ (¬ (F 11 8) = 0 → Q (.inl (some (.int 0))) (F, A, J, G)))))))))) ∧ (¬ (F 11 4) = 4 → (((F 11 8) = 0 → X (d + 2) 43 0 [.ref 11, .int 0, .int 9, .null] [] (F, A, J, G) (KK (d + 3) 31 99 [.ref 11, .int x1, .int x2, .int r, .int (-1), .int 1, .null, .null] [] Q)) ∧ (¬ (F 11 8) = 0 → (((F 11 8) = 0 → X (d + 2) 43 0 [.ref 11, .int 0, .int 99, .null] [] (F, A, J, G) (KK (d + 3) 31 119 [.ref 11, .int x1, .int x2, .int r, .int (-1), .int 1, .int (-1), .null] [] Q)) ∧ (¬ (F 11 8) = 0 → (((F 11 8) = 0 → inB x2 10 = true ∧ (Q (.inl (some (.int 1))) ((wF F 2 0 (x2 + 1)), (wF (wF (wF (wF (wF A 3 x2.toNatClampNeg x1) 4 x2.toNatClampNeg r) 5 x2.toNatClampNeg (-1)) 6 x2.toNatClampNeg ((1 : Int32) * (-1))) 7 x2.toNatClampNeg (-1)), J, G))) ∧ (¬ (F 11 8) = 0 → Q (.inl (some (.int 0))) (F, A, J, G)))))))))) ∧ (¬ (F 11 8) = 0 → (((F 11 8) = 0 → X (d + 2) 43 0 [.ref 11, .int 0, .int 9, .null] [] (F, A, J, G) (KK (d + 3) 31 99 [.ref 11, .int x1, .int x2, .int r, .int (-1), .int 1, .null, .null] [] Q)) ∧ (¬ (F 11 8) = 0 → (((F 11 8) = 0 → X (d + 2) 43 0 [.ref 11, .int 0, .int 99, .null] [] (F, A, J, G) (KK (d + 3) 31 119 [.ref 11, .int x1, .int x2, .int r, .int (-1), .int 1, .int (-1), .null] [] Q)) ∧ (¬ (F 11 8) = 0 → (((F 11 8) = 0 → inB x2 10 = true ∧ (Q (.inl (some (.int 1))) ((wF F 2 0 (x2 + 1)), (wF (wF (wF (wF (wF A 3 x2.toNatClampNeg x1) 4 x2.toNatClampNeg r) 5 x2.toNatClampNeg (-1)) 6 x2.toNatClampNeg ((1 : Int32) * (-1))) 7 x2.toNatClampNeg (-1)), J, G))) ∧ (¬ (F 11 8) = 0 → Q (.inl (some (.int 0))) (F, A, J, G)))))))))))) : KK (d + 3) 31 31 [.ref 11, .int x1, .int x2, .null, .null, .null, .null, .null] [] Q (.inl (some (.int r))) (F, A, J, G) := by
  refine KKi ?_
  refine Y_is3 i_31_31 rfl ?_
  refine Y_al0 i_31_32 ?_
  refine Y_gI (v := (F 11 8)) i_31_33 ow_31 lf_3_41 (by decide) (k_11 hG) rfl ?_
  refine Y_zne i_31_36 (fun e1 => ?_) (fun e1 => ?_)
  · replace h := h.1 e1
    refine Y_al0 i_31_39 ?_
    refine Y_iconst (v := 0) i_31_40 (by decide) ?_
    refine Y_sipush (v := 999) i_31_41 (by decide) ?_
    exact Y_iv2 (L0 := [.ref 11, .int 0, .int 999, .null]) i_31_44 ow_31 lm_3_96 ((k_11 hG).trans ow_43.symm) rfl mx_43 rfl rfl hd_31 h
  · replace h := h.2 e1
    refine Y_iconst (v := (-1)) i_31_50 (by decide) ?_
    refine Y_is4 i_31_51 rfl ?_
    refine Y_al0 i_31_53 ?_
    refine Y_gI (v := (F 11 8)) i_31_54 ow_31 lf_3_41 (by decide) (k_11 hG) rfl ?_
    refine Y_zne i_31_57 (fun e2 => ?_) (fun e2 => ?_)
    · replace h := h.1 e2
      refine Y_al0 i_31_60 ?_
      refine Y_bipush (v := 45) i_31_61 (by decide) ?_
      refine Y_iv1 (L0 := [.ref 11, .int 45]) i_31_63 ow_31 lm_3_99 ((k_11 hG).trans ow_47.symm) rfl mx_47 rfl rfl hd_31 ?_
      refine Y_al0 i_47_0 ?_
      refine Y_gI (v := (F 11 4)) i_47_1 ow_47 lf_3_53 (by decide) (k_11 hG) rfl ?_
      refine Y_iconst (v := 4) i_47_4 (by decide) ?_
      refine Y_cne i_47_5 (fun e3 => ?_) (fun e3 => ?_)
      · replace h := h.1 e3
        refine Y_al0 i_47_8 ?_
        refine Y_gR i_47_9 ow_47 lf_3_9 (k_11 hG) (r_11_1 hG) ?_
        refine Y_al0 i_47_12 ?_
        refine Y_gI (v := (F 11 5)) i_47_13 ow_47 lf_3_158 (by decide) (k_11 hG) rfl ?_
        have o4 := h.1
        replace h := h.2
        refine Y_baload (k := (F 11 5).toNatClampNeg) (v := (A 1 (F 11 5).toNatClampNeg)) i_47_16 (k_1 hG) (l_1 hG) o4 rfl rfl ?_
        refine Y_il1 i_47_17 ?_
        refine Y_cne i_47_18 (fun e5 => ?_) (fun e5 => ?_)
        · replace h := h.1 e5
          refine Y_iconst (v := 1) i_47_21 (by decide) ?_
          refine Y_goto i_47_22 ?_
          refine Y_bret i_47_26 rt_47 (by decide) (KKi ?_)
          refine Y_zF i_31_66 (by decide) ?_
          refine Y_iconst (v := (-1)) i_31_69 (by decide) ?_
          refine Y_goto i_31_70 ?_
          refine Y_is5 i_31_74 rfl ?_
          refine Y_il5 i_31_76 ?_
          refine Y_zF i_31_78 (by decide) ?_
          refine Y_al0 i_31_81 ?_
          exact Y_iv0 (L0 := [.ref 11]) i_31_82 ow_31 lm_3_50 ((k_11 hG).trans ow_49.symm) rfl mx_49 rfl rfl hd_31 h
        · replace h := h.2 e5
          refine Y_iconst (v := 0) i_47_25 (by decide) ?_
          refine Y_bret i_47_26 rt_47 (by decide) (KKi ?_)
          refine Y_zT i_31_66 (by decide) ?_
          refine Y_iconst (v := 1) i_31_73 (by decide) ?_
          refine Y_is5 i_31_74 rfl ?_
          refine Y_il5 i_31_76 ?_
          refine Y_zT i_31_78 (by decide) ?_
          refine Y_al0 i_31_85 ?_
          refine Y_gI (v := (F 11 8)) i_31_86 ow_31 lf_3_41 (by decide) (k_11 hG) rfl ?_
          refine Y_zne i_31_89 (fun e6 => ?_) (fun e6 => ?_)
          · replace h := h.1 e6
            refine Y_al0 i_31_92 ?_
            refine Y_iconst (v := 0) i_31_93 (by decide) ?_
            refine Y_bipush (v := 9) i_31_94 (by decide) ?_
            exact Y_iv2 (L0 := [.ref 11, .int 0, .int 9, .null]) i_31_96 ow_31 lm_3_96 ((k_11 hG).trans ow_43.symm) rfl mx_43 rfl rfl hd_31 h
          · replace h := h.2 e6
            refine Y_iconst (v := (-1)) i_31_102 (by decide) ?_
            refine Y_is6 i_31_103 rfl ?_
            refine Y_al0 i_31_105 ?_
            refine Y_gI (v := (F 11 8)) i_31_106 ow_31 lf_3_41 (by decide) (k_11 hG) rfl ?_
            refine Y_zne i_31_109 (fun e7 => ?_) (fun e7 => ?_)
            · replace h := h.1 e7
              refine Y_al0 i_31_112 ?_
              refine Y_iconst (v := 0) i_31_113 (by decide) ?_
              refine Y_bipush (v := 99) i_31_114 (by decide) ?_
              exact Y_iv2 (L0 := [.ref 11, .int 0, .int 99, .null]) i_31_116 ow_31 lm_3_96 ((k_11 hG).trans ow_43.symm) rfl mx_43 rfl rfl hd_31 h
            · replace h := h.2 e7
              refine Y_iconst (v := (-1)) i_31_122 (by decide) ?_
              refine Y_is7 i_31_123 rfl ?_
              refine Y_al0 i_31_125 ?_
              refine Y_gI (v := (F 11 8)) i_31_126 ow_31 lf_3_41 (by decide) (k_11 hG) rfl ?_
              refine Y_zeq i_31_129 (fun e8 => ?_) (fun e8 => ?_)
              · replace h := h.1 e8
                refine Y_al0 i_31_134 ?_
                refine Y_gR i_31_135 ow_31 lf_3_15 (k_11 hG) (r_11_2 hG) ?_
                refine Y_gR i_31_138 ow_31 lf_3_103 (k_2 hG) (r_2_3 hG) ?_
                refine Y_il2 i_31_141 ?_
                refine Y_il1 i_31_142 ?_
                have o9 := h.1
                replace h := h.2
                refine Y_iast i_31_143 (k_3 hG) (l_3 hG) o9 rfl ?_
                refine Y_al0 i_31_144 ?_
                refine Y_gR i_31_145 ow_31 lf_3_15 (k_11 hG) (r_11_2 hG) ?_
                refine Y_gR i_31_148 ow_31 lf_3_107 (k_2 hG) (r_2_4 hG) ?_
                refine Y_il2 i_31_151 ?_
                refine Y_il3 i_31_152 ?_
                refine Y_iast i_31_153 (k_4 hG) (l_4 hG) o9 rfl ?_
                refine Y_al0 i_31_154 ?_
                refine Y_gR i_31_155 ow_31 lf_3_15 (k_11 hG) (r_11_2 hG) ?_
                refine Y_gR i_31_158 ow_31 lf_3_110 (k_2 hG) (r_2_5 hG) ?_
                refine Y_il2 i_31_161 ?_
                refine Y_il4 i_31_162 ?_
                refine Y_iast i_31_164 (k_5 hG) (l_5 hG) o9 rfl ?_
                refine Y_al0 i_31_165 ?_
                refine Y_gR i_31_166 ow_31 lf_3_15 (k_11 hG) (r_11_2 hG) ?_
                refine Y_gR i_31_169 ow_31 lf_3_113 (k_2 hG) (r_2_6 hG) ?_
                refine Y_il2 i_31_172 ?_
                refine Y_il5 i_31_173 ?_
                refine Y_il6 i_31_175 ?_
                refine Y_imul i_31_177 ?_
                refine Y_iast i_31_178 (k_6 hG) (l_6 hG) o9 rfl ?_
                refine Y_al0 i_31_179 ?_
                refine Y_gR i_31_180 ow_31 lf_3_15 (k_11 hG) (r_11_2 hG) ?_
                refine Y_gR i_31_183 ow_31 lf_3_116 (k_2 hG) (r_2_7 hG) ?_
                refine Y_il2 i_31_186 ?_
                refine Y_il7 i_31_187 ?_
                refine Y_iast i_31_189 (k_7 hG) (l_7 hG) o9 rfl ?_
                refine Y_al0 i_31_190 ?_
                refine Y_gR i_31_191 ow_31 lf_3_15 (k_11 hG) (r_11_2 hG) ?_
                refine Y_il2 i_31_194 ?_
                refine Y_iconst (v := 1) i_31_195 (by decide) ?_
                refine Y_iadd i_31_196 ?_
                refine Y_pI i_31_197 ow_31 lf_3_93 (k_2 hG) ?_
                refine Y_iconst (v := 1) i_31_200 (by decide) ?_
                exact Y_bret i_31_201 rt_31 (by decide) h
              · replace h := h.2 e8
                refine Y_iconst (v := 0) i_31_132 (by decide) ?_
                exact Y_bret i_31_133 rt_31 (by decide) h
      · replace h := h.2 e3
        refine Y_iconst (v := 0) i_47_25 (by decide) ?_
        refine Y_bret i_47_26 rt_47 (by decide) (KKi ?_)
        refine Y_zT i_31_66 (by decide) ?_
        refine Y_iconst (v := 1) i_31_73 (by decide) ?_
        refine Y_is5 i_31_74 rfl ?_
        refine Y_il5 i_31_76 ?_
        refine Y_zT i_31_78 (by decide) ?_
        refine Y_al0 i_31_85 ?_
        refine Y_gI (v := (F 11 8)) i_31_86 ow_31 lf_3_41 (by decide) (k_11 hG) rfl ?_
        refine Y_zne i_31_89 (fun e10 => ?_) (fun e10 => ?_)
        · replace h := h.1 e10
          refine Y_al0 i_31_92 ?_
          refine Y_iconst (v := 0) i_31_93 (by decide) ?_
          refine Y_bipush (v := 9) i_31_94 (by decide) ?_
          exact Y_iv2 (L0 := [.ref 11, .int 0, .int 9, .null]) i_31_96 ow_31 lm_3_96 ((k_11 hG).trans ow_43.symm) rfl mx_43 rfl rfl hd_31 h
        · replace h := h.2 e10
          refine Y_iconst (v := (-1)) i_31_102 (by decide) ?_
          refine Y_is6 i_31_103 rfl ?_
          refine Y_al0 i_31_105 ?_
          refine Y_gI (v := (F 11 8)) i_31_106 ow_31 lf_3_41 (by decide) (k_11 hG) rfl ?_
          refine Y_zne i_31_109 (fun e11 => ?_) (fun e11 => ?_)
          · replace h := h.1 e11
            refine Y_al0 i_31_112 ?_
            refine Y_iconst (v := 0) i_31_113 (by decide) ?_
            refine Y_bipush (v := 99) i_31_114 (by decide) ?_
            exact Y_iv2 (L0 := [.ref 11, .int 0, .int 99, .null]) i_31_116 ow_31 lm_3_96 ((k_11 hG).trans ow_43.symm) rfl mx_43 rfl rfl hd_31 h
          · replace h := h.2 e11
            refine Y_iconst (v := (-1)) i_31_122 (by decide) ?_
            refine Y_is7 i_31_123 rfl ?_
            refine Y_al0 i_31_125 ?_
            refine Y_gI (v := (F 11 8)) i_31_126 ow_31 lf_3_41 (by decide) (k_11 hG) rfl ?_
            refine Y_zeq i_31_129 (fun e12 => ?_) (fun e12 => ?_)
            · replace h := h.1 e12
              refine Y_al0 i_31_134 ?_
              refine Y_gR i_31_135 ow_31 lf_3_15 (k_11 hG) (r_11_2 hG) ?_
              refine Y_gR i_31_138 ow_31 lf_3_103 (k_2 hG) (r_2_3 hG) ?_
              refine Y_il2 i_31_141 ?_
              refine Y_il1 i_31_142 ?_
              have o13 := h.1
              replace h := h.2
              refine Y_iast i_31_143 (k_3 hG) (l_3 hG) o13 rfl ?_
              refine Y_al0 i_31_144 ?_
              refine Y_gR i_31_145 ow_31 lf_3_15 (k_11 hG) (r_11_2 hG) ?_
              refine Y_gR i_31_148 ow_31 lf_3_107 (k_2 hG) (r_2_4 hG) ?_
              refine Y_il2 i_31_151 ?_
              refine Y_il3 i_31_152 ?_
              refine Y_iast i_31_153 (k_4 hG) (l_4 hG) o13 rfl ?_
              refine Y_al0 i_31_154 ?_
              refine Y_gR i_31_155 ow_31 lf_3_15 (k_11 hG) (r_11_2 hG) ?_
              refine Y_gR i_31_158 ow_31 lf_3_110 (k_2 hG) (r_2_5 hG) ?_
              refine Y_il2 i_31_161 ?_
              refine Y_il4 i_31_162 ?_
              refine Y_iast i_31_164 (k_5 hG) (l_5 hG) o13 rfl ?_
              refine Y_al0 i_31_165 ?_
              refine Y_gR i_31_166 ow_31 lf_3_15 (k_11 hG) (r_11_2 hG) ?_
              refine Y_gR i_31_169 ow_31 lf_3_113 (k_2 hG) (r_2_6 hG) ?_
              refine Y_il2 i_31_172 ?_
              refine Y_il5 i_31_173 ?_
              refine Y_il6 i_31_175 ?_
              refine Y_imul i_31_177 ?_
              refine Y_iast i_31_178 (k_6 hG) (l_6 hG) o13 rfl ?_
              refine Y_al0 i_31_179 ?_
              refine Y_gR i_31_180 ow_31 lf_3_15 (k_11 hG) (r_11_2 hG) ?_
              refine Y_gR i_31_183 ow_31 lf_3_116 (k_2 hG) (r_2_7 hG) ?_
              refine Y_il2 i_31_186 ?_
              refine Y_il7 i_31_187 ?_
              refine Y_iast i_31_189 (k_7 hG) (l_7 hG) o13 rfl ?_
              refine Y_al0 i_31_190 ?_
              refine Y_gR i_31_191 ow_31 lf_3_15 (k_11 hG) (r_11_2 hG) ?_
              refine Y_il2 i_31_194 ?_
              refine Y_iconst (v := 1) i_31_195 (by decide) ?_
              refine Y_iadd i_31_196 ?_
              refine Y_pI i_31_197 ow_31 lf_3_93 (k_2 hG) ?_
              refine Y_iconst (v := 1) i_31_200 (by decide) ?_
              exact Y_bret i_31_201 rt_31 (by decide) h
            · replace h := h.2 e12
              refine Y_iconst (v := 0) i_31_132 (by decide) ?_
              exact Y_bret i_31_133 rt_31 (by decide) h
    · replace h := h.2 e2
      refine Y_iconst (v := 1) i_31_73 (by decide) ?_
      refine Y_is5 i_31_74 rfl ?_
      refine Y_il5 i_31_76 ?_
      refine Y_zT i_31_78 (by decide) ?_
      refine Y_al0 i_31_85 ?_
      refine Y_gI (v := (F 11 8)) i_31_86 ow_31 lf_3_41 (by decide) (k_11 hG) rfl ?_
      refine Y_zne i_31_89 (fun e14 => ?_) (fun e14 => ?_)
      · replace h := h.1 e14
        refine Y_al0 i_31_92 ?_
        refine Y_iconst (v := 0) i_31_93 (by decide) ?_
        refine Y_bipush (v := 9) i_31_94 (by decide) ?_
        exact Y_iv2 (L0 := [.ref 11, .int 0, .int 9, .null]) i_31_96 ow_31 lm_3_96 ((k_11 hG).trans ow_43.symm) rfl mx_43 rfl rfl hd_31 h
      · replace h := h.2 e14
        refine Y_iconst (v := (-1)) i_31_102 (by decide) ?_
        refine Y_is6 i_31_103 rfl ?_
        refine Y_al0 i_31_105 ?_
        refine Y_gI (v := (F 11 8)) i_31_106 ow_31 lf_3_41 (by decide) (k_11 hG) rfl ?_
        refine Y_zne i_31_109 (fun e15 => ?_) (fun e15 => ?_)
        · replace h := h.1 e15
          refine Y_al0 i_31_112 ?_
          refine Y_iconst (v := 0) i_31_113 (by decide) ?_
          refine Y_bipush (v := 99) i_31_114 (by decide) ?_
          exact Y_iv2 (L0 := [.ref 11, .int 0, .int 99, .null]) i_31_116 ow_31 lm_3_96 ((k_11 hG).trans ow_43.symm) rfl mx_43 rfl rfl hd_31 h
        · replace h := h.2 e15
          refine Y_iconst (v := (-1)) i_31_122 (by decide) ?_
          refine Y_is7 i_31_123 rfl ?_
          refine Y_al0 i_31_125 ?_
          refine Y_gI (v := (F 11 8)) i_31_126 ow_31 lf_3_41 (by decide) (k_11 hG) rfl ?_
          refine Y_zeq i_31_129 (fun e16 => ?_) (fun e16 => ?_)
          · replace h := h.1 e16
            refine Y_al0 i_31_134 ?_
            refine Y_gR i_31_135 ow_31 lf_3_15 (k_11 hG) (r_11_2 hG) ?_
            refine Y_gR i_31_138 ow_31 lf_3_103 (k_2 hG) (r_2_3 hG) ?_
            refine Y_il2 i_31_141 ?_
            refine Y_il1 i_31_142 ?_
            have o17 := h.1
            replace h := h.2
            refine Y_iast i_31_143 (k_3 hG) (l_3 hG) o17 rfl ?_
            refine Y_al0 i_31_144 ?_
            refine Y_gR i_31_145 ow_31 lf_3_15 (k_11 hG) (r_11_2 hG) ?_
            refine Y_gR i_31_148 ow_31 lf_3_107 (k_2 hG) (r_2_4 hG) ?_
            refine Y_il2 i_31_151 ?_
            refine Y_il3 i_31_152 ?_
            refine Y_iast i_31_153 (k_4 hG) (l_4 hG) o17 rfl ?_
            refine Y_al0 i_31_154 ?_
            refine Y_gR i_31_155 ow_31 lf_3_15 (k_11 hG) (r_11_2 hG) ?_
            refine Y_gR i_31_158 ow_31 lf_3_110 (k_2 hG) (r_2_5 hG) ?_
            refine Y_il2 i_31_161 ?_
            refine Y_il4 i_31_162 ?_
            refine Y_iast i_31_164 (k_5 hG) (l_5 hG) o17 rfl ?_
            refine Y_al0 i_31_165 ?_
            refine Y_gR i_31_166 ow_31 lf_3_15 (k_11 hG) (r_11_2 hG) ?_
            refine Y_gR i_31_169 ow_31 lf_3_113 (k_2 hG) (r_2_6 hG) ?_
            refine Y_il2 i_31_172 ?_
            refine Y_il5 i_31_173 ?_
            refine Y_il6 i_31_175 ?_
            refine Y_imul i_31_177 ?_
            refine Y_iast i_31_178 (k_6 hG) (l_6 hG) o17 rfl ?_
            refine Y_al0 i_31_179 ?_
            refine Y_gR i_31_180 ow_31 lf_3_15 (k_11 hG) (r_11_2 hG) ?_
            refine Y_gR i_31_183 ow_31 lf_3_116 (k_2 hG) (r_2_7 hG) ?_
            refine Y_il2 i_31_186 ?_
            refine Y_il7 i_31_187 ?_
            refine Y_iast i_31_189 (k_7 hG) (l_7 hG) o17 rfl ?_
            refine Y_al0 i_31_190 ?_
            refine Y_gR i_31_191 ow_31 lf_3_15 (k_11 hG) (r_11_2 hG) ?_
            refine Y_il2 i_31_194 ?_
            refine Y_iconst (v := 1) i_31_195 (by decide) ?_
            refine Y_iadd i_31_196 ?_
            refine Y_pI i_31_197 ow_31 lf_3_93 (k_2 hG) ?_
            refine Y_iconst (v := 1) i_31_200 (by decide) ?_
            exact Y_bret i_31_201 rt_31 (by decide) h
          · replace h := h.2 e16
            refine Y_iconst (v := 0) i_31_132 (by decide) ?_
            exact Y_bret i_31_133 rt_31 (by decide) h
theorem k_31_47 {d : Nat} {F A : Nat → Nat → Int32} {J : Nat → Nat → Int64} {G : pG} {Q : pR → pM → Prop} {SL p q : Nat} {x1 x2 x3 r : Int32} (hG : Geo G SL p q) (h : (((F 11 8) = 0 → (((F 11 4) = 4 → inB (F 11 5) 600 = true ∧ (((A 1 (F 11 5).toNatClampNeg) = 45 → X (d + 2) 49 0 [.ref 11] [] (F, A, J, G) (KK (d + 3) 31 85 [.ref 11, .int x1, .int x2, .int x3, .int r, .int (-1), .null, .null] [] Q)) ∧ (¬ (A 1 (F 11 5).toNatClampNeg) = 45 → (((F 11 8) = 0 → X (d + 2) 43 0 [.ref 11, .int 0, .int 9, .null] [] (F, A, J, G) (KK (d + 3) 31 99 [.ref 11, .int x1, .int x2, .int x3, .int r, .int 1, .null, .null] [] Q)) ∧ (¬ (F 11 8) = 0 → (((F 11 8) = 0 → X (d + 2) 43 0 [.ref 11, .int 0, .int 99, .null] [] (F, A, J, G) (KK (d + 3) 31 119 [.ref 11, .int x1, .int x2, .int x3, .int r, .int 1, .int (-1), .null] [] Q)) ∧ (¬ (F 11 8) = 0 → (((F 11 8) = 0 → inB x2 10 = true ∧ (Q (.inl (some (.int 1))) ((wF F 2 0 (x2 + 1)), (wF (wF (wF (wF (wF A 3 x2.toNatClampNeg x1) 4 x2.toNatClampNeg x3) 5 x2.toNatClampNeg r) 6 x2.toNatClampNeg ((1 : Int32) * (-1))) 7 x2.toNatClampNeg (-1)), J, G))) ∧ (¬ (F 11 8) = 0 → Q (.inl (some (.int 0))) (F, A, J, G)))))))))) ∧ (¬ (F 11 4) = 4 → (((F 11 8) = 0 → X (d + 2) 43 0 [.ref 11, .int 0, .int 9, .null] [] (F, A, J, G) (KK (d + 3) 31 99 [.ref 11, .int x1, .int x2, .int x3, .int r, .int 1, .null, .null] [] Q)) ∧ (¬ (F 11 8) = 0 → (((F 11 8) = 0 → X (d + 2) 43 0 [.ref 11, .int 0, .int 99, .null] [] (F, A, J, G) (KK (d + 3) 31 119 [.ref 11, .int x1, .int x2, .int x3, .int r, .int 1, .int (-1), .null] [] Q)) ∧ (¬ (F 11 8) = 0 → (((F 11 8) = 0 → inB x2 10 = true ∧ (Q (.inl (some (.int 1))) ((wF F 2 0 (x2 + 1)), (wF (wF (wF (wF (wF A 3 x2.toNatClampNeg x1) 4 x2.toNatClampNeg x3) 5 x2.toNatClampNeg r) 6 x2.toNatClampNeg ((1 : Int32) * (-1))) 7 x2.toNatClampNeg (-1)), J, G))) ∧ (¬ (F 11 8) = 0 → Q (.inl (some (.int 0))) (F, A, J, G)))))))))) ∧ (¬ (F 11 8) = 0 → (((F 11 8) = 0 → X (d + 2) 43 0 [.ref 11, .int 0, .int 9, .null] [] (F, A, J, G) (KK (d + 3) 31 99 [.ref 11, .int x1, .int x2, .int x3, .int r, .int 1, .null, .null] [] Q)) ∧ (¬ (F 11 8) = 0 → (((F 11 8) = 0 → X (d + 2) 43 0 [.ref 11, .int 0, .int 99, .null] [] (F, A, J, G) (KK (d + 3) 31 119 [.ref 11, .int x1, .int x2, .int x3, .int r, .int 1, .int (-1), .null] [] Q)) ∧ (¬ (F 11 8) = 0 → (((F 11 8) = 0 → inB x2 10 = true ∧ (Q (.inl (some (.int 1))) ((wF F 2 0 (x2 + 1)), (wF (wF (wF (wF (wF A 3 x2.toNatClampNeg x1) 4 x2.toNatClampNeg x3) 5 x2.toNatClampNeg r) 6 x2.toNatClampNeg ((1 : Int32) * (-1))) 7 x2.toNatClampNeg (-1)), J, G))) ∧ (¬ (F 11 8) = 0 → Q (.inl (some (.int 0))) (F, A, J, G)))))))))) : KK (d + 3) 31 47 [.ref 11, .int x1, .int x2, .int x3, .null, .null, .null, .null] [] Q (.inl (some (.int r))) (F, A, J, G) := by
  refine KKi ?_
  refine Y_goto i_31_47 ?_
  refine Y_is4 i_31_51 rfl ?_
  refine Y_al0 i_31_53 ?_
  refine Y_gI (v := (F 11 8)) i_31_54 ow_31 lf_3_41 (by decide) (k_11 hG) rfl ?_
  refine Y_zne i_31_57 (fun e1 => ?_) (fun e1 => ?_)
  · replace h := h.1 e1
    refine Y_al0 i_31_60 ?_
    refine Y_bipush (v := 45) i_31_61 (by decide) ?_
    refine Y_iv1 (L0 := [.ref 11, .int 45]) i_31_63 ow_31 lm_3_99 ((k_11 hG).trans ow_47.symm) rfl mx_47 rfl rfl hd_31 ?_
    refine Y_al0 i_47_0 ?_
    refine Y_gI (v := (F 11 4)) i_47_1 ow_47 lf_3_53 (by decide) (k_11 hG) rfl ?_
    refine Y_iconst (v := 4) i_47_4 (by decide) ?_
    refine Y_cne i_47_5 (fun e2 => ?_) (fun e2 => ?_)
    · replace h := h.1 e2
      refine Y_al0 i_47_8 ?_
      refine Y_gR i_47_9 ow_47 lf_3_9 (k_11 hG) (r_11_1 hG) ?_
      refine Y_al0 i_47_12 ?_
      refine Y_gI (v := (F 11 5)) i_47_13 ow_47 lf_3_158 (by decide) (k_11 hG) rfl ?_
      have o3 := h.1
      replace h := h.2
      refine Y_baload (k := (F 11 5).toNatClampNeg) (v := (A 1 (F 11 5).toNatClampNeg)) i_47_16 (k_1 hG) (l_1 hG) o3 rfl rfl ?_
      refine Y_il1 i_47_17 ?_
      refine Y_cne i_47_18 (fun e4 => ?_) (fun e4 => ?_)
      · replace h := h.1 e4
        refine Y_iconst (v := 1) i_47_21 (by decide) ?_
        refine Y_goto i_47_22 ?_
        refine Y_bret i_47_26 rt_47 (by decide) (KKi ?_)
        refine Y_zF i_31_66 (by decide) ?_
        refine Y_iconst (v := (-1)) i_31_69 (by decide) ?_
        refine Y_goto i_31_70 ?_
        refine Y_is5 i_31_74 rfl ?_
        refine Y_il5 i_31_76 ?_
        refine Y_zF i_31_78 (by decide) ?_
        refine Y_al0 i_31_81 ?_
        exact Y_iv0 (L0 := [.ref 11]) i_31_82 ow_31 lm_3_50 ((k_11 hG).trans ow_49.symm) rfl mx_49 rfl rfl hd_31 h
      · replace h := h.2 e4
        refine Y_iconst (v := 0) i_47_25 (by decide) ?_
        refine Y_bret i_47_26 rt_47 (by decide) (KKi ?_)
        refine Y_zT i_31_66 (by decide) ?_
        refine Y_iconst (v := 1) i_31_73 (by decide) ?_
        refine Y_is5 i_31_74 rfl ?_
        refine Y_il5 i_31_76 ?_
        refine Y_zT i_31_78 (by decide) ?_
        refine Y_al0 i_31_85 ?_
        refine Y_gI (v := (F 11 8)) i_31_86 ow_31 lf_3_41 (by decide) (k_11 hG) rfl ?_
        refine Y_zne i_31_89 (fun e5 => ?_) (fun e5 => ?_)
        · replace h := h.1 e5
          refine Y_al0 i_31_92 ?_
          refine Y_iconst (v := 0) i_31_93 (by decide) ?_
          refine Y_bipush (v := 9) i_31_94 (by decide) ?_
          exact Y_iv2 (L0 := [.ref 11, .int 0, .int 9, .null]) i_31_96 ow_31 lm_3_96 ((k_11 hG).trans ow_43.symm) rfl mx_43 rfl rfl hd_31 h
        · replace h := h.2 e5
          refine Y_iconst (v := (-1)) i_31_102 (by decide) ?_
          refine Y_is6 i_31_103 rfl ?_
          refine Y_al0 i_31_105 ?_
          refine Y_gI (v := (F 11 8)) i_31_106 ow_31 lf_3_41 (by decide) (k_11 hG) rfl ?_
          refine Y_zne i_31_109 (fun e6 => ?_) (fun e6 => ?_)
          · replace h := h.1 e6
            refine Y_al0 i_31_112 ?_
            refine Y_iconst (v := 0) i_31_113 (by decide) ?_
            refine Y_bipush (v := 99) i_31_114 (by decide) ?_
            exact Y_iv2 (L0 := [.ref 11, .int 0, .int 99, .null]) i_31_116 ow_31 lm_3_96 ((k_11 hG).trans ow_43.symm) rfl mx_43 rfl rfl hd_31 h
          · replace h := h.2 e6
            refine Y_iconst (v := (-1)) i_31_122 (by decide) ?_
            refine Y_is7 i_31_123 rfl ?_
            refine Y_al0 i_31_125 ?_
            refine Y_gI (v := (F 11 8)) i_31_126 ow_31 lf_3_41 (by decide) (k_11 hG) rfl ?_
            refine Y_zeq i_31_129 (fun e7 => ?_) (fun e7 => ?_)
            · replace h := h.1 e7
              refine Y_al0 i_31_134 ?_
              refine Y_gR i_31_135 ow_31 lf_3_15 (k_11 hG) (r_11_2 hG) ?_
              refine Y_gR i_31_138 ow_31 lf_3_103 (k_2 hG) (r_2_3 hG) ?_
              refine Y_il2 i_31_141 ?_
              refine Y_il1 i_31_142 ?_
              have o8 := h.1
              replace h := h.2
              refine Y_iast i_31_143 (k_3 hG) (l_3 hG) o8 rfl ?_
              refine Y_al0 i_31_144 ?_
              refine Y_gR i_31_145 ow_31 lf_3_15 (k_11 hG) (r_11_2 hG) ?_
              refine Y_gR i_31_148 ow_31 lf_3_107 (k_2 hG) (r_2_4 hG) ?_
              refine Y_il2 i_31_151 ?_
              refine Y_il3 i_31_152 ?_
              refine Y_iast i_31_153 (k_4 hG) (l_4 hG) o8 rfl ?_
              refine Y_al0 i_31_154 ?_
              refine Y_gR i_31_155 ow_31 lf_3_15 (k_11 hG) (r_11_2 hG) ?_
              refine Y_gR i_31_158 ow_31 lf_3_110 (k_2 hG) (r_2_5 hG) ?_
              refine Y_il2 i_31_161 ?_
              refine Y_il4 i_31_162 ?_
              refine Y_iast i_31_164 (k_5 hG) (l_5 hG) o8 rfl ?_
              refine Y_al0 i_31_165 ?_
              refine Y_gR i_31_166 ow_31 lf_3_15 (k_11 hG) (r_11_2 hG) ?_
              refine Y_gR i_31_169 ow_31 lf_3_113 (k_2 hG) (r_2_6 hG) ?_
              refine Y_il2 i_31_172 ?_
              refine Y_il5 i_31_173 ?_
              refine Y_il6 i_31_175 ?_
              refine Y_imul i_31_177 ?_
              refine Y_iast i_31_178 (k_6 hG) (l_6 hG) o8 rfl ?_
              refine Y_al0 i_31_179 ?_
              refine Y_gR i_31_180 ow_31 lf_3_15 (k_11 hG) (r_11_2 hG) ?_
              refine Y_gR i_31_183 ow_31 lf_3_116 (k_2 hG) (r_2_7 hG) ?_
              refine Y_il2 i_31_186 ?_
              refine Y_il7 i_31_187 ?_
              refine Y_iast i_31_189 (k_7 hG) (l_7 hG) o8 rfl ?_
              refine Y_al0 i_31_190 ?_
              refine Y_gR i_31_191 ow_31 lf_3_15 (k_11 hG) (r_11_2 hG) ?_
              refine Y_il2 i_31_194 ?_
              refine Y_iconst (v := 1) i_31_195 (by decide) ?_
              refine Y_iadd i_31_196 ?_
              refine Y_pI i_31_197 ow_31 lf_3_93 (k_2 hG) ?_
              refine Y_iconst (v := 1) i_31_200 (by decide) ?_
              exact Y_bret i_31_201 rt_31 (by decide) h
            · replace h := h.2 e7
              refine Y_iconst (v := 0) i_31_132 (by decide) ?_
              exact Y_bret i_31_133 rt_31 (by decide) h
    · replace h := h.2 e2
      refine Y_iconst (v := 0) i_47_25 (by decide) ?_
      refine Y_bret i_47_26 rt_47 (by decide) (KKi ?_)
      refine Y_zT i_31_66 (by decide) ?_
      refine Y_iconst (v := 1) i_31_73 (by decide) ?_
      refine Y_is5 i_31_74 rfl ?_
      refine Y_il5 i_31_76 ?_
      refine Y_zT i_31_78 (by decide) ?_
      refine Y_al0 i_31_85 ?_
      refine Y_gI (v := (F 11 8)) i_31_86 ow_31 lf_3_41 (by decide) (k_11 hG) rfl ?_
      refine Y_zne i_31_89 (fun e9 => ?_) (fun e9 => ?_)
      · replace h := h.1 e9
        refine Y_al0 i_31_92 ?_
        refine Y_iconst (v := 0) i_31_93 (by decide) ?_
        refine Y_bipush (v := 9) i_31_94 (by decide) ?_
        exact Y_iv2 (L0 := [.ref 11, .int 0, .int 9, .null]) i_31_96 ow_31 lm_3_96 ((k_11 hG).trans ow_43.symm) rfl mx_43 rfl rfl hd_31 h
      · replace h := h.2 e9
        refine Y_iconst (v := (-1)) i_31_102 (by decide) ?_
        refine Y_is6 i_31_103 rfl ?_
        refine Y_al0 i_31_105 ?_
        refine Y_gI (v := (F 11 8)) i_31_106 ow_31 lf_3_41 (by decide) (k_11 hG) rfl ?_
        refine Y_zne i_31_109 (fun e10 => ?_) (fun e10 => ?_)
        · replace h := h.1 e10
          refine Y_al0 i_31_112 ?_
          refine Y_iconst (v := 0) i_31_113 (by decide) ?_
          refine Y_bipush (v := 99) i_31_114 (by decide) ?_
          exact Y_iv2 (L0 := [.ref 11, .int 0, .int 99, .null]) i_31_116 ow_31 lm_3_96 ((k_11 hG).trans ow_43.symm) rfl mx_43 rfl rfl hd_31 h
        · replace h := h.2 e10
          refine Y_iconst (v := (-1)) i_31_122 (by decide) ?_
          refine Y_is7 i_31_123 rfl ?_
          refine Y_al0 i_31_125 ?_
          refine Y_gI (v := (F 11 8)) i_31_126 ow_31 lf_3_41 (by decide) (k_11 hG) rfl ?_
          refine Y_zeq i_31_129 (fun e11 => ?_) (fun e11 => ?_)
          · replace h := h.1 e11
            refine Y_al0 i_31_134 ?_
            refine Y_gR i_31_135 ow_31 lf_3_15 (k_11 hG) (r_11_2 hG) ?_
            refine Y_gR i_31_138 ow_31 lf_3_103 (k_2 hG) (r_2_3 hG) ?_
            refine Y_il2 i_31_141 ?_
            refine Y_il1 i_31_142 ?_
            have o12 := h.1
            replace h := h.2
            refine Y_iast i_31_143 (k_3 hG) (l_3 hG) o12 rfl ?_
            refine Y_al0 i_31_144 ?_
            refine Y_gR i_31_145 ow_31 lf_3_15 (k_11 hG) (r_11_2 hG) ?_
            refine Y_gR i_31_148 ow_31 lf_3_107 (k_2 hG) (r_2_4 hG) ?_
            refine Y_il2 i_31_151 ?_
            refine Y_il3 i_31_152 ?_
            refine Y_iast i_31_153 (k_4 hG) (l_4 hG) o12 rfl ?_
            refine Y_al0 i_31_154 ?_
            refine Y_gR i_31_155 ow_31 lf_3_15 (k_11 hG) (r_11_2 hG) ?_
            refine Y_gR i_31_158 ow_31 lf_3_110 (k_2 hG) (r_2_5 hG) ?_
            refine Y_il2 i_31_161 ?_
            refine Y_il4 i_31_162 ?_
            refine Y_iast i_31_164 (k_5 hG) (l_5 hG) o12 rfl ?_
            refine Y_al0 i_31_165 ?_
            refine Y_gR i_31_166 ow_31 lf_3_15 (k_11 hG) (r_11_2 hG) ?_
            refine Y_gR i_31_169 ow_31 lf_3_113 (k_2 hG) (r_2_6 hG) ?_
            refine Y_il2 i_31_172 ?_
            refine Y_il5 i_31_173 ?_
            refine Y_il6 i_31_175 ?_
            refine Y_imul i_31_177 ?_
            refine Y_iast i_31_178 (k_6 hG) (l_6 hG) o12 rfl ?_
            refine Y_al0 i_31_179 ?_
            refine Y_gR i_31_180 ow_31 lf_3_15 (k_11 hG) (r_11_2 hG) ?_
            refine Y_gR i_31_183 ow_31 lf_3_116 (k_2 hG) (r_2_7 hG) ?_
            refine Y_il2 i_31_186 ?_
            refine Y_il7 i_31_187 ?_
            refine Y_iast i_31_189 (k_7 hG) (l_7 hG) o12 rfl ?_
            refine Y_al0 i_31_190 ?_
            refine Y_gR i_31_191 ow_31 lf_3_15 (k_11 hG) (r_11_2 hG) ?_
            refine Y_il2 i_31_194 ?_
            refine Y_iconst (v := 1) i_31_195 (by decide) ?_
            refine Y_iadd i_31_196 ?_
            refine Y_pI i_31_197 ow_31 lf_3_93 (k_2 hG) ?_
            refine Y_iconst (v := 1) i_31_200 (by decide) ?_
            exact Y_bret i_31_201 rt_31 (by decide) h
          · replace h := h.2 e11
            refine Y_iconst (v := 0) i_31_132 (by decide) ?_
            exact Y_bret i_31_133 rt_31 (by decide) h
  · replace h := h.2 e1
    refine Y_iconst (v := 1) i_31_73 (by decide) ?_
    refine Y_is5 i_31_74 rfl ?_
    refine Y_il5 i_31_76 ?_
    refine Y_zT i_31_78 (by decide) ?_
    refine Y_al0 i_31_85 ?_
    refine Y_gI (v := (F 11 8)) i_31_86 ow_31 lf_3_41 (by decide) (k_11 hG) rfl ?_
    refine Y_zne i_31_89 (fun e13 => ?_) (fun e13 => ?_)
    · replace h := h.1 e13
      refine Y_al0 i_31_92 ?_
      refine Y_iconst (v := 0) i_31_93 (by decide) ?_
      refine Y_bipush (v := 9) i_31_94 (by decide) ?_
      exact Y_iv2 (L0 := [.ref 11, .int 0, .int 9, .null]) i_31_96 ow_31 lm_3_96 ((k_11 hG).trans ow_43.symm) rfl mx_43 rfl rfl hd_31 h
    · replace h := h.2 e13
      refine Y_iconst (v := (-1)) i_31_102 (by decide) ?_
      refine Y_is6 i_31_103 rfl ?_
      refine Y_al0 i_31_105 ?_
      refine Y_gI (v := (F 11 8)) i_31_106 ow_31 lf_3_41 (by decide) (k_11 hG) rfl ?_
      refine Y_zne i_31_109 (fun e14 => ?_) (fun e14 => ?_)
      · replace h := h.1 e14
        refine Y_al0 i_31_112 ?_
        refine Y_iconst (v := 0) i_31_113 (by decide) ?_
        refine Y_bipush (v := 99) i_31_114 (by decide) ?_
        exact Y_iv2 (L0 := [.ref 11, .int 0, .int 99, .null]) i_31_116 ow_31 lm_3_96 ((k_11 hG).trans ow_43.symm) rfl mx_43 rfl rfl hd_31 h
      · replace h := h.2 e14
        refine Y_iconst (v := (-1)) i_31_122 (by decide) ?_
        refine Y_is7 i_31_123 rfl ?_
        refine Y_al0 i_31_125 ?_
        refine Y_gI (v := (F 11 8)) i_31_126 ow_31 lf_3_41 (by decide) (k_11 hG) rfl ?_
        refine Y_zeq i_31_129 (fun e15 => ?_) (fun e15 => ?_)
        · replace h := h.1 e15
          refine Y_al0 i_31_134 ?_
          refine Y_gR i_31_135 ow_31 lf_3_15 (k_11 hG) (r_11_2 hG) ?_
          refine Y_gR i_31_138 ow_31 lf_3_103 (k_2 hG) (r_2_3 hG) ?_
          refine Y_il2 i_31_141 ?_
          refine Y_il1 i_31_142 ?_
          have o16 := h.1
          replace h := h.2
          refine Y_iast i_31_143 (k_3 hG) (l_3 hG) o16 rfl ?_
          refine Y_al0 i_31_144 ?_
          refine Y_gR i_31_145 ow_31 lf_3_15 (k_11 hG) (r_11_2 hG) ?_
          refine Y_gR i_31_148 ow_31 lf_3_107 (k_2 hG) (r_2_4 hG) ?_
          refine Y_il2 i_31_151 ?_
          refine Y_il3 i_31_152 ?_
          refine Y_iast i_31_153 (k_4 hG) (l_4 hG) o16 rfl ?_
          refine Y_al0 i_31_154 ?_
          refine Y_gR i_31_155 ow_31 lf_3_15 (k_11 hG) (r_11_2 hG) ?_
          refine Y_gR i_31_158 ow_31 lf_3_110 (k_2 hG) (r_2_5 hG) ?_
          refine Y_il2 i_31_161 ?_
          refine Y_il4 i_31_162 ?_
          refine Y_iast i_31_164 (k_5 hG) (l_5 hG) o16 rfl ?_
          refine Y_al0 i_31_165 ?_
          refine Y_gR i_31_166 ow_31 lf_3_15 (k_11 hG) (r_11_2 hG) ?_
          refine Y_gR i_31_169 ow_31 lf_3_113 (k_2 hG) (r_2_6 hG) ?_
          refine Y_il2 i_31_172 ?_
          refine Y_il5 i_31_173 ?_
          refine Y_il6 i_31_175 ?_
          refine Y_imul i_31_177 ?_
          refine Y_iast i_31_178 (k_6 hG) (l_6 hG) o16 rfl ?_
          refine Y_al0 i_31_179 ?_
          refine Y_gR i_31_180 ow_31 lf_3_15 (k_11 hG) (r_11_2 hG) ?_
          refine Y_gR i_31_183 ow_31 lf_3_116 (k_2 hG) (r_2_7 hG) ?_
          refine Y_il2 i_31_186 ?_
          refine Y_il7 i_31_187 ?_
          refine Y_iast i_31_189 (k_7 hG) (l_7 hG) o16 rfl ?_
          refine Y_al0 i_31_190 ?_
          refine Y_gR i_31_191 ow_31 lf_3_15 (k_11 hG) (r_11_2 hG) ?_
          refine Y_il2 i_31_194 ?_
          refine Y_iconst (v := 1) i_31_195 (by decide) ?_
          refine Y_iadd i_31_196 ?_
          refine Y_pI i_31_197 ow_31 lf_3_93 (k_2 hG) ?_
          refine Y_iconst (v := 1) i_31_200 (by decide) ?_
          exact Y_bret i_31_201 rt_31 (by decide) h
        · replace h := h.2 e15
          refine Y_iconst (v := 0) i_31_132 (by decide) ?_
          exact Y_bret i_31_133 rt_31 (by decide) h
theorem k_31_85 {d : Nat} {F A : Nat → Nat → Int32} {J : Nat → Nat → Int64} {G : pG} {Q : pR → pM → Prop} {SL p q : Nat} {x1 x2 x3 x4 x5 : Int32} (hG : Geo G SL p q) (h : (((F 11 8) = 0 → X (d + 2) 43 0 [.ref 11, .int 0, .int 9, .null] [] (F, A, J, G) (KK (d + 3) 31 99 [.ref 11, .int x1, .int x2, .int x3, .int x4, .int x5, .null, .null] [] Q)) ∧ (¬ (F 11 8) = 0 → (((F 11 8) = 0 → X (d + 2) 43 0 [.ref 11, .int 0, .int 99, .null] [] (F, A, J, G) (KK (d + 3) 31 119 [.ref 11, .int x1, .int x2, .int x3, .int x4, .int x5, .int (-1), .null] [] Q)) ∧ (¬ (F 11 8) = 0 → (((F 11 8) = 0 → inB x2 10 = true ∧ (Q (.inl (some (.int 1))) ((wF F 2 0 (x2 + 1)), (wF (wF (wF (wF (wF A 3 x2.toNatClampNeg x1) 4 x2.toNatClampNeg x3) 5 x2.toNatClampNeg x4) 6 x2.toNatClampNeg (x5 * (-1))) 7 x2.toNatClampNeg (-1)), J, G))) ∧ (¬ (F 11 8) = 0 → Q (.inl (some (.int 0))) (F, A, J, G)))))))) : KK (d + 3) 31 85 [.ref 11, .int x1, .int x2, .int x3, .int x4, .int x5, .null, .null] [] Q (.inl none) (F, A, J, G) := by
  refine KKv ?_
  refine Y_al0 i_31_85 ?_
  refine Y_gI (v := (F 11 8)) i_31_86 ow_31 lf_3_41 (by decide) (k_11 hG) rfl ?_
  refine Y_zne i_31_89 (fun e1 => ?_) (fun e1 => ?_)
  · replace h := h.1 e1
    refine Y_al0 i_31_92 ?_
    refine Y_iconst (v := 0) i_31_93 (by decide) ?_
    refine Y_bipush (v := 9) i_31_94 (by decide) ?_
    exact Y_iv2 (L0 := [.ref 11, .int 0, .int 9, .null]) i_31_96 ow_31 lm_3_96 ((k_11 hG).trans ow_43.symm) rfl mx_43 rfl rfl hd_31 h
  · replace h := h.2 e1
    refine Y_iconst (v := (-1)) i_31_102 (by decide) ?_
    refine Y_is6 i_31_103 rfl ?_
    refine Y_al0 i_31_105 ?_
    refine Y_gI (v := (F 11 8)) i_31_106 ow_31 lf_3_41 (by decide) (k_11 hG) rfl ?_
    refine Y_zne i_31_109 (fun e2 => ?_) (fun e2 => ?_)
    · replace h := h.1 e2
      refine Y_al0 i_31_112 ?_
      refine Y_iconst (v := 0) i_31_113 (by decide) ?_
      refine Y_bipush (v := 99) i_31_114 (by decide) ?_
      exact Y_iv2 (L0 := [.ref 11, .int 0, .int 99, .null]) i_31_116 ow_31 lm_3_96 ((k_11 hG).trans ow_43.symm) rfl mx_43 rfl rfl hd_31 h
    · replace h := h.2 e2
      refine Y_iconst (v := (-1)) i_31_122 (by decide) ?_
      refine Y_is7 i_31_123 rfl ?_
      refine Y_al0 i_31_125 ?_
      refine Y_gI (v := (F 11 8)) i_31_126 ow_31 lf_3_41 (by decide) (k_11 hG) rfl ?_
      refine Y_zeq i_31_129 (fun e3 => ?_) (fun e3 => ?_)
      · replace h := h.1 e3
        refine Y_al0 i_31_134 ?_
        refine Y_gR i_31_135 ow_31 lf_3_15 (k_11 hG) (r_11_2 hG) ?_
        refine Y_gR i_31_138 ow_31 lf_3_103 (k_2 hG) (r_2_3 hG) ?_
        refine Y_il2 i_31_141 ?_
        refine Y_il1 i_31_142 ?_
        have o4 := h.1
        replace h := h.2
        refine Y_iast i_31_143 (k_3 hG) (l_3 hG) o4 rfl ?_
        refine Y_al0 i_31_144 ?_
        refine Y_gR i_31_145 ow_31 lf_3_15 (k_11 hG) (r_11_2 hG) ?_
        refine Y_gR i_31_148 ow_31 lf_3_107 (k_2 hG) (r_2_4 hG) ?_
        refine Y_il2 i_31_151 ?_
        refine Y_il3 i_31_152 ?_
        refine Y_iast i_31_153 (k_4 hG) (l_4 hG) o4 rfl ?_
        refine Y_al0 i_31_154 ?_
        refine Y_gR i_31_155 ow_31 lf_3_15 (k_11 hG) (r_11_2 hG) ?_
        refine Y_gR i_31_158 ow_31 lf_3_110 (k_2 hG) (r_2_5 hG) ?_
        refine Y_il2 i_31_161 ?_
        refine Y_il4 i_31_162 ?_
        refine Y_iast i_31_164 (k_5 hG) (l_5 hG) o4 rfl ?_
        refine Y_al0 i_31_165 ?_
        refine Y_gR i_31_166 ow_31 lf_3_15 (k_11 hG) (r_11_2 hG) ?_
        refine Y_gR i_31_169 ow_31 lf_3_113 (k_2 hG) (r_2_6 hG) ?_
        refine Y_il2 i_31_172 ?_
        refine Y_il5 i_31_173 ?_
        refine Y_il6 i_31_175 ?_
        refine Y_imul i_31_177 ?_
        refine Y_iast i_31_178 (k_6 hG) (l_6 hG) o4 rfl ?_
        refine Y_al0 i_31_179 ?_
        refine Y_gR i_31_180 ow_31 lf_3_15 (k_11 hG) (r_11_2 hG) ?_
        refine Y_gR i_31_183 ow_31 lf_3_116 (k_2 hG) (r_2_7 hG) ?_
        refine Y_il2 i_31_186 ?_
        refine Y_il7 i_31_187 ?_
        refine Y_iast i_31_189 (k_7 hG) (l_7 hG) o4 rfl ?_
        refine Y_al0 i_31_190 ?_
        refine Y_gR i_31_191 ow_31 lf_3_15 (k_11 hG) (r_11_2 hG) ?_
        refine Y_il2 i_31_194 ?_
        refine Y_iconst (v := 1) i_31_195 (by decide) ?_
        refine Y_iadd i_31_196 ?_
        refine Y_pI i_31_197 ow_31 lf_3_93 (k_2 hG) ?_
        refine Y_iconst (v := 1) i_31_200 (by decide) ?_
        exact Y_bret i_31_201 rt_31 (by decide) h
      · replace h := h.2 e3
        refine Y_iconst (v := 0) i_31_132 (by decide) ?_
        exact Y_bret i_31_133 rt_31 (by decide) h
theorem k_31_99 {d : Nat} {F A : Nat → Nat → Int32} {J : Nat → Nat → Int64} {G : pG} {Q : pR → pM → Prop} {SL p q : Nat} {x1 x2 x3 x4 x5 r : Int32} (hG : Geo G SL p q) (h : (((F 11 8) = 0 → X (d + 2) 43 0 [.ref 11, .int 0, .int 99, .null] [] (F, A, J, G) (KK (d + 3) 31 119 [.ref 11, .int x1, .int x2, .int x3, .int x4, .int x5, .int r, .null] [] Q)) ∧ (¬ (F 11 8) = 0 → (((F 11 8) = 0 → inB x2 10 = true ∧ (Q (.inl (some (.int 1))) ((wF F 2 0 (x2 + 1)), (wF (wF (wF (wF (wF A 3 x2.toNatClampNeg x1) 4 x2.toNatClampNeg x3) 5 x2.toNatClampNeg x4) 6 x2.toNatClampNeg (x5 * r)) 7 x2.toNatClampNeg (-1)), J, G))) ∧ (¬ (F 11 8) = 0 → Q (.inl (some (.int 0))) (F, A, J, G)))))) : KK (d + 3) 31 99 [.ref 11, .int x1, .int x2, .int x3, .int x4, .int x5, .null, .null] [] Q (.inl (some (.int r))) (F, A, J, G) := by
  refine KKi ?_
  refine Y_goto i_31_99 ?_
  refine Y_is6 i_31_103 rfl ?_
  refine Y_al0 i_31_105 ?_
  refine Y_gI (v := (F 11 8)) i_31_106 ow_31 lf_3_41 (by decide) (k_11 hG) rfl ?_
  refine Y_zne i_31_109 (fun e1 => ?_) (fun e1 => ?_)
  · replace h := h.1 e1
    refine Y_al0 i_31_112 ?_
    refine Y_iconst (v := 0) i_31_113 (by decide) ?_
    refine Y_bipush (v := 99) i_31_114 (by decide) ?_
    exact Y_iv2 (L0 := [.ref 11, .int 0, .int 99, .null]) i_31_116 ow_31 lm_3_96 ((k_11 hG).trans ow_43.symm) rfl mx_43 rfl rfl hd_31 h
  · replace h := h.2 e1
    refine Y_iconst (v := (-1)) i_31_122 (by decide) ?_
    refine Y_is7 i_31_123 rfl ?_
    refine Y_al0 i_31_125 ?_
    refine Y_gI (v := (F 11 8)) i_31_126 ow_31 lf_3_41 (by decide) (k_11 hG) rfl ?_
    refine Y_zeq i_31_129 (fun e2 => ?_) (fun e2 => ?_)
    · replace h := h.1 e2
      refine Y_al0 i_31_134 ?_
      refine Y_gR i_31_135 ow_31 lf_3_15 (k_11 hG) (r_11_2 hG) ?_
      refine Y_gR i_31_138 ow_31 lf_3_103 (k_2 hG) (r_2_3 hG) ?_
      refine Y_il2 i_31_141 ?_
      refine Y_il1 i_31_142 ?_
      have o3 := h.1
      replace h := h.2
      refine Y_iast i_31_143 (k_3 hG) (l_3 hG) o3 rfl ?_
      refine Y_al0 i_31_144 ?_
      refine Y_gR i_31_145 ow_31 lf_3_15 (k_11 hG) (r_11_2 hG) ?_
      refine Y_gR i_31_148 ow_31 lf_3_107 (k_2 hG) (r_2_4 hG) ?_
      refine Y_il2 i_31_151 ?_
      refine Y_il3 i_31_152 ?_
      refine Y_iast i_31_153 (k_4 hG) (l_4 hG) o3 rfl ?_
      refine Y_al0 i_31_154 ?_
      refine Y_gR i_31_155 ow_31 lf_3_15 (k_11 hG) (r_11_2 hG) ?_
      refine Y_gR i_31_158 ow_31 lf_3_110 (k_2 hG) (r_2_5 hG) ?_
      refine Y_il2 i_31_161 ?_
      refine Y_il4 i_31_162 ?_
      refine Y_iast i_31_164 (k_5 hG) (l_5 hG) o3 rfl ?_
      refine Y_al0 i_31_165 ?_
      refine Y_gR i_31_166 ow_31 lf_3_15 (k_11 hG) (r_11_2 hG) ?_
      refine Y_gR i_31_169 ow_31 lf_3_113 (k_2 hG) (r_2_6 hG) ?_
      refine Y_il2 i_31_172 ?_
      refine Y_il5 i_31_173 ?_
      refine Y_il6 i_31_175 ?_
      refine Y_imul i_31_177 ?_
      refine Y_iast i_31_178 (k_6 hG) (l_6 hG) o3 rfl ?_
      refine Y_al0 i_31_179 ?_
      refine Y_gR i_31_180 ow_31 lf_3_15 (k_11 hG) (r_11_2 hG) ?_
      refine Y_gR i_31_183 ow_31 lf_3_116 (k_2 hG) (r_2_7 hG) ?_
      refine Y_il2 i_31_186 ?_
      refine Y_il7 i_31_187 ?_
      refine Y_iast i_31_189 (k_7 hG) (l_7 hG) o3 rfl ?_
      refine Y_al0 i_31_190 ?_
      refine Y_gR i_31_191 ow_31 lf_3_15 (k_11 hG) (r_11_2 hG) ?_
      refine Y_il2 i_31_194 ?_
      refine Y_iconst (v := 1) i_31_195 (by decide) ?_
      refine Y_iadd i_31_196 ?_
      refine Y_pI i_31_197 ow_31 lf_3_93 (k_2 hG) ?_
      refine Y_iconst (v := 1) i_31_200 (by decide) ?_
      exact Y_bret i_31_201 rt_31 (by decide) h
    · replace h := h.2 e2
      refine Y_iconst (v := 0) i_31_132 (by decide) ?_
      exact Y_bret i_31_133 rt_31 (by decide) h
theorem k_31_119 {d : Nat} {F A : Nat → Nat → Int32} {J : Nat → Nat → Int64} {G : pG} {Q : pR → pM → Prop} {SL p q : Nat} {x1 x2 x3 x4 x5 x6 r : Int32} (hG : Geo G SL p q) (h : (((F 11 8) = 0 → inB x2 10 = true ∧ (Q (.inl (some (.int 1))) ((wF F 2 0 (x2 + 1)), (wF (wF (wF (wF (wF A 3 x2.toNatClampNeg x1) 4 x2.toNatClampNeg x3) 5 x2.toNatClampNeg x4) 6 x2.toNatClampNeg (x5 * x6)) 7 x2.toNatClampNeg r), J, G))) ∧ (¬ (F 11 8) = 0 → Q (.inl (some (.int 0))) (F, A, J, G)))) : KK (d + 3) 31 119 [.ref 11, .int x1, .int x2, .int x3, .int x4, .int x5, .int x6, .null] [] Q (.inl (some (.int r))) (F, A, J, G) := by
  refine KKi ?_
  refine Y_goto i_31_119 ?_
  refine Y_is7 i_31_123 rfl ?_
  refine Y_al0 i_31_125 ?_
  refine Y_gI (v := (F 11 8)) i_31_126 ow_31 lf_3_41 (by decide) (k_11 hG) rfl ?_
  refine Y_zeq i_31_129 (fun e1 => ?_) (fun e1 => ?_)
  · replace h := h.1 e1
    refine Y_al0 i_31_134 ?_
    refine Y_gR i_31_135 ow_31 lf_3_15 (k_11 hG) (r_11_2 hG) ?_
    refine Y_gR i_31_138 ow_31 lf_3_103 (k_2 hG) (r_2_3 hG) ?_
    refine Y_il2 i_31_141 ?_
    refine Y_il1 i_31_142 ?_
    have o2 := h.1
    replace h := h.2
    refine Y_iast i_31_143 (k_3 hG) (l_3 hG) o2 rfl ?_
    refine Y_al0 i_31_144 ?_
    refine Y_gR i_31_145 ow_31 lf_3_15 (k_11 hG) (r_11_2 hG) ?_
    refine Y_gR i_31_148 ow_31 lf_3_107 (k_2 hG) (r_2_4 hG) ?_
    refine Y_il2 i_31_151 ?_
    refine Y_il3 i_31_152 ?_
    refine Y_iast i_31_153 (k_4 hG) (l_4 hG) o2 rfl ?_
    refine Y_al0 i_31_154 ?_
    refine Y_gR i_31_155 ow_31 lf_3_15 (k_11 hG) (r_11_2 hG) ?_
    refine Y_gR i_31_158 ow_31 lf_3_110 (k_2 hG) (r_2_5 hG) ?_
    refine Y_il2 i_31_161 ?_
    refine Y_il4 i_31_162 ?_
    refine Y_iast i_31_164 (k_5 hG) (l_5 hG) o2 rfl ?_
    refine Y_al0 i_31_165 ?_
    refine Y_gR i_31_166 ow_31 lf_3_15 (k_11 hG) (r_11_2 hG) ?_
    refine Y_gR i_31_169 ow_31 lf_3_113 (k_2 hG) (r_2_6 hG) ?_
    refine Y_il2 i_31_172 ?_
    refine Y_il5 i_31_173 ?_
    refine Y_il6 i_31_175 ?_
    refine Y_imul i_31_177 ?_
    refine Y_iast i_31_178 (k_6 hG) (l_6 hG) o2 rfl ?_
    refine Y_al0 i_31_179 ?_
    refine Y_gR i_31_180 ow_31 lf_3_15 (k_11 hG) (r_11_2 hG) ?_
    refine Y_gR i_31_183 ow_31 lf_3_116 (k_2 hG) (r_2_7 hG) ?_
    refine Y_il2 i_31_186 ?_
    refine Y_il7 i_31_187 ?_
    refine Y_iast i_31_189 (k_7 hG) (l_7 hG) o2 rfl ?_
    refine Y_al0 i_31_190 ?_
    refine Y_gR i_31_191 ow_31 lf_3_15 (k_11 hG) (r_11_2 hG) ?_
    refine Y_il2 i_31_194 ?_
    refine Y_iconst (v := 1) i_31_195 (by decide) ?_
    refine Y_iadd i_31_196 ?_
    refine Y_pI i_31_197 ow_31 lf_3_93 (k_2 hG) ?_
    refine Y_iconst (v := 1) i_31_200 (by decide) ?_
    exact Y_bret i_31_201 rt_31 (by decide) h
  · replace h := h.2 e1
    refine Y_iconst (v := 0) i_31_132 (by decide) ?_
    exact Y_bret i_31_133 rt_31 (by decide) h
/- 32 Reader.limitLine()Z -/
theorem t_32_0 {d : Nat} {F A : Nat → Nat → Int32} {J : Nat → Nat → Int64} {G : pG} {Q : pR → pM → Prop} {SL p q : Nat} (hG : Geo G SL p q) (h : (((F 11 9) = 0 → X (d + 2) 49 0 [.ref 11] [] ((wF F 11 9 1), A, J, G) (KK (d + 3) 32 22 [.ref 11] [] Q)) ∧ (¬ (F 11 9) = 0 → Q (.inl (some (.int 0))) ((wF (wF F 11 8 4) 11 0 (F 11 5)), A, J, G)))) : X (d + 3) 32 0 [.ref 11] [] (F, A, J, G) Q := by
  refine Y_al0 i_32_0 ?_
  refine Y_gI (v := (F 11 9)) i_32_1 ow_32 lf_3_34 (by decide) (k_11 hG) rfl ?_
  refine Y_zeq i_32_4 (fun e1 => ?_) (fun e1 => ?_)
  · replace h := h.1 e1
    refine Y_al0 i_32_13 ?_
    refine Y_iconst (v := 1) i_32_14 (by decide) ?_
    refine Y_pB i_32_15 ow_32 lf_3_34 (k_11 hG) (by decide) ?_
    refine Y_al0 i_32_18 ?_
    exact Y_iv0 (L0 := [.ref 11]) i_32_19 ow_32 lm_3_50 ((k_11 hG).trans ow_49.symm) rfl mx_49 rfl rfl hd_32 h
  · replace h := h.2 e1
    refine Y_al0 i_32_7 ?_
    refine Y_iconst (v := 4) i_32_8 (by decide) ?_
    refine Y_iv1 (L0 := [.ref 11, .int 4]) i_32_9 ow_32 lm_3_90 ((k_11 hG).trans ow_48.symm) rfl mx_48 rfl rfl hd_32 ?_
    refine Y_al0 i_48_0 ?_
    refine Y_il1 i_48_1 ?_
    refine Y_pI i_48_2 ow_48 lf_3_41 (k_11 hG) ?_
    refine Y_al0 i_48_5 ?_
    refine Y_al0 i_48_6 ?_
    refine Y_gI (v := (F 11 5)) i_48_7 ow_48 lf_3_158 (by decide) (k_11 hG) (by simp [wF, wJ, va_up, cpR, bF, bA]) ?_
    refine Y_pI i_48_10 ow_48 lf_3_44 (k_11 hG) ?_
    refine Y_iconst (v := 0) i_48_13 (by decide) ?_
    refine Y_bret i_48_14 rt_48 (by decide) (KKi ?_)
    exact Y_bret i_32_12 rt_32 (by decide) h
theorem k_32_22 {d : Nat} {F A : Nat → Nat → Int32} {J : Nat → Nat → Int64} {G : pG} {Q : pR → pM → Prop} {SL p q : Nat} (hG : Geo G SL p q) (h : X (d + 2) 43 0 [.ref 11, .int 0, .int 40, .null] [] (F, A, J, G) (KK (d + 3) 32 33 [.ref 11] [.ref 2] Q)) : KK (d + 3) 32 22 [.ref 11] [] Q (.inl none) (F, A, J, G) := by
  refine KKv ?_
  refine Y_al0 i_32_22 ?_
  refine Y_gR i_32_23 ow_32 lf_3_15 (k_11 hG) (r_11_2 hG) ?_
  refine Y_al0 i_32_26 ?_
  refine Y_iconst (v := 0) i_32_27 (by decide) ?_
  refine Y_bipush (v := 40) i_32_28 (by decide) ?_
  exact Y_iv2 (L0 := [.ref 11, .int 0, .int 40, .null]) i_32_30 ow_32 lm_3_96 ((k_11 hG).trans ow_43.symm) rfl mx_43 rfl rfl hd_32 h
theorem k_32_33 {d : Nat} {F A : Nat → Nat → Int32} {J : Nat → Nat → Int64} {G : pG} {Q : pR → pM → Prop} {SL p q : Nat} {r : Int32} (hG : Geo G SL p q) (h : (((F 11 8) = 0 → Q (.inl (some (.int 1))) ((wF F 2 1 r), A, J, G)) ∧ (¬ (F 11 8) = 0 → Q (.inl (some (.int 0))) ((wF F 2 1 r), A, J, G)))) : KK (d + 3) 32 33 [.ref 11] [.ref 2] Q (.inl (some (.int r))) (F, A, J, G) := by
  refine KKi ?_
  refine Y_pI i_32_33 ow_32 lf_3_119 (k_2 hG) ?_
  refine Y_al0 i_32_36 ?_
  refine Y_gI (v := (F 11 8)) i_32_37 ow_32 lf_3_41 (by decide) (k_11 hG) (by simp [wF, wJ, va_up, cpR, bF, bA]) ?_
  refine Y_zne i_32_40 (fun e1 => ?_) (fun e1 => ?_)
  · replace h := h.1 e1
    refine Y_iconst (v := 1) i_32_43 (by decide) ?_
    refine Y_goto i_32_44 ?_
    exact Y_bret i_32_48 rt_32 (by decide) h
  · replace h := h.2 e1
    refine Y_iconst (v := 0) i_32_47 (by decide) ?_
    exact Y_bret i_32_48 rt_32 (by decide) h
end Tr14a
