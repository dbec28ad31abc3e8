section Tr14b
/- 33 Reader.foodLine()Z -/
theorem t_33_0 {d : Nat} {F A : Nat → Nat → Int32} {J : Nat → Nat → Int64} {G : pG} {Q : pR → pM → Prop} {SL p q : Nat} (hG : Geo G SL p q) (h : (((F 11 10) = 0 → X (d + 2) 49 0 [.ref 11] [] ((wF F 11 10 1), A, J, G) (KK (d + 3) 33 22 [.ref 11] [] Q)) ∧ (¬ (F 11 10) = 0 → Q (.inl (some (.int 0))) ((wF (wF F 11 8 4) 11 0 (F 11 5)), A, J, G)))) : X (d + 3) 33 0 [.ref 11] [] (F, A, J, G) Q := by
  refine Y_al0 i_33_0 ?_
  refine Y_gI (v := (F 11 10)) i_33_1 ow_33 lf_3_38 (by decide) (k_11 hG) rfl ?_
  refine Y_zeq i_33_4 (fun e1 => ?_) (fun e1 => ?_)
  · replace h := h.1 e1
    refine Y_al0 i_33_13 ?_
    refine Y_iconst (v := 1) i_33_14 (by decide) ?_
    refine Y_pB i_33_15 ow_33 lf_3_38 (k_11 hG) (by decide) ?_
    refine Y_al0 i_33_18 ?_
    exact Y_iv0 (L0 := [.ref 11]) i_33_19 ow_33 lm_3_50 ((k_11 hG).trans ow_49.symm) rfl mx_49 rfl rfl hd_33 h
  · replace h := h.2 e1
    refine Y_al0 i_33_7 ?_
    refine Y_iconst (v := 4) i_33_8 (by decide) ?_
    refine Y_iv1 (L0 := [.ref 11, .int 4]) i_33_9 ow_33 lm_3_90 ((k_11 hG).trans ow_48.symm) rfl mx_48 rfl rfl hd_33 ?_
    refine Y_al0 i_48_0 ?_
    refine Y_il1 i_48_1 ?_
    refine Y_pI i_48_2 ow_48 lf_3_41 (k_11 hG) ?_
    refine Y_al0 i_48_5 ?_
    refine Y_al0 i_48_6 ?_
    refine Y_gI (v := (F 11 5)) i_48_7 ow_48 lf_3_158 (by decide) (k_11 hG) (by simp [wF, wJ, va_up, cpR, bF, bA]) ?_
    refine Y_pI i_48_10 ow_48 lf_3_44 (k_11 hG) ?_
    refine Y_iconst (v := 0) i_48_13 (by decide) ?_
    refine Y_bret i_48_14 rt_48 (by decide) (KKi ?_)
    exact Y_bret i_33_12 rt_33 (by decide) h
theorem k_33_22 {d : Nat} {F A : Nat → Nat → Int32} {J : Nat → Nat → Int64} {G : pG} {Q : pR → pM → Prop} {SL p q : Nat} (hG : Geo G SL p q) (h : X (d + 2) 43 0 [.ref 11, .int 0, .int 999, .null] [] (F, A, J, G) (KK (d + 3) 33 34 [.ref 11] [.ref 2] Q)) : KK (d + 3) 33 22 [.ref 11] [] Q (.inl none) (F, A, J, G) := by
  refine KKv ?_
  refine Y_al0 i_33_22 ?_
  refine Y_gR i_33_23 ow_33 lf_3_15 (k_11 hG) (r_11_2 hG) ?_
  refine Y_al0 i_33_26 ?_
  refine Y_iconst (v := 0) i_33_27 (by decide) ?_
  refine Y_sipush (v := 999) i_33_28 (by decide) ?_
  exact Y_iv2 (L0 := [.ref 11, .int 0, .int 999, .null]) i_33_31 ow_33 lm_3_96 ((k_11 hG).trans ow_43.symm) rfl mx_43 rfl rfl hd_33 h
theorem k_33_34 {d : Nat} {F A : Nat → Nat → Int32} {J : Nat → Nat → Int64} {G : pG} {Q : pR → pM → Prop} {SL p q : Nat} {r : Int32} (hG : Geo G SL p q) (h : (((F 11 8) = 0 → Q (.inl (some (.int 1))) ((wF F 2 2 r), A, J, G)) ∧ (¬ (F 11 8) = 0 → Q (.inl (some (.int 0))) ((wF F 2 2 r), A, J, G)))) : KK (d + 3) 33 34 [.ref 11] [.ref 2] Q (.inl (some (.int r))) (F, A, J, G) := by
  refine KKi ?_
  refine Y_pI i_33_34 ow_33 lf_3_121 (k_2 hG) ?_
  refine Y_al0 i_33_37 ?_
  refine Y_gI (v := (F 11 8)) i_33_38 ow_33 lf_3_41 (by decide) (k_11 hG) (by simp [wF, wJ, va_up, cpR, bF, bA]) ?_
  refine Y_zne i_33_41 (fun e1 => ?_) (fun e1 => ?_)
  · replace h := h.1 e1
    refine Y_iconst (v := 1) i_33_44 (by decide) ?_
    refine Y_goto i_33_45 ?_
    exact Y_bret i_33_49 rt_33 (by decide) h
  · replace h := h.2 e1
    refine Y_iconst (v := 0) i_33_48 (by decide) ?_
    exact Y_bret i_33_49 rt_33 (by decide) h
/- 34 Reader.takesLine()Z -/
theorem t_34_0 {d : Nat} {F A : Nat → Nat → Int32} {J : Nat → Nat → Int64} {G : pG} {Q : pR → pM → Prop} {SL p q : Nat} (hG : Geo G SL p q) (h : ((0 < (F 8 1) → Q (.inl (some (.int 0))) ((wF (wF F 11 8 4) 11 0 (F 11 5)), A, J, G)) ∧ (¬ 0 < (F 8 1) → X (d + 2) 49 0 [.ref 11] [] (F, A, J, G) (KK (d + 3) 34 23 [.ref 11] [] Q)))) : X (d + 3) 34 0 [.ref 11] [] (F, A, J, G) Q := by
  refine Y_al0 i_34_0 ?_
  refine Y_gR i_34_1 ow_34 lf_3_15 (k_11 hG) (r_11_2 hG) ?_
  refine Y_gR i_34_4 ow_34 lf_3_123 (k_2 hG) (r_2_8 hG) ?_
  refine Y_gI (v := (F 8 1)) i_34_7 ow_34 lf_3_126 (by decide) (k_8 hG) rfl ?_
  refine Y_zle i_34_10 (fun e1 => ?_) (fun e1 => ?_)
  · replace h := h.1 e1
    refine Y_al0 i_34_13 ?_
    refine Y_iconst (v := 4) i_34_14 (by decide) ?_
    refine Y_iv1 (L0 := [.ref 11, .int 4]) i_34_15 ow_34 lm_3_90 ((k_11 hG).trans ow_48.symm) rfl mx_48 rfl rfl hd_34 ?_
    refine Y_al0 i_48_0 ?_
    refine Y_il1 i_48_1 ?_
    refine Y_pI i_48_2 ow_48 lf_3_41 (k_11 hG) ?_
    refine Y_al0 i_48_5 ?_
    refine Y_al0 i_48_6 ?_
    refine Y_gI (v := (F 11 5)) i_48_7 ow_48 lf_3_158 (by decide) (k_11 hG) (by simp [wF, wJ, va_up, cpR, bF, bA]) ?_
    refine Y_pI i_48_10 ow_48 lf_3_44 (k_11 hG) ?_
    refine Y_iconst (v := 0) i_48_13 (by decide) ?_
    refine Y_bret i_48_14 rt_48 (by decide) (KKi ?_)
    exact Y_bret i_34_18 rt_34 (by decide) h
  · replace h := h.2 e1
    refine Y_al0 i_34_19 ?_
    exact Y_iv0 (L0 := [.ref 11]) i_34_20 ow_34 lm_3_50 ((k_11 hG).trans ow_49.symm) rfl mx_49 rfl rfl hd_34 h
theorem k_34_23 {d : Nat} {F A : Nat → Nat → Int32} {J : Nat → Nat → Int64} {G : pG} {Q : pR → pM → Prop} {SL p q : Nat} (hG : Geo G SL p q) (h : X (d + 2) 36 0 [.ref 11, .int 0, .null] [] (F, A, J, G) (KK (d + 3) 34 28 [.ref 11] [] Q)) : KK (d + 3) 34 23 [.ref 11] [] Q (.inl none) (F, A, J, G) := by
  refine KKv ?_
  refine Y_al0 i_34_23 ?_
  refine Y_iconst (v := 0) i_34_24 (by decide) ?_
  exact Y_iv1 (L0 := [.ref 11, .int 0, .null]) i_34_25 ow_34 lm_3_129 ((k_11 hG).trans ow_36.symm) rfl mx_36 rfl rfl hd_34 h
theorem k_34_28 {d : Nat} {F A : Nat → Nat → Int32} {J : Nat → Nat → Int64} {G : pG} {Q : pR → pM → Prop} {SL p q : Nat} {r : Int32} (hG : Geo G SL p q) (h : (r = 0 ∨ r = 1) ∧ (Q (.inl (some (.int r))) (F, A, J, G))) : KK (d + 3) 34 28 [.ref 11] [] Q (.inl (some (.int r))) (F, A, J, G) := by
  refine KKi ?_
  have o1 := h.1
  replace h := h.2
  exact Y_bret i_34_28 rt_34 o1 h
/- 35 Reader.close()Z -/
theorem t_35_0 {d : Nat} {F A : Nat → Nat → Int32} {J : Nat → Nat → Int64} {G : pG} {Q : pR → pM → Prop} {SL p q : Nat} (hG : Geo G SL p q) (h : (((F 11 4) = 4 → inB (F 11 5) 600 = true ∧ (((A 1 (F 11 5).toNatClampNeg) = 59 → X (d + 1) 49 0 [.ref 11] [] (F, A, J, G) (KK (d + 2) 35 19 [.ref 11] [] Q)) ∧ (¬ (A 1 (F 11 5).toNatClampNeg) = 59 → Q (.inl (some (.int 0))) ((wF (wF F 11 8 1) 11 0 (F 11 5)), A, J, G)))) ∧ (¬ (F 11 4) = 4 → Q (.inl (some (.int 0))) ((wF (wF F 11 8 1) 11 0 (F 11 5)), A, J, G)))) : X (d + 2) 35 0 [.ref 11] [] (F, A, J, G) Q := by
  refine Y_al0 i_35_0 ?_
  refine Y_bipush (v := 59) i_35_1 (by decide) ?_
  refine Y_iv1 (L0 := [.ref 11, .int 59]) i_35_3 ow_35 lm_3_99 ((k_11 hG).trans ow_47.symm) rfl mx_47 rfl rfl hd_35 ?_
  refine Y_al0 i_47_0 ?_
  refine Y_gI (v := (F 11 4)) i_47_1 ow_47 lf_3_53 (by decide) (k_11 hG) rfl ?_
  refine Y_iconst (v := 4) i_47_4 (by decide) ?_
  refine Y_cne i_47_5 (fun e1 => ?_) (fun e1 => ?_)
  · replace h := h.1 e1
    refine Y_al0 i_47_8 ?_
    refine Y_gR i_47_9 ow_47 lf_3_9 (k_11 hG) (r_11_1 hG) ?_
    refine Y_al0 i_47_12 ?_
    refine Y_gI (v := (F 11 5)) i_47_13 ow_47 lf_3_158 (by decide) (k_11 hG) rfl ?_
    have o2 := h.1
    replace h := h.2
    refine Y_baload (k := (F 11 5).toNatClampNeg) (v := (A 1 (F 11 5).toNatClampNeg)) i_47_16 (k_1 hG) (l_1 hG) o2 rfl rfl ?_
    refine Y_il1 i_47_17 ?_
    refine Y_cne i_47_18 (fun e3 => ?_) (fun e3 => ?_)
    · replace h := h.1 e3
      refine Y_iconst (v := 1) i_47_21 (by decide) ?_
      refine Y_goto i_47_22 ?_
      refine Y_bret i_47_26 rt_47 (by decide) (KKi ?_)
      refine Y_zT i_35_6 (by decide) ?_
      refine Y_al0 i_35_15 ?_
      exact Y_iv0 (L0 := [.ref 11]) i_35_16 ow_35 lm_3_50 ((k_11 hG).trans ow_49.symm) rfl mx_49 rfl rfl hd_35 h
    · replace h := h.2 e3
      refine Y_iconst (v := 0) i_47_25 (by decide) ?_
      refine Y_bret i_47_26 rt_47 (by decide) (KKi ?_)
      refine Y_zF i_35_6 (by decide) ?_
      refine Y_al0 i_35_9 ?_
      refine Y_iconst (v := 1) i_35_10 (by decide) ?_
      refine Y_iv1 (L0 := [.ref 11, .int 1]) i_35_11 ow_35 lm_3_90 ((k_11 hG).trans ow_48.symm) rfl mx_48 rfl rfl hd_35 ?_
      refine Y_al0 i_48_0 ?_
      refine Y_il1 i_48_1 ?_
      refine Y_pI i_48_2 ow_48 lf_3_41 (k_11 hG) ?_
      refine Y_al0 i_48_5 ?_
      refine Y_al0 i_48_6 ?_
      refine Y_gI (v := (F 11 5)) i_48_7 ow_48 lf_3_158 (by decide) (k_11 hG) (by simp [wF, wJ, va_up, cpR, bF, bA]) ?_
      refine Y_pI i_48_10 ow_48 lf_3_44 (k_11 hG) ?_
      refine Y_iconst (v := 0) i_48_13 (by decide) ?_
      refine Y_bret i_48_14 rt_48 (by decide) (KKi ?_)
      exact Y_bret i_35_14 rt_35 (by decide) h
  · replace h := h.2 e1
    refine Y_iconst (v := 0) i_47_25 (by decide) ?_
    refine Y_bret i_47_26 rt_47 (by decide) (KKi ?_)
    refine Y_zF i_35_6 (by decide) ?_
    refine Y_al0 i_35_9 ?_
    refine Y_iconst (v := 1) i_35_10 (by decide) ?_
    refine Y_iv1 (L0 := [.ref 11, .int 1]) i_35_11 ow_35 lm_3_90 ((k_11 hG).trans ow_48.symm) rfl mx_48 rfl rfl hd_35 ?_
    refine Y_al0 i_48_0 ?_
    refine Y_il1 i_48_1 ?_
    refine Y_pI i_48_2 ow_48 lf_3_41 (k_11 hG) ?_
    refine Y_al0 i_48_5 ?_
    refine Y_al0 i_48_6 ?_
    refine Y_gI (v := (F 11 5)) i_48_7 ow_48 lf_3_158 (by decide) (k_11 hG) (by simp [wF, wJ, va_up, cpR, bF, bA]) ?_
    refine Y_pI i_48_10 ow_48 lf_3_44 (k_11 hG) ?_
    refine Y_iconst (v := 0) i_48_13 (by decide) ?_
    refine Y_bret i_48_14 rt_48 (by decide) (KKi ?_)
    exact Y_bret i_35_14 rt_35 (by decide) h
theorem k_35_19 {d : Nat} {F A : Nat → Nat → Int32} {J : Nat → Nat → Int64} {G : pG} {Q : pR → pM → Prop} {SL p q : Nat} (hG : Geo G SL p q) (h : Q (.inl (some (.int 1))) (F, A, J, G)) : KK (d + 2) 35 19 [.ref 11] [] Q (.inl none) (F, A, J, G) := by
  refine KKv ?_
  refine Y_iconst (v := 1) i_35_19 (by decide) ?_
  exact Y_bret i_35_20 rt_35 (by decide) h
/- 36 Reader.expr(I)Z -/
theorem t_36_0 {d : Nat} {F A : Nat → Nat → Int32} {J : Nat → Nat → Int64} {G : pG} {Q : pR → pM → Prop} {SL p q : Nat} {x1 : Int32} (hG : Geo G SL p q) (h : ((x1 < 6 → X (d + 1) 37 0 [.ref 11, .int x1, .null] [] (F, A, J, G) (KK (d + 2) 36 46 [.ref 11, .int x1, .null] [] Q)) ∧ (¬ x1 < 6 → (((F 11 4) = 3 → Q (.inl (some (.int 0))) ((wF (wF F 11 8 2) 11 0 (F 11 5)), A, J, G)) ∧ (¬ (F 11 4) = 3 → (((F 11 4) = 2 → Q (.inl (some (.int 0))) ((wF (wF F 11 8 2) 11 0 (F 11 5)), A, J, G)) ∧ (¬ (F 11 4) = 2 → (((F 11 4) = 4 → inB (F 11 5) 600 = true ∧ (((A 1 (F 11 5).toNatClampNeg) = 40 → Q (.inl (some (.int 0))) ((wF (wF F 11 8 2) 11 0 (F 11 5)), A, J, G)) ∧ (¬ (A 1 (F 11 5).toNatClampNeg) = 40 → Q (.inl (some (.int 0))) ((wF (wF F 11 8 1) 11 0 (F 11 5)), A, J, G)))) ∧ (¬ (F 11 4) = 4 → Q (.inl (some (.int 0))) ((wF (wF F 11 8 1) 11 0 (F 11 5)), A, J, G)))))))))) : X (d + 2) 36 0 [.ref 11, .int x1, .null] [] (F, A, J, G) Q := by
  refine Y_il1 i_36_0 ?_
  refine Y_bipush (v := 6) i_36_1 (by decide) ?_
  refine Y_clt i_36_3 (fun e1 => ?_) (fun e1 => ?_)
  · replace h := h.1 e1
    refine Y_al0 i_36_41 ?_
    refine Y_il1 i_36_42 ?_
    exact Y_iv1 (L0 := [.ref 11, .int x1, .null]) i_36_43 ow_36 lm_3_132 ((k_11 hG).trans ow_37.symm) rfl mx_37 rfl rfl hd_36 h
  · replace h := h.2 e1
    refine Y_al0 i_36_6 ?_
    refine Y_al0 i_36_7 ?_
    refine Y_gI (v := (F 11 4)) i_36_8 ow_36 lf_3_53 (by decide) (k_11 hG) rfl ?_
    refine Y_iconst (v := 3) i_36_11 (by decide) ?_
    refine Y_ceq i_36_12 (fun e2 => ?_) (fun e2 => ?_)
    · replace h := h.1 e2
      refine Y_iconst (v := 2) i_36_32 (by decide) ?_
      refine Y_goto i_36_33 ?_
      refine Y_iv1 (L0 := [.ref 11, .int 2]) i_36_37 ow_36 lm_3_90 ((k_11 hG).trans ow_48.symm) rfl mx_48 rfl rfl hd_36 ?_
      refine Y_al0 i_48_0 ?_
      refine Y_il1 i_48_1 ?_
      refine Y_pI i_48_2 ow_48 lf_3_41 (k_11 hG) ?_
      refine Y_al0 i_48_5 ?_
      refine Y_al0 i_48_6 ?_
      refine Y_gI (v := (F 11 5)) i_48_7 ow_48 lf_3_158 (by decide) (k_11 hG) (by simp [wF, wJ, va_up, cpR, bF, bA]) ?_
      refine Y_pI i_48_10 ow_48 lf_3_44 (k_11 hG) ?_
      refine Y_iconst (v := 0) i_48_13 (by decide) ?_
      refine Y_bret i_48_14 rt_48 (by decide) (KKi ?_)
      exact Y_bret i_36_40 rt_36 (by decide) h
    · replace h := h.2 e2
      refine Y_al0 i_36_15 ?_
      refine Y_gI (v := (F 11 4)) i_36_16 ow_36 lf_3_53 (by decide) (k_11 hG) rfl ?_
      refine Y_iconst (v := 2) i_36_19 (by decide) ?_
      refine Y_ceq i_36_20 (fun e3 => ?_) (fun e3 => ?_)
      · replace h := h.1 e3
        refine Y_iconst (v := 2) i_36_32 (by decide) ?_
        refine Y_goto i_36_33 ?_
        refine Y_iv1 (L0 := [.ref 11, .int 2]) i_36_37 ow_36 lm_3_90 ((k_11 hG).trans ow_48.symm) rfl mx_48 rfl rfl hd_36 ?_
        refine Y_al0 i_48_0 ?_
        refine Y_il1 i_48_1 ?_
        refine Y_pI i_48_2 ow_48 lf_3_41 (k_11 hG) ?_
        refine Y_al0 i_48_5 ?_
        refine Y_al0 i_48_6 ?_
        refine Y_gI (v := (F 11 5)) i_48_7 ow_48 lf_3_158 (by decide) (k_11 hG) (by simp [wF, wJ, va_up, cpR, bF, bA]) ?_
        refine Y_pI i_48_10 ow_48 lf_3_44 (k_11 hG) ?_
        refine Y_iconst (v := 0) i_48_13 (by decide) ?_
        refine Y_bret i_48_14 rt_48 (by decide) (KKi ?_)
        exact Y_bret i_36_40 rt_36 (by decide) h
      · replace h := h.2 e3
        refine Y_al0 i_36_23 ?_
        refine Y_bipush (v := 40) i_36_24 (by decide) ?_
        refine Y_iv1 (L0 := [.ref 11, .int 40]) i_36_26 ow_36 lm_3_99 ((k_11 hG).trans ow_47.symm) rfl mx_47 rfl rfl hd_36 ?_
        refine Y_al0 i_47_0 ?_
        refine Y_gI (v := (F 11 4)) i_47_1 ow_47 lf_3_53 (by decide) (k_11 hG) rfl ?_
        refine Y_iconst (v := 4) i_47_4 (by decide) ?_
        refine Y_cne i_47_5 (fun e4 => ?_) (fun e4 => ?_)
        · replace h := h.1 e4
          refine Y_al0 i_47_8 ?_
          refine Y_gR i_47_9 ow_47 lf_3_9 (k_11 hG) (r_11_1 hG) ?_
          refine Y_al0 i_47_12 ?_
          refine Y_gI (v := (F 11 5)) i_47_13 ow_47 lf_3_158 (by decide) (k_11 hG) rfl ?_
          have o5 := h.1
          replace h := h.2
          refine Y_baload (k := (F 11 5).toNatClampNeg) (v := (A 1 (F 11 5).toNatClampNeg)) i_47_16 (k_1 hG) (l_1 hG) o5 rfl rfl ?_
          refine Y_il1 i_47_17 ?_
          refine Y_cne i_47_18 (fun e6 => ?_) (fun e6 => ?_)
          · replace h := h.1 e6
            refine Y_iconst (v := 1) i_47_21 (by decide) ?_
            refine Y_goto i_47_22 ?_
            refine Y_bret i_47_26 rt_47 (by decide) (KKi ?_)
            refine Y_zF i_36_29 (by decide) ?_
            refine Y_iconst (v := 2) i_36_32 (by decide) ?_
            refine Y_goto i_36_33 ?_
            refine Y_iv1 (L0 := [.ref 11, .int 2]) i_36_37 ow_36 lm_3_90 ((k_11 hG).trans ow_48.symm) rfl mx_48 rfl rfl hd_36 ?_
            refine Y_al0 i_48_0 ?_
            refine Y_il1 i_48_1 ?_
            refine Y_pI i_48_2 ow_48 lf_3_41 (k_11 hG) ?_
            refine Y_al0 i_48_5 ?_
            refine Y_al0 i_48_6 ?_
            refine Y_gI (v := (F 11 5)) i_48_7 ow_48 lf_3_158 (by decide) (k_11 hG) (by simp [wF, wJ, va_up, cpR, bF, bA]) ?_
            refine Y_pI i_48_10 ow_48 lf_3_44 (k_11 hG) ?_
            refine Y_iconst (v := 0) i_48_13 (by decide) ?_
            refine Y_bret i_48_14 rt_48 (by decide) (KKi ?_)
            exact Y_bret i_36_40 rt_36 (by decide) h
          · replace h := h.2 e6
            refine Y_iconst (v := 0) i_47_25 (by decide) ?_
            refine Y_bret i_47_26 rt_47 (by decide) (KKi ?_)
            refine Y_zT i_36_29 (by decide) ?_
            refine Y_iconst (v := 1) i_36_36 (by decide) ?_
            refine Y_iv1 (L0 := [.ref 11, .int 1]) i_36_37 ow_36 lm_3_90 ((k_11 hG).trans ow_48.symm) rfl mx_48 rfl rfl hd_36 ?_
            refine Y_al0 i_48_0 ?_
            refine Y_il1 i_48_1 ?_
            refine Y_pI i_48_2 ow_48 lf_3_41 (k_11 hG) ?_
            refine Y_al0 i_48_5 ?_
            refine Y_al0 i_48_6 ?_
            refine Y_gI (v := (F 11 5)) i_48_7 ow_48 lf_3_158 (by decide) (k_11 hG) (by simp [wF, wJ, va_up, cpR, bF, bA]) ?_
            refine Y_pI i_48_10 ow_48 lf_3_44 (k_11 hG) ?_
            refine Y_iconst (v := 0) i_48_13 (by decide) ?_
            refine Y_bret i_48_14 rt_48 (by decide) (KKi ?_)
            exact Y_bret i_36_40 rt_36 (by decide) h
        · replace h := h.2 e4
          refine Y_iconst (v := 0) i_47_25 (by decide) ?_
          refine Y_bret i_47_26 rt_47 (by decide) (KKi ?_)
          refine Y_zT i_36_29 (by decide) ?_
          refine Y_iconst (v := 1) i_36_36 (by decide) ?_
          refine Y_iv1 (L0 := [.ref 11, .int 1]) i_36_37 ow_36 lm_3_90 ((k_11 hG).trans ow_48.symm) rfl mx_48 rfl rfl hd_36 ?_
          refine Y_al0 i_48_0 ?_
          refine Y_il1 i_48_1 ?_
          refine Y_pI i_48_2 ow_48 lf_3_41 (k_11 hG) ?_
          refine Y_al0 i_48_5 ?_
          refine Y_al0 i_48_6 ?_
          refine Y_gI (v := (F 11 5)) i_48_7 ow_48 lf_3_158 (by decide) (k_11 hG) (by simp [wF, wJ, va_up, cpR, bF, bA]) ?_
          refine Y_pI i_48_10 ow_48 lf_3_44 (k_11 hG) ?_
          refine Y_iconst (v := 0) i_48_13 (by decide) ?_
          refine Y_bret i_48_14 rt_48 (by decide) (KKi ?_)
          exact Y_bret i_36_40 rt_36 (by decide) h
theorem k_36_46 {d : Nat} {F A : Nat → Nat → Int32} {J : Nat → Nat → Int64} {G : pG} {Q : pR → pM → Prop} {SL p q : Nat} {x1 r : Int32} (hG : Geo G SL p q) (h : ((r = 0 → Q (.inl (some (.int 0))) (F, A, J, G)) ∧ (¬ r = 0 → X (d + 2) 36 53 [.ref 11, .int x1, .int 0] [] (F, A, J, G) Q))) : KK (d + 2) 36 46 [.ref 11, .int x1, .null] [] Q (.inl (some (.int r))) (F, A, J, G) := by
  refine KKi ?_
  refine Y_zne i_36_46 (fun e1 => ?_) (fun e1 => ?_)
  · replace h := h.1 e1
    refine Y_iconst (v := 0) i_36_49 (by decide) ?_
    exact Y_bret i_36_50 rt_36 (by decide) h
  · replace h := h.2 e1
    refine Y_iconst (v := 0) i_36_51 (by decide) ?_
    refine Y_is2 i_36_52 rfl ?_
    exact h
theorem t_36_53 {d : Nat} {F A : Nat → Nat → Int32} {J : Nat → Nat → Int64} {G : pG} {Q : pR → pM → Prop} {SL p q : Nat} {x1 x2 : Int32} (hG : Geo G SL p q) (h : ((x2 < 600 → X (d + 1) 46 0 [.ref 11, .ref 1017, .null] [] (F, A, J, G) (KK (d + 2) 36 66 [.ref 11, .int x1, .int x2] [] Q)) ∧ (¬ x2 < 600 → Q (.inl (some (.int 1))) (F, A, J, G)))) : X (d + 2) 36 53 [.ref 11, .int x1, .int x2] [] (F, A, J, G) Q := by
  refine Y_il2 i_36_53 ?_
  refine Y_sipush (v := 600) i_36_54 (by decide) ?_
  refine Y_cge i_36_57 (fun e1 => ?_) (fun e1 => ?_)
  · replace h := h.1 e1
    refine Y_al0 i_36_60 ?_
    refine Y_ldcS (r := 1017) i_36_61 ow_36 li_3_135 ls_3_135 rfl ?_
    exact Y_iv1 (L0 := [.ref 11, .ref 1017, .null]) i_36_63 ow_36 lm_3_73 ((k_11 hG).trans ow_46.symm) rfl mx_46 rfl rfl hd_36 h
  · replace h := h.2 e1
    refine Y_iconst (v := 1) i_36_101 (by decide) ?_
    exact Y_bret i_36_102 rt_36 (by decide) h
theorem k_36_66 {d : Nat} {F A : Nat → Nat → Int32} {J : Nat → Nat → Int64} {G : pG} {Q : pR → pM → Prop} {SL p q : Nat} {x1 x2 r : Int32} (hG : Geo G SL p q) (h : ((r = 0 → Q (.inl (some (.int 1))) (F, A, J, G)) ∧ (¬ r = 0 → X (d + 1) 49 0 [.ref 11] [] (F, A, J, G) (KK (d + 2) 36 73 [.ref 11, .int x1, .int x2] [] Q)))) : KK (d + 2) 36 66 [.ref 11, .int x1, .int x2] [] Q (.inl (some (.int r))) (F, A, J, G) := by
  refine KKi ?_
  refine Y_zeq i_36_66 (fun e1 => ?_) (fun e1 => ?_)
  · replace h := h.1 e1
    refine Y_iconst (v := 1) i_36_101 (by decide) ?_
    exact Y_bret i_36_102 rt_36 (by decide) h
  · replace h := h.2 e1
    refine Y_al0 i_36_69 ?_
    exact Y_iv0 (L0 := [.ref 11]) i_36_70 ow_36 lm_3_50 ((k_11 hG).trans ow_49.symm) rfl mx_49 rfl rfl hd_36 h
theorem k_36_73 {d : Nat} {F A : Nat → Nat → Int32} {J : Nat → Nat → Int64} {G : pG} {Q : pR → pM → Prop} {SL p q : Nat} {x1 x2 : Int32} (hG : Geo G SL p q) (h : X (d + 1) 37 0 [.ref 11, .int x1, .null] [] (F, A, J, G) (KK (d + 2) 36 78 [.ref 11, .int x1, .int x2] [] Q)) : KK (d + 2) 36 73 [.ref 11, .int x1, .int x2] [] Q (.inl none) (F, A, J, G) := by
  refine KKv ?_
  refine Y_al0 i_36_73 ?_
  refine Y_il1 i_36_74 ?_
  exact Y_iv1 (L0 := [.ref 11, .int x1, .null]) i_36_75 ow_36 lm_3_132 ((k_11 hG).trans ow_37.symm) rfl mx_37 rfl rfl hd_36 h
theorem k_36_78 {d : Nat} {F A : Nat → Nat → Int32} {J : Nat → Nat → Int64} {G : pG} {Q : pR → pM → Prop} {SL p q : Nat} {x1 x2 r : Int32} (hG : Geo G SL p q) (h : ((r = 0 → Q (.inl (some (.int 0))) (F, A, J, G)) ∧ (¬ r = 0 → (((F 8 1) < 600 → inB (F 8 1) 600 = true ∧ (X (d + 2) 36 53 [.ref 11, .int x1, .int (x2 + 1)] [] ((wF F 8 1 ((F 8 1) + 1)), (wF A 9 (F 8 1).toNatClampNeg (-15)), J, G) Q)) ∧ (¬ (F 8 1) < 600 → X (d + 2) 36 53 [.ref 11, .int x1, .int (x2 + 1)] [] (F, A, J, G) Q))))) : KK (d + 2) 36 78 [.ref 11, .int x1, .int x2] [] Q (.inl (some (.int r))) (F, A, J, G) := by
  refine KKi ?_
  refine Y_zne i_36_78 (fun e1 => ?_) (fun e1 => ?_)
  · replace h := h.1 e1
    refine Y_iconst (v := 0) i_36_81 (by decide) ?_
    exact Y_bret i_36_82 rt_36 (by decide) h
  · replace h := h.2 e1
    refine Y_al0 i_36_83 ?_
    refine Y_gR i_36_84 ow_36 lf_3_15 (k_11 hG) (r_11_2 hG) ?_
    refine Y_gR i_36_87 ow_36 lf_3_123 (k_2 hG) (r_2_8 hG) ?_
    refine Y_bipush (v := (-15)) i_36_90 (by decide) ?_
    refine Y_iv1 (L0 := [.ref 8, .int (-15)]) i_36_92 ow_36 lm_3_137 ((k_8 hG).trans ow_54.symm) rfl mx_54 rfl rfl hd_36 ?_
    refine Y_al0 i_54_0 ?_
    refine Y_gI (v := (F 8 1)) i_54_1 ow_54 lf_4_18 (by decide) (k_8 hG) rfl ?_
    refine Y_al0 i_54_4 ?_
    refine Y_gR i_54_5 ow_54 lf_4_9 (k_8 hG) (r_8_0 hG) ?_
    refine Y_alen (v := 600) i_54_8 (Or.inl (k_9 hG)) (l_9 hG) (by decide) ?_
    refine Y_cge i_54_9 (fun e2 => ?_) (fun e2 => ?_)
    · replace h := h.1 e2
      refine Y_al0 i_54_12 ?_
      refine Y_gR i_54_13 ow_54 lf_4_9 (k_8 hG) (r_8_0 hG) ?_
      refine Y_al0 i_54_16 ?_
      refine Y_gI (v := (F 8 1)) i_54_17 ow_54 lf_4_18 (by decide) (k_8 hG) rfl ?_
      refine Y_il1 i_54_20 ?_
      have o3 := h.1
      replace h := h.2
      refine Y_iast i_54_21 (k_9 hG) (l_9 hG) o3 rfl ?_
      refine Y_al0 i_54_22 ?_
      refine Y_dup i_54_23 rfl ?_
      refine Y_gI (v := (F 8 1)) i_54_24 ow_54 lf_4_18 (by decide) (k_8 hG) rfl ?_
      refine Y_iconst (v := 1) i_54_27 (by decide) ?_
      refine Y_iadd i_54_28 ?_
      refine Y_pI i_54_29 ow_54 lf_4_18 (k_8 hG) ?_
      refine Y_vret i_54_32 rt_54 (KKv ?_)
      refine Y_ii2 (v := 1) i_36_95 (by decide) rfl ?_
      refine Y_goto i_36_98 ?_
      exact h
    · replace h := h.2 e2
      refine Y_vret i_54_32 rt_54 (KKv ?_)
      refine Y_ii2 (v := 1) i_36_95 (by decide) rfl ?_
      refine Y_goto i_36_98 ?_
      exact h
/- 37 Reader.and(I)Z -/
theorem t_37_0 {d : Nat} {F A : Nat → Nat → Int32} {J : Nat → Nat → Int64} {G : pG} {Q : pR → pM → Prop} {SL p q : Nat} {x1 : Int32} (hG : Geo G SL p q) (h : X (d + 1) 38 0 [.ref 11, .int x1, .null, .null] [] (F, A, J, G) (KK (d + 2) 37 5 [.ref 11, .int x1, .null] [] Q)) : X (d + 2) 37 0 [.ref 11, .int x1, .null] [] (F, A, J, G) Q := by
  refine Y_al0 i_37_0 ?_
  refine Y_il1 i_37_1 ?_
  exact Y_iv1 (L0 := [.ref 11, .int x1, .null, .null]) i_37_2 ow_37 lm_3_141 ((k_11 hG).trans ow_38.symm) rfl mx_38 rfl rfl hd_37 h
theorem k_37_5 {d : Nat} {F A : Nat → Nat → Int32} {J : Nat → Nat → Int64} {G : pG} {Q : pR → pM → Prop} {SL p q : Nat} {x1 r : Int32} (hG : Geo G SL p q) (h : ((r = 0 → Q (.inl (some (.int 0))) (F, A, J, G)) ∧ (¬ r = 0 → X (d + 2) 37 12 [.ref 11, .int x1, .int 0] [] (F, A, J, G) Q))) : KK (d + 2) 37 5 [.ref 11, .int x1, .null] [] Q (.inl (some (.int r))) (F, A, J, G) := by
  refine KKi ?_
  refine Y_zne i_37_5 (fun e1 => ?_) (fun e1 => ?_)
  · replace h := h.1 e1
    refine Y_iconst (v := 0) i_37_8 (by decide) ?_
    exact Y_bret i_37_9 rt_37 (by decide) h
  · replace h := h.2 e1
    refine Y_iconst (v := 0) i_37_10 (by decide) ?_
    refine Y_is2 i_37_11 rfl ?_
    exact h
theorem t_37_12 {d : Nat} {F A : Nat → Nat → Int32} {J : Nat → Nat → Int64} {G : pG} {Q : pR → pM → Prop} {SL p q : Nat} {x1 x2 : Int32} (hG : Geo G SL p q) (h : ((x2 < 600 → X (d + 1) 46 0 [.ref 11, .ref 1016, .null] [] (F, A, J, G) (KK (d + 2) 37 25 [.ref 11, .int x1, .int x2] [] Q)) ∧ (¬ x2 < 600 → Q (.inl (some (.int 1))) (F, A, J, G)))) : X (d + 2) 37 12 [.ref 11, .int x1, .int x2] [] (F, A, J, G) Q := by
  refine Y_il2 i_37_12 ?_
  refine Y_sipush (v := 600) i_37_13 (by decide) ?_
  refine Y_cge i_37_16 (fun e1 => ?_) (fun e1 => ?_)
  · replace h := h.1 e1
    refine Y_al0 i_37_19 ?_
    refine Y_ldcS (r := 1016) i_37_20 ow_37 li_3_144 ls_3_144 rfl ?_
    exact Y_iv1 (L0 := [.ref 11, .ref 1016, .null]) i_37_22 ow_37 lm_3_73 ((k_11 hG).trans ow_46.symm) rfl mx_46 rfl rfl hd_37 h
  · replace h := h.2 e1
    refine Y_iconst (v := 1) i_37_60 (by decide) ?_
    exact Y_bret i_37_61 rt_37 (by decide) h
theorem k_37_25 {d : Nat} {F A : Nat → Nat → Int32} {J : Nat → Nat → Int64} {G : pG} {Q : pR → pM → Prop} {SL p q : Nat} {x1 x2 r : Int32} (hG : Geo G SL p q) (h : ((r = 0 → Q (.inl (some (.int 1))) (F, A, J, G)) ∧ (¬ r = 0 → X (d + 1) 49 0 [.ref 11] [] (F, A, J, G) (KK (d + 2) 37 32 [.ref 11, .int x1, .int x2] [] Q)))) : KK (d + 2) 37 25 [.ref 11, .int x1, .int x2] [] Q (.inl (some (.int r))) (F, A, J, G) := by
  refine KKi ?_
  refine Y_zeq i_37_25 (fun e1 => ?_) (fun e1 => ?_)
  · replace h := h.1 e1
    refine Y_iconst (v := 1) i_37_60 (by decide) ?_
    exact Y_bret i_37_61 rt_37 (by decide) h
  · replace h := h.2 e1
    refine Y_al0 i_37_28 ?_
    exact Y_iv0 (L0 := [.ref 11]) i_37_29 ow_37 lm_3_50 ((k_11 hG).trans ow_49.symm) rfl mx_49 rfl rfl hd_37 h
theorem k_37_32 {d : Nat} {F A : Nat → Nat → Int32} {J : Nat → Nat → Int64} {G : pG} {Q : pR → pM → Prop} {SL p q : Nat} {x1 x2 : Int32} (hG : Geo G SL p q) (h : X (d + 1) 38 0 [.ref 11, .int x1, .null, .null] [] (F, A, J, G) (KK (d + 2) 37 37 [.ref 11, .int x1, .int x2] [] Q)) : KK (d + 2) 37 32 [.ref 11, .int x1, .int x2] [] Q (.inl none) (F, A, J, G) := by
  refine KKv ?_
  refine Y_al0 i_37_32 ?_
  refine Y_il1 i_37_33 ?_
  exact Y_iv1 (L0 := [.ref 11, .int x1, .null, .null]) i_37_34 ow_37 lm_3_141 ((k_11 hG).trans ow_38.symm) rfl mx_38 rfl rfl hd_37 h
theorem k_37_37 {d : Nat} {F A : Nat → Nat → Int32} {J : Nat → Nat → Int64} {G : pG} {Q : pR → pM → Prop} {SL p q : Nat} {x1 x2 r : Int32} (hG : Geo G SL p q) (h : ((r = 0 → Q (.inl (some (.int 0))) (F, A, J, G)) ∧ (¬ r = 0 → (((F 8 1) < 600 → inB (F 8 1) 600 = true ∧ (X (d + 2) 37 12 [.ref 11, .int x1, .int (x2 + 1)] [] ((wF F 8 1 ((F 8 1) + 1)), (wF A 9 (F 8 1).toNatClampNeg (-14)), J, G) Q)) ∧ (¬ (F 8 1) < 600 → X (d + 2) 37 12 [.ref 11, .int x1, .int (x2 + 1)] [] (F, A, J, G) Q))))) : KK (d + 2) 37 37 [.ref 11, .int x1, .int x2] [] Q (.inl (some (.int r))) (F, A, J, G) := by
  refine KKi ?_
  refine Y_zne i_37_37 (fun e1 => ?_) (fun e1 => ?_)
  · replace h := h.1 e1
    refine Y_iconst (v := 0) i_37_40 (by decide) ?_
    exact Y_bret i_37_41 rt_37 (by decide) h
  · replace h := h.2 e1
    refine Y_al0 i_37_42 ?_
    refine Y_gR i_37_43 ow_37 lf_3_15 (k_11 hG) (r_11_2 hG) ?_
    refine Y_gR i_37_46 ow_37 lf_3_123 (k_2 hG) (r_2_8 hG) ?_
    refine Y_bipush (v := (-14)) i_37_49 (by decide) ?_
    refine Y_iv1 (L0 := [.ref 8, .int (-14)]) i_37_51 ow_37 lm_3_137 ((k_8 hG).trans ow_54.symm) rfl mx_54 rfl rfl hd_37 ?_
    refine Y_al0 i_54_0 ?_
    refine Y_gI (v := (F 8 1)) i_54_1 ow_54 lf_4_18 (by decide) (k_8 hG) rfl ?_
    refine Y_al0 i_54_4 ?_
    refine Y_gR i_54_5 ow_54 lf_4_9 (k_8 hG) (r_8_0 hG) ?_
    refine Y_alen (v := 600) i_54_8 (Or.inl (k_9 hG)) (l_9 hG) (by decide) ?_
    refine Y_cge i_54_9 (fun e2 => ?_) (fun e2 => ?_)
    · replace h := h.1 e2
      refine Y_al0 i_54_12 ?_
      refine Y_gR i_54_13 ow_54 lf_4_9 (k_8 hG) (r_8_0 hG) ?_
      refine Y_al0 i_54_16 ?_
      refine Y_gI (v := (F 8 1)) i_54_17 ow_54 lf_4_18 (by decide) (k_8 hG) rfl ?_
      refine Y_il1 i_54_20 ?_
      have o3 := h.1
      replace h := h.2
      refine Y_iast i_54_21 (k_9 hG) (l_9 hG) o3 rfl ?_
      refine Y_al0 i_54_22 ?_
      refine Y_dup i_54_23 rfl ?_
      refine Y_gI (v := (F 8 1)) i_54_24 ow_54 lf_4_18 (by decide) (k_8 hG) rfl ?_
      refine Y_iconst (v := 1) i_54_27 (by decide) ?_
      refine Y_iadd i_54_28 ?_
      refine Y_pI i_54_29 ow_54 lf_4_18 (k_8 hG) ?_
      refine Y_vret i_54_32 rt_54 (KKv ?_)
      refine Y_ii2 (v := 1) i_37_54 (by decide) rfl ?_
      refine Y_goto i_37_57 ?_
      exact h
    · replace h := h.2 e2
      refine Y_vret i_54_32 rt_54 (KKv ?_)
      refine Y_ii2 (v := 1) i_37_54 (by decide) rfl ?_
      refine Y_goto i_37_57 ?_
      exact h
/- 38 Reader.not(I)Z -/
theorem t_38_0 {d : Nat} {F A : Nat → Nat → Int32} {J : Nat → Nat → Int64} {G : pG} {Q : pR → pM → Prop} {SL p q : Nat} {x1 : Int32} (hG : Geo G SL p q) (h : X (d + 2) 38 4 [.ref 11, .int x1, .int 0, .int 0] [] (F, A, J, G) Q) : X (d + 2) 38 0 [.ref 11, .int x1, .null, .null] [] (F, A, J, G) Q := by
  refine Y_iconst (v := 0) i_38_0 (by decide) ?_
  refine Y_is2 i_38_1 rfl ?_
  refine Y_iconst (v := 0) i_38_2 (by decide) ?_
  refine Y_is3 i_38_3 rfl ?_
  exact h
theorem t_38_4 {d : Nat} {F A : Nat → Nat → Int32} {J : Nat → Nat → Int64} {G : pG} {Q : pR → pM → Prop} {SL p q : Nat} {x1 x2 x3 : Int32} (hG : Geo G SL p q) (h : ((6 < x3 → X (d + 1) 39 0 [.ref 11, .int x1, .null] [] (F, A, J, G) (KK (d + 2) 38 49 [.ref 11, .int x1, .int x2, .int x3] [] Q)) ∧ (¬ 6 < x3 → X (d + 1) 46 0 [.ref 11, .ref 1009, .null] [] (F, A, J, G) (KK (d + 2) 38 16 [.ref 11, .int x1, .int x2, .int x3] [] Q)))) : X (d + 2) 38 4 [.ref 11, .int x1, .int x2, .int x3] [] (F, A, J, G) Q := by
  refine Y_il3 i_38_4 ?_
  refine Y_bipush (v := 6) i_38_5 (by decide) ?_
  refine Y_cgt i_38_7 (fun e1 => ?_) (fun e1 => ?_)
  · replace h := h.1 e1
    refine Y_al0 i_38_44 ?_
    refine Y_il1 i_38_45 ?_
    exact Y_iv1 (L0 := [.ref 11, .int x1, .null]) i_38_46 ow_38 lm_3_146 ((k_11 hG).trans ow_39.symm) rfl mx_39 rfl rfl hd_38 h
  · replace h := h.2 e1
    refine Y_al0 i_38_10 ?_
    refine Y_ldcS (r := 1009) i_38_11 ow_38 li_3_145 ls_3_145 rfl ?_
    exact Y_iv1 (L0 := [.ref 11, .ref 1009, .null]) i_38_13 ow_38 lm_3_73 ((k_11 hG).trans ow_46.symm) rfl mx_46 rfl rfl hd_38 h
theorem k_38_16 {d : Nat} {F A : Nat → Nat → Int32} {J : Nat → Nat → Int64} {G : pG} {Q : pR → pM → Prop} {SL p q : Nat} {x1 x2 x3 r : Int32} (hG : Geo G SL p q) (h : ((r = 0 → X (d + 1) 39 0 [.ref 11, .int x1, .null] [] (F, A, J, G) (KK (d + 2) 38 49 [.ref 11, .int x1, .int x2, .int x3] [] Q)) ∧ (¬ r = 0 → ((6 < (x2 + 1) → Q (.inl (some (.int 0))) ((wF (wF F 11 8 2) 11 0 (F 11 5)), A, J, G)) ∧ (¬ 6 < (x2 + 1) → X (d + 1) 49 0 [.ref 11] [] (F, A, J, G) (KK (d + 2) 38 38 [.ref 11, .int x1, .int (x2 + 1), .int x3] [] Q)))))) : KK (d + 2) 38 16 [.ref 11, .int x1, .int x2, .int x3] [] Q (.inl (some (.int r))) (F, A, J, G) := by
  refine KKi ?_
  refine Y_zeq i_38_16 (fun e1 => ?_) (fun e1 => ?_)
  · replace h := h.1 e1
    refine Y_al0 i_38_44 ?_
    refine Y_il1 i_38_45 ?_
    exact Y_iv1 (L0 := [.ref 11, .int x1, .null]) i_38_46 ow_38 lm_3_146 ((k_11 hG).trans ow_39.symm) rfl mx_39 rfl rfl hd_38 h
  · replace h := h.2 e1
    refine Y_ii2 (v := 1) i_38_19 (by decide) rfl ?_
    refine Y_il2 i_38_22 ?_
    refine Y_bipush (v := 6) i_38_23 (by decide) ?_
    refine Y_cle i_38_25 (fun e2 => ?_) (fun e2 => ?_)
    · replace h := h.1 e2
      refine Y_al0 i_38_28 ?_
      refine Y_iconst (v := 2) i_38_29 (by decide) ?_
      refine Y_iv1 (L0 := [.ref 11, .int 2]) i_38_30 ow_38 lm_3_90 ((k_11 hG).trans ow_48.symm) rfl mx_48 rfl rfl hd_38 ?_
      refine Y_al0 i_48_0 ?_
      refine Y_il1 i_48_1 ?_
      refine Y_pI i_48_2 ow_48 lf_3_41 (k_11 hG) ?_
      refine Y_al0 i_48_5 ?_
      refine Y_al0 i_48_6 ?_
      refine Y_gI (v := (F 11 5)) i_48_7 ow_48 lf_3_158 (by decide) (k_11 hG) (by simp [wF, wJ, va_up, cpR, bF, bA]) ?_
      refine Y_pI i_48_10 ow_48 lf_3_44 (k_11 hG) ?_
      refine Y_iconst (v := 0) i_48_13 (by decide) ?_
      refine Y_bret i_48_14 rt_48 (by decide) (KKi ?_)
      exact Y_bret i_38_33 rt_38 (by decide) h
    · replace h := h.2 e2
      refine Y_al0 i_38_34 ?_
      exact Y_iv0 (L0 := [.ref 11]) i_38_35 ow_38 lm_3_50 ((k_11 hG).trans ow_49.symm) rfl mx_49 rfl rfl hd_38 h
theorem k_38_38 {d : Nat} {F A : Nat → Nat → Int32} {J : Nat → Nat → Int64} {G : pG} {Q : pR → pM → Prop} {SL p q : Nat} {x1 x2 x3 : Int32} (hG : Geo G SL p q) (h : X (d + 2) 38 4 [.ref 11, .int x1, .int x2, .int (x3 + 1)] [] (F, A, J, G) Q) : KK (d + 2) 38 38 [.ref 11, .int x1, .int x2, .int x3] [] Q (.inl none) (F, A, J, G) := by
  refine KKv ?_
  refine Y_ii3 (v := 1) i_38_38 (by decide) rfl ?_
  refine Y_goto i_38_41 ?_
  exact h
theorem k_38_49 {d : Nat} {F A : Nat → Nat → Int32} {J : Nat → Nat → Int64} {G : pG} {Q : pR → pM → Prop} {SL p q : Nat} {x1 x2 x3 r : Int32} (hG : Geo G SL p q) (h : ((r = 0 → Q (.inl (some (.int 0))) (F, A, J, G)) ∧ (¬ r = 0 → X (d + 2) 38 56 [.ref 11, .int x1, .int x2, .int 0] [] (F, A, J, G) Q))) : KK (d + 2) 38 49 [.ref 11, .int x1, .int x2, .int x3] [] Q (.inl (some (.int r))) (F, A, J, G) := by
  refine KKi ?_
  refine Y_zne i_38_49 (fun e1 => ?_) (fun e1 => ?_)
  · replace h := h.1 e1
    refine Y_iconst (v := 0) i_38_52 (by decide) ?_
    exact Y_bret i_38_53 rt_38 (by decide) h
  · replace h := h.2 e1
    refine Y_iconst (v := 0) i_38_54 (by decide) ?_
    refine Y_is3 i_38_55 rfl ?_
    exact h
theorem t_38_56 {d : Nat} {F A : Nat → Nat → Int32} {J : Nat → Nat → Int64} {G : pG} {Q : pR → pM → Prop} {SL p q : Nat} {x1 x2 x3 : Int32} (hG : Geo G SL p q) (h : ((x3 < x2 → (((F 8 1) < 600 → inB (F 8 1) 600 = true ∧ (X (d + 2) 38 56 [.ref 11, .int x1, .int x2, .int (x3 + 1)] [] ((wF F 8 1 ((F 8 1) + 1)), (wF A 9 (F 8 1).toNatClampNeg (-7)), J, G) Q)) ∧ (¬ (F 8 1) < 600 → X (d + 2) 38 56 [.ref 11, .int x1, .int x2, .int (x3 + 1)] [] (F, A, J, G) Q))) ∧ (¬ x3 < x2 → Q (.inl (some (.int 1))) (F, A, J, G)))) : X (d + 2) 38 56 [.ref 11, .int x1, .int x2, .int x3] [] (F, A, J, G) Q := by
  refine Y_il3 i_38_56 ?_
  refine Y_il2 i_38_57 ?_
  refine Y_cge i_38_58 (fun e1 => ?_) (fun e1 => ?_)
  · replace h := h.1 e1
    refine Y_al0 i_38_61 ?_
    refine Y_gR i_38_62 ow_38 lf_3_15 (k_11 hG) (r_11_2 hG) ?_
    refine Y_gR i_38_65 ow_38 lf_3_123 (k_2 hG) (r_2_8 hG) ?_
    refine Y_bipush (v := (-7)) i_38_68 (by decide) ?_
    refine Y_iv1 (L0 := [.ref 8, .int (-7)]) i_38_70 ow_38 lm_3_137 ((k_8 hG).trans ow_54.symm) rfl mx_54 rfl rfl hd_38 ?_
    refine Y_al0 i_54_0 ?_
    refine Y_gI (v := (F 8 1)) i_54_1 ow_54 lf_4_18 (by decide) (k_8 hG) rfl ?_
    refine Y_al0 i_54_4 ?_
    refine Y_gR i_54_5 ow_54 lf_4_9 (k_8 hG) (r_8_0 hG) ?_
    refine Y_alen (v := 600) i_54_8 (Or.inl (k_9 hG)) (l_9 hG) (by decide) ?_
    refine Y_cge i_54_9 (fun e2 => ?_) (fun e2 => ?_)
    · replace h := h.1 e2
      refine Y_al0 i_54_12 ?_
      refine Y_gR i_54_13 ow_54 lf_4_9 (k_8 hG) (r_8_0 hG) ?_
      refine Y_al0 i_54_16 ?_
      refine Y_gI (v := (F 8 1)) i_54_17 ow_54 lf_4_18 (by decide) (k_8 hG) rfl ?_
      refine Y_il1 i_54_20 ?_
      have o3 := h.1
      replace h := h.2
      refine Y_iast i_54_21 (k_9 hG) (l_9 hG) o3 rfl ?_
      refine Y_al0 i_54_22 ?_
      refine Y_dup i_54_23 rfl ?_
      refine Y_gI (v := (F 8 1)) i_54_24 ow_54 lf_4_18 (by decide) (k_8 hG) rfl ?_
      refine Y_iconst (v := 1) i_54_27 (by decide) ?_
      refine Y_iadd i_54_28 ?_
      refine Y_pI i_54_29 ow_54 lf_4_18 (k_8 hG) ?_
      refine Y_vret i_54_32 rt_54 (KKv ?_)
      refine Y_ii3 (v := 1) i_38_73 (by decide) rfl ?_
      refine Y_goto i_38_76 ?_
      exact h
    · replace h := h.2 e2
      refine Y_vret i_54_32 rt_54 (KKv ?_)
      refine Y_ii3 (v := 1) i_38_73 (by decide) rfl ?_
      refine Y_goto i_38_76 ?_
      exact h
  · replace h := h.2 e1
    refine Y_iconst (v := 1) i_38_79 (by decide) ?_
    exact Y_bret i_38_80 rt_38 (by decide) h
/- 39 Reader.test(I)Z -/
theorem t_39_0 {d : Nat} {F A : Nat → Nat → Int32} {J : Nat → Nat → Int64} {G : pG} {Q : pR → pM → Prop} {SL p q : Nat} {x1 : Int32} (hG : Geo G SL p q) (h : X (d + 1) 40 0 [.ref 11, .int x1, .null, .null] [] (F, A, J, G) (KK (d + 2) 39 5 [.ref 11, .int x1, .null] [] Q)) : X (d + 2) 39 0 [.ref 11, .int x1, .null] [] (F, A, J, G) Q := by
  refine Y_al0 i_39_0 ?_
  refine Y_il1 i_39_1 ?_
  exact Y_iv1 (L0 := [.ref 11, .int x1, .null, .null]) i_39_2 ow_39 lm_3_149 ((k_11 hG).trans ow_40.symm) rfl mx_40 rfl rfl hd_39 h
theorem k_39_5 {d : Nat} {F A : Nat → Nat → Int32} {J : Nat → Nat → Int64} {G : pG} {Q : pR → pM → Prop} {SL p q : Nat} {x1 r : Int32} (hG : Geo G SL p q) (h : ((r = 0 → Q (.inl (some (.int 0))) (F, A, J, G)) ∧ (¬ r = 0 → (((F 11 4) = 4 → inB (F 11 5) 600 = true ∧ (((A 1 (F 11 5).toNatClampNeg) = 60 → X (d + 1) 49 0 [.ref 11] [] (F, A, J, G) (KK (d + 2) 39 50 [.ref 11, .int x1, .int (-12)] [] Q)) ∧ (¬ (A 1 (F 11 5).toNatClampNeg) = 60 → (((F 11 4) = 4 → (((A 1 (F 11 5).toNatClampNeg) = 61 → X (d + 1) 49 0 [.ref 11] [] (F, A, J, G) (KK (d + 2) 39 50 [.ref 11, .int x1, .int (-13)] [] Q)) ∧ (¬ (A 1 (F 11 5).toNatClampNeg) = 61 → Q (.inl (some (.int 1))) (F, A, J, G)))) ∧ (¬ (F 11 4) = 4 → Q (.inl (some (.int 1))) (F, A, J, G)))))) ∧ (¬ (F 11 4) = 4 → (((F 11 4) = 4 → inB (F 11 5) 600 = true ∧ (((A 1 (F 11 5).toNatClampNeg) = 61 → X (d + 1) 49 0 [.ref 11] [] (F, A, J, G) (KK (d + 2) 39 50 [.ref 11, .int x1, .int (-13)] [] Q)) ∧ (¬ (A 1 (F 11 5).toNatClampNeg) = 61 → Q (.inl (some (.int 1))) (F, A, J, G)))) ∧ (¬ (F 11 4) = 4 → Q (.inl (some (.int 1))) (F, A, J, G)))))))) : KK (d + 2) 39 5 [.ref 11, .int x1, .null] [] Q (.inl (some (.int r))) (F, A, J, G) := by
  refine KKi ?_
  refine Y_zne i_39_5 (fun e1 => ?_) (fun e1 => ?_)
  · replace h := h.1 e1
    refine Y_iconst (v := 0) i_39_8 (by decide) ?_
    exact Y_bret i_39_9 rt_39 (by decide) h
  · replace h := h.2 e1
    refine Y_al0 i_39_10 ?_
    refine Y_bipush (v := 60) i_39_11 (by decide) ?_
    refine Y_iv1 (L0 := [.ref 11, .int 60]) i_39_13 ow_39 lm_3_99 ((k_11 hG).trans ow_47.symm) rfl mx_47 rfl rfl hd_39 ?_
    refine Y_al0 i_47_0 ?_
    refine Y_gI (v := (F 11 4)) i_47_1 ow_47 lf_3_53 (by decide) (k_11 hG) rfl ?_
    refine Y_iconst (v := 4) i_47_4 (by decide) ?_
    refine Y_cne i_47_5 (fun e2 => ?_) (fun e2 => ?_)
    · replace h := h.1 e2
      refine Y_al0 i_47_8 ?_
      refine Y_gR i_47_9 ow_47 lf_3_9 (k_11 hG) (r_11_1 hG) ?_
      refine Y_al0 i_47_12 ?_
      refine Y_gI (v := (F 11 5)) i_47_13 ow_47 lf_3_158 (by decide) (k_11 hG) rfl ?_
      have o3 := h.1
      replace h := h.2
      refine Y_baload (k := (F 11 5).toNatClampNeg) (v := (A 1 (F 11 5).toNatClampNeg)) i_47_16 (k_1 hG) (l_1 hG) o3 rfl rfl ?_
      refine Y_il1 i_47_17 ?_
      refine Y_cne i_47_18 (fun e4 => ?_) (fun e4 => ?_)
      · replace h := h.1 e4
        refine Y_iconst (v := 1) i_47_21 (by decide) ?_
        refine Y_goto i_47_22 ?_
        refine Y_bret i_47_26 rt_47 (by decide) (KKi ?_)
        refine Y_zF i_39_16 (by decide) ?_
        refine Y_bipush (v := (-12)) i_39_19 (by decide) ?_
        refine Y_goto i_39_21 ?_
        refine Y_is2 i_39_39 rfl ?_
        refine Y_il2 i_39_40 ?_
        refine Y_zT i_39_41 (by decide) ?_
        refine Y_al0 i_39_46 ?_
        exact Y_iv0 (L0 := [.ref 11]) i_39_47 ow_39 lm_3_50 ((k_11 hG).trans ow_49.symm) rfl mx_49 rfl rfl hd_39 h
      · replace h := h.2 e4
        refine Y_iconst (v := 0) i_47_25 (by decide) ?_
        refine Y_bret i_47_26 rt_47 (by decide) (KKi ?_)
        refine Y_zT i_39_16 (by decide) ?_
        refine Y_al0 i_39_24 ?_
        refine Y_bipush (v := 61) i_39_25 (by decide) ?_
        refine Y_iv1 (L0 := [.ref 11, .int 61]) i_39_27 ow_39 lm_3_99 ((k_11 hG).trans ow_47.symm) rfl mx_47 rfl rfl hd_39 ?_
        refine Y_al0 i_47_0 ?_
        refine Y_gI (v := (F 11 4)) i_47_1 ow_47 lf_3_53 (by decide) (k_11 hG) rfl ?_
        refine Y_iconst (v := 4) i_47_4 (by decide) ?_
        refine Y_cne i_47_5 (fun e5 => ?_) (fun e5 => ?_)
        · replace h := h.1 e5
          refine Y_al0 i_47_8 ?_
          refine Y_gR i_47_9 ow_47 lf_3_9 (k_11 hG) (r_11_1 hG) ?_
          refine Y_al0 i_47_12 ?_
          refine Y_gI (v := (F 11 5)) i_47_13 ow_47 lf_3_158 (by decide) (k_11 hG) rfl ?_
          refine Y_baload (k := (F 11 5).toNatClampNeg) (v := (A 1 (F 11 5).toNatClampNeg)) i_47_16 (k_1 hG) (l_1 hG) o3 rfl rfl ?_
          refine Y_il1 i_47_17 ?_
          refine Y_cne i_47_18 (fun e6 => ?_) (fun e6 => ?_)
          · replace h := h.1 e6
            refine Y_iconst (v := 1) i_47_21 (by decide) ?_
            refine Y_goto i_47_22 ?_
            refine Y_bret i_47_26 rt_47 (by decide) (KKi ?_)
            refine Y_zF i_39_30 (by decide) ?_
            refine Y_bipush (v := (-13)) i_39_33 (by decide) ?_
            refine Y_goto i_39_35 ?_
            refine Y_is2 i_39_39 rfl ?_
            refine Y_il2 i_39_40 ?_
            refine Y_zT i_39_41 (by decide) ?_
            refine Y_al0 i_39_46 ?_
            exact Y_iv0 (L0 := [.ref 11]) i_39_47 ow_39 lm_3_50 ((k_11 hG).trans ow_49.symm) rfl mx_49 rfl rfl hd_39 h
          · replace h := h.2 e6
            refine Y_iconst (v := 0) i_47_25 (by decide) ?_
            refine Y_bret i_47_26 rt_47 (by decide) (KKi ?_)
            refine Y_zT i_39_30 (by decide) ?_
            refine Y_iconst (v := 0) i_39_38 (by decide) ?_
            refine Y_is2 i_39_39 rfl ?_
            refine Y_il2 i_39_40 ?_
            refine Y_zF i_39_41 (by decide) ?_
            refine Y_iconst (v := 1) i_39_44 (by decide) ?_
            exact Y_bret i_39_45 rt_39 (by decide) h
        · replace h := h.2 e5
          refine Y_iconst (v := 0) i_47_25 (by decide) ?_
          refine Y_bret i_47_26 rt_47 (by decide) (KKi ?_)
          refine Y_zT i_39_30 (by decide) ?_
          refine Y_iconst (v := 0) i_39_38 (by decide) ?_
          refine Y_is2 i_39_39 rfl ?_
          refine Y_il2 i_39_40 ?_
          refine Y_zF i_39_41 (by decide) ?_
          refine Y_iconst (v := 1) i_39_44 (by decide) ?_
          exact Y_bret i_39_45 rt_39 (by decide) h
    · replace h := h.2 e2
      refine Y_iconst (v := 0) i_47_25 (by decide) ?_
      refine Y_bret i_47_26 rt_47 (by decide) (KKi ?_)
      refine Y_zT i_39_16 (by decide) ?_
      refine Y_al0 i_39_24 ?_
      refine Y_bipush (v := 61) i_39_25 (by decide) ?_
      refine Y_iv1 (L0 := [.ref 11, .int 61]) i_39_27 ow_39 lm_3_99 ((k_11 hG).trans ow_47.symm) rfl mx_47 rfl rfl hd_39 ?_
      refine Y_al0 i_47_0 ?_
      refine Y_gI (v := (F 11 4)) i_47_1 ow_47 lf_3_53 (by decide) (k_11 hG) rfl ?_
      refine Y_iconst (v := 4) i_47_4 (by decide) ?_
      refine Y_cne i_47_5 (fun e7 => ?_) (fun e7 => ?_)
      · replace h := h.1 e7
        refine Y_al0 i_47_8 ?_
        refine Y_gR i_47_9 ow_47 lf_3_9 (k_11 hG) (r_11_1 hG) ?_
        refine Y_al0 i_47_12 ?_
        refine Y_gI (v := (F 11 5)) i_47_13 ow_47 lf_3_158 (by decide) (k_11 hG) rfl ?_
        have o8 := h.1
        replace h := h.2
        refine Y_baload (k := (F 11 5).toNatClampNeg) (v := (A 1 (F 11 5).toNatClampNeg)) i_47_16 (k_1 hG) (l_1 hG) o8 rfl rfl ?_
        refine Y_il1 i_47_17 ?_
        refine Y_cne i_47_18 (fun e9 => ?_) (fun e9 => ?_)
        · replace h := h.1 e9
          refine Y_iconst (v := 1) i_47_21 (by decide) ?_
          refine Y_goto i_47_22 ?_
          refine Y_bret i_47_26 rt_47 (by decide) (KKi ?_)
          refine Y_zF i_39_30 (by decide) ?_
          refine Y_bipush (v := (-13)) i_39_33 (by decide) ?_
          refine Y_goto i_39_35 ?_
          refine Y_is2 i_39_39 rfl ?_
          refine Y_il2 i_39_40 ?_
          refine Y_zT i_39_41 (by decide) ?_
          refine Y_al0 i_39_46 ?_
          exact Y_iv0 (L0 := [.ref 11]) i_39_47 ow_39 lm_3_50 ((k_11 hG).trans ow_49.symm) rfl mx_49 rfl rfl hd_39 h
        · replace h := h.2 e9
          refine Y_iconst (v := 0) i_47_25 (by decide) ?_
          refine Y_bret i_47_26 rt_47 (by decide) (KKi ?_)
          refine Y_zT i_39_30 (by decide) ?_
          refine Y_iconst (v := 0) i_39_38 (by decide) ?_
          refine Y_is2 i_39_39 rfl ?_
          refine Y_il2 i_39_40 ?_
          refine Y_zF i_39_41 (by decide) ?_
          refine Y_iconst (v := 1) i_39_44 (by decide) ?_
          exact Y_bret i_39_45 rt_39 (by decide) h
      · replace h := h.2 e7
        refine Y_iconst (v := 0) i_47_25 (by decide) ?_
        refine Y_bret i_47_26 rt_47 (by decide) (KKi ?_)
        refine Y_zT i_39_30 (by decide) ?_
        refine Y_iconst (v := 0) i_39_38 (by decide) ?_
        refine Y_is2 i_39_39 rfl ?_
        refine Y_il2 i_39_40 ?_
        refine Y_zF i_39_41 (by decide) ?_
        refine Y_iconst (v := 1) i_39_44 (by decide) ?_
        exact Y_bret i_39_45 rt_39 (by decide) h
theorem k_39_50 {d : Nat} {F A : Nat → Nat → Int32} {J : Nat → Nat → Int64} {G : pG} {Q : pR → pM → Prop} {SL p q : Nat} {x1 x2 : Int32} (hG : Geo G SL p q) (h : X (d + 1) 40 0 [.ref 11, .int x1, .null, .null] [] (F, A, J, G) (KK (d + 2) 39 55 [.ref 11, .int x1, .int x2] [] Q)) : KK (d + 2) 39 50 [.ref 11, .int x1, .int x2] [] Q (.inl none) (F, A, J, G) := by
  refine KKv ?_
  refine Y_al0 i_39_50 ?_
  refine Y_il1 i_39_51 ?_
  exact Y_iv1 (L0 := [.ref 11, .int x1, .null, .null]) i_39_52 ow_39 lm_3_149 ((k_11 hG).trans ow_40.symm) rfl mx_40 rfl rfl hd_39 h
theorem k_39_55 {d : Nat} {F A : Nat → Nat → Int32} {J : Nat → Nat → Int64} {G : pG} {Q : pR → pM → Prop} {SL p q : Nat} {x1 x2 r : Int32} (hG : Geo G SL p q) (h : ((r = 0 → Q (.inl (some (.int 0))) (F, A, J, G)) ∧ (¬ r = 0 → (((F 8 1) < 600 → inB (F 8 1) 600 = true ∧ (Q (.inl (some (.int 1))) ((wF F 8 1 ((F 8 1) + 1)), (wF A 9 (F 8 1).toNatClampNeg x2), J, G))) ∧ (¬ (F 8 1) < 600 → Q (.inl (some (.int 1))) (F, A, J, G)))))) : KK (d + 2) 39 55 [.ref 11, .int x1, .int x2] [] Q (.inl (some (.int r))) (F, A, J, G) := by
  refine KKi ?_
  refine Y_zne i_39_55 (fun e1 => ?_) (fun e1 => ?_)
  · replace h := h.1 e1
    refine Y_iconst (v := 0) i_39_58 (by decide) ?_
    exact Y_bret i_39_59 rt_39 (by decide) h
  · replace h := h.2 e1
    refine Y_al0 i_39_60 ?_
    refine Y_gR i_39_61 ow_39 lf_3_15 (k_11 hG) (r_11_2 hG) ?_
    refine Y_gR i_39_64 ow_39 lf_3_123 (k_2 hG) (r_2_8 hG) ?_
    refine Y_il2 i_39_67 ?_
    refine Y_iv1 (L0 := [.ref 8, .int x2]) i_39_68 ow_39 lm_3_137 ((k_8 hG).trans ow_54.symm) rfl mx_54 rfl rfl hd_39 ?_
    refine Y_al0 i_54_0 ?_
    refine Y_gI (v := (F 8 1)) i_54_1 ow_54 lf_4_18 (by decide) (k_8 hG) rfl ?_
    refine Y_al0 i_54_4 ?_
    refine Y_gR i_54_5 ow_54 lf_4_9 (k_8 hG) (r_8_0 hG) ?_
    refine Y_alen (v := 600) i_54_8 (Or.inl (k_9 hG)) (l_9 hG) (by decide) ?_
    refine Y_cge i_54_9 (fun e2 => ?_) (fun e2 => ?_)
    · replace h := h.1 e2
      refine Y_al0 i_54_12 ?_
      refine Y_gR i_54_13 ow_54 lf_4_9 (k_8 hG) (r_8_0 hG) ?_
      refine Y_al0 i_54_16 ?_
      refine Y_gI (v := (F 8 1)) i_54_17 ow_54 lf_4_18 (by decide) (k_8 hG) rfl ?_
      refine Y_il1 i_54_20 ?_
      have o3 := h.1
      replace h := h.2
      refine Y_iast i_54_21 (k_9 hG) (l_9 hG) o3 rfl ?_
      refine Y_al0 i_54_22 ?_
      refine Y_dup i_54_23 rfl ?_
      refine Y_gI (v := (F 8 1)) i_54_24 ow_54 lf_4_18 (by decide) (k_8 hG) rfl ?_
      refine Y_iconst (v := 1) i_54_27 (by decide) ?_
      refine Y_iadd i_54_28 ?_
      refine Y_pI i_54_29 ow_54 lf_4_18 (k_8 hG) ?_
      refine Y_vret i_54_32 rt_54 (KKv ?_)
      refine Y_iconst (v := 1) i_39_71 (by decide) ?_
      exact Y_bret i_39_72 rt_39 (by decide) h
    · replace h := h.2 e2
      refine Y_vret i_54_32 rt_54 (KKv ?_)
      refine Y_iconst (v := 1) i_39_71 (by decide) ?_
      exact Y_bret i_39_72 rt_39 (by decide) h
/- 40 Reader.sum(I)Z -/
theorem t_40_0 {d : Nat} {F A : Nat → Nat → Int32} {J : Nat → Nat → Int64} {G : pG} {Q : pR → pM → Prop} {SL p q : Nat} {x1 : Int32} (hG : Geo G SL p q) (h : X (d + 1) 41 0 [.ref 11, .int x1, .null, .null] [] (F, A, J, G) (KK (d + 2) 40 5 [.ref 11, .int x1, .null, .null] [] Q)) : X (d + 2) 40 0 [.ref 11, .int x1, .null, .null] [] (F, A, J, G) Q := by
  refine Y_al0 i_40_0 ?_
  refine Y_il1 i_40_1 ?_
  exact Y_iv1 (L0 := [.ref 11, .int x1, .null, .null]) i_40_2 ow_40 lm_3_152 ((k_11 hG).trans ow_41.symm) rfl mx_41 rfl rfl hd_40 h
theorem k_40_5 {d : Nat} {F A : Nat → Nat → Int32} {J : Nat → Nat → Int64} {G : pG} {Q : pR → pM → Prop} {SL p q : Nat} {x1 r : Int32} (hG : Geo G SL p q) (h : ((r = 0 → Q (.inl (some (.int 0))) (F, A, J, G)) ∧ (¬ r = 0 → X (d + 2) 40 12 [.ref 11, .int x1, .int 0, .null] [] (F, A, J, G) Q))) : KK (d + 2) 40 5 [.ref 11, .int x1, .null, .null] [] Q (.inl (some (.int r))) (F, A, J, G) := by
  refine KKi ?_
  refine Y_zne i_40_5 (fun e1 => ?_) (fun e1 => ?_)
  · replace h := h.1 e1
    refine Y_iconst (v := 0) i_40_8 (by decide) ?_
    exact Y_bret i_40_9 rt_40 (by decide) h
  · replace h := h.2 e1
    refine Y_iconst (v := 0) i_40_10 (by decide) ?_
    refine Y_is2 i_40_11 rfl ?_
    exact h
theorem t_40_12 {d : Nat} {F A : Nat → Nat → Int32} {J : Nat → Nat → Int64} {G : pG} {Q : pR → pM → Prop} {SL p q : Nat} {x1 x2 : Int32} {v3 : Value} (hG : Geo G SL p q) (h : ((x2 < 600 → (((F 11 4) = 4 → inB (F 11 5) 600 = true ∧ (((A 1 (F 11 5).toNatClampNeg) = 43 → (((F 11 4) = 4 → (((A 1 (F 11 5).toNatClampNeg) = 43 → X (d + 1) 49 0 [.ref 11] [] (F, A, J, G) (KK (d + 2) 40 58 [.ref 11, .int x1, .int x2, .int (-8)] [] Q)) ∧ (¬ (A 1 (F 11 5).toNatClampNeg) = 43 → X (d + 1) 49 0 [.ref 11] [] (F, A, J, G) (KK (d + 2) 40 58 [.ref 11, .int x1, .int x2, .int (-9)] [] Q)))) ∧ (¬ (F 11 4) = 4 → X (d + 1) 49 0 [.ref 11] [] (F, A, J, G) (KK (d + 2) 40 58 [.ref 11, .int x1, .int x2, .int (-9)] [] Q)))) ∧ (¬ (A 1 (F 11 5).toNatClampNeg) = 43 → (((F 11 4) = 4 → (((A 1 (F 11 5).toNatClampNeg) = 45 → (((F 11 4) = 4 → (((A 1 (F 11 5).toNatClampNeg) = 43 → X (d + 1) 49 0 [.ref 11] [] (F, A, J, G) (KK (d + 2) 40 58 [.ref 11, .int x1, .int x2, .int (-8)] [] Q)) ∧ (¬ (A 1 (F 11 5).toNatClampNeg) = 43 → X (d + 1) 49 0 [.ref 11] [] (F, A, J, G) (KK (d + 2) 40 58 [.ref 11, .int x1, .int x2, .int (-9)] [] Q)))) ∧ (¬ (F 11 4) = 4 → X (d + 1) 49 0 [.ref 11] [] (F, A, J, G) (KK (d + 2) 40 58 [.ref 11, .int x1, .int x2, .int (-9)] [] Q)))) ∧ (¬ (A 1 (F 11 5).toNatClampNeg) = 45 → Q (.inl (some (.int 1))) (F, A, J, G)))) ∧ (¬ (F 11 4) = 4 → Q (.inl (some (.int 1))) (F, A, J, G)))))) ∧ (¬ (F 11 4) = 4 → (((F 11 4) = 4 → inB (F 11 5) 600 = true ∧ (((A 1 (F 11 5).toNatClampNeg) = 45 → (((F 11 4) = 4 → (((A 1 (F 11 5).toNatClampNeg) = 43 → X (d + 1) 49 0 [.ref 11] [] (F, A, J, G) (KK (d + 2) 40 58 [.ref 11, .int x1, .int x2, .int (-8)] [] Q)) ∧ (¬ (A 1 (F 11 5).toNatClampNeg) = 43 → X (d + 1) 49 0 [.ref 11] [] (F, A, J, G) (KK (d + 2) 40 58 [.ref 11, .int x1, .int x2, .int (-9)] [] Q)))) ∧ (¬ (F 11 4) = 4 → X (d + 1) 49 0 [.ref 11] [] (F, A, J, G) (KK (d + 2) 40 58 [.ref 11, .int x1, .int x2, .int (-9)] [] Q)))) ∧ (¬ (A 1 (F 11 5).toNatClampNeg) = 45 → Q (.inl (some (.int 1))) (F, A, J, G)))) ∧ (¬ (F 11 4) = 4 → Q (.inl (some (.int 1))) (F, A, J, G)))))) ∧ (¬ x2 < 600 → Q (.inl (some (.int 1))) (F, A, J, G)))) : X (d + 2) 40 12 [.ref 11, .int x1, .int x2, v3] [] (F, A, J, G) Q := by
  refine Y_il2 i_40_12 ?_
  refine Y_sipush (v := 600) i_40_13 (by decide) ?_
  refine Y_cge i_40_16 (fun e1 => ?_) (fun e1 => ?_)
  · replace h := h.1 e1
    refine Y_al0 i_40_19 ?_
    refine Y_bipush (v := 43) i_40_20 (by decide) ?_
    refine Y_iv1 (L0 := [.ref 11, .int 43]) i_40_22 ow_40 lm_3_99 ((k_11 hG).trans ow_47.symm) rfl mx_47 rfl rfl hd_40 ?_
    refine Y_al0 i_47_0 ?_
    refine Y_gI (v := (F 11 4)) i_47_1 ow_47 lf_3_53 (by decide) (k_11 hG) rfl ?_
    refine Y_iconst (v := 4) i_47_4 (by decide) ?_
    refine Y_cne i_47_5 (fun e2 => ?_) (fun e2 => ?_)
    · replace h := h.1 e2
      refine Y_al0 i_47_8 ?_
      refine Y_gR i_47_9 ow_47 lf_3_9 (k_11 hG) (r_11_1 hG) ?_
      refine Y_al0 i_47_12 ?_
      refine Y_gI (v := (F 11 5)) i_47_13 ow_47 lf_3_158 (by decide) (k_11 hG) rfl ?_
      have o3 := h.1
      replace h := h.2
      refine Y_baload (k := (F 11 5).toNatClampNeg) (v := (A 1 (F 11 5).toNatClampNeg)) i_47_16 (k_1 hG) (l_1 hG) o3 rfl rfl ?_
      refine Y_il1 i_47_17 ?_
      refine Y_cne i_47_18 (fun e4 => ?_) (fun e4 => ?_)
      · replace h := h.1 e4
        refine Y_iconst (v := 1) i_47_21 (by decide) ?_
        refine Y_goto i_47_22 ?_
        refine Y_bret i_47_26 rt_47 (by decide) (KKi ?_)
        refine Y_zT i_40_25 (by decide) ?_
        refine Y_al0 i_40_37 ?_
        refine Y_bipush (v := 43) i_40_38 (by decide) ?_
        refine Y_iv1 (L0 := [.ref 11, .int 43]) i_40_40 ow_40 lm_3_99 ((k_11 hG).trans ow_47.symm) rfl mx_47 rfl rfl hd_40 ?_
        refine Y_al0 i_47_0 ?_
        refine Y_gI (v := (F 11 4)) i_47_1 ow_47 lf_3_53 (by decide) (k_11 hG) rfl ?_
        refine Y_iconst (v := 4) i_47_4 (by decide) ?_
        refine Y_cne i_47_5 (fun e5 => ?_) (fun e5 => ?_)
        · replace h := h.1 e5
          refine Y_al0 i_47_8 ?_
          refine Y_gR i_47_9 ow_47 lf_3_9 (k_11 hG) (r_11_1 hG) ?_
          refine Y_al0 i_47_12 ?_
          refine Y_gI (v := (F 11 5)) i_47_13 ow_47 lf_3_158 (by decide) (k_11 hG) rfl ?_
          refine Y_baload (k := (F 11 5).toNatClampNeg) (v := (A 1 (F 11 5).toNatClampNeg)) i_47_16 (k_1 hG) (l_1 hG) o3 rfl rfl ?_
          refine Y_il1 i_47_17 ?_
          refine Y_cne i_47_18 (fun e6 => ?_) (fun e6 => ?_)
          · replace h := h.1 e6
            refine Y_iconst (v := 1) i_47_21 (by decide) ?_
            refine Y_goto i_47_22 ?_
            refine Y_bret i_47_26 rt_47 (by decide) (KKi ?_)
            refine Y_zF i_40_43 (by decide) ?_
            refine Y_bipush (v := (-8)) i_40_46 (by decide) ?_
            refine Y_goto i_40_48 ?_
            refine Y_is3 i_40_53 rfl ?_
            refine Y_al0 i_40_54 ?_
            exact Y_iv0 (L0 := [.ref 11]) i_40_55 ow_40 lm_3_50 ((k_11 hG).trans ow_49.symm) rfl mx_49 rfl rfl hd_40 h
          · replace h := h.2 e6
            refine Y_iconst (v := 0) i_47_25 (by decide) ?_
            refine Y_bret i_47_26 rt_47 (by decide) (KKi ?_)
            refine Y_zT i_40_43 (by decide) ?_
            refine Y_bipush (v := (-9)) i_40_51 (by decide) ?_
            refine Y_is3 i_40_53 rfl ?_
            refine Y_al0 i_40_54 ?_
            exact Y_iv0 (L0 := [.ref 11]) i_40_55 ow_40 lm_3_50 ((k_11 hG).trans ow_49.symm) rfl mx_49 rfl rfl hd_40 h
        · replace h := h.2 e5
          refine Y_iconst (v := 0) i_47_25 (by decide) ?_
          refine Y_bret i_47_26 rt_47 (by decide) (KKi ?_)
          refine Y_zT i_40_43 (by decide) ?_
          refine Y_bipush (v := (-9)) i_40_51 (by decide) ?_
          refine Y_is3 i_40_53 rfl ?_
          refine Y_al0 i_40_54 ?_
          exact Y_iv0 (L0 := [.ref 11]) i_40_55 ow_40 lm_3_50 ((k_11 hG).trans ow_49.symm) rfl mx_49 rfl rfl hd_40 h
      · replace h := h.2 e4
        refine Y_iconst (v := 0) i_47_25 (by decide) ?_
        refine Y_bret i_47_26 rt_47 (by decide) (KKi ?_)
        refine Y_zF i_40_25 (by decide) ?_
        refine Y_al0 i_40_28 ?_
        refine Y_bipush (v := 45) i_40_29 (by decide) ?_
        refine Y_iv1 (L0 := [.ref 11, .int 45]) i_40_31 ow_40 lm_3_99 ((k_11 hG).trans ow_47.symm) rfl mx_47 rfl rfl hd_40 ?_
        refine Y_al0 i_47_0 ?_
        refine Y_gI (v := (F 11 4)) i_47_1 ow_47 lf_3_53 (by decide) (k_11 hG) rfl ?_
        refine Y_iconst (v := 4) i_47_4 (by decide) ?_
        refine Y_cne i_47_5 (fun e7 => ?_) (fun e7 => ?_)
        · replace h := h.1 e7
          refine Y_al0 i_47_8 ?_
          refine Y_gR i_47_9 ow_47 lf_3_9 (k_11 hG) (r_11_1 hG) ?_
          refine Y_al0 i_47_12 ?_
          refine Y_gI (v := (F 11 5)) i_47_13 ow_47 lf_3_158 (by decide) (k_11 hG) rfl ?_
          refine Y_baload (k := (F 11 5).toNatClampNeg) (v := (A 1 (F 11 5).toNatClampNeg)) i_47_16 (k_1 hG) (l_1 hG) o3 rfl rfl ?_
          refine Y_il1 i_47_17 ?_
          refine Y_cne i_47_18 (fun e8 => ?_) (fun e8 => ?_)
          · replace h := h.1 e8
            refine Y_iconst (v := 1) i_47_21 (by decide) ?_
            refine Y_goto i_47_22 ?_
            refine Y_bret i_47_26 rt_47 (by decide) (KKi ?_)
            refine Y_zF i_40_34 (by decide) ?_
            refine Y_al0 i_40_37 ?_
            refine Y_bipush (v := 43) i_40_38 (by decide) ?_
            refine Y_iv1 (L0 := [.ref 11, .int 43]) i_40_40 ow_40 lm_3_99 ((k_11 hG).trans ow_47.symm) rfl mx_47 rfl rfl hd_40 ?_
            refine Y_al0 i_47_0 ?_
            refine Y_gI (v := (F 11 4)) i_47_1 ow_47 lf_3_53 (by decide) (k_11 hG) rfl ?_
            refine Y_iconst (v := 4) i_47_4 (by decide) ?_
            refine Y_cne i_47_5 (fun e9 => ?_) (fun e9 => ?_)
            · replace h := h.1 e9
              refine Y_al0 i_47_8 ?_
              refine Y_gR i_47_9 ow_47 lf_3_9 (k_11 hG) (r_11_1 hG) ?_
              refine Y_al0 i_47_12 ?_
              refine Y_gI (v := (F 11 5)) i_47_13 ow_47 lf_3_158 (by decide) (k_11 hG) rfl ?_
              refine Y_baload (k := (F 11 5).toNatClampNeg) (v := (A 1 (F 11 5).toNatClampNeg)) i_47_16 (k_1 hG) (l_1 hG) o3 rfl rfl ?_
              refine Y_il1 i_47_17 ?_
              refine Y_cne i_47_18 (fun e10 => ?_) (fun e10 => ?_)
              · replace h := h.1 e10
                refine Y_iconst (v := 1) i_47_21 (by decide) ?_
                refine Y_goto i_47_22 ?_
                refine Y_bret i_47_26 rt_47 (by decide) (KKi ?_)
                refine Y_zF i_40_43 (by decide) ?_
                refine Y_bipush (v := (-8)) i_40_46 (by decide) ?_
                refine Y_goto i_40_48 ?_
                refine Y_is3 i_40_53 rfl ?_
                refine Y_al0 i_40_54 ?_
                exact Y_iv0 (L0 := [.ref 11]) i_40_55 ow_40 lm_3_50 ((k_11 hG).trans ow_49.symm) rfl mx_49 rfl rfl hd_40 h
              · replace h := h.2 e10
                refine Y_iconst (v := 0) i_47_25 (by decide) ?_
                refine Y_bret i_47_26 rt_47 (by decide) (KKi ?_)
                refine Y_zT i_40_43 (by decide) ?_
                refine Y_bipush (v := (-9)) i_40_51 (by decide) ?_
                refine Y_is3 i_40_53 rfl ?_
                refine Y_al0 i_40_54 ?_
                exact Y_iv0 (L0 := [.ref 11]) i_40_55 ow_40 lm_3_50 ((k_11 hG).trans ow_49.symm) rfl mx_49 rfl rfl hd_40 h
            · replace h := h.2 e9
              refine Y_iconst (v := 0) i_47_25 (by decide) ?_
              refine Y_bret i_47_26 rt_47 (by decide) (KKi ?_)
              refine Y_zT i_40_43 (by decide) ?_
              refine Y_bipush (v := (-9)) i_40_51 (by decide) ?_
              refine Y_is3 i_40_53 rfl ?_
              refine Y_al0 i_40_54 ?_
              exact Y_iv0 (L0 := [.ref 11]) i_40_55 ow_40 lm_3_50 ((k_11 hG).trans ow_49.symm) rfl mx_49 rfl rfl hd_40 h
          · replace h := h.2 e8
            refine Y_iconst (v := 0) i_47_25 (by decide) ?_
            refine Y_bret i_47_26 rt_47 (by decide) (KKi ?_)
            refine Y_zT i_40_34 (by decide) ?_
            refine Y_iconst (v := 1) i_40_85 (by decide) ?_
            exact Y_bret i_40_86 rt_40 (by decide) h
        · replace h := h.2 e7
          refine Y_iconst (v := 0) i_47_25 (by decide) ?_
          refine Y_bret i_47_26 rt_47 (by decide) (KKi ?_)
          refine Y_zT i_40_34 (by decide) ?_
          refine Y_iconst (v := 1) i_40_85 (by decide) ?_
          exact Y_bret i_40_86 rt_40 (by decide) h
    · replace h := h.2 e2
      refine Y_iconst (v := 0) i_47_25 (by decide) ?_
      refine Y_bret i_47_26 rt_47 (by decide) (KKi ?_)
      refine Y_zF i_40_25 (by decide) ?_
      refine Y_al0 i_40_28 ?_
      refine Y_bipush (v := 45) i_40_29 (by decide) ?_
      refine Y_iv1 (L0 := [.ref 11, .int 45]) i_40_31 ow_40 lm_3_99 ((k_11 hG).trans ow_47.symm) rfl mx_47 rfl rfl hd_40 ?_
      refine Y_al0 i_47_0 ?_
      refine Y_gI (v := (F 11 4)) i_47_1 ow_47 lf_3_53 (by decide) (k_11 hG) rfl ?_
      refine Y_iconst (v := 4) i_47_4 (by decide) ?_
      refine Y_cne i_47_5 (fun e11 => ?_) (fun e11 => ?_)
      · replace h := h.1 e11
        refine Y_al0 i_47_8 ?_
        refine Y_gR i_47_9 ow_47 lf_3_9 (k_11 hG) (r_11_1 hG) ?_
        refine Y_al0 i_47_12 ?_
        refine Y_gI (v := (F 11 5)) i_47_13 ow_47 lf_3_158 (by decide) (k_11 hG) rfl ?_
        have o12 := h.1
        replace h := h.2
        refine Y_baload (k := (F 11 5).toNatClampNeg) (v := (A 1 (F 11 5).toNatClampNeg)) i_47_16 (k_1 hG) (l_1 hG) o12 rfl rfl ?_
        refine Y_il1 i_47_17 ?_
        refine Y_cne i_47_18 (fun e13 => ?_) (fun e13 => ?_)
        · replace h := h.1 e13
          refine Y_iconst (v := 1) i_47_21 (by decide) ?_
          refine Y_goto i_47_22 ?_
          refine Y_bret i_47_26 rt_47 (by decide) (KKi ?_)
          refine Y_zF i_40_34 (by decide) ?_
          refine Y_al0 i_40_37 ?_
          refine Y_bipush (v := 43) i_40_38 (by decide) ?_
          refine Y_iv1 (L0 := [.ref 11, .int 43]) i_40_40 ow_40 lm_3_99 ((k_11 hG).trans ow_47.symm) rfl mx_47 rfl rfl hd_40 ?_
          refine Y_al0 i_47_0 ?_
          refine Y_gI (v := (F 11 4)) i_47_1 ow_47 lf_3_53 (by decide) (k_11 hG) rfl ?_
          refine Y_iconst (v := 4) i_47_4 (by decide) ?_
          refine Y_cne i_47_5 (fun e14 => ?_) (fun e14 => ?_)
          · replace h := h.1 e14
            refine Y_al0 i_47_8 ?_
            refine Y_gR i_47_9 ow_47 lf_3_9 (k_11 hG) (r_11_1 hG) ?_
            refine Y_al0 i_47_12 ?_
            refine Y_gI (v := (F 11 5)) i_47_13 ow_47 lf_3_158 (by decide) (k_11 hG) rfl ?_
            refine Y_baload (k := (F 11 5).toNatClampNeg) (v := (A 1 (F 11 5).toNatClampNeg)) i_47_16 (k_1 hG) (l_1 hG) o12 rfl rfl ?_
            refine Y_il1 i_47_17 ?_
            refine Y_cne i_47_18 (fun e15 => ?_) (fun e15 => ?_)
            · replace h := h.1 e15
              refine Y_iconst (v := 1) i_47_21 (by decide) ?_
              refine Y_goto i_47_22 ?_
              refine Y_bret i_47_26 rt_47 (by decide) (KKi ?_)
              refine Y_zF i_40_43 (by decide) ?_
              refine Y_bipush (v := (-8)) i_40_46 (by decide) ?_
              refine Y_goto i_40_48 ?_
              refine Y_is3 i_40_53 rfl ?_
              refine Y_al0 i_40_54 ?_
              exact Y_iv0 (L0 := [.ref 11]) i_40_55 ow_40 lm_3_50 ((k_11 hG).trans ow_49.symm) rfl mx_49 rfl rfl hd_40 h
            · replace h := h.2 e15
              refine Y_iconst (v := 0) i_47_25 (by decide) ?_
              refine Y_bret i_47_26 rt_47 (by decide) (KKi ?_)
              refine Y_zT i_40_43 (by decide) ?_
              refine Y_bipush (v := (-9)) i_40_51 (by decide) ?_
              refine Y_is3 i_40_53 rfl ?_
              refine Y_al0 i_40_54 ?_
              exact Y_iv0 (L0 := [.ref 11]) i_40_55 ow_40 lm_3_50 ((k_11 hG).trans ow_49.symm) rfl mx_49 rfl rfl hd_40 h
          · replace h := h.2 e14
            refine Y_iconst (v := 0) i_47_25 (by decide) ?_
            refine Y_bret i_47_26 rt_47 (by decide) (KKi ?_)
            refine Y_zT i_40_43 (by decide) ?_
            refine Y_bipush (v := (-9)) i_40_51 (by decide) ?_
            refine Y_is3 i_40_53 rfl ?_
            refine Y_al0 i_40_54 ?_
            exact Y_iv0 (L0 := [.ref 11]) i_40_55 ow_40 lm_3_50 ((k_11 hG).trans ow_49.symm) rfl mx_49 rfl rfl hd_40 h
        · replace h := h.2 e13
          refine Y_iconst (v := 0) i_47_25 (by decide) ?_
          refine Y_bret i_47_26 rt_47 (by decide) (KKi ?_)
          refine Y_zT i_40_34 (by decide) ?_
          refine Y_iconst (v := 1) i_40_85 (by decide) ?_
          exact Y_bret i_40_86 rt_40 (by decide) h
      · replace h := h.2 e11
        refine Y_iconst (v := 0) i_47_25 (by decide) ?_
        refine Y_bret i_47_26 rt_47 (by decide) (KKi ?_)
        refine Y_zT i_40_34 (by decide) ?_
        refine Y_iconst (v := 1) i_40_85 (by decide) ?_
        exact Y_bret i_40_86 rt_40 (by decide) h
  · replace h := h.2 e1
    refine Y_iconst (v := 1) i_40_85 (by decide) ?_
    exact Y_bret i_40_86 rt_40 (by decide) h
theorem k_40_58 {d : Nat} {F A : Nat → Nat → Int32} {J : Nat → Nat → Int64} {G : pG} {Q : pR → pM → Prop} {SL p q : Nat} {x1 x2 x3 : Int32} (hG : Geo G SL p q) (h : X (d + 1) 41 0 [.ref 11, .int x1, .null, .null] [] (F, A, J, G) (KK (d + 2) 40 63 [.ref 11, .int x1, .int x2, .int x3] [] Q)) : KK (d + 2) 40 58 [.ref 11, .int x1, .int x2, .int x3] [] Q (.inl none) (F, A, J, G) := by
  refine KKv ?_
  refine Y_al0 i_40_58 ?_
  refine Y_il1 i_40_59 ?_
  exact Y_iv1 (L0 := [.ref 11, .int x1, .null, .null]) i_40_60 ow_40 lm_3_152 ((k_11 hG).trans ow_41.symm) rfl mx_41 rfl rfl hd_40 h
theorem k_40_63 {d : Nat} {F A : Nat → Nat → Int32} {J : Nat → Nat → Int64} {G : pG} {Q : pR → pM → Prop} {SL p q : Nat} {x1 x2 x3 r : Int32} (hG : Geo G SL p q) (h : ((r = 0 → Q (.inl (some (.int 0))) (F, A, J, G)) ∧ (¬ r = 0 → (((F 8 1) < 600 → inB (F 8 1) 600 = true ∧ (X (d + 2) 40 12 [.ref 11, .int x1, .int (x2 + 1), .int x3] [] ((wF F 8 1 ((F 8 1) + 1)), (wF A 9 (F 8 1).toNatClampNeg x3), J, G) Q)) ∧ (¬ (F 8 1) < 600 → X (d + 2) 40 12 [.ref 11, .int x1, .int (x2 + 1), .int x3] [] (F, A, J, G) Q))))) : KK (d + 2) 40 63 [.ref 11, .int x1, .int x2, .int x3] [] Q (.inl (some (.int r))) (F, A, J, G) := by
  refine KKi ?_
  refine Y_zne i_40_63 (fun e1 => ?_) (fun e1 => ?_)
  · replace h := h.1 e1
    refine Y_iconst (v := 0) i_40_66 (by decide) ?_
    exact Y_bret i_40_67 rt_40 (by decide) h
  · replace h := h.2 e1
    refine Y_al0 i_40_68 ?_
    refine Y_gR i_40_69 ow_40 lf_3_15 (k_11 hG) (r_11_2 hG) ?_
    refine Y_gR i_40_72 ow_40 lf_3_123 (k_2 hG) (r_2_8 hG) ?_
    refine Y_il3 i_40_75 ?_
    refine Y_iv1 (L0 := [.ref 8, .int x3]) i_40_76 ow_40 lm_3_137 ((k_8 hG).trans ow_54.symm) rfl mx_54 rfl rfl hd_40 ?_
    refine Y_al0 i_54_0 ?_
    refine Y_gI (v := (F 8 1)) i_54_1 ow_54 lf_4_18 (by decide) (k_8 hG) rfl ?_
    refine Y_al0 i_54_4 ?_
    refine Y_gR i_54_5 ow_54 lf_4_9 (k_8 hG) (r_8_0 hG) ?_
    refine Y_alen (v := 600) i_54_8 (Or.inl (k_9 hG)) (l_9 hG) (by decide) ?_
    refine Y_cge i_54_9 (fun e2 => ?_) (fun e2 => ?_)
    · replace h := h.1 e2
      refine Y_al0 i_54_12 ?_
      refine Y_gR i_54_13 ow_54 lf_4_9 (k_8 hG) (r_8_0 hG) ?_
      refine Y_al0 i_54_16 ?_
      refine Y_gI (v := (F 8 1)) i_54_17 ow_54 lf_4_18 (by decide) (k_8 hG) rfl ?_
      refine Y_il1 i_54_20 ?_
      have o3 := h.1
      replace h := h.2
      refine Y_iast i_54_21 (k_9 hG) (l_9 hG) o3 rfl ?_
      refine Y_al0 i_54_22 ?_
      refine Y_dup i_54_23 rfl ?_
      refine Y_gI (v := (F 8 1)) i_54_24 ow_54 lf_4_18 (by decide) (k_8 hG) rfl ?_
      refine Y_iconst (v := 1) i_54_27 (by decide) ?_
      refine Y_iadd i_54_28 ?_
      refine Y_pI i_54_29 ow_54 lf_4_18 (k_8 hG) ?_
      refine Y_vret i_54_32 rt_54 (KKv ?_)
      refine Y_ii2 (v := 1) i_40_79 (by decide) rfl ?_
      refine Y_goto i_40_82 ?_
      exact h
    · replace h := h.2 e2
      refine Y_vret i_54_32 rt_54 (KKv ?_)
      refine Y_ii2 (v := 1) i_40_79 (by decide) rfl ?_
      refine Y_goto i_40_82 ?_
      exact h
/- 41 Reader.product(I)Z -/
theorem t_41_0 {d : Nat} {F A : Nat → Nat → Int32} {J : Nat → Nat → Int64} {G : pG} {Q : pR → pM → Prop} {SL p q : Nat} {x1 : Int32} (hG : Geo G SL p q) (h : X (d + 1) 42 0 [.ref 11, .int x1, .null] [] (F, A, J, G) (KK (d + 2) 41 5 [.ref 11, .int x1, .null, .null] [] Q)) : X (d + 2) 41 0 [.ref 11, .int x1, .null, .null] [] (F, A, J, G) Q := by
  refine Y_al0 i_41_0 ?_
  refine Y_il1 i_41_1 ?_
  exact Y_iv1 (L0 := [.ref 11, .int x1, .null]) i_41_2 ow_41 lm_3_155 ((k_11 hG).trans ow_42.symm) rfl mx_42 rfl rfl hd_41 h
theorem k_41_5 {d : Nat} {F A : Nat → Nat → Int32} {J : Nat → Nat → Int64} {G : pG} {Q : pR → pM → Prop} {SL p q : Nat} {x1 r : Int32} (hG : Geo G SL p q) (h : ((r = 0 → Q (.inl (some (.int 0))) (F, A, J, G)) ∧ (¬ r = 0 → X (d + 2) 41 12 [.ref 11, .int x1, .int 0, .null] [] (F, A, J, G) Q))) : KK (d + 2) 41 5 [.ref 11, .int x1, .null, .null] [] Q (.inl (some (.int r))) (F, A, J, G) := by
  refine KKi ?_
  refine Y_zne i_41_5 (fun e1 => ?_) (fun e1 => ?_)
  · replace h := h.1 e1
    refine Y_iconst (v := 0) i_41_8 (by decide) ?_
    exact Y_bret i_41_9 rt_41 (by decide) h
  · replace h := h.2 e1
    refine Y_iconst (v := 0) i_41_10 (by decide) ?_
    refine Y_is2 i_41_11 rfl ?_
    exact h
theorem t_41_12 {d : Nat} {F A : Nat → Nat → Int32} {J : Nat → Nat → Int64} {G : pG} {Q : pR → pM → Prop} {SL p q : Nat} {x1 x2 : Int32} {v3 : Value} (hG : Geo G SL p q) (h : ((x2 < 600 → (((F 11 4) = 4 → inB (F 11 5) 600 = true ∧ (((A 1 (F 11 5).toNatClampNeg) = 42 → (((F 11 4) = 4 → (((A 1 (F 11 5).toNatClampNeg) = 42 → X (d + 1) 49 0 [.ref 11] [] (F, A, J, G) (KK (d + 2) 41 58 [.ref 11, .int x1, .int x2, .int (-10)] [] Q)) ∧ (¬ (A 1 (F 11 5).toNatClampNeg) = 42 → X (d + 1) 49 0 [.ref 11] [] (F, A, J, G) (KK (d + 2) 41 58 [.ref 11, .int x1, .int x2, .int (-11)] [] Q)))) ∧ (¬ (F 11 4) = 4 → X (d + 1) 49 0 [.ref 11] [] (F, A, J, G) (KK (d + 2) 41 58 [.ref 11, .int x1, .int x2, .int (-11)] [] Q)))) ∧ (¬ (A 1 (F 11 5).toNatClampNeg) = 42 → (((F 11 4) = 4 → (((A 1 (F 11 5).toNatClampNeg) = 47 → (((F 11 4) = 4 → (((A 1 (F 11 5).toNatClampNeg) = 42 → X (d + 1) 49 0 [.ref 11] [] (F, A, J, G) (KK (d + 2) 41 58 [.ref 11, .int x1, .int x2, .int (-10)] [] Q)) ∧ (¬ (A 1 (F 11 5).toNatClampNeg) = 42 → X (d + 1) 49 0 [.ref 11] [] (F, A, J, G) (KK (d + 2) 41 58 [.ref 11, .int x1, .int x2, .int (-11)] [] Q)))) ∧ (¬ (F 11 4) = 4 → X (d + 1) 49 0 [.ref 11] [] (F, A, J, G) (KK (d + 2) 41 58 [.ref 11, .int x1, .int x2, .int (-11)] [] Q)))) ∧ (¬ (A 1 (F 11 5).toNatClampNeg) = 47 → Q (.inl (some (.int 1))) (F, A, J, G)))) ∧ (¬ (F 11 4) = 4 → Q (.inl (some (.int 1))) (F, A, J, G)))))) ∧ (¬ (F 11 4) = 4 → (((F 11 4) = 4 → inB (F 11 5) 600 = true ∧ (((A 1 (F 11 5).toNatClampNeg) = 47 → (((F 11 4) = 4 → (((A 1 (F 11 5).toNatClampNeg) = 42 → X (d + 1) 49 0 [.ref 11] [] (F, A, J, G) (KK (d + 2) 41 58 [.ref 11, .int x1, .int x2, .int (-10)] [] Q)) ∧ (¬ (A 1 (F 11 5).toNatClampNeg) = 42 → X (d + 1) 49 0 [.ref 11] [] (F, A, J, G) (KK (d + 2) 41 58 [.ref 11, .int x1, .int x2, .int (-11)] [] Q)))) ∧ (¬ (F 11 4) = 4 → X (d + 1) 49 0 [.ref 11] [] (F, A, J, G) (KK (d + 2) 41 58 [.ref 11, .int x1, .int x2, .int (-11)] [] Q)))) ∧ (¬ (A 1 (F 11 5).toNatClampNeg) = 47 → Q (.inl (some (.int 1))) (F, A, J, G)))) ∧ (¬ (F 11 4) = 4 → Q (.inl (some (.int 1))) (F, A, J, G)))))) ∧ (¬ x2 < 600 → Q (.inl (some (.int 1))) (F, A, J, G)))) : X (d + 2) 41 12 [.ref 11, .int x1, .int x2, v3] [] (F, A, J, G) Q := by
  refine Y_il2 i_41_12 ?_
  refine Y_sipush (v := 600) i_41_13 (by decide) ?_
  refine Y_cge i_41_16 (fun e1 => ?_) (fun e1 => ?_)
  · replace h := h.1 e1
    refine Y_al0 i_41_19 ?_
    refine Y_bipush (v := 42) i_41_20 (by decide) ?_
    refine Y_iv1 (L0 := [.ref 11, .int 42]) i_41_22 ow_41 lm_3_99 ((k_11 hG).trans ow_47.symm) rfl mx_47 rfl rfl hd_41 ?_
    refine Y_al0 i_47_0 ?_
    refine Y_gI (v := (F 11 4)) i_47_1 ow_47 lf_3_53 (by decide) (k_11 hG) rfl ?_
    refine Y_iconst (v := 4) i_47_4 (by decide) ?_
    refine Y_cne i_47_5 (fun e2 => ?_) (fun e2 => ?_)
    · replace h := h.1 e2
      refine Y_al0 i_47_8 ?_
      refine Y_gR i_47_9 ow_47 lf_3_9 (k_11 hG) (r_11_1 hG) ?_
      refine Y_al0 i_47_12 ?_
      refine Y_gI (v := (F 11 5)) i_47_13 ow_47 lf_3_158 (by decide) (k_11 hG) rfl ?_
      have o3 := h.1
      replace h := h.2
      refine Y_baload (k := (F 11 5).toNatClampNeg) (v := (A 1 (F 11 5).toNatClampNeg)) i_47_16 (k_1 hG) (l_1 hG) o3 rfl rfl ?_
      refine Y_il1 i_47_17 ?_
      refine Y_cne i_47_18 (fun e4 => ?_) (fun e4 => ?_)
      · replace h := h.1 e4
        refine Y_iconst (v := 1) i_47_21 (by decide) ?_
        refine Y_goto i_47_22 ?_
        refine Y_bret i_47_26 rt_47 (by decide) (KKi ?_)
        refine Y_zT i_41_25 (by decide) ?_
        refine Y_al0 i_41_37 ?_
        refine Y_bipush (v := 42) i_41_38 (by decide) ?_
        refine Y_iv1 (L0 := [.ref 11, .int 42]) i_41_40 ow_41 lm_3_99 ((k_11 hG).trans ow_47.symm) rfl mx_47 rfl rfl hd_41 ?_
        refine Y_al0 i_47_0 ?_
        refine Y_gI (v := (F 11 4)) i_47_1 ow_47 lf_3_53 (by decide) (k_11 hG) rfl ?_
        refine Y_iconst (v := 4) i_47_4 (by decide) ?_
        refine Y_cne i_47_5 (fun e5 => ?_) (fun e5 => ?_)
        · replace h := h.1 e5
          refine Y_al0 i_47_8 ?_
          refine Y_gR i_47_9 ow_47 lf_3_9 (k_11 hG) (r_11_1 hG) ?_
          refine Y_al0 i_47_12 ?_
          refine Y_gI (v := (F 11 5)) i_47_13 ow_47 lf_3_158 (by decide) (k_11 hG) rfl ?_
          refine Y_baload (k := (F 11 5).toNatClampNeg) (v := (A 1 (F 11 5).toNatClampNeg)) i_47_16 (k_1 hG) (l_1 hG) o3 rfl rfl ?_
          refine Y_il1 i_47_17 ?_
          refine Y_cne i_47_18 (fun e6 => ?_) (fun e6 => ?_)
          · replace h := h.1 e6
            refine Y_iconst (v := 1) i_47_21 (by decide) ?_
            refine Y_goto i_47_22 ?_
            refine Y_bret i_47_26 rt_47 (by decide) (KKi ?_)
            refine Y_zF i_41_43 (by decide) ?_
            refine Y_bipush (v := (-10)) i_41_46 (by decide) ?_
            refine Y_goto i_41_48 ?_
            refine Y_is3 i_41_53 rfl ?_
            refine Y_al0 i_41_54 ?_
            exact Y_iv0 (L0 := [.ref 11]) i_41_55 ow_41 lm_3_50 ((k_11 hG).trans ow_49.symm) rfl mx_49 rfl rfl hd_41 h
          · replace h := h.2 e6
            refine Y_iconst (v := 0) i_47_25 (by decide) ?_
            refine Y_bret i_47_26 rt_47 (by decide) (KKi ?_)
            refine Y_zT i_41_43 (by decide) ?_
            refine Y_bipush (v := (-11)) i_41_51 (by decide) ?_
            refine Y_is3 i_41_53 rfl ?_
            refine Y_al0 i_41_54 ?_
            exact Y_iv0 (L0 := [.ref 11]) i_41_55 ow_41 lm_3_50 ((k_11 hG).trans ow_49.symm) rfl mx_49 rfl rfl hd_41 h
        · replace h := h.2 e5
          refine Y_iconst (v := 0) i_47_25 (by decide) ?_
          refine Y_bret i_47_26 rt_47 (by decide) (KKi ?_)
          refine Y_zT i_41_43 (by decide) ?_
          refine Y_bipush (v := (-11)) i_41_51 (by decide) ?_
          refine Y_is3 i_41_53 rfl ?_
          refine Y_al0 i_41_54 ?_
          exact Y_iv0 (L0 := [.ref 11]) i_41_55 ow_41 lm_3_50 ((k_11 hG).trans ow_49.symm) rfl mx_49 rfl rfl hd_41 h
      · replace h := h.2 e4
        refine Y_iconst (v := 0) i_47_25 (by decide) ?_
        refine Y_bret i_47_26 rt_47 (by decide) (KKi ?_)
        refine Y_zF i_41_25 (by decide) ?_
        refine Y_al0 i_41_28 ?_
        refine Y_bipush (v := 47) i_41_29 (by decide) ?_
        refine Y_iv1 (L0 := [.ref 11, .int 47]) i_41_31 ow_41 lm_3_99 ((k_11 hG).trans ow_47.symm) rfl mx_47 rfl rfl hd_41 ?_
        refine Y_al0 i_47_0 ?_
        refine Y_gI (v := (F 11 4)) i_47_1 ow_47 lf_3_53 (by decide) (k_11 hG) rfl ?_
        refine Y_iconst (v := 4) i_47_4 (by decide) ?_
        refine Y_cne i_47_5 (fun e7 => ?_) (fun e7 => ?_)
        · replace h := h.1 e7
          refine Y_al0 i_47_8 ?_
          refine Y_gR i_47_9 ow_47 lf_3_9 (k_11 hG) (r_11_1 hG) ?_
          refine Y_al0 i_47_12 ?_
          refine Y_gI (v := (F 11 5)) i_47_13 ow_47 lf_3_158 (by decide) (k_11 hG) rfl ?_
          refine Y_baload (k := (F 11 5).toNatClampNeg) (v := (A 1 (F 11 5).toNatClampNeg)) i_47_16 (k_1 hG) (l_1 hG) o3 rfl rfl ?_
          refine Y_il1 i_47_17 ?_
          refine Y_cne i_47_18 (fun e8 => ?_) (fun e8 => ?_)
          · replace h := h.1 e8
            refine Y_iconst (v := 1) i_47_21 (by decide) ?_
            refine Y_goto i_47_22 ?_
            refine Y_bret i_47_26 rt_47 (by decide) (KKi ?_)
            refine Y_zF i_41_34 (by decide) ?_
            refine Y_al0 i_41_37 ?_
            refine Y_bipush (v := 42) i_41_38 (by decide) ?_
            refine Y_iv1 (L0 := [.ref 11, .int 42]) i_41_40 ow_41 lm_3_99 ((k_11 hG).trans ow_47.symm) rfl mx_47 rfl rfl hd_41 ?_
            refine Y_al0 i_47_0 ?_
            refine Y_gI (v := (F 11 4)) i_47_1 ow_47 lf_3_53 (by decide) (k_11 hG) rfl ?_
            refine Y_iconst (v := 4) i_47_4 (by decide) ?_
            refine Y_cne i_47_5 (fun e9 => ?_) (fun e9 => ?_)
            · replace h := h.1 e9
              refine Y_al0 i_47_8 ?_
              refine Y_gR i_47_9 ow_47 lf_3_9 (k_11 hG) (r_11_1 hG) ?_
              refine Y_al0 i_47_12 ?_
              refine Y_gI (v := (F 11 5)) i_47_13 ow_47 lf_3_158 (by decide) (k_11 hG) rfl ?_
              refine Y_baload (k := (F 11 5).toNatClampNeg) (v := (A 1 (F 11 5).toNatClampNeg)) i_47_16 (k_1 hG) (l_1 hG) o3 rfl rfl ?_
              refine Y_il1 i_47_17 ?_
              refine Y_cne i_47_18 (fun e10 => ?_) (fun e10 => ?_)
              · replace h := h.1 e10
                refine Y_iconst (v := 1) i_47_21 (by decide) ?_
                refine Y_goto i_47_22 ?_
                refine Y_bret i_47_26 rt_47 (by decide) (KKi ?_)
                refine Y_zF i_41_43 (by decide) ?_
                refine Y_bipush (v := (-10)) i_41_46 (by decide) ?_
                refine Y_goto i_41_48 ?_
                refine Y_is3 i_41_53 rfl ?_
                refine Y_al0 i_41_54 ?_
                exact Y_iv0 (L0 := [.ref 11]) i_41_55 ow_41 lm_3_50 ((k_11 hG).trans ow_49.symm) rfl mx_49 rfl rfl hd_41 h
              · replace h := h.2 e10
                refine Y_iconst (v := 0) i_47_25 (by decide) ?_
                refine Y_bret i_47_26 rt_47 (by decide) (KKi ?_)
                refine Y_zT i_41_43 (by decide) ?_
                refine Y_bipush (v := (-11)) i_41_51 (by decide) ?_
                refine Y_is3 i_41_53 rfl ?_
                refine Y_al0 i_41_54 ?_
                exact Y_iv0 (L0 := [.ref 11]) i_41_55 ow_41 lm_3_50 ((k_11 hG).trans ow_49.symm) rfl mx_49 rfl rfl hd_41 h
            · replace h := h.2 e9
              refine Y_iconst (v := 0) i_47_25 (by decide) ?_
              refine Y_bret i_47_26 rt_47 (by decide) (KKi ?_)
              refine Y_zT i_41_43 (by decide) ?_
              refine Y_bipush (v := (-11)) i_41_51 (by decide) ?_
              refine Y_is3 i_41_53 rfl ?_
              refine Y_al0 i_41_54 ?_
              exact Y_iv0 (L0 := [.ref 11]) i_41_55 ow_41 lm_3_50 ((k_11 hG).trans ow_49.symm) rfl mx_49 rfl rfl hd_41 h
          · replace h := h.2 e8
            refine Y_iconst (v := 0) i_47_25 (by decide) ?_
            refine Y_bret i_47_26 rt_47 (by decide) (KKi ?_)
            refine Y_zT i_41_34 (by decide) ?_
            refine Y_iconst (v := 1) i_41_85 (by decide) ?_
            exact Y_bret i_41_86 rt_41 (by decide) h
        · replace h := h.2 e7
          refine Y_iconst (v := 0) i_47_25 (by decide) ?_
          refine Y_bret i_47_26 rt_47 (by decide) (KKi ?_)
          refine Y_zT i_41_34 (by decide) ?_
          refine Y_iconst (v := 1) i_41_85 (by decide) ?_
          exact Y_bret i_41_86 rt_41 (by decide) h
    · replace h := h.2 e2
      refine Y_iconst (v := 0) i_47_25 (by decide) ?_
      refine Y_bret i_47_26 rt_47 (by decide) (KKi ?_)
      refine Y_zF i_41_25 (by decide) ?_
      refine Y_al0 i_41_28 ?_
      refine Y_bipush (v := 47) i_41_29 (by decide) ?_
      refine Y_iv1 (L0 := [.ref 11, .int 47]) i_41_31 ow_41 lm_3_99 ((k_11 hG).trans ow_47.symm) rfl mx_47 rfl rfl hd_41 ?_
      refine Y_al0 i_47_0 ?_
      refine Y_gI (v := (F 11 4)) i_47_1 ow_47 lf_3_53 (by decide) (k_11 hG) rfl ?_
      refine Y_iconst (v := 4) i_47_4 (by decide) ?_
      refine Y_cne i_47_5 (fun e11 => ?_) (fun e11 => ?_)
      · replace h := h.1 e11
        refine Y_al0 i_47_8 ?_
        refine Y_gR i_47_9 ow_47 lf_3_9 (k_11 hG) (r_11_1 hG) ?_
        refine Y_al0 i_47_12 ?_
        refine Y_gI (v := (F 11 5)) i_47_13 ow_47 lf_3_158 (by decide) (k_11 hG) rfl ?_
        have o12 := h.1
        replace h := h.2
        refine Y_baload (k := (F 11 5).toNatClampNeg) (v := (A 1 (F 11 5).toNatClampNeg)) i_47_16 (k_1 hG) (l_1 hG) o12 rfl rfl ?_
        refine Y_il1 i_47_17 ?_
        refine Y_cne i_47_18 (fun e13 => ?_) (fun e13 => ?_)
        · replace h := h.1 e13
          refine Y_iconst (v := 1) i_47_21 (by decide) ?_
          refine Y_goto i_47_22 ?_
          refine Y_bret i_47_26 rt_47 (by decide) (KKi ?_)
          refine Y_zF i_41_34 (by decide) ?_
          refine Y_al0 i_41_37 ?_
          refine Y_bipush (v := 42) i_41_38 (by decide) ?_
          refine Y_iv1 (L0 := [.ref 11, .int 42]) i_41_40 ow_41 lm_3_99 ((k_11 hG).trans ow_47.symm) rfl mx_47 rfl rfl hd_41 ?_
          refine Y_al0 i_47_0 ?_
          refine Y_gI (v := (F 11 4)) i_47_1 ow_47 lf_3_53 (by decide) (k_11 hG) rfl ?_
          refine Y_iconst (v := 4) i_47_4 (by decide) ?_
          refine Y_cne i_47_5 (fun e14 => ?_) (fun e14 => ?_)
          · replace h := h.1 e14
            refine Y_al0 i_47_8 ?_
            refine Y_gR i_47_9 ow_47 lf_3_9 (k_11 hG) (r_11_1 hG) ?_
            refine Y_al0 i_47_12 ?_
            refine Y_gI (v := (F 11 5)) i_47_13 ow_47 lf_3_158 (by decide) (k_11 hG) rfl ?_
            refine Y_baload (k := (F 11 5).toNatClampNeg) (v := (A 1 (F 11 5).toNatClampNeg)) i_47_16 (k_1 hG) (l_1 hG) o12 rfl rfl ?_
            refine Y_il1 i_47_17 ?_
            refine Y_cne i_47_18 (fun e15 => ?_) (fun e15 => ?_)
            · replace h := h.1 e15
              refine Y_iconst (v := 1) i_47_21 (by decide) ?_
              refine Y_goto i_47_22 ?_
              refine Y_bret i_47_26 rt_47 (by decide) (KKi ?_)
              refine Y_zF i_41_43 (by decide) ?_
              refine Y_bipush (v := (-10)) i_41_46 (by decide) ?_
              refine Y_goto i_41_48 ?_
              refine Y_is3 i_41_53 rfl ?_
              refine Y_al0 i_41_54 ?_
              exact Y_iv0 (L0 := [.ref 11]) i_41_55 ow_41 lm_3_50 ((k_11 hG).trans ow_49.symm) rfl mx_49 rfl rfl hd_41 h
            · replace h := h.2 e15
              refine Y_iconst (v := 0) i_47_25 (by decide) ?_
              refine Y_bret i_47_26 rt_47 (by decide) (KKi ?_)
              refine Y_zT i_41_43 (by decide) ?_
              refine Y_bipush (v := (-11)) i_41_51 (by decide) ?_
              refine Y_is3 i_41_53 rfl ?_
              refine Y_al0 i_41_54 ?_
              exact Y_iv0 (L0 := [.ref 11]) i_41_55 ow_41 lm_3_50 ((k_11 hG).trans ow_49.symm) rfl mx_49 rfl rfl hd_41 h
          · replace h := h.2 e14
            refine Y_iconst (v := 0) i_47_25 (by decide) ?_
            refine Y_bret i_47_26 rt_47 (by decide) (KKi ?_)
            refine Y_zT i_41_43 (by decide) ?_
            refine Y_bipush (v := (-11)) i_41_51 (by decide) ?_
            refine Y_is3 i_41_53 rfl ?_
            refine Y_al0 i_41_54 ?_
            exact Y_iv0 (L0 := [.ref 11]) i_41_55 ow_41 lm_3_50 ((k_11 hG).trans ow_49.symm) rfl mx_49 rfl rfl hd_41 h
        · replace h := h.2 e13
          refine Y_iconst (v := 0) i_47_25 (by decide) ?_
          refine Y_bret i_47_26 rt_47 (by decide) (KKi ?_)
          refine Y_zT i_41_34 (by decide) ?_
          refine Y_iconst (v := 1) i_41_85 (by decide) ?_
          exact Y_bret i_41_86 rt_41 (by decide) h
      · replace h := h.2 e11
        refine Y_iconst (v := 0) i_47_25 (by decide) ?_
        refine Y_bret i_47_26 rt_47 (by decide) (KKi ?_)
        refine Y_zT i_41_34 (by decide) ?_
        refine Y_iconst (v := 1) i_41_85 (by decide) ?_
        exact Y_bret i_41_86 rt_41 (by decide) h
  · replace h := h.2 e1
    refine Y_iconst (v := 1) i_41_85 (by decide) ?_
    exact Y_bret i_41_86 rt_41 (by decide) h
theorem k_41_58 {d : Nat} {F A : Nat → Nat → Int32} {J : Nat → Nat → Int64} {G : pG} {Q : pR → pM → Prop} {SL p q : Nat} {x1 x2 x3 : Int32} (hG : Geo G SL p q) (h : X (d + 1) 42 0 [.ref 11, .int x1, .null] [] (F, A, J, G) (KK (d + 2) 41 63 [.ref 11, .int x1, .int x2, .int x3] [] Q)) : KK (d + 2) 41 58 [.ref 11, .int x1, .int x2, .int x3] [] Q (.inl none) (F, A, J, G) := by
  refine KKv ?_
  refine Y_al0 i_41_58 ?_
  refine Y_il1 i_41_59 ?_
  exact Y_iv1 (L0 := [.ref 11, .int x1, .null]) i_41_60 ow_41 lm_3_155 ((k_11 hG).trans ow_42.symm) rfl mx_42 rfl rfl hd_41 h
theorem k_41_63 {d : Nat} {F A : Nat → Nat → Int32} {J : Nat → Nat → Int64} {G : pG} {Q : pR → pM → Prop} {SL p q : Nat} {x1 x2 x3 r : Int32} (hG : Geo G SL p q) (h : ((r = 0 → Q (.inl (some (.int 0))) (F, A, J, G)) ∧ (¬ r = 0 → (((F 8 1) < 600 → inB (F 8 1) 600 = true ∧ (X (d + 2) 41 12 [.ref 11, .int x1, .int (x2 + 1), .int x3] [] ((wF F 8 1 ((F 8 1) + 1)), (wF A 9 (F 8 1).toNatClampNeg x3), J, G) Q)) ∧ (¬ (F 8 1) < 600 → X (d + 2) 41 12 [.ref 11, .int x1, .int (x2 + 1), .int x3] [] (F, A, J, G) Q))))) : KK (d + 2) 41 63 [.ref 11, .int x1, .int x2, .int x3] [] Q (.inl (some (.int r))) (F, A, J, G) := by
  refine KKi ?_
  refine Y_zne i_41_63 (fun e1 => ?_) (fun e1 => ?_)
  · replace h := h.1 e1
    refine Y_iconst (v := 0) i_41_66 (by decide) ?_
    exact Y_bret i_41_67 rt_41 (by decide) h
  · replace h := h.2 e1
    refine Y_al0 i_41_68 ?_
    refine Y_gR i_41_69 ow_41 lf_3_15 (k_11 hG) (r_11_2 hG) ?_
    refine Y_gR i_41_72 ow_41 lf_3_123 (k_2 hG) (r_2_8 hG) ?_
    refine Y_il3 i_41_75 ?_
    refine Y_iv1 (L0 := [.ref 8, .int x3]) i_41_76 ow_41 lm_3_137 ((k_8 hG).trans ow_54.symm) rfl mx_54 rfl rfl hd_41 ?_
    refine Y_al0 i_54_0 ?_
    refine Y_gI (v := (F 8 1)) i_54_1 ow_54 lf_4_18 (by decide) (k_8 hG) rfl ?_
    refine Y_al0 i_54_4 ?_
    refine Y_gR i_54_5 ow_54 lf_4_9 (k_8 hG) (r_8_0 hG) ?_
    refine Y_alen (v := 600) i_54_8 (Or.inl (k_9 hG)) (l_9 hG) (by decide) ?_
    refine Y_cge i_54_9 (fun e2 => ?_) (fun e2 => ?_)
    · replace h := h.1 e2
      refine Y_al0 i_54_12 ?_
      refine Y_gR i_54_13 ow_54 lf_4_9 (k_8 hG) (r_8_0 hG) ?_
      refine Y_al0 i_54_16 ?_
      refine Y_gI (v := (F 8 1)) i_54_17 ow_54 lf_4_18 (by decide) (k_8 hG) rfl ?_
      refine Y_il1 i_54_20 ?_
      have o3 := h.1
      replace h := h.2
      refine Y_iast i_54_21 (k_9 hG) (l_9 hG) o3 rfl ?_
      refine Y_al0 i_54_22 ?_
      refine Y_dup i_54_23 rfl ?_
      refine Y_gI (v := (F 8 1)) i_54_24 ow_54 lf_4_18 (by decide) (k_8 hG) rfl ?_
      refine Y_iconst (v := 1) i_54_27 (by decide) ?_
      refine Y_iadd i_54_28 ?_
      refine Y_pI i_54_29 ow_54 lf_4_18 (k_8 hG) ?_
      refine Y_vret i_54_32 rt_54 (KKv ?_)
      refine Y_ii2 (v := 1) i_41_79 (by decide) rfl ?_
      refine Y_goto i_41_82 ?_
      exact h
    · replace h := h.2 e2
      refine Y_vret i_54_32 rt_54 (KKv ?_)
      refine Y_ii2 (v := 1) i_41_79 (by decide) rfl ?_
      refine Y_goto i_41_82 ?_
      exact h
/- 42 Reader.part(I)Z -/
theorem t_42_0 {d : Nat} {F A : Nat → Nat → Int32} {J : Nat → Nat → Int64} {G : pG} {Q : pR → pM → Prop} {SL p q : Nat} {x1 : Int32} (hG : Geo G SL p q) (h : (((F 11 4) = 3 → ((4 < ((F 11 6) - (F 11 5)) → Q (.inl (some (.int 0))) ((wF (wF F 11 8 2) 11 0 (F 11 5)), A, J, G)) ∧ (¬ 4 < ((F 11 6) - (F 11 5)) → (((F 8 1) < 600 → inB (F 8 1) 600 = true ∧ (X (d + 1) 49 0 [.ref 11] [] ((wF F 8 1 ((F 8 1) + 1)), (wF A 9 (F 8 1).toNatClampNeg (F 11 7)), J, G) (KK (d + 2) 42 45 [.ref 11, .int x1, .null] [] Q))) ∧ (¬ (F 8 1) < 600 → X (d + 1) 49 0 [.ref 11] [] (F, A, J, G) (KK (d + 2) 42 45 [.ref 11, .int x1, .null] [] Q)))))) ∧ (¬ (F 11 4) = 3 → (((F 11 4) = 2 → X (d + 1) 45 0 [.ref 11] [] (F, A, J, G) (KK (d + 2) 42 59 [.ref 11, .int x1, .null] [] Q)) ∧ (¬ (F 11 4) = 2 → (((F 11 4) = 4 → inB (F 11 5) 600 = true ∧ (((A 1 (F 11 5).toNatClampNeg) = 40 → X (d + 1) 49 0 [.ref 11] [] (F, A, J, G) (KK (d + 2) 42 106 [.ref 11, .int x1, .null] [] Q)) ∧ (¬ (A 1 (F 11 5).toNatClampNeg) = 40 → Q (.inl (some (.int 0))) ((wF (wF F 11 8 1) 11 0 (F 11 5)), A, J, G)))) ∧ (¬ (F 11 4) = 4 → Q (.inl (some (.int 0))) ((wF (wF F 11 8 1) 11 0 (F 11 5)), A, J, G)))))))) : X (d + 2) 42 0 [.ref 11, .int x1, .null] [] (F, A, J, G) Q := by
  refine Y_al0 i_42_0 ?_
  refine Y_gI (v := (F 11 4)) i_42_1 ow_42 lf_3_53 (by decide) (k_11 hG) rfl ?_
  refine Y_iconst (v := 3) i_42_4 (by decide) ?_
  refine Y_cne i_42_5 (fun e1 => ?_) (fun e1 => ?_)
  · replace h := h.1 e1
    refine Y_al0 i_42_8 ?_
    refine Y_gI (v := (F 11 6)) i_42_9 ow_42 lf_3_47 (by decide) (k_11 hG) rfl ?_
    refine Y_al0 i_42_12 ?_
    refine Y_gI (v := (F 11 5)) i_42_13 ow_42 lf_3_158 (by decide) (k_11 hG) rfl ?_
    refine Y_isub i_42_16 ?_
    refine Y_iconst (v := 4) i_42_17 (by decide) ?_
    refine Y_cle i_42_18 (fun e2 => ?_) (fun e2 => ?_)
    · replace h := h.1 e2
      refine Y_al0 i_42_21 ?_
      refine Y_iconst (v := 2) i_42_22 (by decide) ?_
      refine Y_iv1 (L0 := [.ref 11, .int 2]) i_42_23 ow_42 lm_3_90 ((k_11 hG).trans ow_48.symm) rfl mx_48 rfl rfl hd_42 ?_
      refine Y_al0 i_48_0 ?_
      refine Y_il1 i_48_1 ?_
      refine Y_pI i_48_2 ow_48 lf_3_41 (k_11 hG) ?_
      refine Y_al0 i_48_5 ?_
      refine Y_al0 i_48_6 ?_
      refine Y_gI (v := (F 11 5)) i_48_7 ow_48 lf_3_158 (by decide) (k_11 hG) (by simp [wF, wJ, va_up, cpR, bF, bA]) ?_
      refine Y_pI i_48_10 ow_48 lf_3_44 (k_11 hG) ?_
      refine Y_iconst (v := 0) i_48_13 (by decide) ?_
      refine Y_bret i_48_14 rt_48 (by decide) (KKi ?_)
      exact Y_bret i_42_26 rt_42 (by decide) h
    · replace h := h.2 e2
      refine Y_al0 i_42_27 ?_
      refine Y_gR i_42_28 ow_42 lf_3_15 (k_11 hG) (r_11_2 hG) ?_
      refine Y_gR i_42_31 ow_42 lf_3_123 (k_2 hG) (r_2_8 hG) ?_
      refine Y_al0 i_42_34 ?_
      refine Y_gI (v := (F 11 7)) i_42_35 ow_42 lf_3_161 (by decide) (k_11 hG) rfl ?_
      refine Y_iv1 (L0 := [.ref 8, .int (F 11 7)]) i_42_38 ow_42 lm_3_137 ((k_8 hG).trans ow_54.symm) rfl mx_54 rfl rfl hd_42 ?_
      refine Y_al0 i_54_0 ?_
      refine Y_gI (v := (F 8 1)) i_54_1 ow_54 lf_4_18 (by decide) (k_8 hG) rfl ?_
      refine Y_al0 i_54_4 ?_
      refine Y_gR i_54_5 ow_54 lf_4_9 (k_8 hG) (r_8_0 hG) ?_
      refine Y_alen (v := 600) i_54_8 (Or.inl (k_9 hG)) (l_9 hG) (by decide) ?_
      refine Y_cge i_54_9 (fun e3 => ?_) (fun e3 => ?_)
      · replace h := h.1 e3
        refine Y_al0 i_54_12 ?_
        refine Y_gR i_54_13 ow_54 lf_4_9 (k_8 hG) (r_8_0 hG) ?_
        refine Y_al0 i_54_16 ?_
        refine Y_gI (v := (F 8 1)) i_54_17 ow_54 lf_4_18 (by decide) (k_8 hG) rfl ?_
        refine Y_il1 i_54_20 ?_
        have o4 := h.1
        replace h := h.2
        refine Y_iast i_54_21 (k_9 hG) (l_9 hG) o4 rfl ?_
        refine Y_al0 i_54_22 ?_
        refine Y_dup i_54_23 rfl ?_
        refine Y_gI (v := (F 8 1)) i_54_24 ow_54 lf_4_18 (by decide) (k_8 hG) rfl ?_
        refine Y_iconst (v := 1) i_54_27 (by decide) ?_
        refine Y_iadd i_54_28 ?_
        refine Y_pI i_54_29 ow_54 lf_4_18 (k_8 hG) ?_
        refine Y_vret i_54_32 rt_54 (KKv ?_)
        refine Y_al0 i_42_41 ?_
        exact Y_iv0 (L0 := [.ref 11]) i_42_42 ow_42 lm_3_50 ((k_11 hG).trans ow_49.symm) rfl mx_49 rfl rfl hd_42 h
      · replace h := h.2 e3
        refine Y_vret i_54_32 rt_54 (KKv ?_)
        refine Y_al0 i_42_41 ?_
        exact Y_iv0 (L0 := [.ref 11]) i_42_42 ow_42 lm_3_50 ((k_11 hG).trans ow_49.symm) rfl mx_49 rfl rfl hd_42 h
  · replace h := h.2 e1
    refine Y_al0 i_42_47 ?_
    refine Y_gI (v := (F 11 4)) i_42_48 ow_42 lf_3_53 (by decide) (k_11 hG) rfl ?_
    refine Y_iconst (v := 2) i_42_51 (by decide) ?_
    refine Y_cne i_42_52 (fun e5 => ?_) (fun e5 => ?_)
    · replace h := h.1 e5
      refine Y_al0 i_42_55 ?_
      exact Y_iv0 (L0 := [.ref 11]) i_42_56 ow_42 lm_3_164 ((k_11 hG).trans ow_45.symm) rfl mx_45 rfl rfl hd_42 h
    · replace h := h.2 e5
      refine Y_al0 i_42_87 ?_
      refine Y_bipush (v := 40) i_42_88 (by decide) ?_
      refine Y_iv1 (L0 := [.ref 11, .int 40]) i_42_90 ow_42 lm_3_99 ((k_11 hG).trans ow_47.symm) rfl mx_47 rfl rfl hd_42 ?_
      refine Y_al0 i_47_0 ?_
      refine Y_gI (v := (F 11 4)) i_47_1 ow_47 lf_3_53 (by decide) (k_11 hG) rfl ?_
      refine Y_iconst (v := 4) i_47_4 (by decide) ?_
      refine Y_cne i_47_5 (fun e6 => ?_) (fun e6 => ?_)
      · replace h := h.1 e6
        refine Y_al0 i_47_8 ?_
        refine Y_gR i_47_9 ow_47 lf_3_9 (k_11 hG) (r_11_1 hG) ?_
        refine Y_al0 i_47_12 ?_
        refine Y_gI (v := (F 11 5)) i_47_13 ow_47 lf_3_158 (by decide) (k_11 hG) rfl ?_
        have o7 := h.1
        replace h := h.2
        refine Y_baload (k := (F 11 5).toNatClampNeg) (v := (A 1 (F 11 5).toNatClampNeg)) i_47_16 (k_1 hG) (l_1 hG) o7 rfl rfl ?_
        refine Y_il1 i_47_17 ?_
        refine Y_cne i_47_18 (fun e8 => ?_) (fun e8 => ?_)
        · replace h := h.1 e8
          refine Y_iconst (v := 1) i_47_21 (by decide) ?_
          refine Y_goto i_47_22 ?_
          refine Y_bret i_47_26 rt_47 (by decide) (KKi ?_)
          refine Y_zT i_42_93 (by decide) ?_
          refine Y_al0 i_42_102 ?_
          exact Y_iv0 (L0 := [.ref 11]) i_42_103 ow_42 lm_3_50 ((k_11 hG).trans ow_49.symm) rfl mx_49 rfl rfl hd_42 h
        · replace h := h.2 e8
          refine Y_iconst (v := 0) i_47_25 (by decide) ?_
          refine Y_bret i_47_26 rt_47 (by decide) (KKi ?_)
          refine Y_zF i_42_93 (by decide) ?_
          refine Y_al0 i_42_96 ?_
          refine Y_iconst (v := 1) i_42_97 (by decide) ?_
          refine Y_iv1 (L0 := [.ref 11, .int 1]) i_42_98 ow_42 lm_3_90 ((k_11 hG).trans ow_48.symm) rfl mx_48 rfl rfl hd_42 ?_
          refine Y_al0 i_48_0 ?_
          refine Y_il1 i_48_1 ?_
          refine Y_pI i_48_2 ow_48 lf_3_41 (k_11 hG) ?_
          refine Y_al0 i_48_5 ?_
          refine Y_al0 i_48_6 ?_
          refine Y_gI (v := (F 11 5)) i_48_7 ow_48 lf_3_158 (by decide) (k_11 hG) (by simp [wF, wJ, va_up, cpR, bF, bA]) ?_
          refine Y_pI i_48_10 ow_48 lf_3_44 (k_11 hG) ?_
          refine Y_iconst (v := 0) i_48_13 (by decide) ?_
          refine Y_bret i_48_14 rt_48 (by decide) (KKi ?_)
          exact Y_bret i_42_101 rt_42 (by decide) h
      · replace h := h.2 e6
        refine Y_iconst (v := 0) i_47_25 (by decide) ?_
        refine Y_bret i_47_26 rt_47 (by decide) (KKi ?_)
        refine Y_zF i_42_93 (by decide) ?_
        refine Y_al0 i_42_96 ?_
        refine Y_iconst (v := 1) i_42_97 (by decide) ?_
        refine Y_iv1 (L0 := [.ref 11, .int 1]) i_42_98 ow_42 lm_3_90 ((k_11 hG).trans ow_48.symm) rfl mx_48 rfl rfl hd_42 ?_
        refine Y_al0 i_48_0 ?_
        refine Y_il1 i_48_1 ?_
        refine Y_pI i_48_2 ow_48 lf_3_41 (k_11 hG) ?_
        refine Y_al0 i_48_5 ?_
        refine Y_al0 i_48_6 ?_
        refine Y_gI (v := (F 11 5)) i_48_7 ow_48 lf_3_158 (by decide) (k_11 hG) (by simp [wF, wJ, va_up, cpR, bF, bA]) ?_
        refine Y_pI i_48_10 ow_48 lf_3_44 (k_11 hG) ?_
        refine Y_iconst (v := 0) i_48_13 (by decide) ?_
        refine Y_bret i_48_14 rt_48 (by decide) (KKi ?_)
        exact Y_bret i_42_101 rt_42 (by decide) h
theorem k_42_45 {d : Nat} {F A : Nat → Nat → Int32} {J : Nat → Nat → Int64} {G : pG} {Q : pR → pM → Prop} {SL p q : Nat} {x1 : Int32} (hG : Geo G SL p q) (h : Q (.inl (some (.int 1))) (F, A, J, G)) : KK (d + 2) 42 45 [.ref 11, .int x1, .null] [] Q (.inl none) (F, A, J, G) := by
  refine KKv ?_
  refine Y_iconst (v := 1) i_42_45 (by decide) ?_
  exact Y_bret i_42_46 rt_42 (by decide) h
theorem k_42_59 {d : Nat} {F A : Nat → Nat → Int32} {J : Nat → Nat → Int64} {G : pG} {Q : pR → pM → Prop} {SL p q : Nat} {x1 r : Int32} (hG : Geo G SL p q) (h : ((r = 0 → Q (.inl (some (.int 0))) ((wF (wF F 11 8 3) 11 0 (F 11 5)), A, J, G)) ∧ (¬ r = 0 → (((F 8 1) < 600 → inB (F 8 1) 600 = true ∧ (X (d + 1) 49 0 [.ref 11] [] ((wF F 8 1 ((F 8 1) + 1)), (wF A 9 (F 8 1).toNatClampNeg r), J, G) (KK (d + 2) 42 85 [.ref 11, .int x1, .int r] [] Q))) ∧ (¬ (F 8 1) < 600 → X (d + 1) 49 0 [.ref 11] [] (F, A, J, G) (KK (d + 2) 42 85 [.ref 11, .int x1, .int r] [] Q)))))) : KK (d + 2) 42 59 [.ref 11, .int x1, .null] [] Q (.inl (some (.int r))) (F, A, J, G) := by
  refine KKi ?_
  refine Y_is2 i_42_59 rfl ?_
  refine Y_il2 i_42_60 ?_
  refine Y_zne i_42_61 (fun e1 => ?_) (fun e1 => ?_)
  · replace h := h.1 e1
    refine Y_al0 i_42_64 ?_
    refine Y_iconst (v := 3) i_42_65 (by decide) ?_
    refine Y_iv1 (L0 := [.ref 11, .int 3]) i_42_66 ow_42 lm_3_90 ((k_11 hG).trans ow_48.symm) rfl mx_48 rfl rfl hd_42 ?_
    refine Y_al0 i_48_0 ?_
    refine Y_il1 i_48_1 ?_
    refine Y_pI i_48_2 ow_48 lf_3_41 (k_11 hG) ?_
    refine Y_al0 i_48_5 ?_
    refine Y_al0 i_48_6 ?_
    refine Y_gI (v := (F 11 5)) i_48_7 ow_48 lf_3_158 (by decide) (k_11 hG) (by simp [wF, wJ, va_up, cpR, bF, bA]) ?_
    refine Y_pI i_48_10 ow_48 lf_3_44 (k_11 hG) ?_
    refine Y_iconst (v := 0) i_48_13 (by decide) ?_
    refine Y_bret i_48_14 rt_48 (by decide) (KKi ?_)
    exact Y_bret i_42_69 rt_42 (by decide) h
  · replace h := h.2 e1
    refine Y_al0 i_42_70 ?_
    refine Y_gR i_42_71 ow_42 lf_3_15 (k_11 hG) (r_11_2 hG) ?_
    refine Y_gR i_42_74 ow_42 lf_3_123 (k_2 hG) (r_2_8 hG) ?_
    refine Y_il2 i_42_77 ?_
    refine Y_iv1 (L0 := [.ref 8, .int r]) i_42_78 ow_42 lm_3_137 ((k_8 hG).trans ow_54.symm) rfl mx_54 rfl rfl hd_42 ?_
    refine Y_al0 i_54_0 ?_
    refine Y_gI (v := (F 8 1)) i_54_1 ow_54 lf_4_18 (by decide) (k_8 hG) rfl ?_
    refine Y_al0 i_54_4 ?_
    refine Y_gR i_54_5 ow_54 lf_4_9 (k_8 hG) (r_8_0 hG) ?_
    refine Y_alen (v := 600) i_54_8 (Or.inl (k_9 hG)) (l_9 hG) (by decide) ?_
    refine Y_cge i_54_9 (fun e2 => ?_) (fun e2 => ?_)
    · replace h := h.1 e2
      refine Y_al0 i_54_12 ?_
      refine Y_gR i_54_13 ow_54 lf_4_9 (k_8 hG) (r_8_0 hG) ?_
      refine Y_al0 i_54_16 ?_
      refine Y_gI (v := (F 8 1)) i_54_17 ow_54 lf_4_18 (by decide) (k_8 hG) rfl ?_
      refine Y_il1 i_54_20 ?_
      have o3 := h.1
      replace h := h.2
      refine Y_iast i_54_21 (k_9 hG) (l_9 hG) o3 rfl ?_
      refine Y_al0 i_54_22 ?_
      refine Y_dup i_54_23 rfl ?_
      refine Y_gI (v := (F 8 1)) i_54_24 ow_54 lf_4_18 (by decide) (k_8 hG) rfl ?_
      refine Y_iconst (v := 1) i_54_27 (by decide) ?_
      refine Y_iadd i_54_28 ?_
      refine Y_pI i_54_29 ow_54 lf_4_18 (k_8 hG) ?_
      refine Y_vret i_54_32 rt_54 (KKv ?_)
      refine Y_al0 i_42_81 ?_
      exact Y_iv0 (L0 := [.ref 11]) i_42_82 ow_42 lm_3_50 ((k_11 hG).trans ow_49.symm) rfl mx_49 rfl rfl hd_42 h
    · replace h := h.2 e2
      refine Y_vret i_54_32 rt_54 (KKv ?_)
      refine Y_al0 i_42_81 ?_
      exact Y_iv0 (L0 := [.ref 11]) i_42_82 ow_42 lm_3_50 ((k_11 hG).trans ow_49.symm) rfl mx_49 rfl rfl hd_42 h
theorem k_42_85 {d : Nat} {F A : Nat → Nat → Int32} {J : Nat → Nat → Int64} {G : pG} {Q : pR → pM → Prop} {SL p q : Nat} {x1 x2 : Int32} (hG : Geo G SL p q) (h : Q (.inl (some (.int 1))) (F, A, J, G)) : KK (d + 2) 42 85 [.ref 11, .int x1, .int x2] [] Q (.inl none) (F, A, J, G) := by
  refine KKv ?_
  refine Y_iconst (v := 1) i_42_85 (by decide) ?_
  exact Y_bret i_42_86 rt_42 (by decide) h
theorem k_42_106 {d : Nat} {F A : Nat → Nat → Int32} {J : Nat → Nat → Int64} {G : pG} {Q : pR → pM → Prop} {SL p q : Nat} {x1 : Int32} (hG : Geo G SL p q) (h : X (d + 1) 36 0 [.ref 11, .int (x1 + 1), .null] [] (F, A, J, G) (KK (d + 2) 42 113 [.ref 11, .int x1, .null] [] Q)) : KK (d + 2) 42 106 [.ref 11, .int x1, .null] [] Q (.inl none) (F, A, J, G) := by
  refine KKv ?_
  refine Y_al0 i_42_106 ?_
  refine Y_il1 i_42_107 ?_
  refine Y_iconst (v := 1) i_42_108 (by decide) ?_
  refine Y_iadd i_42_109 ?_
  exact Y_iv1 (L0 := [.ref 11, .int (x1 + 1), .null]) i_42_110 ow_42 lm_3_129 ((k_11 hG).trans ow_36.symm) rfl mx_36 rfl rfl hd_42 h
theorem k_42_113 {d : Nat} {F A : Nat → Nat → Int32} {J : Nat → Nat → Int64} {G : pG} {Q : pR → pM → Prop} {SL p q : Nat} {x1 r : Int32} (hG : Geo G SL p q) (h : ((r = 0 → Q (.inl (some (.int 0))) (F, A, J, G)) ∧ (¬ r = 0 → (((F 11 4) = 4 → inB (F 11 5) 600 = true ∧ (((A 1 (F 11 5).toNatClampNeg) = 41 → X (d + 1) 49 0 [.ref 11] [] (F, A, J, G) (KK (d + 2) 42 137 [.ref 11, .int x1, .null] [] Q)) ∧ (¬ (A 1 (F 11 5).toNatClampNeg) = 41 → Q (.inl (some (.int 0))) ((wF (wF F 11 8 1) 11 0 (F 11 5)), A, J, G)))) ∧ (¬ (F 11 4) = 4 → Q (.inl (some (.int 0))) ((wF (wF F 11 8 1) 11 0 (F 11 5)), A, J, G)))))) : KK (d + 2) 42 113 [.ref 11, .int x1, .null] [] Q (.inl (some (.int r))) (F, A, J, G) := by
  refine KKi ?_
  refine Y_zne i_42_113 (fun e1 => ?_) (fun e1 => ?_)
  · replace h := h.1 e1
    refine Y_iconst (v := 0) i_42_116 (by decide) ?_
    exact Y_bret i_42_117 rt_42 (by decide) h
  · replace h := h.2 e1
    refine Y_al0 i_42_118 ?_
    refine Y_bipush (v := 41) i_42_119 (by decide) ?_
    refine Y_iv1 (L0 := [.ref 11, .int 41]) i_42_121 ow_42 lm_3_99 ((k_11 hG).trans ow_47.symm) rfl mx_47 rfl rfl hd_42 ?_
    refine Y_al0 i_47_0 ?_
    refine Y_gI (v := (F 11 4)) i_47_1 ow_47 lf_3_53 (by decide) (k_11 hG) rfl ?_
    refine Y_iconst (v := 4) i_47_4 (by decide) ?_
    refine Y_cne i_47_5 (fun e2 => ?_) (fun e2 => ?_)
    · replace h := h.1 e2
      refine Y_al0 i_47_8 ?_
      refine Y_gR i_47_9 ow_47 lf_3_9 (k_11 hG) (r_11_1 hG) ?_
      refine Y_al0 i_47_12 ?_
      refine Y_gI (v := (F 11 5)) i_47_13 ow_47 lf_3_158 (by decide) (k_11 hG) rfl ?_
      have o3 := h.1
      replace h := h.2
      refine Y_baload (k := (F 11 5).toNatClampNeg) (v := (A 1 (F 11 5).toNatClampNeg)) i_47_16 (k_1 hG) (l_1 hG) o3 rfl rfl ?_
      refine Y_il1 i_47_17 ?_
      refine Y_cne i_47_18 (fun e4 => ?_) (fun e4 => ?_)
      · replace h := h.1 e4
        refine Y_iconst (v := 1) i_47_21 (by decide) ?_
        refine Y_goto i_47_22 ?_
        refine Y_bret i_47_26 rt_47 (by decide) (KKi ?_)
        refine Y_zT i_42_124 (by decide) ?_
        refine Y_al0 i_42_133 ?_
        exact Y_iv0 (L0 := [.ref 11]) i_42_134 ow_42 lm_3_50 ((k_11 hG).trans ow_49.symm) rfl mx_49 rfl rfl hd_42 h
      · replace h := h.2 e4
        refine Y_iconst (v := 0) i_47_25 (by decide) ?_
        refine Y_bret i_47_26 rt_47 (by decide) (KKi ?_)
        refine Y_zF i_42_124 (by decide) ?_
        refine Y_al0 i_42_127 ?_
        refine Y_iconst (v := 1) i_42_128 (by decide) ?_
        refine Y_iv1 (L0 := [.ref 11, .int 1]) i_42_129 ow_42 lm_3_90 ((k_11 hG).trans ow_48.symm) rfl mx_48 rfl rfl hd_42 ?_
        refine Y_al0 i_48_0 ?_
        refine Y_il1 i_48_1 ?_
        refine Y_pI i_48_2 ow_48 lf_3_41 (k_11 hG) ?_
        refine Y_al0 i_48_5 ?_
        refine Y_al0 i_48_6 ?_
        refine Y_gI (v := (F 11 5)) i_48_7 ow_48 lf_3_158 (by decide) (k_11 hG) (by simp [wF, wJ, va_up, cpR, bF, bA]) ?_
        refine Y_pI i_48_10 ow_48 lf_3_44 (k_11 hG) ?_
        refine Y_iconst (v := 0) i_48_13 (by decide) ?_
        refine Y_bret i_48_14 rt_48 (by decide) (KKi ?_)
        exact Y_bret i_42_132 rt_42 (by decide) h
    · replace h := h.2 e2
      refine Y_iconst (v := 0) i_47_25 (by decide) ?_
      refine Y_bret i_47_26 rt_47 (by decide) (KKi ?_)
      refine Y_zF i_42_124 (by decide) ?_
      refine Y_al0 i_42_127 ?_
      refine Y_iconst (v := 1) i_42_128 (by decide) ?_
      refine Y_iv1 (L0 := [.ref 11, .int 1]) i_42_129 ow_42 lm_3_90 ((k_11 hG).trans ow_48.symm) rfl mx_48 rfl rfl hd_42 ?_
      refine Y_al0 i_48_0 ?_
      refine Y_il1 i_48_1 ?_
      refine Y_pI i_48_2 ow_48 lf_3_41 (k_11 hG) ?_
      refine Y_al0 i_48_5 ?_
      refine Y_al0 i_48_6 ?_
      refine Y_gI (v := (F 11 5)) i_48_7 ow_48 lf_3_158 (by decide) (k_11 hG) (by simp [wF, wJ, va_up, cpR, bF, bA]) ?_
      refine Y_pI i_48_10 ow_48 lf_3_44 (k_11 hG) ?_
      refine Y_iconst (v := 0) i_48_13 (by decide) ?_
      refine Y_bret i_48_14 rt_48 (by decide) (KKi ?_)
      exact Y_bret i_42_132 rt_42 (by decide) h
theorem k_42_137 {d : Nat} {F A : Nat → Nat → Int32} {J : Nat → Nat → Int64} {G : pG} {Q : pR → pM → Prop} {SL p q : Nat} {x1 : Int32} (hG : Geo G SL p q) (h : Q (.inl (some (.int 1))) (F, A, J, G)) : KK (d + 2) 42 137 [.ref 11, .int x1, .null] [] Q (.inl none) (F, A, J, G) := by
  refine KKv ?_
  refine Y_iconst (v := 1) i_42_137 (by decide) ?_
  exact Y_bret i_42_138 rt_42 (by decide) h
/- 43 Reader.readNumber(II)I -/
theorem t_43_0 {d : Nat} {F A : Nat → Nat → Int32} {J : Nat → Nat → Int64} {G : pG} {Q : pR → pM → Prop} {SL p q : Nat} {x1 x2 : Int32} (hG : Geo G SL p q) (h : (((F 11 4) = 3 → ((4 < ((F 11 6) - (F 11 5)) → Q (.inl (some (.int (-1)))) ((wF (wF F 11 8 2) 11 0 (F 11 5)), A, J, G)) ∧ (¬ 4 < ((F 11 6) - (F 11 5)) → (((F 11 7) < x1 → Q (.inl (some (.int (-1)))) ((wF (wF F 11 8 2) 11 0 (F 11 5)), A, J, G)) ∧ (¬ (F 11 7) < x1 → ((x2 < (F 11 7) → Q (.inl (some (.int (-1)))) ((wF (wF F 11 8 2) 11 0 (F 11 5)), A, J, G)) ∧ (¬ x2 < (F 11 7) → X (d + 1) 49 0 [.ref 11] [] (F, A, J, G) (KK (d + 2) 43 56 [.ref 11, .int x1, .int x2, .int (F 11 7)] [] Q)))))))) ∧ (¬ (F 11 4) = 3 → Q (.inl (some (.int (-1)))) ((wF (wF F 11 8 1) 11 0 (F 11 5)), A, J, G)))) : X (d + 2) 43 0 [.ref 11, .int x1, .int x2, .null] [] (F, A, J, G) Q := by
  refine Y_al0 i_43_0 ?_
  refine Y_gI (v := (F 11 4)) i_43_1 ow_43 lf_3_53 (by decide) (k_11 hG) rfl ?_
  refine Y_iconst (v := 3) i_43_4 (by decide) ?_
  refine Y_ceq i_43_5 (fun e1 => ?_) (fun e1 => ?_)
  · replace h := h.1 e1
    refine Y_al0 i_43_16 ?_
    refine Y_gI (v := (F 11 7)) i_43_17 ow_43 lf_3_161 (by decide) (k_11 hG) rfl ?_
    refine Y_is3 i_43_20 rfl ?_
    refine Y_al0 i_43_21 ?_
    refine Y_gI (v := (F 11 6)) i_43_22 ow_43 lf_3_47 (by decide) (k_11 hG) rfl ?_
    refine Y_al0 i_43_25 ?_
    refine Y_gI (v := (F 11 5)) i_43_26 ow_43 lf_3_158 (by decide) (k_11 hG) rfl ?_
    refine Y_isub i_43_29 ?_
    refine Y_iconst (v := 4) i_43_30 (by decide) ?_
    refine Y_cgt i_43_31 (fun e2 => ?_) (fun e2 => ?_)
    · replace h := h.1 e2
      refine Y_al0 i_43_44 ?_
      refine Y_iconst (v := 2) i_43_45 (by decide) ?_
      refine Y_iv1 (L0 := [.ref 11, .int 2]) i_43_46 ow_43 lm_3_90 ((k_11 hG).trans ow_48.symm) rfl mx_48 rfl rfl hd_43 ?_
      refine Y_al0 i_48_0 ?_
      refine Y_il1 i_48_1 ?_
      refine Y_pI i_48_2 ow_48 lf_3_41 (k_11 hG) ?_
      refine Y_al0 i_48_5 ?_
      refine Y_al0 i_48_6 ?_
      refine Y_gI (v := (F 11 5)) i_48_7 ow_48 lf_3_158 (by decide) (k_11 hG) (by simp [wF, wJ, va_up, cpR, bF, bA]) ?_
      refine Y_pI i_48_10 ow_48 lf_3_44 (k_11 hG) ?_
      refine Y_iconst (v := 0) i_48_13 (by decide) ?_
      refine Y_bret i_48_14 rt_48 (by decide) (KKi ?_)
      refine Y_pop i_43_49 rfl ?_
      refine Y_iconst (v := (-1)) i_43_50 (by decide) ?_
      exact Y_iret i_43_51 rt_43 h
    · replace h := h.2 e2
      refine Y_il3 i_43_34 ?_
      refine Y_il1 i_43_35 ?_
      refine Y_clt i_43_36 (fun e3 => ?_) (fun e3 => ?_)
      · replace h := h.1 e3
        refine Y_al0 i_43_44 ?_
        refine Y_iconst (v := 2) i_43_45 (by decide) ?_
        refine Y_iv1 (L0 := [.ref 11, .int 2]) i_43_46 ow_43 lm_3_90 ((k_11 hG).trans ow_48.symm) rfl mx_48 rfl rfl hd_43 ?_
        refine Y_al0 i_48_0 ?_
        refine Y_il1 i_48_1 ?_
        refine Y_pI i_48_2 ow_48 lf_3_41 (k_11 hG) ?_
        refine Y_al0 i_48_5 ?_
        refine Y_al0 i_48_6 ?_
        refine Y_gI (v := (F 11 5)) i_48_7 ow_48 lf_3_158 (by decide) (k_11 hG) (by simp [wF, wJ, va_up, cpR, bF, bA]) ?_
        refine Y_pI i_48_10 ow_48 lf_3_44 (k_11 hG) ?_
        refine Y_iconst (v := 0) i_48_13 (by decide) ?_
        refine Y_bret i_48_14 rt_48 (by decide) (KKi ?_)
        refine Y_pop i_43_49 rfl ?_
        refine Y_iconst (v := (-1)) i_43_50 (by decide) ?_
        exact Y_iret i_43_51 rt_43 h
      · replace h := h.2 e3
        refine Y_il3 i_43_39 ?_
        refine Y_il2 i_43_40 ?_
        refine Y_cle i_43_41 (fun e4 => ?_) (fun e4 => ?_)
        · replace h := h.1 e4
          refine Y_al0 i_43_44 ?_
          refine Y_iconst (v := 2) i_43_45 (by decide) ?_
          refine Y_iv1 (L0 := [.ref 11, .int 2]) i_43_46 ow_43 lm_3_90 ((k_11 hG).trans ow_48.symm) rfl mx_48 rfl rfl hd_43 ?_
          refine Y_al0 i_48_0 ?_
          refine Y_il1 i_48_1 ?_
          refine Y_pI i_48_2 ow_48 lf_3_41 (k_11 hG) ?_
          refine Y_al0 i_48_5 ?_
          refine Y_al0 i_48_6 ?_
          refine Y_gI (v := (F 11 5)) i_48_7 ow_48 lf_3_158 (by decide) (k_11 hG) (by simp [wF, wJ, va_up, cpR, bF, bA]) ?_
          refine Y_pI i_48_10 ow_48 lf_3_44 (k_11 hG) ?_
          refine Y_iconst (v := 0) i_48_13 (by decide) ?_
          refine Y_bret i_48_14 rt_48 (by decide) (KKi ?_)
          refine Y_pop i_43_49 rfl ?_
          refine Y_iconst (v := (-1)) i_43_50 (by decide) ?_
          exact Y_iret i_43_51 rt_43 h
        · replace h := h.2 e4
          refine Y_al0 i_43_52 ?_
          exact Y_iv0 (L0 := [.ref 11]) i_43_53 ow_43 lm_3_50 ((k_11 hG).trans ow_49.symm) rfl mx_49 rfl rfl hd_43 h
  · replace h := h.2 e1
    refine Y_al0 i_43_8 ?_
    refine Y_iconst (v := 1) i_43_9 (by decide) ?_
    refine Y_iv1 (L0 := [.ref 11, .int 1]) i_43_10 ow_43 lm_3_90 ((k_11 hG).trans ow_48.symm) rfl mx_48 rfl rfl hd_43 ?_
    refine Y_al0 i_48_0 ?_
    refine Y_il1 i_48_1 ?_
    refine Y_pI i_48_2 ow_48 lf_3_41 (k_11 hG) ?_
    refine Y_al0 i_48_5 ?_
    refine Y_al0 i_48_6 ?_
    refine Y_gI (v := (F 11 5)) i_48_7 ow_48 lf_3_158 (by decide) (k_11 hG) (by simp [wF, wJ, va_up, cpR, bF, bA]) ?_
    refine Y_pI i_48_10 ow_48 lf_3_44 (k_11 hG) ?_
    refine Y_iconst (v := 0) i_48_13 (by decide) ?_
    refine Y_bret i_48_14 rt_48 (by decide) (KKi ?_)
    refine Y_pop i_43_13 rfl ?_
    refine Y_iconst (v := (-1)) i_43_14 (by decide) ?_
    exact Y_iret i_43_15 rt_43 h
theorem k_43_56 {d : Nat} {F A : Nat → Nat → Int32} {J : Nat → Nat → Int64} {G : pG} {Q : pR → pM → Prop} {SL p q : Nat} {x1 x2 x3 : Int32} (hG : Geo G SL p q) (h : Q (.inl (some (.int x3))) (F, A, J, G)) : KK (d + 2) 43 56 [.ref 11, .int x1, .int x2, .int x3] [] Q (.inl none) (F, A, J, G) := by
  refine KKv ?_
  refine Y_il3 i_43_56 ?_
  exact Y_iret i_43_57 rt_43 h
/- 44 Reader.kindTold()I -/
theorem t_44_0 {d : Nat} {F A : Nat → Nat → Int32} {J : Nat → Nat → Int64} {G : pG} {Q : pR → pM → Prop} {SL p q : Nat} (hG : Geo G SL p q) (h : X d 46 0 [.ref 11, .ref 1002, .null] [] (F, A, J, G) (KK (d + 1) 44 6 [.ref 11] [] Q)) : X (d + 1) 44 0 [.ref 11] [] (F, A, J, G) Q := by
  refine Y_al0 i_44_0 ?_
  refine Y_ldcS (r := 1002) i_44_1 ow_44 li_3_167 ls_3_167 rfl ?_
  exact Y_iv1 (L0 := [.ref 11, .ref 1002, .null]) i_44_3 ow_44 lm_3_73 ((k_11 hG).trans ow_46.symm) rfl mx_46 rfl rfl hd_44 h
theorem k_44_6 {d : Nat} {F A : Nat → Nat → Int32} {J : Nat → Nat → Int64} {G : pG} {Q : pR → pM → Prop} {SL p q : Nat} {r : Int32} (hG : Geo G SL p q) (h : ((r = 0 → X d 46 0 [.ref 11, .ref 1003, .null] [] (F, A, J, G) (KK (d + 1) 44 17 [.ref 11] [] Q)) ∧ (¬ r = 0 → Q (.inl (some (.int 0))) (F, A, J, G)))) : KK (d + 1) 44 6 [.ref 11] [] Q (.inl (some (.int r))) (F, A, J, G) := by
  refine KKi ?_
  refine Y_zeq i_44_6 (fun e1 => ?_) (fun e1 => ?_)
  · replace h := h.1 e1
    refine Y_al0 i_44_11 ?_
    refine Y_ldcS (r := 1003) i_44_12 ow_44 li_3_169 ls_3_169 rfl ?_
    exact Y_iv1 (L0 := [.ref 11, .ref 1003, .null]) i_44_14 ow_44 lm_3_73 ((k_11 hG).trans ow_46.symm) rfl mx_46 rfl rfl hd_44 h
  · replace h := h.2 e1
    refine Y_iconst (v := 0) i_44_9 (by decide) ?_
    exact Y_iret i_44_10 rt_44 h
theorem k_44_17 {d : Nat} {F A : Nat → Nat → Int32} {J : Nat → Nat → Int64} {G : pG} {Q : pR → pM → Prop} {SL p q : Nat} {r : Int32} (hG : Geo G SL p q) (h : ((r = 0 → X d 46 0 [.ref 11, .ref 1004, .null] [] (F, A, J, G) (KK (d + 1) 44 28 [.ref 11] [] Q)) ∧ (¬ r = 0 → Q (.inl (some (.int 1))) (F, A, J, G)))) : KK (d + 1) 44 17 [.ref 11] [] Q (.inl (some (.int r))) (F, A, J, G) := by
  refine KKi ?_
  refine Y_zeq i_44_17 (fun e1 => ?_) (fun e1 => ?_)
  · replace h := h.1 e1
    refine Y_al0 i_44_22 ?_
    refine Y_ldcS (r := 1004) i_44_23 ow_44 li_3_171 ls_3_171 rfl ?_
    exact Y_iv1 (L0 := [.ref 11, .ref 1004, .null]) i_44_25 ow_44 lm_3_73 ((k_11 hG).trans ow_46.symm) rfl mx_46 rfl rfl hd_44 h
  · replace h := h.2 e1
    refine Y_iconst (v := 1) i_44_20 (by decide) ?_
    exact Y_iret i_44_21 rt_44 h
theorem k_44_28 {d : Nat} {F A : Nat → Nat → Int32} {J : Nat → Nat → Int64} {G : pG} {Q : pR → pM → Prop} {SL p q : Nat} {r : Int32} (hG : Geo G SL p q) (h : ((r = 0 → X d 46 0 [.ref 11, .ref 1005, .null] [] (F, A, J, G) (KK (d + 1) 44 39 [.ref 11] [] Q)) ∧ (¬ r = 0 → Q (.inl (some (.int 2))) (F, A, J, G)))) : KK (d + 1) 44 28 [.ref 11] [] Q (.inl (some (.int r))) (F, A, J, G) := by
  refine KKi ?_
  refine Y_zeq i_44_28 (fun e1 => ?_) (fun e1 => ?_)
  · replace h := h.1 e1
    refine Y_al0 i_44_33 ?_
    refine Y_ldcS (r := 1005) i_44_34 ow_44 li_3_173 ls_3_173 rfl ?_
    exact Y_iv1 (L0 := [.ref 11, .ref 1005, .null]) i_44_36 ow_44 lm_3_73 ((k_11 hG).trans ow_46.symm) rfl mx_46 rfl rfl hd_44 h
  · replace h := h.2 e1
    refine Y_iconst (v := 2) i_44_31 (by decide) ?_
    exact Y_iret i_44_32 rt_44 h
theorem k_44_39 {d : Nat} {F A : Nat → Nat → Int32} {J : Nat → Nat → Int64} {G : pG} {Q : pR → pM → Prop} {SL p q : Nat} {r : Int32} (hG : Geo G SL p q) (h : ((r = 0 → Q (.inl (some (.int (-1)))) (F, A, J, G)) ∧ (¬ r = 0 → Q (.inl (some (.int 3))) (F, A, J, G)))) : KK (d + 1) 44 39 [.ref 11] [] Q (.inl (some (.int r))) (F, A, J, G) := by
  refine KKi ?_
  refine Y_zeq i_44_39 (fun e1 => ?_) (fun e1 => ?_)
  · replace h := h.1 e1
    refine Y_iconst (v := (-1)) i_44_46 (by decide) ?_
    exact Y_iret i_44_47 rt_44 h
  · replace h := h.2 e1
    refine Y_iconst (v := 3) i_44_42 (by decide) ?_
    refine Y_goto i_44_43 ?_
    exact Y_iret i_44_47 rt_44 h
/- 45 Reader.valueTold()I -/
theorem t_45_0 {d : Nat} {F A : Nat → Nat → Int32} {J : Nat → Nat → Int64} {G : pG} {Q : pR → pM → Prop} {SL p q : Nat} (hG : Geo G SL p q) (h : X d 46 0 [.ref 11, .ref 1010, .null] [] (F, A, J, G) (KK (d + 1) 45 6 [.ref 11] [] Q)) : X (d + 1) 45 0 [.ref 11] [] (F, A, J, G) Q := by
  refine Y_al0 i_45_0 ?_
  refine Y_ldcS (r := 1010) i_45_1 ow_45 li_3_175 ls_3_175 rfl ?_
  exact Y_iv1 (L0 := [.ref 11, .ref 1010, .null]) i_45_3 ow_45 lm_3_73 ((k_11 hG).trans ow_46.symm) rfl mx_46 rfl rfl hd_45 h
theorem k_45_6 {d : Nat} {F A : Nat → Nat → Int32} {J : Nat → Nat → Int64} {G : pG} {Q : pR → pM → Prop} {SL p q : Nat} {r : Int32} (hG : Geo G SL p q) (h : ((r = 0 → X d 46 0 [.ref 11, .ref 1011, .null] [] (F, A, J, G) (KK (d + 1) 45 17 [.ref 11] [] Q)) ∧ (¬ r = 0 → Q (.inl (some (.int (-1)))) (F, A, J, G)))) : KK (d + 1) 45 6 [.ref 11] [] Q (.inl (some (.int r))) (F, A, J, G) := by
  refine KKi ?_
  refine Y_zeq i_45_6 (fun e1 => ?_) (fun e1 => ?_)
  · replace h := h.1 e1
    refine Y_al0 i_45_11 ?_
    refine Y_ldcS (r := 1011) i_45_12 ow_45 li_3_177 ls_3_177 rfl ?_
    exact Y_iv1 (L0 := [.ref 11, .ref 1011, .null]) i_45_14 ow_45 lm_3_73 ((k_11 hG).trans ow_46.symm) rfl mx_46 rfl rfl hd_45 h
  · replace h := h.2 e1
    refine Y_iconst (v := (-1)) i_45_9 (by decide) ?_
    exact Y_iret i_45_10 rt_45 h
theorem k_45_17 {d : Nat} {F A : Nat → Nat → Int32} {J : Nat → Nat → Int64} {G : pG} {Q : pR → pM → Prop} {SL p q : Nat} {r : Int32} (hG : Geo G SL p q) (h : ((r = 0 → X d 46 0 [.ref 11, .ref 1012, .null] [] (F, A, J, G) (KK (d + 1) 45 29 [.ref 11] [] Q)) ∧ (¬ r = 0 → Q (.inl (some (.int (-2)))) (F, A, J, G)))) : KK (d + 1) 45 17 [.ref 11] [] Q (.inl (some (.int r))) (F, A, J, G) := by
  refine KKi ?_
  refine Y_zeq i_45_17 (fun e1 => ?_) (fun e1 => ?_)
  · replace h := h.1 e1
    refine Y_al0 i_45_23 ?_
    refine Y_ldcS (r := 1012) i_45_24 ow_45 li_3_178 ls_3_178 rfl ?_
    exact Y_iv1 (L0 := [.ref 11, .ref 1012, .null]) i_45_26 ow_45 lm_3_73 ((k_11 hG).trans ow_46.symm) rfl mx_46 rfl rfl hd_45 h
  · replace h := h.2 e1
    refine Y_bipush (v := (-2)) i_45_20 (by decide) ?_
    exact Y_iret i_45_22 rt_45 h
theorem k_45_29 {d : Nat} {F A : Nat → Nat → Int32} {J : Nat → Nat → Int64} {G : pG} {Q : pR → pM → Prop} {SL p q : Nat} {r : Int32} (hG : Geo G SL p q) (h : ((r = 0 → X d 46 0 [.ref 11, .ref 1013, .null] [] (F, A, J, G) (KK (d + 1) 45 41 [.ref 11] [] Q)) ∧ (¬ r = 0 → Q (.inl (some (.int (-3)))) (F, A, J, G)))) : KK (d + 1) 45 29 [.ref 11] [] Q (.inl (some (.int r))) (F, A, J, G) := by
  refine KKi ?_
  refine Y_zeq i_45_29 (fun e1 => ?_) (fun e1 => ?_)
  · replace h := h.1 e1
    refine Y_al0 i_45_35 ?_
    refine Y_ldcS (r := 1013) i_45_36 ow_45 li_3_180 ls_3_180 rfl ?_
    exact Y_iv1 (L0 := [.ref 11, .ref 1013, .null]) i_45_38 ow_45 lm_3_73 ((k_11 hG).trans ow_46.symm) rfl mx_46 rfl rfl hd_45 h
  · replace h := h.2 e1
    refine Y_bipush (v := (-3)) i_45_32 (by decide) ?_
    exact Y_iret i_45_34 rt_45 h
theorem k_45_41 {d : Nat} {F A : Nat → Nat → Int32} {J : Nat → Nat → Int64} {G : pG} {Q : pR → pM → Prop} {SL p q : Nat} {r : Int32} (hG : Geo G SL p q) (h : ((r = 0 → X d 46 0 [.ref 11, .ref 1014, .null] [] (F, A, J, G) (KK (d + 1) 45 53 [.ref 11] [] Q)) ∧ (¬ r = 0 → Q (.inl (some (.int (-4)))) (F, A, J, G)))) : KK (d + 1) 45 41 [.ref 11] [] Q (.inl (some (.int r))) (F, A, J, G) := by
  refine KKi ?_
  refine Y_zeq i_45_41 (fun e1 => ?_) (fun e1 => ?_)
  · replace h := h.1 e1
    refine Y_al0 i_45_47 ?_
    refine Y_ldcS (r := 1014) i_45_48 ow_45 li_3_181 ls_3_181 rfl ?_
    exact Y_iv1 (L0 := [.ref 11, .ref 1014, .null]) i_45_50 ow_45 lm_3_73 ((k_11 hG).trans ow_46.symm) rfl mx_46 rfl rfl hd_45 h
  · replace h := h.2 e1
    refine Y_bipush (v := (-4)) i_45_44 (by decide) ?_
    exact Y_iret i_45_46 rt_45 h
theorem k_45_53 {d : Nat} {F A : Nat → Nat → Int32} {J : Nat → Nat → Int64} {G : pG} {Q : pR → pM → Prop} {SL p q : Nat} {r : Int32} (hG : Geo G SL p q) (h : ((r = 0 → X d 46 0 [.ref 11, .ref 1015, .null] [] (F, A, J, G) (KK (d + 1) 45 65 [.ref 11] [] Q)) ∧ (¬ r = 0 → Q (.inl (some (.int (-5)))) (F, A, J, G)))) : KK (d + 1) 45 53 [.ref 11] [] Q (.inl (some (.int r))) (F, A, J, G) := by
  refine KKi ?_
  refine Y_zeq i_45_53 (fun e1 => ?_) (fun e1 => ?_)
  · replace h := h.1 e1
    refine Y_al0 i_45_59 ?_
    refine Y_ldcS (r := 1015) i_45_60 ow_45 li_3_183 ls_3_183 rfl ?_
    exact Y_iv1 (L0 := [.ref 11, .ref 1015, .null]) i_45_62 ow_45 lm_3_73 ((k_11 hG).trans ow_46.symm) rfl mx_46 rfl rfl hd_45 h
  · replace h := h.2 e1
    refine Y_bipush (v := (-5)) i_45_56 (by decide) ?_
    exact Y_iret i_45_58 rt_45 h
theorem k_45_65 {d : Nat} {F A : Nat → Nat → Int32} {J : Nat → Nat → Int64} {G : pG} {Q : pR → pM → Prop} {SL p q : Nat} {r : Int32} (hG : Geo G SL p q) (h : ((r = 0 → Q (.inl (some (.int 0))) (F, A, J, G)) ∧ (¬ r = 0 → Q (.inl (some (.int (-6)))) (F, A, J, G)))) : KK (d + 1) 45 65 [.ref 11] [] Q (.inl (some (.int r))) (F, A, J, G) := by
  refine KKi ?_
  refine Y_zeq i_45_65 (fun e1 => ?_) (fun e1 => ?_)
  · replace h := h.1 e1
    refine Y_iconst (v := 0) i_45_73 (by decide) ?_
    exact Y_iret i_45_74 rt_45 h
  · replace h := h.2 e1
    refine Y_bipush (v := (-6)) i_45_68 (by decide) ?_
    refine Y_goto i_45_70 ?_
    exact Y_iret i_45_74 rt_45 h
/- 46 Reader.isWord(Ljava/lang/String;)Z -/
theorem t_46_0 {d : Nat} {F A : Nat → Nat → Int32} {J : Nat → Nat → Int64} {G : pG} {Q : pR → pM → Prop} {SL p q : Nat} {s : Nat} (hG : Geo G SL p q) (hss : 1000 ≤ s ∧ s < 1000 + sBy.length) (h : (((F 11 4) = 2 → ((((F 11 6) - (F 11 5)) = (nI (sLen (s - 1000))) → X d 46 28 [.ref 11, .ref s, .int 0] [] (F, A, J, G) Q) ∧ (¬ ((F 11 6) - (F 11 5)) = (nI (sLen (s - 1000))) → Q (.inl (some (.int 0))) (F, A, J, G)))) ∧ (¬ (F 11 4) = 2 → Q (.inl (some (.int 0))) (F, A, J, G)))) : X d 46 0 [.ref 11, .ref s, .null] [] (F, A, J, G) Q := by
  refine Y_al0 i_46_0 ?_
  refine Y_gI (v := (F 11 4)) i_46_1 ow_46 lf_3_53 (by decide) (k_11 hG) rfl ?_
  refine Y_iconst (v := 2) i_46_4 (by decide) ?_
  refine Y_cne i_46_5 (fun e1 => ?_) (fun e1 => ?_)
  · replace h := h.1 e1
    refine Y_al0 i_46_8 ?_
    refine Y_gI (v := (F 11 6)) i_46_9 ow_46 lf_3_47 (by decide) (k_11 hG) rfl ?_
    refine Y_al0 i_46_12 ?_
    refine Y_gI (v := (F 11 5)) i_46_13 ow_46 lf_3_158 (by decide) (k_11 hG) rfl ?_
    refine Y_isub i_46_16 ?_
    refine Y_al1 i_46_17 ?_
    refine Y_slen (v := nI (sLen (s - 1000))) i_46_18 ow_46 lm_3_184 rfl hss rfl ?_
    refine Y_ceq i_46_21 (fun e2 => ?_) (fun e2 => ?_)
    · replace h := h.1 e2
      refine Y_iconst (v := 0) i_46_26 (by decide) ?_
      refine Y_is2 i_46_27 rfl ?_
      exact h
    · replace h := h.2 e2
      refine Y_iconst (v := 0) i_46_24 (by decide) ?_
      exact Y_bret i_46_25 rt_46 (by decide) h
  · replace h := h.2 e1
    refine Y_iconst (v := 0) i_46_24 (by decide) ?_
    exact Y_bret i_46_25 rt_46 (by decide) h
theorem t_46_28 {d : Nat} {F A : Nat → Nat → Int32} {J : Nat → Nat → Int64} {G : pG} {Q : pR → pM → Prop} {SL p q : Nat} {s : Nat} {x2 : Int32} (hG : Geo G SL p q) (hss : 1000 ≤ s ∧ s < 1000 + sBy.length) (h : ((x2 < (nI (sLen (s - 1000))) → inB ((F 11 5) + x2) 600 = true ∧ inB x2 (sLen (s - 1000)) = true ∧ (((A 1 ((F 11 5) + x2).toNatClampNeg) = (sCh (s - 1000) x2.toNatClampNeg) → X d 46 28 [.ref 11, .ref s, .int (x2 + 1)] [] (F, A, J, G) Q) ∧ (¬ (A 1 ((F 11 5) + x2).toNatClampNeg) = (sCh (s - 1000) x2.toNatClampNeg) → Q (.inl (some (.int 0))) (F, A, J, G)))) ∧ (¬ x2 < (nI (sLen (s - 1000))) → Q (.inl (some (.int 1))) (F, A, J, G)))) : X d 46 28 [.ref 11, .ref s, .int x2] [] (F, A, J, G) Q := by
  refine Y_il2 i_46_28 ?_
  refine Y_al1 i_46_29 ?_
  refine Y_slen (v := nI (sLen (s - 1000))) i_46_30 ow_46 lm_3_184 rfl hss rfl ?_
  refine Y_cge i_46_33 (fun e1 => ?_) (fun e1 => ?_)
  · replace h := h.1 e1
    refine Y_al0 i_46_36 ?_
    refine Y_gR i_46_37 ow_46 lf_3_9 (k_11 hG) (r_11_1 hG) ?_
    refine Y_al0 i_46_40 ?_
    refine Y_gI (v := (F 11 5)) i_46_41 ow_46 lf_3_158 (by decide) (k_11 hG) rfl ?_
    refine Y_il2 i_46_44 ?_
    refine Y_iadd i_46_45 ?_
    have o2 := h.1
    replace h := h.2
    refine Y_baload (k := ((F 11 5) + x2).toNatClampNeg) (v := (A 1 ((F 11 5) + x2).toNatClampNeg)) i_46_46 (k_1 hG) (l_1 hG) o2 rfl rfl ?_
    refine Y_al1 i_46_47 ?_
    refine Y_il2 i_46_48 ?_
    have o3 := h.1
    replace h := h.2
    refine Y_sch i_46_49 ow_46 lm_3_188 rfl hss o3 ?_
    refine Y_ceq i_46_52 (fun e4 => ?_) (fun e4 => ?_)
    · replace h := h.1 e4
      refine Y_ii2 (v := 1) i_46_57 (by decide) rfl ?_
      refine Y_goto i_46_60 ?_
      exact h
    · replace h := h.2 e4
      refine Y_iconst (v := 0) i_46_55 (by decide) ?_
      exact Y_bret i_46_56 rt_46 (by decide) h
  · replace h := h.2 e1
    refine Y_iconst (v := 1) i_46_63 (by decide) ?_
    exact Y_bret i_46_64 rt_46 (by decide) h
/- 47 Reader.isSign(C)Z -/
theorem t_47_0 {d : Nat} {F A : Nat → Nat → Int32} {J : Nat → Nat → Int64} {G : pG} {Q : pR → pM → Prop} {SL p q : Nat} {x1 : Int32} (hG : Geo G SL p q) (h : (((F 11 4) = 4 → inB (F 11 5) 600 = true ∧ (((A 1 (F 11 5).toNatClampNeg) = x1 → Q (.inl (some (.int 1))) (F, A, J, G)) ∧ (¬ (A 1 (F 11 5).toNatClampNeg) = x1 → Q (.inl (some (.int 0))) (F, A, J, G)))) ∧ (¬ (F 11 4) = 4 → Q (.inl (some (.int 0))) (F, A, J, G)))) : X d 47 0 [.ref 11, .int x1] [] (F, A, J, G) Q := by
  refine Y_al0 i_47_0 ?_
  refine Y_gI (v := (F 11 4)) i_47_1 ow_47 lf_3_53 (by decide) (k_11 hG) rfl ?_
  refine Y_iconst (v := 4) i_47_4 (by decide) ?_
  refine Y_cne i_47_5 (fun e1 => ?_) (fun e1 => ?_)
  · replace h := h.1 e1
    refine Y_al0 i_47_8 ?_
    refine Y_gR i_47_9 ow_47 lf_3_9 (k_11 hG) (r_11_1 hG) ?_
    refine Y_al0 i_47_12 ?_
    refine Y_gI (v := (F 11 5)) i_47_13 ow_47 lf_3_158 (by decide) (k_11 hG) rfl ?_
    have o2 := h.1
    replace h := h.2
    refine Y_baload (k := (F 11 5).toNatClampNeg) (v := (A 1 (F 11 5).toNatClampNeg)) i_47_16 (k_1 hG) (l_1 hG) o2 rfl rfl ?_
    refine Y_il1 i_47_17 ?_
    refine Y_cne i_47_18 (fun e3 => ?_) (fun e3 => ?_)
    · replace h := h.1 e3
      refine Y_iconst (v := 1) i_47_21 (by decide) ?_
      refine Y_goto i_47_22 ?_
      exact Y_bret i_47_26 rt_47 (by decide) h
    · replace h := h.2 e3
      refine Y_iconst (v := 0) i_47_25 (by decide) ?_
      exact Y_bret i_47_26 rt_47 (by decide) h
  · replace h := h.2 e1
    refine Y_iconst (v := 0) i_47_25 (by decide) ?_
    exact Y_bret i_47_26 rt_47 (by decide) h
/- 48 Reader.fail(I)Z -/
theorem t_48_0 {d : Nat} {F A : Nat → Nat → Int32} {J : Nat → Nat → Int64} {G : pG} {Q : pR → pM → Prop} {SL p q : Nat} {x1 : Int32} (hG : Geo G SL p q) (h : Q (.inl (some (.int 0))) ((wF (wF F 11 8 x1) 11 0 (F 11 5)), A, J, G)) : X d 48 0 [.ref 11, .int x1] [] (F, A, J, G) Q := by
  refine Y_al0 i_48_0 ?_
  refine Y_il1 i_48_1 ?_
  refine Y_pI i_48_2 ow_48 lf_3_41 (k_11 hG) ?_
  refine Y_al0 i_48_5 ?_
  refine Y_al0 i_48_6 ?_
  refine Y_gI (v := (F 11 5)) i_48_7 ow_48 lf_3_158 (by decide) (k_11 hG) (by simp [wF, wJ, va_up, cpR, bF, bA]) ?_
  refine Y_pI i_48_10 ow_48 lf_3_44 (k_11 hG) ?_
  refine Y_iconst (v := 0) i_48_13 (by decide) ?_
  exact Y_bret i_48_14 rt_48 (by decide) h
/- 49 Reader.next()V -/
theorem t_49_0 {d : Nat} {F A : Nat → Nat → Int32} {J : Nat → Nat → Int64} {G : pG} {Q : pR → pM → Prop} {SL p q : Nat} (hG : Geo G SL p q) (h : X (d + 1) 49 8 [.ref 11] [] ((wF F 11 5 (F 11 6)), A, J, G) Q) : X (d + 1) 49 0 [.ref 11] [] (F, A, J, G) Q := by
  refine Y_al0 i_49_0 ?_
  refine Y_al0 i_49_1 ?_
  refine Y_gI (v := (F 11 6)) i_49_2 ow_49 lf_3_47 (by decide) (k_11 hG) rfl ?_
  refine Y_pI i_49_5 ow_49 lf_3_158 (k_11 hG) ?_
  exact h
theorem t_49_8 {d : Nat} {F A : Nat → Nat → Int32} {J : Nat → Nat → Int64} {G : pG} {Q : pR → pM → Prop} {SL p q : Nat} (hG : Geo G SL p q) (h : (((F 11 5) < (F 11 3) → inB (F 11 5) 600 = true ∧ (((A 1 (F 11 5).toNatClampNeg) = 32 → X (d + 1) 49 8 [.ref 11] [] ((wF F 11 5 ((F 11 5) + 1)), A, J, G) Q) ∧ (¬ (A 1 (F 11 5).toNatClampNeg) = 32 → (((A 1 (F 11 5).toNatClampNeg) = 10 → X (d + 1) 49 8 [.ref 11] [] ((wF F 11 5 ((F 11 5) + 1)), A, J, G) Q) ∧ (¬ (A 1 (F 11 5).toNatClampNeg) = 10 → (((F 11 5) < (F 11 3) → (((letB (A 1 (F 11 5).toNatClampNeg)) = true → X (d + 1) 49 107 [.ref 11] [] ((wF (wF F 11 6 (F 11 5)) 11 4 2), A, J, G) Q) ∧ ((letB (A 1 (F 11 5).toNatClampNeg)) = false → (((digB (A 1 (F 11 5).toNatClampNeg)) = true → X (d + 1) 49 171 [.ref 11] [] ((wF (wF (wF F 11 6 (F 11 5)) 11 4 3) 11 7 0), A, J, G) Q) ∧ ((digB (A 1 (F 11 5).toNatClampNeg)) = false → (((sIx (1001 - 1000) (jchar ((A 1 (F 11 5).toNatClampNeg) &&& 255))) < 0 → Q (.inl none) ((wF (wF (wF F 11 6 (F 11 5)) 11 4 1) 11 6 ((F 11 5) + 1)), A, J, G)) ∧ (¬ (sIx (1001 - 1000) (jchar ((A 1 (F 11 5).toNatClampNeg) &&& 255))) < 0 → Q (.inl none) ((wF (wF (wF F 11 6 (F 11 5)) 11 4 4) 11 6 ((F 11 5) + 1)), A, J, G)))))))) ∧ (¬ (F 11 5) < (F 11 3) → Q (.inl none) ((wF (wF F 11 6 (F 11 5)) 11 4 0), A, J, G)))))))) ∧ (¬ (F 11 5) < (F 11 3) → (((F 11 5) < (F 11 3) → inB (F 11 5) 600 = true ∧ (((letB (A 1 (F 11 5).toNatClampNeg)) = true → X (d + 1) 49 107 [.ref 11] [] ((wF (wF F 11 6 (F 11 5)) 11 4 2), A, J, G) Q) ∧ ((letB (A 1 (F 11 5).toNatClampNeg)) = false → (((digB (A 1 (F 11 5).toNatClampNeg)) = true → X (d + 1) 49 171 [.ref 11] [] ((wF (wF (wF F 11 6 (F 11 5)) 11 4 3) 11 7 0), A, J, G) Q) ∧ ((digB (A 1 (F 11 5).toNatClampNeg)) = false → (((sIx (1001 - 1000) (jchar ((A 1 (F 11 5).toNatClampNeg) &&& 255))) < 0 → Q (.inl none) ((wF (wF (wF F 11 6 (F 11 5)) 11 4 1) 11 6 ((F 11 5) + 1)), A, J, G)) ∧ (¬ (sIx (1001 - 1000) (jchar ((A 1 (F 11 5).toNatClampNeg) &&& 255))) < 0 → Q (.inl none) ((wF (wF (wF F 11 6 (F 11 5)) 11 4 4) 11 6 ((F 11 5) + 1)), A, J, G)))))))) ∧ (¬ (F 11 5) < (F 11 3) → Q (.inl none) ((wF (wF F 11 6 (F 11 5)) 11 4 0), A, J, G)))))) : X (d + 1) 49 8 [.ref 11] [] (F, A, J, G) Q := by
  refine Y_al0 i_49_8 ?_
  refine Y_gI (v := (F 11 5)) i_49_9 ow_49 lf_3_158 (by decide) (k_11 hG) rfl ?_
  refine Y_al0 i_49_12 ?_
  refine Y_gI (v := (F 11 3)) i_49_13 ow_49 lf_3_25 (by decide) (k_11 hG) rfl ?_
  refine Y_cge i_49_16 (fun e1 => ?_) (fun e1 => ?_)
  · replace h := h.1 e1
    refine Y_al0 i_49_19 ?_
    refine Y_gR i_49_20 ow_49 lf_3_9 (k_11 hG) (r_11_1 hG) ?_
    refine Y_al0 i_49_23 ?_
    refine Y_gI (v := (F 11 5)) i_49_24 ow_49 lf_3_158 (by decide) (k_11 hG) rfl ?_
    have o2 := h.1
    replace h := h.2
    refine Y_baload (k := (F 11 5).toNatClampNeg) (v := (A 1 (F 11 5).toNatClampNeg)) i_49_27 (k_1 hG) (l_1 hG) o2 rfl rfl ?_
    refine Y_bipush (v := 32) i_49_28 (by decide) ?_
    refine Y_ceq i_49_30 (fun e3 => ?_) (fun e3 => ?_)
    · replace h := h.1 e3
      refine Y_al0 i_49_47 ?_
      refine Y_dup i_49_48 rfl ?_
      refine Y_gI (v := (F 11 5)) i_49_49 ow_49 lf_3_158 (by decide) (k_11 hG) rfl ?_
      refine Y_iconst (v := 1) i_49_52 (by decide) ?_
      refine Y_iadd i_49_53 ?_
      refine Y_pI i_49_54 ow_49 lf_3_158 (k_11 hG) ?_
      refine Y_goto i_49_57 ?_
      exact h
    · replace h := h.2 e3
      refine Y_al0 i_49_33 ?_
      refine Y_gR i_49_34 ow_49 lf_3_9 (k_11 hG) (r_11_1 hG) ?_
      refine Y_al0 i_49_37 ?_
      refine Y_gI (v := (F 11 5)) i_49_38 ow_49 lf_3_158 (by decide) (k_11 hG) rfl ?_
      refine Y_baload (k := (F 11 5).toNatClampNeg) (v := (A 1 (F 11 5).toNatClampNeg)) i_49_41 (k_1 hG) (l_1 hG) o2 rfl rfl ?_
      refine Y_bipush (v := 10) i_49_42 (by decide) ?_
      refine Y_cne i_49_44 (fun e4 => ?_) (fun e4 => ?_)
      · replace h := h.1 e4
        refine Y_al0 i_49_47 ?_
        refine Y_dup i_49_48 rfl ?_
        refine Y_gI (v := (F 11 5)) i_49_49 ow_49 lf_3_158 (by decide) (k_11 hG) rfl ?_
        refine Y_iconst (v := 1) i_49_52 (by decide) ?_
        refine Y_iadd i_49_53 ?_
        refine Y_pI i_49_54 ow_49 lf_3_158 (k_11 hG) ?_
        refine Y_goto i_49_57 ?_
        exact h
      · replace h := h.2 e4
        refine Y_al0 i_49_60 ?_
        refine Y_al0 i_49_61 ?_
        refine Y_gI (v := (F 11 5)) i_49_62 ow_49 lf_3_158 (by decide) (k_11 hG) rfl ?_
        refine Y_pI i_49_65 ow_49 lf_3_47 (k_11 hG) ?_
        refine Y_al0 i_49_68 ?_
        refine Y_gI (v := (F 11 5)) i_49_69 ow_49 lf_3_158 (by decide) (k_11 hG) (by simp [wF, wJ, va_up, cpR, bF, bA]) ?_
        refine Y_al0 i_49_72 ?_
        refine Y_gI (v := (F 11 3)) i_49_73 ow_49 lf_3_25 (by decide) (k_11 hG) (by simp [wF, wJ, va_up, cpR, bF, bA]) ?_
        refine Y_clt i_49_76 (fun e5 => ?_) (fun e5 => ?_)
        · replace h := h.1 e5
          refine Y_al0 i_49_87 ?_
          refine Y_gR i_49_88 ow_49 lf_3_9 (k_11 hG) (r_11_1 hG) ?_
          refine Y_al0 i_49_91 ?_
          refine Y_gI (v := (F 11 5)) i_49_92 ow_49 lf_3_158 (by decide) (k_11 hG) (by simp [wF, wJ, va_up, cpR, bF, bA]) ?_
          refine Y_baload (k := (F 11 5).toNatClampNeg) (v := (A 1 (F 11 5).toNatClampNeg)) i_49_95 (k_1 hG) (l_1 hG) o2 rfl rfl ?_
          refine Y_is_1 (L0 := [.int (A 1 (F 11 5).toNatClampNeg)]) i_49_96 ow_49 lm_3_192 rfl mx_50 rfl rfl hd_49 ?_
          refine c_50 hG (KKi ?_)
          refine Y_beq i_49_99 (fun e6 => ?_) (fun e6 => ?_)
          · replace h := h.1 e6
            refine Y_al0 i_49_102 ?_
            refine Y_iconst (v := 2) i_49_103 (by decide) ?_
            refine Y_pI i_49_104 ow_49 lf_3_53 (k_11 hG) ?_
            exact h
          · replace h := h.2 e6
            refine Y_al0 i_49_146 ?_
            refine Y_gR i_49_147 ow_49 lf_3_9 (k_11 hG) (r_11_1 hG) ?_
            refine Y_al0 i_49_150 ?_
            refine Y_gI (v := (F 11 5)) i_49_151 ow_49 lf_3_158 (by decide) (k_11 hG) (by simp [wF, wJ, va_up, cpR, bF, bA]) ?_
            refine Y_baload (k := (F 11 5).toNatClampNeg) (v := (A 1 (F 11 5).toNatClampNeg)) i_49_154 (k_1 hG) (l_1 hG) o2 rfl rfl ?_
            refine Y_is_1 (L0 := [.int (A 1 (F 11 5).toNatClampNeg)]) i_49_155 ow_49 lm_3_196 rfl mx_51 rfl rfl hd_49 ?_
            refine c_51 hG (KKi ?_)
            refine Y_beq i_49_158 (fun e7 => ?_) (fun e7 => ?_)
            · replace h := h.1 e7
              refine Y_al0 i_49_161 ?_
              refine Y_iconst (v := 3) i_49_162 (by decide) ?_
              refine Y_pI i_49_163 ow_49 lf_3_53 (k_11 hG) ?_
              refine Y_al0 i_49_166 ?_
              refine Y_iconst (v := 0) i_49_167 (by decide) ?_
              refine Y_pI i_49_168 ow_49 lf_3_161 (k_11 hG) ?_
              exact h
            · replace h := h.2 e7
              refine Y_al0 i_49_234 ?_
              refine Y_ldcS (r := 1001) i_49_235 ow_49 li_3_199 ls_3_199 rfl ?_
              refine Y_al0 i_49_237 ?_
              refine Y_gR i_49_238 ow_49 lf_3_9 (k_11 hG) (r_11_1 hG) ?_
              refine Y_al0 i_49_241 ?_
              refine Y_gI (v := (F 11 5)) i_49_242 ow_49 lf_3_158 (by decide) (k_11 hG) (by simp [wF, wJ, va_up, cpR, bF, bA]) ?_
              refine Y_baload (k := (F 11 5).toNatClampNeg) (v := (A 1 (F 11 5).toNatClampNeg)) i_49_245 (k_1 hG) (l_1 hG) o2 rfl rfl ?_
              refine Y_sipush (v := 255) i_49_246 (by decide) ?_
              refine Y_iand i_49_249 ?_
              refine Y_i2c i_49_250 ?_
              refine Y_six i_49_251 ow_49 lm_3_201 rfl (by decide) ?_
              refine Y_zlt i_49_254 (fun e8 => ?_) (fun e8 => ?_)
              · replace h := h.1 e8
                refine Y_iconst (v := 1) i_49_261 (by decide) ?_
                refine Y_pI i_49_262 ow_49 lf_3_53 (k_11 hG) ?_
                refine Y_al0 i_49_265 ?_
                refine Y_dup i_49_266 rfl ?_
                refine Y_gI (v := (F 11 5)) i_49_267 ow_49 lf_3_47 (by decide) (k_11 hG) (by simp [wF, wJ, va_up, cpR, bF, bA]) ?_
                refine Y_iconst (v := 1) i_49_270 (by decide) ?_
                refine Y_iadd i_49_271 ?_
                refine Y_pI i_49_272 ow_49 lf_3_47 (k_11 hG) ?_
                exact Y_vret i_49_275 rt_49 h
              · replace h := h.2 e8
                refine Y_iconst (v := 4) i_49_257 (by decide) ?_
                refine Y_goto i_49_258 ?_
                refine Y_pI i_49_262 ow_49 lf_3_53 (k_11 hG) ?_
                refine Y_al0 i_49_265 ?_
                refine Y_dup i_49_266 rfl ?_
                refine Y_gI (v := (F 11 5)) i_49_267 ow_49 lf_3_47 (by decide) (k_11 hG) (by simp [wF, wJ, va_up, cpR, bF, bA]) ?_
                refine Y_iconst (v := 1) i_49_270 (by decide) ?_
                refine Y_iadd i_49_271 ?_
                refine Y_pI i_49_272 ow_49 lf_3_47 (k_11 hG) ?_
                exact Y_vret i_49_275 rt_49 h
        · replace h := h.2 e5
          refine Y_al0 i_49_79 ?_
          refine Y_iconst (v := 0) i_49_80 (by decide) ?_
          refine Y_pI i_49_81 ow_49 lf_3_53 (k_11 hG) ?_
          refine Y_goto i_49_84 ?_
          exact Y_vret i_49_275 rt_49 h
  · replace h := h.2 e1
    refine Y_al0 i_49_60 ?_
    refine Y_al0 i_49_61 ?_
    refine Y_gI (v := (F 11 5)) i_49_62 ow_49 lf_3_158 (by decide) (k_11 hG) rfl ?_
    refine Y_pI i_49_65 ow_49 lf_3_47 (k_11 hG) ?_
    refine Y_al0 i_49_68 ?_
    refine Y_gI (v := (F 11 5)) i_49_69 ow_49 lf_3_158 (by decide) (k_11 hG) (by simp [wF, wJ, va_up, cpR, bF, bA]) ?_
    refine Y_al0 i_49_72 ?_
    refine Y_gI (v := (F 11 3)) i_49_73 ow_49 lf_3_25 (by decide) (k_11 hG) (by simp [wF, wJ, va_up, cpR, bF, bA]) ?_
    refine Y_clt i_49_76 (fun e9 => ?_) (fun e9 => ?_)
    · replace h := h.1 e9
      refine Y_al0 i_49_87 ?_
      refine Y_gR i_49_88 ow_49 lf_3_9 (k_11 hG) (r_11_1 hG) ?_
      refine Y_al0 i_49_91 ?_
      refine Y_gI (v := (F 11 5)) i_49_92 ow_49 lf_3_158 (by decide) (k_11 hG) (by simp [wF, wJ, va_up, cpR, bF, bA]) ?_
      have o10 := h.1
      replace h := h.2
      refine Y_baload (k := (F 11 5).toNatClampNeg) (v := (A 1 (F 11 5).toNatClampNeg)) i_49_95 (k_1 hG) (l_1 hG) o10 rfl rfl ?_
      refine Y_is_1 (L0 := [.int (A 1 (F 11 5).toNatClampNeg)]) i_49_96 ow_49 lm_3_192 rfl mx_50 rfl rfl hd_49 ?_
      refine c_50 hG (KKi ?_)
      refine Y_beq i_49_99 (fun e11 => ?_) (fun e11 => ?_)
      · replace h := h.1 e11
        refine Y_al0 i_49_102 ?_
        refine Y_iconst (v := 2) i_49_103 (by decide) ?_
        refine Y_pI i_49_104 ow_49 lf_3_53 (k_11 hG) ?_
        exact h
      · replace h := h.2 e11
        refine Y_al0 i_49_146 ?_
        refine Y_gR i_49_147 ow_49 lf_3_9 (k_11 hG) (r_11_1 hG) ?_
        refine Y_al0 i_49_150 ?_
        refine Y_gI (v := (F 11 5)) i_49_151 ow_49 lf_3_158 (by decide) (k_11 hG) (by simp [wF, wJ, va_up, cpR, bF, bA]) ?_
        refine Y_baload (k := (F 11 5).toNatClampNeg) (v := (A 1 (F 11 5).toNatClampNeg)) i_49_154 (k_1 hG) (l_1 hG) o10 rfl rfl ?_
        refine Y_is_1 (L0 := [.int (A 1 (F 11 5).toNatClampNeg)]) i_49_155 ow_49 lm_3_196 rfl mx_51 rfl rfl hd_49 ?_
        refine c_51 hG (KKi ?_)
        refine Y_beq i_49_158 (fun e12 => ?_) (fun e12 => ?_)
        · replace h := h.1 e12
          refine Y_al0 i_49_161 ?_
          refine Y_iconst (v := 3) i_49_162 (by decide) ?_
          refine Y_pI i_49_163 ow_49 lf_3_53 (k_11 hG) ?_
          refine Y_al0 i_49_166 ?_
          refine Y_iconst (v := 0) i_49_167 (by decide) ?_
          refine Y_pI i_49_168 ow_49 lf_3_161 (k_11 hG) ?_
          exact h
        · replace h := h.2 e12
          refine Y_al0 i_49_234 ?_
          refine Y_ldcS (r := 1001) i_49_235 ow_49 li_3_199 ls_3_199 rfl ?_
          refine Y_al0 i_49_237 ?_
          refine Y_gR i_49_238 ow_49 lf_3_9 (k_11 hG) (r_11_1 hG) ?_
          refine Y_al0 i_49_241 ?_
          refine Y_gI (v := (F 11 5)) i_49_242 ow_49 lf_3_158 (by decide) (k_11 hG) (by simp [wF, wJ, va_up, cpR, bF, bA]) ?_
          refine Y_baload (k := (F 11 5).toNatClampNeg) (v := (A 1 (F 11 5).toNatClampNeg)) i_49_245 (k_1 hG) (l_1 hG) o10 rfl rfl ?_
          refine Y_sipush (v := 255) i_49_246 (by decide) ?_
          refine Y_iand i_49_249 ?_
          refine Y_i2c i_49_250 ?_
          refine Y_six i_49_251 ow_49 lm_3_201 rfl (by decide) ?_
          refine Y_zlt i_49_254 (fun e13 => ?_) (fun e13 => ?_)
          · replace h := h.1 e13
            refine Y_iconst (v := 1) i_49_261 (by decide) ?_
            refine Y_pI i_49_262 ow_49 lf_3_53 (k_11 hG) ?_
            refine Y_al0 i_49_265 ?_
            refine Y_dup i_49_266 rfl ?_
            refine Y_gI (v := (F 11 5)) i_49_267 ow_49 lf_3_47 (by decide) (k_11 hG) (by simp [wF, wJ, va_up, cpR, bF, bA]) ?_
            refine Y_iconst (v := 1) i_49_270 (by decide) ?_
            refine Y_iadd i_49_271 ?_
            refine Y_pI i_49_272 ow_49 lf_3_47 (k_11 hG) ?_
            exact Y_vret i_49_275 rt_49 h
          · replace h := h.2 e13
            refine Y_iconst (v := 4) i_49_257 (by decide) ?_
            refine Y_goto i_49_258 ?_
            refine Y_pI i_49_262 ow_49 lf_3_53 (k_11 hG) ?_
            refine Y_al0 i_49_265 ?_
            refine Y_dup i_49_266 rfl ?_
            refine Y_gI (v := (F 11 5)) i_49_267 ow_49 lf_3_47 (by decide) (k_11 hG) (by simp [wF, wJ, va_up, cpR, bF, bA]) ?_
            refine Y_iconst (v := 1) i_49_270 (by decide) ?_
            refine Y_iadd i_49_271 ?_
            refine Y_pI i_49_272 ow_49 lf_3_47 (k_11 hG) ?_
            exact Y_vret i_49_275 rt_49 h
    · replace h := h.2 e9
      refine Y_al0 i_49_79 ?_
      refine Y_iconst (v := 0) i_49_80 (by decide) ?_
      refine Y_pI i_49_81 ow_49 lf_3_53 (k_11 hG) ?_
      refine Y_goto i_49_84 ?_
      exact Y_vret i_49_275 rt_49 h
theorem t_49_107 {d : Nat} {F A : Nat → Nat → Int32} {J : Nat → Nat → Int64} {G : pG} {Q : pR → pM → Prop} {SL p q : Nat} (hG : Geo G SL p q) (h : (((F 11 6) < (F 11 3) → inB (F 11 6) 600 = true ∧ (((letB (A 1 (F 11 6).toNatClampNeg)) = true → X (d + 1) 49 107 [.ref 11] [] ((wF F 11 6 ((F 11 6) + 1)), A, J, G) Q) ∧ ((letB (A 1 (F 11 6).toNatClampNeg)) = false → Q (.inl none) (F, A, J, G)))) ∧ (¬ (F 11 6) < (F 11 3) → Q (.inl none) (F, A, J, G)))) : X (d + 1) 49 107 [.ref 11] [] (F, A, J, G) Q := by
  refine Y_al0 i_49_107 ?_
  refine Y_gI (v := (F 11 6)) i_49_108 ow_49 lf_3_47 (by decide) (k_11 hG) rfl ?_
  refine Y_al0 i_49_111 ?_
  refine Y_gI (v := (F 11 3)) i_49_112 ow_49 lf_3_25 (by decide) (k_11 hG) rfl ?_
  refine Y_cge i_49_115 (fun e1 => ?_) (fun e1 => ?_)
  · replace h := h.1 e1
    refine Y_al0 i_49_118 ?_
    refine Y_gR i_49_119 ow_49 lf_3_9 (k_11 hG) (r_11_1 hG) ?_
    refine Y_al0 i_49_122 ?_
    refine Y_gI (v := (F 11 6)) i_49_123 ow_49 lf_3_47 (by decide) (k_11 hG) rfl ?_
    have o2 := h.1
    replace h := h.2
    refine Y_baload (k := (F 11 6).toNatClampNeg) (v := (A 1 (F 11 6).toNatClampNeg)) i_49_126 (k_1 hG) (l_1 hG) o2 rfl rfl ?_
    refine Y_is_1 (L0 := [.int (A 1 (F 11 6).toNatClampNeg)]) i_49_127 ow_49 lm_3_192 rfl mx_50 rfl rfl hd_49 ?_
    refine c_50 hG (KKi ?_)
    refine Y_beq i_49_130 (fun e3 => ?_) (fun e3 => ?_)
    · replace h := h.1 e3
      refine Y_al0 i_49_133 ?_
      refine Y_dup i_49_134 rfl ?_
      refine Y_gI (v := (F 11 6)) i_49_135 ow_49 lf_3_47 (by decide) (k_11 hG) rfl ?_
      refine Y_iconst (v := 1) i_49_138 (by decide) ?_
      refine Y_iadd i_49_139 ?_
      refine Y_pI i_49_140 ow_49 lf_3_47 (k_11 hG) ?_
      refine Y_goto i_49_143 ?_
      exact h
    · replace h := h.2 e3
      exact Y_vret i_49_275 rt_49 h
  · replace h := h.2 e1
    exact Y_vret i_49_275 rt_49 h
theorem t_49_171 {d : Nat} {F A : Nat → Nat → Int32} {J : Nat → Nat → Int64} {G : pG} {Q : pR → pM → Prop} {SL p q : Nat} (hG : Geo G SL p q) (h : (((F 11 6) < (F 11 3) → inB (F 11 6) 600 = true ∧ (((digB (A 1 (F 11 6).toNatClampNeg)) = true → X (d + 1) 49 171 [.ref 11] [] ((wF (wF F 11 7 ((((F 11 7) * 10) + (A 1 (F 11 6).toNatClampNeg)) - 48)) 11 6 ((F 11 6) + 1)), A, J, G) Q) ∧ ((digB (A 1 (F 11 6).toNatClampNeg)) = false → Q (.inl none) (F, A, J, G)))) ∧ (¬ (F 11 6) < (F 11 3) → Q (.inl none) (F, A, J, G)))) : X (d + 1) 49 171 [.ref 11] [] (F, A, J, G) Q := by
  refine Y_al0 i_49_171 ?_
  refine Y_gI (v := (F 11 6)) i_49_172 ow_49 lf_3_47 (by decide) (k_11 hG) rfl ?_
  refine Y_al0 i_49_175 ?_
  refine Y_gI (v := (F 11 3)) i_49_176 ow_49 lf_3_25 (by decide) (k_11 hG) rfl ?_
  refine Y_cge i_49_179 (fun e1 => ?_) (fun e1 => ?_)
  · replace h := h.1 e1
    refine Y_al0 i_49_182 ?_
    refine Y_gR i_49_183 ow_49 lf_3_9 (k_11 hG) (r_11_1 hG) ?_
    refine Y_al0 i_49_186 ?_
    refine Y_gI (v := (F 11 6)) i_49_187 ow_49 lf_3_47 (by decide) (k_11 hG) rfl ?_
    have o2 := h.1
    replace h := h.2
    refine Y_baload (k := (F 11 6).toNatClampNeg) (v := (A 1 (F 11 6).toNatClampNeg)) i_49_190 (k_1 hG) (l_1 hG) o2 rfl rfl ?_
    refine Y_is_1 (L0 := [.int (A 1 (F 11 6).toNatClampNeg)]) i_49_191 ow_49 lm_3_196 rfl mx_51 rfl rfl hd_49 ?_
    refine c_51 hG (KKi ?_)
    refine Y_beq i_49_194 (fun e3 => ?_) (fun e3 => ?_)
    · replace h := h.1 e3
      refine Y_al0 i_49_197 ?_
      refine Y_al0 i_49_198 ?_
      refine Y_gI (v := (F 11 7)) i_49_199 ow_49 lf_3_161 (by decide) (k_11 hG) rfl ?_
      refine Y_bipush (v := 10) i_49_202 (by decide) ?_
      refine Y_imul i_49_204 ?_
      refine Y_al0 i_49_205 ?_
      refine Y_gR i_49_206 ow_49 lf_3_9 (k_11 hG) (r_11_1 hG) ?_
      refine Y_al0 i_49_209 ?_
      refine Y_gI (v := (F 11 6)) i_49_210 ow_49 lf_3_47 (by decide) (k_11 hG) rfl ?_
      refine Y_baload (k := (F 11 6).toNatClampNeg) (v := (A 1 (F 11 6).toNatClampNeg)) i_49_213 (k_1 hG) (l_1 hG) o2 rfl rfl ?_
      refine Y_iadd i_49_214 ?_
      refine Y_bipush (v := 48) i_49_215 (by decide) ?_
      refine Y_isub i_49_217 ?_
      refine Y_pI i_49_218 ow_49 lf_3_161 (k_11 hG) ?_
      refine Y_al0 i_49_221 ?_
      refine Y_dup i_49_222 rfl ?_
      refine Y_gI (v := (F 11 6)) i_49_223 ow_49 lf_3_47 (by decide) (k_11 hG) (by simp [wF, wJ, va_up, cpR, bF, bA]) ?_
      refine Y_iconst (v := 1) i_49_226 (by decide) ?_
      refine Y_iadd i_49_227 ?_
      refine Y_pI i_49_228 ow_49 lf_3_47 (k_11 hG) ?_
      refine Y_goto i_49_231 ?_
      exact h
    · replace h := h.2 e3
      exact Y_vret i_49_275 rt_49 h
  · replace h := h.2 e1
    exact Y_vret i_49_275 rt_49 h
/- 53 Rule.become(LTableTower$Rule;)V -/
theorem t_53_0 {d : Nat} {F A : Nat → Nat → Int32} {J : Nat → Nat → Int64} {G : pG} {Q : pR → pM → Prop} {SL p q : Nat} (hG : Geo G SL p q) (h : (¬ (0 : Int32) < 0 ∧ ¬ (0 : Int32) < 0 ∧ ¬ (F 8 1) < 0 ∧ (0 : Int32).toNatClampNeg + (F 8 1).toNatClampNeg ≤ 600 ∧ (0 : Int32).toNatClampNeg + (F 8 1).toNatClampNeg ≤ 600) ∧ (Q (.inl none) ((wF F 18 1 (F 8 1)), (cpR A 19 9 0 0 (F 8 1).toNatClampNeg), J, G))) : X d 53 0 [.ref 18, .ref 8] [] (F, A, J, G) Q := by
  refine Y_al0 i_53_0 ?_
  refine Y_al1 i_53_1 ?_
  refine Y_gI (v := (F 8 1)) i_53_2 ow_53 lf_4_18 (by decide) (k_8 hG) rfl ?_
  refine Y_pI i_53_5 ow_53 lf_4_18 (k_18 hG) ?_
  refine Y_al1 i_53_8 ?_
  refine Y_gR i_53_9 ow_53 lf_4_9 (k_8 hG) (r_8_0 hG) ?_
  refine Y_iconst (v := 0) i_53_12 (by decide) ?_
  refine Y_al0 i_53_13 ?_
  refine Y_gR i_53_14 ow_53 lf_4_9 (k_18 hG) (r_18_0 hG) ?_
  refine Y_iconst (v := 0) i_53_17 (by decide) ?_
  refine Y_al0 i_53_18 ?_
  refine Y_gI (v := (F 8 1)) i_53_19 ow_53 lf_4_18 (by decide) (k_18 hG) (by simp [wF, wJ, va_up, cpR, bF, bA]) ?_
  have o1 := h.1
  replace h := h.2
  refine Y_acp (ksp := 0) (kdp := 0) (kn := (F 8 1).toNatClampNeg) i_53_22 ow_53 lm_4_22 rfl (k_19 hG) (k_9 hG) (l_19 hG) (l_9 hG) o1 (by decide) (by decide) rfl ?_
  exact Y_vret i_53_25 rt_53 h
/- 54 Rule.add(I)V -/
theorem t_54_0 {d : Nat} {F A : Nat → Nat → Int32} {J : Nat → Nat → Int64} {G : pG} {Q : pR → pM → Prop} {SL p q : Nat} {x1 : Int32} (hG : Geo G SL p q) (h : (((F 8 1) < 600 → inB (F 8 1) 600 = true ∧ (Q (.inl none) ((wF F 8 1 ((F 8 1) + 1)), (wF A 9 (F 8 1).toNatClampNeg x1), J, G))) ∧ (¬ (F 8 1) < 600 → Q (.inl none) (F, A, J, G)))) : X d 54 0 [.ref 8, .int x1] [] (F, A, J, G) Q := by
  refine Y_al0 i_54_0 ?_
  refine Y_gI (v := (F 8 1)) i_54_1 ow_54 lf_4_18 (by decide) (k_8 hG) rfl ?_
  refine Y_al0 i_54_4 ?_
  refine Y_gR i_54_5 ow_54 lf_4_9 (k_8 hG) (r_8_0 hG) ?_
  refine Y_alen (v := 600) i_54_8 (Or.inl (k_9 hG)) (l_9 hG) (by decide) ?_
  refine Y_cge i_54_9 (fun e1 => ?_) (fun e1 => ?_)
  · replace h := h.1 e1
    refine Y_al0 i_54_12 ?_
    refine Y_gR i_54_13 ow_54 lf_4_9 (k_8 hG) (r_8_0 hG) ?_
    refine Y_al0 i_54_16 ?_
    refine Y_gI (v := (F 8 1)) i_54_17 ow_54 lf_4_18 (by decide) (k_8 hG) rfl ?_
    refine Y_il1 i_54_20 ?_
    have o2 := h.1
    replace h := h.2
    refine Y_iast i_54_21 (k_9 hG) (l_9 hG) o2 rfl ?_
    refine Y_al0 i_54_22 ?_
    refine Y_dup i_54_23 rfl ?_
    refine Y_gI (v := (F 8 1)) i_54_24 ow_54 lf_4_18 (by decide) (k_8 hG) rfl ?_
    refine Y_iconst (v := 1) i_54_27 (by decide) ?_
    refine Y_iadd i_54_28 ?_
    refine Y_pI i_54_29 ow_54 lf_4_18 (k_8 hG) ?_
    exact Y_vret i_54_32 rt_54 h
  · replace h := h.2 e1
    exact Y_vret i_54_32 rt_54 h
/- 55 Rule.gives()I -/
theorem t_55_0 {d : Nat} {F A : Nat → Nat → Int32} {J : Nat → Nat → Int64} {G : pG} {Q : pR → pM → Prop} {SL p q : Nat} (hG : Geo G SL p q) (h : X (d + 1) 55 7 [.ref 18, .int 0, .null, .null] [] ((wF F 18 9 0), A, J, G) Q) : X (d + 1) 55 0 [.ref 18, .null, .null, .null] [] (F, A, J, G) Q := by
  refine Y_al0 i_55_0 ?_
  refine Y_iconst (v := 0) i_55_1 (by decide) ?_
  refine Y_pI i_55_2 ow_55 lf_4_28 (k_18 hG) ?_
  refine Y_iconst (v := 0) i_55_5 (by decide) ?_
  refine Y_is1 i_55_6 rfl ?_
  exact h
theorem t_55_7 {d : Nat} {F A : Nat → Nat → Int32} {J : Nat → Nat → Int64} {G : pG} {Q : pR → pM → Prop} {SL p q : Nat} {x1 : Int32} {v2 v3 : Value} (hG : Geo G SL p q) (h : ((x1 < (F 18 1) → inB x1 600 = true ∧ (((A 19 x1.toNatClampNeg) < 0 → (((A 19 x1.toNatClampNeg) < (-6) → (((A 19 x1.toNatClampNeg) = (-7) → ((0 < (F 18 9) → inB ((F 18 9) - 1) 40 = true ∧ (((A 20 ((F 18 9) - 1).toNatClampNeg) = 0 → ((((F 18 9) - 1) < 40 → X (d + 1) 55 7 [.ref 18, .int (x1 + 1), .int (A 19 x1.toNatClampNeg), v3] [] ((wF (wF F 18 9 ((F 18 9) - 1)) 18 9 (((F 18 9) - 1) + 1)), (wF A 20 ((F 18 9) - 1).toNatClampNeg 1), J, G) Q) ∧ (¬ ((F 18 9) - 1) < 40 → X (d + 1) 55 7 [.ref 18, .int (x1 + 1), .int (A 19 x1.toNatClampNeg), v3] [] ((wF F 18 9 ((F 18 9) - 1)), A, J, G) Q))) ∧ (¬ (A 20 ((F 18 9) - 1).toNatClampNeg) = 0 → ((((F 18 9) - 1) < 40 → X (d + 1) 55 7 [.ref 18, .int (x1 + 1), .int (A 19 x1.toNatClampNeg), v3] [] ((wF (wF F 18 9 ((F 18 9) - 1)) 18 9 (((F 18 9) - 1) + 1)), (wF A 20 ((F 18 9) - 1).toNatClampNeg 0), J, G) Q) ∧ (¬ ((F 18 9) - 1) < 40 → X (d + 1) 55 7 [.ref 18, .int (x1 + 1), .int (A 19 x1.toNatClampNeg), v3] [] ((wF F 18 9 ((F 18 9) - 1)), A, J, G) Q))))) ∧ (¬ 0 < (F 18 9) → (((F 18 9) < 40 → inB (F 18 9) 40 = true ∧ (X (d + 1) 55 7 [.ref 18, .int (x1 + 1), .int (A 19 x1.toNatClampNeg), v3] [] ((wF F 18 9 ((F 18 9) + 1)), (wF A 20 (F 18 9).toNatClampNeg 1), J, G) Q)) ∧ (¬ (F 18 9) < 40 → X (d + 1) 55 7 [.ref 18, .int (x1 + 1), .int (A 19 x1.toNatClampNeg), v3] [] (F, A, J, G) Q))))) ∧ (¬ (A 19 x1.toNatClampNeg) = (-7) → ((0 < (F 18 9) → inB ((F 18 9) - 1) 40 = true ∧ ((0 < ((F 18 9) - 1) → inB (((F 18 9) - 1) - 1) 40 = true ∧ (((((F 18 9) - 1) - 1) < 40 → X (d + 1) 55 7 [.ref 18, .int (x1 + 1), .int (A 19 x1.toNatClampNeg), .int (A 20 ((F 18 9) - 1).toNatClampNeg)] [] ((wF (wF (wF F 18 9 ((F 18 9) - 1)) 18 9 (((F 18 9) - 1) - 1)) 18 9 ((((F 18 9) - 1) - 1) + 1)), (wF A 20 (((F 18 9) - 1) - 1).toNatClampNeg (opS (A 19 x1.toNatClampNeg) (A 20 (((F 18 9) - 1) - 1).toNatClampNeg) (A 20 ((F 18 9) - 1).toNatClampNeg))), J, G) Q) ∧ (¬ (((F 18 9) - 1) - 1) < 40 → X (d + 1) 55 7 [.ref 18, .int (x1 + 1), .int (A 19 x1.toNatClampNeg), .int (A 20 ((F 18 9) - 1).toNatClampNeg)] [] ((wF (wF F 18 9 ((F 18 9) - 1)) 18 9 (((F 18 9) - 1) - 1)), A, J, G) Q))) ∧ (¬ 0 < ((F 18 9) - 1) → ((((F 18 9) - 1) < 40 → X (d + 1) 55 7 [.ref 18, .int (x1 + 1), .int (A 19 x1.toNatClampNeg), .int (A 20 ((F 18 9) - 1).toNatClampNeg)] [] ((wF (wF F 18 9 ((F 18 9) - 1)) 18 9 (((F 18 9) - 1) + 1)), (wF A 20 ((F 18 9) - 1).toNatClampNeg (opS (A 19 x1.toNatClampNeg) 0 (A 20 ((F 18 9) - 1).toNatClampNeg))), J, G) Q) ∧ (¬ ((F 18 9) - 1) < 40 → X (d + 1) 55 7 [.ref 18, .int (x1 + 1), .int (A 19 x1.toNatClampNeg), .int (A 20 ((F 18 9) - 1).toNatClampNeg)] [] ((wF F 18 9 ((F 18 9) - 1)), A, J, G) Q))))) ∧ (¬ 0 < (F 18 9) → ((0 < (F 18 9) → inB ((F 18 9) - 1) 40 = true ∧ ((((F 18 9) - 1) < 40 → X (d + 1) 55 7 [.ref 18, .int (x1 + 1), .int (A 19 x1.toNatClampNeg), .int 0] [] ((wF (wF F 18 9 ((F 18 9) - 1)) 18 9 (((F 18 9) - 1) + 1)), (wF A 20 ((F 18 9) - 1).toNatClampNeg (opS (A 19 x1.toNatClampNeg) (A 20 ((F 18 9) - 1).toNatClampNeg) 0)), J, G) Q) ∧ (¬ ((F 18 9) - 1) < 40 → X (d + 1) 55 7 [.ref 18, .int (x1 + 1), .int (A 19 x1.toNatClampNeg), .int 0] [] ((wF F 18 9 ((F 18 9) - 1)), A, J, G) Q))) ∧ (¬ 0 < (F 18 9) → (((F 18 9) < 40 → inB (F 18 9) 40 = true ∧ (X (d + 1) 55 7 [.ref 18, .int (x1 + 1), .int (A 19 x1.toNatClampNeg), .int 0] [] ((wF F 18 9 ((F 18 9) + 1)), (wF A 20 (F 18 9).toNatClampNeg (opS (A 19 x1.toNatClampNeg) 0 0)), J, G) Q)) ∧ (¬ (F 18 9) < 40 → X (d + 1) 55 7 [.ref 18, .int (x1 + 1), .int (A 19 x1.toNatClampNeg), .int 0] [] (F, A, J, G) Q))))))))) ∧ (¬ (A 19 x1.toNatClampNeg) < (-6) → (((F 18 9) < 40 → inB (F 18 9) 40 = true ∧ (X (d + 1) 55 7 [.ref 18, .int (x1 + 1), .int (A 19 x1.toNatClampNeg), v3] [] ((wF F 18 9 ((F 18 9) + 1)), (wF A 20 (F 18 9).toNatClampNeg (valO F (A 19 x1.toNatClampNeg))), J, G) Q)) ∧ (¬ (F 18 9) < 40 → X (d + 1) 55 7 [.ref 18, .int (x1 + 1), .int (A 19 x1.toNatClampNeg), v3] [] (F, A, J, G) Q))))) ∧ (¬ (A 19 x1.toNatClampNeg) < 0 → (((F 18 9) < 40 → inB (F 18 9) 40 = true ∧ (X (d + 1) 55 7 [.ref 18, .int (x1 + 1), .int (A 19 x1.toNatClampNeg), v3] [] ((wF F 18 9 ((F 18 9) + 1)), (wF A 20 (F 18 9).toNatClampNeg (A 19 x1.toNatClampNeg)), J, G) Q)) ∧ (¬ (F 18 9) < 40 → X (d + 1) 55 7 [.ref 18, .int (x1 + 1), .int (A 19 x1.toNatClampNeg), v3] [] (F, A, J, G) Q))))) ∧ (¬ x1 < (F 18 1) → ((0 < (F 18 9) → inB ((F 18 9) - 1) 40 = true ∧ (Q (.inl (some (.int (A 20 ((F 18 9) - 1).toNatClampNeg)))) ((wF F 18 9 ((F 18 9) - 1)), A, J, G))) ∧ (¬ 0 < (F 18 9) → Q (.inl (some (.int 0))) (F, A, J, G)))))) : X (d + 1) 55 7 [.ref 18, .int x1, v2, v3] [] (F, A, J, G) Q := by
  refine Y_il1 i_55_7 ?_
  refine Y_al0 i_55_8 ?_
  refine Y_gI (v := (F 18 1)) i_55_9 ow_55 lf_4_18 (by decide) (k_18 hG) rfl ?_
  refine Y_cge i_55_12 (fun e1 => ?_) (fun e1 => ?_)
  · replace h := h.1 e1
    refine Y_al0 i_55_15 ?_
    refine Y_gR i_55_16 ow_55 lf_4_9 (k_18 hG) (r_18_0 hG) ?_
    refine Y_il1 i_55_19 ?_
    have o2 := h.1
    replace h := h.2
    refine Y_iaload (k := x1.toNatClampNeg) (v := (A 19 x1.toNatClampNeg)) i_55_20 (k_19 hG) (l_19 hG) o2 rfl rfl ?_
    refine Y_is2 i_55_21 rfl ?_
    refine Y_il2 i_55_22 ?_
    refine Y_zlt i_55_23 (fun e3 => ?_) (fun e3 => ?_)
    · replace h := h.1 e3
      refine Y_il2 i_55_34 ?_
      refine Y_bipush (v := (-6)) i_55_35 (by decide) ?_
      refine Y_clt i_55_37 (fun e4 => ?_) (fun e4 => ?_)
      · replace h := h.1 e4
        refine Y_il2 i_55_52 ?_
        refine Y_bipush (v := (-7)) i_55_53 (by decide) ?_
        refine Y_cne i_55_55 (fun e5 => ?_) (fun e5 => ?_)
        · replace h := h.1 e5
          refine Y_al0 i_55_58 ?_
          refine Y_al0 i_55_59 ?_
          refine Y_iv0 (L0 := [.ref 18]) i_55_60 ow_55 lm_4_39 ((k_18 hG).trans ow_57.symm) rfl mx_57 rfl rfl hd_55 ?_
          refine Y_al0 i_57_0 ?_
          refine Y_gI (v := (F 18 9)) i_57_1 ow_57 lf_4_28 (by decide) (k_18 hG) rfl ?_
          refine Y_zgt i_57_4 (fun e6 => ?_) (fun e6 => ?_)
          · replace h := h.1 e6
            refine Y_al0 i_57_9 ?_
            refine Y_dup i_57_10 rfl ?_
            refine Y_gI (v := (F 18 9)) i_57_11 ow_57 lf_4_28 (by decide) (k_18 hG) rfl ?_
            refine Y_iconst (v := 1) i_57_14 (by decide) ?_
            refine Y_isub i_57_15 ?_
            refine Y_pI i_57_16 ow_57 lf_4_28 (k_18 hG) ?_
            refine Y_al0 i_57_19 ?_
            refine Y_gR i_57_20 ow_57 lf_4_15 (k_18 hG) (r_18_8 hG) ?_
            refine Y_al0 i_57_23 ?_
            refine Y_gI (v := ((F 18 9) - 1)) i_57_24 ow_57 lf_4_28 (by decide) (k_18 hG) (by simp [wF, wJ, va_up, cpR, bF, bA]) ?_
            have o7 := h.1
            replace h := h.2
            refine Y_iaload (k := ((F 18 9) - 1).toNatClampNeg) (v := (A 20 ((F 18 9) - 1).toNatClampNeg)) i_57_27 (k_20 hG) (l_20 hG) o7 rfl rfl ?_
            refine Y_iret i_57_28 rt_57 (KKi ?_)
            refine Y_zne i_55_63 (fun e8 => ?_) (fun e8 => ?_)
            · replace h := h.1 e8
              refine Y_iconst (v := 1) i_55_66 (by decide) ?_
              refine Y_goto i_55_67 ?_
              refine Y_iv1 (L0 := [.ref 18, .int 1]) i_55_71 ow_55 lm_4_31 ((k_18 hG).trans ow_56.symm) rfl mx_56 rfl rfl hd_55 ?_
              refine Y_al0 i_56_0 ?_
              refine Y_gI (v := ((F 18 9) - 1)) i_56_1 ow_56 lf_4_28 (by decide) (k_18 hG) (by simp [wF, wJ, va_up, cpR, bF, bA]) ?_
              refine Y_bipush (v := 40) i_56_4 (by decide) ?_
              refine Y_cge i_56_6 (fun e9 => ?_) (fun e9 => ?_)
              · replace h := h.1 e9
                refine Y_al0 i_56_9 ?_
                refine Y_gR i_56_10 ow_56 lf_4_15 (k_18 hG) (r_18_8 hG) ?_
                refine Y_al0 i_56_13 ?_
                refine Y_gI (v := ((F 18 9) - 1)) i_56_14 ow_56 lf_4_28 (by decide) (k_18 hG) (by simp [wF, wJ, va_up, cpR, bF, bA]) ?_
                refine Y_il1 i_56_17 ?_
                refine Y_iast i_56_18 (k_20 hG) (l_20 hG) o7 rfl ?_
                refine Y_al0 i_56_19 ?_
                refine Y_dup i_56_20 rfl ?_
                refine Y_gI (v := ((F 18 9) - 1)) i_56_21 ow_56 lf_4_28 (by decide) (k_18 hG) (by simp [wF, wJ, va_up, cpR, bF, bA]) ?_
                refine Y_iconst (v := 1) i_56_24 (by decide) ?_
                refine Y_iadd i_56_25 ?_
                refine Y_pI i_56_26 ow_56 lf_4_28 (k_18 hG) ?_
                refine Y_vret i_56_29 rt_56 (KKv ?_)
                refine Y_goto i_55_74 ?_
                refine Y_ii1 (v := 1) i_55_95 (by decide) rfl ?_
                refine Y_goto i_55_98 ?_
                exact h
              · replace h := h.2 e9
                refine Y_vret i_56_29 rt_56 (KKv ?_)
                refine Y_goto i_55_74 ?_
                refine Y_ii1 (v := 1) i_55_95 (by decide) rfl ?_
                refine Y_goto i_55_98 ?_
                exact h
            · replace h := h.2 e8
              refine Y_iconst (v := 0) i_55_70 (by decide) ?_
              refine Y_iv1 (L0 := [.ref 18, .int 0]) i_55_71 ow_55 lm_4_31 ((k_18 hG).trans ow_56.symm) rfl mx_56 rfl rfl hd_55 ?_
              refine Y_al0 i_56_0 ?_
              refine Y_gI (v := ((F 18 9) - 1)) i_56_1 ow_56 lf_4_28 (by decide) (k_18 hG) (by simp [wF, wJ, va_up, cpR, bF, bA]) ?_
              refine Y_bipush (v := 40) i_56_4 (by decide) ?_
              refine Y_cge i_56_6 (fun e10 => ?_) (fun e10 => ?_)
              · replace h := h.1 e10
                refine Y_al0 i_56_9 ?_
                refine Y_gR i_56_10 ow_56 lf_4_15 (k_18 hG) (r_18_8 hG) ?_
                refine Y_al0 i_56_13 ?_
                refine Y_gI (v := ((F 18 9) - 1)) i_56_14 ow_56 lf_4_28 (by decide) (k_18 hG) (by simp [wF, wJ, va_up, cpR, bF, bA]) ?_
                refine Y_il1 i_56_17 ?_
                refine Y_iast i_56_18 (k_20 hG) (l_20 hG) o7 rfl ?_
                refine Y_al0 i_56_19 ?_
                refine Y_dup i_56_20 rfl ?_
                refine Y_gI (v := ((F 18 9) - 1)) i_56_21 ow_56 lf_4_28 (by decide) (k_18 hG) (by simp [wF, wJ, va_up, cpR, bF, bA]) ?_
                refine Y_iconst (v := 1) i_56_24 (by decide) ?_
                refine Y_iadd i_56_25 ?_
                refine Y_pI i_56_26 ow_56 lf_4_28 (k_18 hG) ?_
                refine Y_vret i_56_29 rt_56 (KKv ?_)
                refine Y_goto i_55_74 ?_
                refine Y_ii1 (v := 1) i_55_95 (by decide) rfl ?_
                refine Y_goto i_55_98 ?_
                exact h
              · replace h := h.2 e10
                refine Y_vret i_56_29 rt_56 (KKv ?_)
                refine Y_goto i_55_74 ?_
                refine Y_ii1 (v := 1) i_55_95 (by decide) rfl ?_
                refine Y_goto i_55_98 ?_
                exact h
          · replace h := h.2 e6
            refine Y_iconst (v := 0) i_57_7 (by decide) ?_
            refine Y_iret i_57_8 rt_57 (KKi ?_)
            refine Y_zF i_55_63 (by decide) ?_
            refine Y_iconst (v := 1) i_55_66 (by decide) ?_
            refine Y_goto i_55_67 ?_
            refine Y_iv1 (L0 := [.ref 18, .int 1]) i_55_71 ow_55 lm_4_31 ((k_18 hG).trans ow_56.symm) rfl mx_56 rfl rfl hd_55 ?_
            refine Y_al0 i_56_0 ?_
            refine Y_gI (v := (F 18 9)) i_56_1 ow_56 lf_4_28 (by decide) (k_18 hG) rfl ?_
            refine Y_bipush (v := 40) i_56_4 (by decide) ?_
            refine Y_cge i_56_6 (fun e11 => ?_) (fun e11 => ?_)
            · replace h := h.1 e11
              refine Y_al0 i_56_9 ?_
              refine Y_gR i_56_10 ow_56 lf_4_15 (k_18 hG) (r_18_8 hG) ?_
              refine Y_al0 i_56_13 ?_
              refine Y_gI (v := (F 18 9)) i_56_14 ow_56 lf_4_28 (by decide) (k_18 hG) rfl ?_
              refine Y_il1 i_56_17 ?_
              have o12 := h.1
              replace h := h.2
              refine Y_iast i_56_18 (k_20 hG) (l_20 hG) o12 rfl ?_
              refine Y_al0 i_56_19 ?_
              refine Y_dup i_56_20 rfl ?_
              refine Y_gI (v := (F 18 9)) i_56_21 ow_56 lf_4_28 (by decide) (k_18 hG) rfl ?_
              refine Y_iconst (v := 1) i_56_24 (by decide) ?_
              refine Y_iadd i_56_25 ?_
              refine Y_pI i_56_26 ow_56 lf_4_28 (k_18 hG) ?_
              refine Y_vret i_56_29 rt_56 (KKv ?_)
              refine Y_goto i_55_74 ?_
              refine Y_ii1 (v := 1) i_55_95 (by decide) rfl ?_
              refine Y_goto i_55_98 ?_
              exact h
            · replace h := h.2 e11
              refine Y_vret i_56_29 rt_56 (KKv ?_)
              refine Y_goto i_55_74 ?_
              refine Y_ii1 (v := 1) i_55_95 (by decide) rfl ?_
              refine Y_goto i_55_98 ?_
              exact h
        · replace h := h.2 e5
          refine Y_al0 i_55_77 ?_
          refine Y_iv0 (L0 := [.ref 18]) i_55_78 ow_55 lm_4_39 ((k_18 hG).trans ow_57.symm) rfl mx_57 rfl rfl hd_55 ?_
          refine Y_al0 i_57_0 ?_
          refine Y_gI (v := (F 18 9)) i_57_1 ow_57 lf_4_28 (by decide) (k_18 hG) rfl ?_
          refine Y_zgt i_57_4 (fun e13 => ?_) (fun e13 => ?_)
          · replace h := h.1 e13
            refine Y_al0 i_57_9 ?_
            refine Y_dup i_57_10 rfl ?_
            refine Y_gI (v := (F 18 9)) i_57_11 ow_57 lf_4_28 (by decide) (k_18 hG) rfl ?_
            refine Y_iconst (v := 1) i_57_14 (by decide) ?_
            refine Y_isub i_57_15 ?_
            refine Y_pI i_57_16 ow_57 lf_4_28 (k_18 hG) ?_
            refine Y_al0 i_57_19 ?_
            refine Y_gR i_57_20 ow_57 lf_4_15 (k_18 hG) (r_18_8 hG) ?_
            refine Y_al0 i_57_23 ?_
            refine Y_gI (v := ((F 18 9) - 1)) i_57_24 ow_57 lf_4_28 (by decide) (k_18 hG) (by simp [wF, wJ, va_up, cpR, bF, bA]) ?_
            have o14 := h.1
            replace h := h.2
            refine Y_iaload (k := ((F 18 9) - 1).toNatClampNeg) (v := (A 20 ((F 18 9) - 1).toNatClampNeg)) i_57_27 (k_20 hG) (l_20 hG) o14 rfl rfl ?_
            refine Y_iret i_57_28 rt_57 (KKi ?_)
            refine Y_is3 i_55_81 rfl ?_
            refine Y_al0 i_55_82 ?_
            refine Y_il2 i_55_83 ?_
            refine Y_al0 i_55_84 ?_
            refine Y_iv0 (L0 := [.ref 18]) i_55_85 ow_55 lm_4_39 ((k_18 hG).trans ow_57.symm) rfl mx_57 rfl rfl hd_55 ?_
            refine Y_al0 i_57_0 ?_
            refine Y_gI (v := ((F 18 9) - 1)) i_57_1 ow_57 lf_4_28 (by decide) (k_18 hG) (by simp [wF, wJ, va_up, cpR, bF, bA]) ?_
            refine Y_zgt i_57_4 (fun e15 => ?_) (fun e15 => ?_)
            · replace h := h.1 e15
              refine Y_al0 i_57_9 ?_
              refine Y_dup i_57_10 rfl ?_
              refine Y_gI (v := ((F 18 9) - 1)) i_57_11 ow_57 lf_4_28 (by decide) (k_18 hG) (by simp [wF, wJ, va_up, cpR, bF, bA]) ?_
              refine Y_iconst (v := 1) i_57_14 (by decide) ?_
              refine Y_isub i_57_15 ?_
              refine Y_pI i_57_16 ow_57 lf_4_28 (k_18 hG) ?_
              refine Y_al0 i_57_19 ?_
              refine Y_gR i_57_20 ow_57 lf_4_15 (k_18 hG) (r_18_8 hG) ?_
              refine Y_al0 i_57_23 ?_
              refine Y_gI (v := (((F 18 9) - 1) - 1)) i_57_24 ow_57 lf_4_28 (by decide) (k_18 hG) (by simp [wF, wJ, va_up, cpR, bF, bA]) ?_
              have o16 := h.1
              replace h := h.2
              refine Y_iaload (k := (((F 18 9) - 1) - 1).toNatClampNeg) (v := (A 20 (((F 18 9) - 1) - 1).toNatClampNeg)) i_57_27 (k_20 hG) (l_20 hG) o16 rfl rfl ?_
              refine Y_iret i_57_28 rt_57 (KKi ?_)
              refine Y_il3 i_55_88 ?_
              refine Y_is_3 (L0 := [.int (A 19 x1.toNatClampNeg), .int (A 20 (((F 18 9) - 1) - 1).toNatClampNeg), .int (A 20 ((F 18 9) - 1).toNatClampNeg)]) i_55_89 ow_55 lm_4_43 rfl mx_59 rfl rfl hd_55 ?_
              refine c_59 hG (KKi ?_)
              refine Y_iv1 (L0 := [.ref 18, .int (opS (A 19 x1.toNatClampNeg) (A 20 (((F 18 9) - 1) - 1).toNatClampNeg) (A 20 ((F 18 9) - 1).toNatClampNeg))]) i_55_92 ow_55 lm_4_31 ((k_18 hG).trans ow_56.symm) rfl mx_56 rfl rfl hd_55 ?_
              refine Y_al0 i_56_0 ?_
              refine Y_gI (v := (((F 18 9) - 1) - 1)) i_56_1 ow_56 lf_4_28 (by decide) (k_18 hG) (by simp [wF, wJ, va_up, cpR, bF, bA]) ?_
              refine Y_bipush (v := 40) i_56_4 (by decide) ?_
              refine Y_cge i_56_6 (fun e17 => ?_) (fun e17 => ?_)
              · replace h := h.1 e17
                refine Y_al0 i_56_9 ?_
                refine Y_gR i_56_10 ow_56 lf_4_15 (k_18 hG) (r_18_8 hG) ?_
                refine Y_al0 i_56_13 ?_
                refine Y_gI (v := (((F 18 9) - 1) - 1)) i_56_14 ow_56 lf_4_28 (by decide) (k_18 hG) (by simp [wF, wJ, va_up, cpR, bF, bA]) ?_
                refine Y_il1 i_56_17 ?_
                refine Y_iast i_56_18 (k_20 hG) (l_20 hG) o16 rfl ?_
                refine Y_al0 i_56_19 ?_
                refine Y_dup i_56_20 rfl ?_
                refine Y_gI (v := (((F 18 9) - 1) - 1)) i_56_21 ow_56 lf_4_28 (by decide) (k_18 hG) (by simp [wF, wJ, va_up, cpR, bF, bA]) ?_
                refine Y_iconst (v := 1) i_56_24 (by decide) ?_
                refine Y_iadd i_56_25 ?_
                refine Y_pI i_56_26 ow_56 lf_4_28 (k_18 hG) ?_
                refine Y_vret i_56_29 rt_56 (KKv ?_)
                refine Y_ii1 (v := 1) i_55_95 (by decide) rfl ?_
                refine Y_goto i_55_98 ?_
                exact h
              · replace h := h.2 e17
                refine Y_vret i_56_29 rt_56 (KKv ?_)
                refine Y_ii1 (v := 1) i_55_95 (by decide) rfl ?_
                refine Y_goto i_55_98 ?_
                exact h
            · replace h := h.2 e15
              refine Y_iconst (v := 0) i_57_7 (by decide) ?_
              refine Y_iret i_57_8 rt_57 (KKi ?_)
              refine Y_il3 i_55_88 ?_
              refine Y_is_3 (L0 := [.int (A 19 x1.toNatClampNeg), .int 0, .int (A 20 ((F 18 9) - 1).toNatClampNeg)]) i_55_89 ow_55 lm_4_43 rfl mx_59 rfl rfl hd_55 ?_
              refine c_59 hG (KKi ?_)
              refine Y_iv1 (L0 := [.ref 18, .int (opS (A 19 x1.toNatClampNeg) 0 (A 20 ((F 18 9) - 1).toNatClampNeg))]) i_55_92 ow_55 lm_4_31 ((k_18 hG).trans ow_56.symm) rfl mx_56 rfl rfl hd_55 ?_
              refine Y_al0 i_56_0 ?_
              refine Y_gI (v := ((F 18 9) - 1)) i_56_1 ow_56 lf_4_28 (by decide) (k_18 hG) (by simp [wF, wJ, va_up, cpR, bF, bA]) ?_
              refine Y_bipush (v := 40) i_56_4 (by decide) ?_
              refine Y_cge i_56_6 (fun e18 => ?_) (fun e18 => ?_)
              · replace h := h.1 e18
                refine Y_al0 i_56_9 ?_
                refine Y_gR i_56_10 ow_56 lf_4_15 (k_18 hG) (r_18_8 hG) ?_
                refine Y_al0 i_56_13 ?_
                refine Y_gI (v := ((F 18 9) - 1)) i_56_14 ow_56 lf_4_28 (by decide) (k_18 hG) (by simp [wF, wJ, va_up, cpR, bF, bA]) ?_
                refine Y_il1 i_56_17 ?_
                refine Y_iast i_56_18 (k_20 hG) (l_20 hG) o14 rfl ?_
                refine Y_al0 i_56_19 ?_
                refine Y_dup i_56_20 rfl ?_
                refine Y_gI (v := ((F 18 9) - 1)) i_56_21 ow_56 lf_4_28 (by decide) (k_18 hG) (by simp [wF, wJ, va_up, cpR, bF, bA]) ?_
                refine Y_iconst (v := 1) i_56_24 (by decide) ?_
                refine Y_iadd i_56_25 ?_
                refine Y_pI i_56_26 ow_56 lf_4_28 (k_18 hG) ?_
                refine Y_vret i_56_29 rt_56 (KKv ?_)
                refine Y_ii1 (v := 1) i_55_95 (by decide) rfl ?_
                refine Y_goto i_55_98 ?_
                exact h
              · replace h := h.2 e18
                refine Y_vret i_56_29 rt_56 (KKv ?_)
                refine Y_ii1 (v := 1) i_55_95 (by decide) rfl ?_
                refine Y_goto i_55_98 ?_
                exact h
          · replace h := h.2 e13
            refine Y_iconst (v := 0) i_57_7 (by decide) ?_
            refine Y_iret i_57_8 rt_57 (KKi ?_)
            refine Y_is3 i_55_81 rfl ?_
            refine Y_al0 i_55_82 ?_
            refine Y_il2 i_55_83 ?_
            refine Y_al0 i_55_84 ?_
            refine Y_iv0 (L0 := [.ref 18]) i_55_85 ow_55 lm_4_39 ((k_18 hG).trans ow_57.symm) rfl mx_57 rfl rfl hd_55 ?_
            refine Y_al0 i_57_0 ?_
            refine Y_gI (v := (F 18 9)) i_57_1 ow_57 lf_4_28 (by decide) (k_18 hG) rfl ?_
            refine Y_zgt i_57_4 (fun e19 => ?_) (fun e19 => ?_)
            · replace h := h.1 e19
              refine Y_al0 i_57_9 ?_
              refine Y_dup i_57_10 rfl ?_
              refine Y_gI (v := (F 18 9)) i_57_11 ow_57 lf_4_28 (by decide) (k_18 hG) rfl ?_
              refine Y_iconst (v := 1) i_57_14 (by decide) ?_
              refine Y_isub i_57_15 ?_
              refine Y_pI i_57_16 ow_57 lf_4_28 (k_18 hG) ?_
              refine Y_al0 i_57_19 ?_
              refine Y_gR i_57_20 ow_57 lf_4_15 (k_18 hG) (r_18_8 hG) ?_
              refine Y_al0 i_57_23 ?_
              refine Y_gI (v := ((F 18 9) - 1)) i_57_24 ow_57 lf_4_28 (by decide) (k_18 hG) (by simp [wF, wJ, va_up, cpR, bF, bA]) ?_
              have o20 := h.1
              replace h := h.2
              refine Y_iaload (k := ((F 18 9) - 1).toNatClampNeg) (v := (A 20 ((F 18 9) - 1).toNatClampNeg)) i_57_27 (k_20 hG) (l_20 hG) o20 rfl rfl ?_
              refine Y_iret i_57_28 rt_57 (KKi ?_)
              refine Y_il3 i_55_88 ?_
              refine Y_is_3 (L0 := [.int (A 19 x1.toNatClampNeg), .int (A 20 ((F 18 9) - 1).toNatClampNeg), .int 0]) i_55_89 ow_55 lm_4_43 rfl mx_59 rfl rfl hd_55 ?_
              refine c_59 hG (KKi ?_)
              refine Y_iv1 (L0 := [.ref 18, .int (opS (A 19 x1.toNatClampNeg) (A 20 ((F 18 9) - 1).toNatClampNeg) 0)]) i_55_92 ow_55 lm_4_31 ((k_18 hG).trans ow_56.symm) rfl mx_56 rfl rfl hd_55 ?_
              refine Y_al0 i_56_0 ?_
              refine Y_gI (v := ((F 18 9) - 1)) i_56_1 ow_56 lf_4_28 (by decide) (k_18 hG) (by simp [wF, wJ, va_up, cpR, bF, bA]) ?_
              refine Y_bipush (v := 40) i_56_4 (by decide) ?_
              refine Y_cge i_56_6 (fun e21 => ?_) (fun e21 => ?_)
              · replace h := h.1 e21
                refine Y_al0 i_56_9 ?_
                refine Y_gR i_56_10 ow_56 lf_4_15 (k_18 hG) (r_18_8 hG) ?_
                refine Y_al0 i_56_13 ?_
                refine Y_gI (v := ((F 18 9) - 1)) i_56_14 ow_56 lf_4_28 (by decide) (k_18 hG) (by simp [wF, wJ, va_up, cpR, bF, bA]) ?_
                refine Y_il1 i_56_17 ?_
                refine Y_iast i_56_18 (k_20 hG) (l_20 hG) o20 rfl ?_
                refine Y_al0 i_56_19 ?_
                refine Y_dup i_56_20 rfl ?_
                refine Y_gI (v := ((F 18 9) - 1)) i_56_21 ow_56 lf_4_28 (by decide) (k_18 hG) (by simp [wF, wJ, va_up, cpR, bF, bA]) ?_
                refine Y_iconst (v := 1) i_56_24 (by decide) ?_
                refine Y_iadd i_56_25 ?_
                refine Y_pI i_56_26 ow_56 lf_4_28 (k_18 hG) ?_
                refine Y_vret i_56_29 rt_56 (KKv ?_)
                refine Y_ii1 (v := 1) i_55_95 (by decide) rfl ?_
                refine Y_goto i_55_98 ?_
                exact h
              · replace h := h.2 e21
                refine Y_vret i_56_29 rt_56 (KKv ?_)
                refine Y_ii1 (v := 1) i_55_95 (by decide) rfl ?_
                refine Y_goto i_55_98 ?_
                exact h
            · replace h := h.2 e19
              refine Y_iconst (v := 0) i_57_7 (by decide) ?_
              refine Y_iret i_57_8 rt_57 (KKi ?_)
              refine Y_il3 i_55_88 ?_
              refine Y_is_3 (L0 := [.int (A 19 x1.toNatClampNeg), .int 0, .int 0]) i_55_89 ow_55 lm_4_43 rfl mx_59 rfl rfl hd_55 ?_
              refine c_59 hG (KKi ?_)
              refine Y_iv1 (L0 := [.ref 18, .int (opS (A 19 x1.toNatClampNeg) 0 0)]) i_55_92 ow_55 lm_4_31 ((k_18 hG).trans ow_56.symm) rfl mx_56 rfl rfl hd_55 ?_
              refine Y_al0 i_56_0 ?_
              refine Y_gI (v := (F 18 9)) i_56_1 ow_56 lf_4_28 (by decide) (k_18 hG) rfl ?_
              refine Y_bipush (v := 40) i_56_4 (by decide) ?_
              refine Y_cge i_56_6 (fun e22 => ?_) (fun e22 => ?_)
              · replace h := h.1 e22
                refine Y_al0 i_56_9 ?_
                refine Y_gR i_56_10 ow_56 lf_4_15 (k_18 hG) (r_18_8 hG) ?_
                refine Y_al0 i_56_13 ?_
                refine Y_gI (v := (F 18 9)) i_56_14 ow_56 lf_4_28 (by decide) (k_18 hG) rfl ?_
                refine Y_il1 i_56_17 ?_
                have o23 := h.1
                replace h := h.2
                refine Y_iast i_56_18 (k_20 hG) (l_20 hG) o23 rfl ?_
                refine Y_al0 i_56_19 ?_
                refine Y_dup i_56_20 rfl ?_
                refine Y_gI (v := (F 18 9)) i_56_21 ow_56 lf_4_28 (by decide) (k_18 hG) rfl ?_
                refine Y_iconst (v := 1) i_56_24 (by decide) ?_
                refine Y_iadd i_56_25 ?_
                refine Y_pI i_56_26 ow_56 lf_4_28 (k_18 hG) ?_
                refine Y_vret i_56_29 rt_56 (KKv ?_)
                refine Y_ii1 (v := 1) i_55_95 (by decide) rfl ?_
                refine Y_goto i_55_98 ?_
                exact h
              · replace h := h.2 e22
                refine Y_vret i_56_29 rt_56 (KKv ?_)
                refine Y_ii1 (v := 1) i_55_95 (by decide) rfl ?_
                refine Y_goto i_55_98 ?_
                exact h
      · replace h := h.2 e4
        refine Y_al0 i_55_40 ?_
        refine Y_al0 i_55_41 ?_
        refine Y_il2 i_55_42 ?_
        refine Y_iv1 (L0 := [.ref 18, .int (A 19 x1.toNatClampNeg)]) i_55_43 ow_55 lm_4_35 ((k_18 hG).trans ow_58.symm) rfl mx_58 rfl rfl hd_55 ?_
        refine c_58 hG (KKi ?_)
        refine Y_iv1 (L0 := [.ref 18, .int (valO F (A 19 x1.toNatClampNeg))]) i_55_46 ow_55 lm_4_31 ((k_18 hG).trans ow_56.symm) rfl mx_56 rfl rfl hd_55 ?_
        refine Y_al0 i_56_0 ?_
        refine Y_gI (v := (F 18 9)) i_56_1 ow_56 lf_4_28 (by decide) (k_18 hG) rfl ?_
        refine Y_bipush (v := 40) i_56_4 (by decide) ?_
        refine Y_cge i_56_6 (fun e24 => ?_) (fun e24 => ?_)
        · replace h := h.1 e24
          refine Y_al0 i_56_9 ?_
          refine Y_gR i_56_10 ow_56 lf_4_15 (k_18 hG) (r_18_8 hG) ?_
          refine Y_al0 i_56_13 ?_
          refine Y_gI (v := (F 18 9)) i_56_14 ow_56 lf_4_28 (by decide) (k_18 hG) rfl ?_
          refine Y_il1 i_56_17 ?_
          have o25 := h.1
          replace h := h.2
          refine Y_iast i_56_18 (k_20 hG) (l_20 hG) o25 rfl ?_
          refine Y_al0 i_56_19 ?_
          refine Y_dup i_56_20 rfl ?_
          refine Y_gI (v := (F 18 9)) i_56_21 ow_56 lf_4_28 (by decide) (k_18 hG) rfl ?_
          refine Y_iconst (v := 1) i_56_24 (by decide) ?_
          refine Y_iadd i_56_25 ?_
          refine Y_pI i_56_26 ow_56 lf_4_28 (k_18 hG) ?_
          refine Y_vret i_56_29 rt_56 (KKv ?_)
          refine Y_goto i_55_49 ?_
          refine Y_ii1 (v := 1) i_55_95 (by decide) rfl ?_
          refine Y_goto i_55_98 ?_
          exact h
        · replace h := h.2 e24
          refine Y_vret i_56_29 rt_56 (KKv ?_)
          refine Y_goto i_55_49 ?_
          refine Y_ii1 (v := 1) i_55_95 (by decide) rfl ?_
          refine Y_goto i_55_98 ?_
          exact h
    · replace h := h.2 e3
      refine Y_al0 i_55_26 ?_
      refine Y_il2 i_55_27 ?_
      refine Y_iv1 (L0 := [.ref 18, .int (A 19 x1.toNatClampNeg)]) i_55_28 ow_55 lm_4_31 ((k_18 hG).trans ow_56.symm) rfl mx_56 rfl rfl hd_55 ?_
      refine Y_al0 i_56_0 ?_
      refine Y_gI (v := (F 18 9)) i_56_1 ow_56 lf_4_28 (by decide) (k_18 hG) rfl ?_
      refine Y_bipush (v := 40) i_56_4 (by decide) ?_
      refine Y_cge i_56_6 (fun e26 => ?_) (fun e26 => ?_)
      · replace h := h.1 e26
        refine Y_al0 i_56_9 ?_
        refine Y_gR i_56_10 ow_56 lf_4_15 (k_18 hG) (r_18_8 hG) ?_
        refine Y_al0 i_56_13 ?_
        refine Y_gI (v := (F 18 9)) i_56_14 ow_56 lf_4_28 (by decide) (k_18 hG) rfl ?_
        refine Y_il1 i_56_17 ?_
        have o27 := h.1
        replace h := h.2
        refine Y_iast i_56_18 (k_20 hG) (l_20 hG) o27 rfl ?_
        refine Y_al0 i_56_19 ?_
        refine Y_dup i_56_20 rfl ?_
        refine Y_gI (v := (F 18 9)) i_56_21 ow_56 lf_4_28 (by decide) (k_18 hG) rfl ?_
        refine Y_iconst (v := 1) i_56_24 (by decide) ?_
        refine Y_iadd i_56_25 ?_
        refine Y_pI i_56_26 ow_56 lf_4_28 (k_18 hG) ?_
        refine Y_vret i_56_29 rt_56 (KKv ?_)
        refine Y_goto i_55_31 ?_
        refine Y_ii1 (v := 1) i_55_95 (by decide) rfl ?_
        refine Y_goto i_55_98 ?_
        exact h
      · replace h := h.2 e26
        refine Y_vret i_56_29 rt_56 (KKv ?_)
        refine Y_goto i_55_31 ?_
        refine Y_ii1 (v := 1) i_55_95 (by decide) rfl ?_
        refine Y_goto i_55_98 ?_
        exact h
  · replace h := h.2 e1
    refine Y_al0 i_55_101 ?_
    refine Y_iv0 (L0 := [.ref 18]) i_55_102 ow_55 lm_4_39 ((k_18 hG).trans ow_57.symm) rfl mx_57 rfl rfl hd_55 ?_
    refine Y_al0 i_57_0 ?_
    refine Y_gI (v := (F 18 9)) i_57_1 ow_57 lf_4_28 (by decide) (k_18 hG) rfl ?_
    refine Y_zgt i_57_4 (fun e28 => ?_) (fun e28 => ?_)
    · replace h := h.1 e28
      refine Y_al0 i_57_9 ?_
      refine Y_dup i_57_10 rfl ?_
      refine Y_gI (v := (F 18 9)) i_57_11 ow_57 lf_4_28 (by decide) (k_18 hG) rfl ?_
      refine Y_iconst (v := 1) i_57_14 (by decide) ?_
      refine Y_isub i_57_15 ?_
      refine Y_pI i_57_16 ow_57 lf_4_28 (k_18 hG) ?_
      refine Y_al0 i_57_19 ?_
      refine Y_gR i_57_20 ow_57 lf_4_15 (k_18 hG) (r_18_8 hG) ?_
      refine Y_al0 i_57_23 ?_
      refine Y_gI (v := ((F 18 9) - 1)) i_57_24 ow_57 lf_4_28 (by decide) (k_18 hG) (by simp [wF, wJ, va_up, cpR, bF, bA]) ?_
      have o29 := h.1
      replace h := h.2
      refine Y_iaload (k := ((F 18 9) - 1).toNatClampNeg) (v := (A 20 ((F 18 9) - 1).toNatClampNeg)) i_57_27 (k_20 hG) (l_20 hG) o29 rfl rfl ?_
      refine Y_iret i_57_28 rt_57 (KKi ?_)
      exact Y_iret i_55_105 rt_55 h
    · replace h := h.2 e28
      refine Y_iconst (v := 0) i_57_7 (by decide) ?_
      refine Y_iret i_57_8 rt_57 (KKi ?_)
      exact Y_iret i_55_105 rt_55 h
/- 56 Rule.push(I)V -/
theorem t_56_0 {d : Nat} {F A : Nat → Nat → Int32} {J : Nat → Nat → Int64} {G : pG} {Q : pR → pM → Prop} {SL p q : Nat} {x1 : Int32} (hG : Geo G SL p q) (h : (((F 18 9) < 40 → inB (F 18 9) 40 = true ∧ (Q (.inl none) ((wF F 18 9 ((F 18 9) + 1)), (wF A 20 (F 18 9).toNatClampNeg x1), J, G))) ∧ (¬ (F 18 9) < 40 → Q (.inl none) (F, A, J, G)))) : X d 56 0 [.ref 18, .int x1] [] (F, A, J, G) Q := by
  refine Y_al0 i_56_0 ?_
  refine Y_gI (v := (F 18 9)) i_56_1 ow_56 lf_4_28 (by decide) (k_18 hG) rfl ?_
  refine Y_bipush (v := 40) i_56_4 (by decide) ?_
  refine Y_cge i_56_6 (fun e1 => ?_) (fun e1 => ?_)
  · replace h := h.1 e1
    refine Y_al0 i_56_9 ?_
    refine Y_gR i_56_10 ow_56 lf_4_15 (k_18 hG) (r_18_8 hG) ?_
    refine Y_al0 i_56_13 ?_
    refine Y_gI (v := (F 18 9)) i_56_14 ow_56 lf_4_28 (by decide) (k_18 hG) rfl ?_
    refine Y_il1 i_56_17 ?_
    have o2 := h.1
    replace h := h.2
    refine Y_iast i_56_18 (k_20 hG) (l_20 hG) o2 rfl ?_
    refine Y_al0 i_56_19 ?_
    refine Y_dup i_56_20 rfl ?_
    refine Y_gI (v := (F 18 9)) i_56_21 ow_56 lf_4_28 (by decide) (k_18 hG) rfl ?_
    refine Y_iconst (v := 1) i_56_24 (by decide) ?_
    refine Y_iadd i_56_25 ?_
    refine Y_pI i_56_26 ow_56 lf_4_28 (k_18 hG) ?_
    exact Y_vret i_56_29 rt_56 h
  · replace h := h.2 e1
    exact Y_vret i_56_29 rt_56 h
/- 57 Rule.pop()I -/
theorem t_57_0 {d : Nat} {F A : Nat → Nat → Int32} {J : Nat → Nat → Int64} {G : pG} {Q : pR → pM → Prop} {SL p q : Nat} (hG : Geo G SL p q) (h : ((0 < (F 18 9) → inB ((F 18 9) - 1) 40 = true ∧ (Q (.inl (some (.int (A 20 ((F 18 9) - 1).toNatClampNeg)))) ((wF F 18 9 ((F 18 9) - 1)), A, J, G))) ∧ (¬ 0 < (F 18 9) → Q (.inl (some (.int 0))) (F, A, J, G)))) : X d 57 0 [.ref 18] [] (F, A, J, G) Q := by
  refine Y_al0 i_57_0 ?_
  refine Y_gI (v := (F 18 9)) i_57_1 ow_57 lf_4_28 (by decide) (k_18 hG) rfl ?_
  refine Y_zgt i_57_4 (fun e1 => ?_) (fun e1 => ?_)
  · replace h := h.1 e1
    refine Y_al0 i_57_9 ?_
    refine Y_dup i_57_10 rfl ?_
    refine Y_gI (v := (F 18 9)) i_57_11 ow_57 lf_4_28 (by decide) (k_18 hG) rfl ?_
    refine Y_iconst (v := 1) i_57_14 (by decide) ?_
    refine Y_isub i_57_15 ?_
    refine Y_pI i_57_16 ow_57 lf_4_28 (k_18 hG) ?_
    refine Y_al0 i_57_19 ?_
    refine Y_gR i_57_20 ow_57 lf_4_15 (k_18 hG) (r_18_8 hG) ?_
    refine Y_al0 i_57_23 ?_
    refine Y_gI (v := ((F 18 9) - 1)) i_57_24 ow_57 lf_4_28 (by decide) (k_18 hG) (by simp [wF, wJ, va_up, cpR, bF, bA]) ?_
    have o2 := h.1
    replace h := h.2
    refine Y_iaload (k := ((F 18 9) - 1).toNatClampNeg) (v := (A 20 ((F 18 9) - 1).toNatClampNeg)) i_57_27 (k_20 hG) (l_20 hG) o2 rfl rfl ?_
    exact Y_iret i_57_28 rt_57 h
  · replace h := h.2 e1
    refine Y_iconst (v := 0) i_57_7 (by decide) ?_
    exact Y_iret i_57_8 rt_57 h
/- 61 State.begin()V -/
theorem t_61_0 {d : Nat} {F A : Nat → Nat → Int32} {J : Nat → Nat → Int64} {G : pG} {Q : pR → pM → Prop} {SL p q : Nat} (hG : Geo G SL p q) (h : X d 75 0 [.ref 27, .null] [] (F, A, J, G) (KK (d + 1) 61 7 [.ref 21] [] Q)) : X (d + 1) 61 0 [.ref 21] [] (F, A, J, G) Q := by
  refine Y_al0 i_61_0 ?_
  refine Y_gR i_61_1 ow_61 lf_5_33 (k_21 hG) (r_21_0 hG) ?_
  exact Y_iv0 (L0 := [.ref 27, .null]) i_61_4 ow_61 lm_5_41 ((k_27 hG).trans ow_75.symm) rfl mx_75 rfl rfl hd_61 h
theorem k_61_7 {d : Nat} {F A : Nat → Nat → Int32} {J : Nat → Nat → Int64} {G : pG} {Q : pR → pM → Prop} {SL p q : Nat} (hG : Geo G SL p q) (h : Q (.inl none) ((wF (wF (wF F 22 0 0) 21 2 0) 21 6 1), A, J, G)) : KK (d + 1) 61 7 [.ref 21] [] Q (.inl none) (F, A, J, G) := by
  refine KKv ?_
  refine Y_al0 i_61_7 ?_
  refine Y_gR i_61_8 ow_61 lf_5_12 (k_21 hG) (r_21_1 hG) ?_
  refine Y_iconst (v := 0) i_61_11 (by decide) ?_
  refine Y_pI i_61_12 ow_61 lf_5_44 (k_22 hG) ?_
  refine Y_al0 i_61_15 ?_
  refine Y_iconst (v := 0) i_61_16 (by decide) ?_
  refine Y_pI i_61_17 ow_61 lf_5_48 (k_21 hG) ?_
  refine Y_al0 i_61_20 ?_
  refine Y_iconst (v := 1) i_61_21 (by decide) ?_
  refine Y_pB i_61_22 ow_61 lf_5_37 (k_21 hG) (by decide) ?_
  exact Y_vret i_61_25 rt_61 h
/- 62 State.become(LTableTower$State;)V -/
theorem t_62a_0 {d : Nat} {F A : Nat → Nat → Int32} {J : Nat → Nat → Int64} {G : pG} {Q : pR → pM → Prop} {SL p q : Nat} (hG : Geo G SL p q) (h : (¬ (0 : Int32) < 0 ∧ ¬ (0 : Int32) < 0 ∧ ¬ ((F 22 0) * 14) < 0 ∧ (0 : Int32).toNatClampNeg + ((F 22 0) * 14).toNatClampNeg ≤ 560 ∧ (0 : Int32).toNatClampNeg + ((F 22 0) * 14).toNatClampNeg ≤ 560) ∧ (Q (.inl none) ((wF (wF (wF (bF F 41 27) 36 0 (F 22 0)) 35 2 (F 21 2)) 35 6 1), (cpR (cpR (cpR (cpR (bA A 41 27) 37 23 0 0 ((F 22 0) * 14).toNatClampNeg) 38 24 0 0 8) 39 25 0 0 8) 40 26 0 0 3), J, G))) : X (d + 1) 62 0 [.ref 35, .ref 21] [] (F, A, J, G) Q := by
  refine Y_al0 i_62_0 ?_
  refine Y_gR i_62_1 ow_62 lf_5_33 (k_35 hG) (r_35_0 hG) ?_
  refine Y_al1 i_62_4 ?_
  refine Y_gR i_62_5 ow_62 lf_5_33 (k_21 hG) (r_21_0 hG) ?_
  refine Y_iv1 (L0 := [.ref 41, .ref 27]) i_62_8 ow_62 lm_5_51 ((k_41 hG).trans ow_76.symm) rfl mx_76 rfl rfl hd_62 ?_
  refine c_76_41_27 hG tw_41 (KKv ?_)
  refine Y_al0 i_62_11 ?_
  refine Y_gR i_62_12 ow_62 lf_5_12 (k_35 hG) (r_35_1 hG) ?_
  refine Y_al1 i_62_15 ?_
  refine Y_gR i_62_16 ow_62 lf_5_12 (k_21 hG) (r_21_1 hG) ?_
  refine Y_iv1 (L0 := [.ref 36, .ref 22]) i_62_19 ow_62 lm_5_55 ((k_36 hG).trans ow_1.symm) rfl mx_1 rfl rfl hd_62 ?_
  refine Y_al0 i_1_0 ?_
  refine Y_al1 i_1_1 ?_
  refine Y_gI (v := (F 22 0)) i_1_2 ow_1 lf_0_15 (by decide) (k_22 hG) (by simp [wF, wJ, va_up, cpR, bF, bA]) ?_
  refine Y_pI i_1_5 ow_1 lf_0_15 (k_36 hG) ?_
  refine Y_al1 i_1_8 ?_
  refine Y_gR i_1_9 ow_1 lf_0_11 (k_22 hG) (r_22_1 hG) ?_
  refine Y_iconst (v := 0) i_1_12 (by decide) ?_
  refine Y_al0 i_1_13 ?_
  refine Y_gR i_1_14 ow_1 lf_0_11 (k_36 hG) (r_36_1 hG) ?_
  refine Y_iconst (v := 0) i_1_17 (by decide) ?_
  refine Y_al0 i_1_18 ?_
  refine Y_gI (v := (F 22 0)) i_1_19 ow_1 lf_0_15 (by decide) (k_36 hG) (by simp [wF, wJ, va_up, cpR, bF, bA]) ?_
  refine Y_bipush (v := 14) i_1_22 (by decide) ?_
  refine Y_imul i_1_24 ?_
  have o1 := h.1
  replace h := h.2
  refine Y_acp (ksp := 0) (kdp := 0) (kn := ((F 22 0) * 14).toNatClampNeg) i_1_25 ow_1 lm_0_19 rfl (k_37 hG) (k_23 hG) (l_37 hG) (l_23 hG) o1 (by decide) (by decide) rfl ?_
  refine Y_vret i_1_28 rt_1 (KKv ?_)
  refine Y_al0 i_62_22 ?_
  refine Y_al1 i_62_23 ?_
  refine Y_gI (v := (F 21 2)) i_62_24 ow_62 lf_5_48 (by decide) (k_21 hG) (by simp [wF, wJ, va_up, cpR, bF, bA]) ?_
  refine Y_pI i_62_27 ow_62 lf_5_48 (k_35 hG) ?_
  refine Y_al1 i_62_30 ?_
  refine Y_gR i_62_31 ow_62 lf_5_18 (k_21 hG) (r_21_3 hG) ?_
  refine Y_iconst (v := 0) i_62_34 (by decide) ?_
  refine Y_al0 i_62_35 ?_
  refine Y_gR i_62_36 ow_62 lf_5_18 (k_35 hG) (r_35_3 hG) ?_
  refine Y_iconst (v := 0) i_62_39 (by decide) ?_
  refine Y_bipush (v := 8) i_62_40 (by decide) ?_
  refine Y_acp (ksp := 0) (kdp := 0) (kn := 8) i_62_42 ow_62 lm_5_58 rfl (k_38 hG) (k_24 hG) (l_38 hG) (l_24 hG) (by decide) (by decide) (by decide) (by decide) ?_
  refine Y_al1 i_62_45 ?_
  refine Y_gR i_62_46 ow_62 lf_5_22 (k_21 hG) (r_21_4 hG) ?_
  refine Y_iconst (v := 0) i_62_49 (by decide) ?_
  refine Y_al0 i_62_50 ?_
  refine Y_gR i_62_51 ow_62 lf_5_22 (k_35 hG) (r_35_4 hG) ?_
  refine Y_iconst (v := 0) i_62_54 (by decide) ?_
  refine Y_bipush (v := 8) i_62_55 (by decide) ?_
  refine Y_acp (ksp := 0) (kdp := 0) (kn := 8) i_62_57 ow_62 lm_5_58 rfl (k_39 hG) (k_25 hG) (l_39 hG) (l_25 hG) (by decide) (by decide) (by decide) (by decide) ?_
  refine Y_al1 i_62_60 ?_
  refine Y_gR i_62_61 ow_62 lf_5_25 (k_21 hG) (r_21_5 hG) ?_
  refine Y_iconst (v := 0) i_62_64 (by decide) ?_
  refine Y_al0 i_62_65 ?_
  refine Y_gR i_62_66 ow_62 lf_5_25 (k_35 hG) (r_35_5 hG) ?_
  refine Y_iconst (v := 0) i_62_69 (by decide) ?_
  refine Y_iconst (v := 3) i_62_70 (by decide) ?_
  refine Y_acp (ksp := 0) (kdp := 0) (kn := 3) i_62_71 ow_62 lm_5_58 rfl (k_40 hG) (k_26 hG) (l_40 hG) (l_26 hG) (by decide) (by decide) (by decide) (by decide) ?_
  refine Y_al0 i_62_74 ?_
  refine Y_iconst (v := 1) i_62_75 (by decide) ?_
  refine Y_pB i_62_76 ow_62 lf_5_37 (k_35 hG) (by decide) ?_
  exact Y_vret i_62_79 rt_62 h
/- 62 State.become(LTableTower$State;)V -/
theorem t_62b_0 {d : Nat} {F A : Nat → Nat → Int32} {J : Nat → Nat → Int64} {G : pG} {Q : pR → pM → Prop} {SL p q : Nat} (hG : Geo G SL p q) (h : (¬ (0 : Int32) < 0 ∧ ¬ (0 : Int32) < 0 ∧ ¬ ((F 36 0) * 14) < 0 ∧ (0 : Int32).toNatClampNeg + ((F 36 0) * 14).toNatClampNeg ≤ 560 ∧ (0 : Int32).toNatClampNeg + ((F 36 0) * 14).toNatClampNeg ≤ 560) ∧ (Q (.inl none) ((wF (wF (wF (bF F 27 41) 22 0 (F 36 0)) 21 2 (F 35 2)) 21 6 1), (cpR (cpR (cpR (cpR (bA A 27 41) 23 37 0 0 ((F 36 0) * 14).toNatClampNeg) 24 38 0 0 8) 25 39 0 0 8) 26 40 0 0 3), J, G))) : X (d + 1) 62 0 [.ref 21, .ref 35] [] (F, A, J, G) Q := by
  refine Y_al0 i_62_0 ?_
  refine Y_gR i_62_1 ow_62 lf_5_33 (k_21 hG) (r_21_0 hG) ?_
  refine Y_al1 i_62_4 ?_
  refine Y_gR i_62_5 ow_62 lf_5_33 (k_35 hG) (r_35_0 hG) ?_
  refine Y_iv1 (L0 := [.ref 27, .ref 41]) i_62_8 ow_62 lm_5_51 ((k_27 hG).trans ow_76.symm) rfl mx_76 rfl rfl hd_62 ?_
  refine c_76_27_41 hG tw_27 (KKv ?_)
  refine Y_al0 i_62_11 ?_
  refine Y_gR i_62_12 ow_62 lf_5_12 (k_21 hG) (r_21_1 hG) ?_
  refine Y_al1 i_62_15 ?_
  refine Y_gR i_62_16 ow_62 lf_5_12 (k_35 hG) (r_35_1 hG) ?_
  refine Y_iv1 (L0 := [.ref 22, .ref 36]) i_62_19 ow_62 lm_5_55 ((k_22 hG).trans ow_1.symm) rfl mx_1 rfl rfl hd_62 ?_
  refine Y_al0 i_1_0 ?_
  refine Y_al1 i_1_1 ?_
  refine Y_gI (v := (F 36 0)) i_1_2 ow_1 lf_0_15 (by decide) (k_36 hG) (by simp [wF, wJ, va_up, cpR, bF, bA]) ?_
  refine Y_pI i_1_5 ow_1 lf_0_15 (k_22 hG) ?_
  refine Y_al1 i_1_8 ?_
  refine Y_gR i_1_9 ow_1 lf_0_11 (k_36 hG) (r_36_1 hG) ?_
  refine Y_iconst (v := 0) i_1_12 (by decide) ?_
  refine Y_al0 i_1_13 ?_
  refine Y_gR i_1_14 ow_1 lf_0_11 (k_22 hG) (r_22_1 hG) ?_
  refine Y_iconst (v := 0) i_1_17 (by decide) ?_
  refine Y_al0 i_1_18 ?_
  refine Y_gI (v := (F 36 0)) i_1_19 ow_1 lf_0_15 (by decide) (k_22 hG) (by simp [wF, wJ, va_up, cpR, bF, bA]) ?_
  refine Y_bipush (v := 14) i_1_22 (by decide) ?_
  refine Y_imul i_1_24 ?_
  have o1 := h.1
  replace h := h.2
  refine Y_acp (ksp := 0) (kdp := 0) (kn := ((F 36 0) * 14).toNatClampNeg) i_1_25 ow_1 lm_0_19 rfl (k_23 hG) (k_37 hG) (l_23 hG) (l_37 hG) o1 (by decide) (by decide) rfl ?_
  refine Y_vret i_1_28 rt_1 (KKv ?_)
  refine Y_al0 i_62_22 ?_
  refine Y_al1 i_62_23 ?_
  refine Y_gI (v := (F 35 2)) i_62_24 ow_62 lf_5_48 (by decide) (k_35 hG) (by simp [wF, wJ, va_up, cpR, bF, bA]) ?_
  refine Y_pI i_62_27 ow_62 lf_5_48 (k_21 hG) ?_
  refine Y_al1 i_62_30 ?_
  refine Y_gR i_62_31 ow_62 lf_5_18 (k_35 hG) (r_35_3 hG) ?_
  refine Y_iconst (v := 0) i_62_34 (by decide) ?_
  refine Y_al0 i_62_35 ?_
  refine Y_gR i_62_36 ow_62 lf_5_18 (k_21 hG) (r_21_3 hG) ?_
  refine Y_iconst (v := 0) i_62_39 (by decide) ?_
  refine Y_bipush (v := 8) i_62_40 (by decide) ?_
  refine Y_acp (ksp := 0) (kdp := 0) (kn := 8) i_62_42 ow_62 lm_5_58 rfl (k_24 hG) (k_38 hG) (l_24 hG) (l_38 hG) (by decide) (by decide) (by decide) (by decide) ?_
  refine Y_al1 i_62_45 ?_
  refine Y_gR i_62_46 ow_62 lf_5_22 (k_35 hG) (r_35_4 hG) ?_
  refine Y_iconst (v := 0) i_62_49 (by decide) ?_
  refine Y_al0 i_62_50 ?_
  refine Y_gR i_62_51 ow_62 lf_5_22 (k_21 hG) (r_21_4 hG) ?_
  refine Y_iconst (v := 0) i_62_54 (by decide) ?_
  refine Y_bipush (v := 8) i_62_55 (by decide) ?_
  refine Y_acp (ksp := 0) (kdp := 0) (kn := 8) i_62_57 ow_62 lm_5_58 rfl (k_25 hG) (k_39 hG) (l_25 hG) (l_39 hG) (by decide) (by decide) (by decide) (by decide) ?_
  refine Y_al1 i_62_60 ?_
  refine Y_gR i_62_61 ow_62 lf_5_25 (k_35 hG) (r_35_5 hG) ?_
  refine Y_iconst (v := 0) i_62_64 (by decide) ?_
  refine Y_al0 i_62_65 ?_
  refine Y_gR i_62_66 ow_62 lf_5_25 (k_21 hG) (r_21_5 hG) ?_
  refine Y_iconst (v := 0) i_62_69 (by decide) ?_
  refine Y_iconst (v := 3) i_62_70 (by decide) ?_
  refine Y_acp (ksp := 0) (kdp := 0) (kn := 3) i_62_71 ow_62 lm_5_58 rfl (k_26 hG) (k_40 hG) (l_26 hG) (l_40 hG) (by decide) (by decide) (by decide) (by decide) ?_
  refine Y_al0 i_62_74 ?_
  refine Y_iconst (v := 1) i_62_75 (by decide) ?_
  refine Y_pB i_62_76 ow_62 lf_5_37 (k_21 hG) (by decide) ?_
  exact Y_vret i_62_79 rt_62 h
/- 63 State.refuse(I)I -/
theorem t_63_0 {d : Nat} {F A : Nat → Nat → Int32} {J : Nat → Nat → Int64} {G : pG} {Q : pR → pM → Prop} {SL p q : Nat} {x1 : Int32} (hG : Geo G SL p q) (h : inB x1 3 = true ∧ (Q (.inl (some (.int (-1)))) (F, (wF A 26 x1.toNatClampNeg ((A 26 x1.toNatClampNeg) + 1)), J, G))) : X d 63 0 [.ref 21, .int x1] [] (F, A, J, G) Q := by
  refine Y_al0 i_63_0 ?_
  refine Y_gR i_63_1 ow_63 lf_5_25 (k_21 hG) (r_21_5 hG) ?_
  refine Y_il1 i_63_4 ?_
  refine Y_dup2 i_63_5 rfl rfl ?_
  have o1 := h.1
  replace h := h.2
  refine Y_iaload (k := x1.toNatClampNeg) (v := (A 26 x1.toNatClampNeg)) i_63_6 (k_26 hG) (l_26 hG) o1 rfl rfl ?_
  refine Y_iconst (v := 1) i_63_7 (by decide) ?_
  refine Y_iadd i_63_8 ?_
  refine Y_iast i_63_9 (k_26 hG) (l_26 hG) o1 rfl ?_
  refine Y_iconst (v := (-1)) i_63_10 (by decide) ?_
  exact Y_iret i_63_11 rt_63 h
end Tr14b
