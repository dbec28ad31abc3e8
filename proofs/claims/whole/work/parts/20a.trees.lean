section Tr20a
/- 64 State.putOn(II)I -/
theorem t_64n_0 {d : Nat} {F A : Nat → Nat → Int32} {J : Nat → Nat → Int64} {G : pG} {Q : pR → pM → Prop} {SL p q : Nat} {x1 x2 : Int32} (hG : Geo G SL p q) (h : hB (F 27 1) = true ∧ (((lvI (A 28) (F 27 1) x1) = (-1) → ((x2 < 0 → X (d + 1) 63 0 [.ref 21, .int 1] [] (F, A, J, G) (KK (d + 2) 64 32 [.ref 21, .int x1, .int x2] [] Q)) ∧ (¬ x2 < 0 → (((F 27 1) < x2 → X (d + 1) 63 0 [.ref 21, .int 1] [] (F, A, J, G) (KK (d + 2) 64 32 [.ref 21, .int x1, .int x2] [] Q)) ∧ (¬ (F 27 1) < x2 → X (d + 1) 79 0 [.ref 27, .int x1, .int x2, .null] [] (F, A, J, G) (KK (d + 2) 64 42 [.ref 21, .int x1, .int x2] [] Q)))))) ∧ (¬ (lvI (A 28) (F 27 1) x1) = (-1) → X (d + 1) 63 0 [.ref 21, .int 1] [] (F, A, J, G) (KK (d + 2) 64 32 [.ref 21, .int x1, .int x2] [] Q)))) : X (d + 2) 64 0 [.ref 21, .int x1, .int x2] [] (F, A, J, G) Q := by
  refine Y_al0 i_64_0 ?_
  refine Y_gR i_64_1 ow_64 lf_5_33 (k_21 hG) (r_21_0 hG) ?_
  refine Y_il1 i_64_4 ?_
  have o1 := h.1
  replace h := h.2
  refine Y_iv1 (L0 := [.ref 27, .int x1, .null]) i_64_5 ow_64 lm_5_64 ((k_27 hG).trans ow_77.symm) rfl mx_77 rfl rfl hd_64 ?_
  refine c_77 hG tw_27 o1 (KKi' (v' := (lvI (A 28) (F 27 1) x1)) (by simp [wF, wJ, va_up, cpR, bF, bA]) ?_)
  refine Y_iconst (v := (-1)) i_64_8 (by decide) ?_
  refine Y_cne i_64_9 (fun e2 => ?_) (fun e2 => ?_)
  · replace h := h.1 e2
    refine Y_il2 i_64_12 ?_
    refine Y_zlt i_64_13 (fun e3 => ?_) (fun e3 => ?_)
    · replace h := h.1 e3
      refine Y_al0 i_64_27 ?_
      refine Y_iconst (v := 1) i_64_28 (by decide) ?_
      exact Y_iv1 (L0 := [.ref 21, .int 1]) i_64_29 ow_64 lm_5_71 ((k_21 hG).trans ow_63.symm) rfl mx_63 rfl rfl hd_64 h
    · replace h := h.2 e3
      refine Y_il2 i_64_16 ?_
      refine Y_al0 i_64_17 ?_
      refine Y_gR i_64_18 ow_64 lf_5_33 (k_21 hG) (r_21_0 hG) ?_
      refine Y_gI (v := (F 27 1)) i_64_21 ow_64 lf_5_68 (by decide) (k_27 hG) rfl ?_
      refine Y_cle i_64_24 (fun e4 => ?_) (fun e4 => ?_)
      · replace h := h.1 e4
        refine Y_al0 i_64_27 ?_
        refine Y_iconst (v := 1) i_64_28 (by decide) ?_
        exact Y_iv1 (L0 := [.ref 21, .int 1]) i_64_29 ow_64 lm_5_71 ((k_21 hG).trans ow_63.symm) rfl mx_63 rfl rfl hd_64 h
      · replace h := h.2 e4
        refine Y_al0 i_64_33 ?_
        refine Y_gR i_64_34 ow_64 lf_5_33 (k_21 hG) (r_21_0 hG) ?_
        refine Y_il1 i_64_37 ?_
        refine Y_il2 i_64_38 ?_
        exact Y_iv2 (L0 := [.ref 27, .int x1, .int x2, .null]) i_64_39 ow_64 lm_5_74 ((k_27 hG).trans ow_79.symm) rfl mx_79 rfl rfl hd_64 h
  · replace h := h.2 e2
    refine Y_al0 i_64_27 ?_
    refine Y_iconst (v := 1) i_64_28 (by decide) ?_
    exact Y_iv1 (L0 := [.ref 21, .int 1]) i_64_29 ow_64 lm_5_71 ((k_21 hG).trans ow_63.symm) rfl mx_63 rfl rfl hd_64 h
theorem k_64n_32 {d : Nat} {F A : Nat → Nat → Int32} {J : Nat → Nat → Int64} {G : pG} {Q : pR → pM → Prop} {SL p q : Nat} {x1 x2 r : Int32} (hG : Geo G SL p q) (h : Q (.inl (some (.int r))) (F, A, J, G)) : KK (d + 2) 64 32 [.ref 21, .int x1, .int x2] [] Q (.inl (some (.int r))) (F, A, J, G) := by
  refine KKi ?_
  exact Y_iret i_64_32 rt_64 h
theorem k_64n_42 {d : Nat} {F A : Nat → Nat → Int32} {J : Nat → Nat → Int64} {G : pG} {Q : pR → pM → Prop} {SL p q : Nat} {x1 x2 : Int32} (hG : Geo G SL p q) (h : X (d + 1) 73 0 [.ref 21, .int 0, .int x2, .int 0, .int 0] [] (F, A, J, G) (KK (d + 2) 64 50 [.ref 21, .int x1, .int x2] [] Q)) : KK (d + 2) 64 42 [.ref 21, .int x1, .int x2] [] Q (.inl none) (F, A, J, G) := by
  refine KKv ?_
  refine Y_al0 i_64_42 ?_
  refine Y_iconst (v := 0) i_64_43 (by decide) ?_
  refine Y_il2 i_64_44 ?_
  refine Y_iconst (v := 0) i_64_45 (by decide) ?_
  refine Y_iconst (v := 0) i_64_46 (by decide) ?_
  exact Y_iv4 (L0 := [.ref 21, .int 0, .int x2, .int 0, .int 0]) i_64_47 ow_64 lm_5_78 ((k_21 hG).trans ow_73.symm) rfl mx_73 rfl rfl hd_64 h
theorem k_64n_50 {d : Nat} {F A : Nat → Nat → Int32} {J : Nat → Nat → Int64} {G : pG} {Q : pR → pM → Prop} {SL p q : Nat} {x1 x2 : Int32} (hG : Geo G SL p q) (h : Q (.inl (some (.int (F 27 1)))) (F, A, J, G)) : KK (d + 2) 64 50 [.ref 21, .int x1, .int x2] [] Q (.inl none) (F, A, J, G) := by
  refine KKv ?_
  refine Y_al0 i_64_50 ?_
  refine Y_gR i_64_51 ow_64 lf_5_33 (k_21 hG) (r_21_0 hG) ?_
  refine Y_gI (v := (F 27 1)) i_64_54 ow_64 lf_5_68 (by decide) (k_27 hG) rfl ?_
  exact Y_iret i_64_57 rt_64 h
/- 65 State.takeOff(I)I -/
theorem t_65n_0 {d : Nat} {F A : Nat → Nat → Int32} {J : Nat → Nat → Int64} {G : pG} {Q : pR → pM → Prop} {SL p q : Nat} {x1 : Int32} (hG : Geo G SL p q) (h : hB (F 27 1) = true ∧ (((lvI (A 28) (F 27 1) x1) = (-1) → X (d + 1) 63 0 [.ref 21, .int 1] [] (F, A, J, G) (KK (d + 2) 65 19 [.ref 21, .int x1, .int (lvI (A 28) (F 27 1) x1)] [] Q)) ∧ (¬ (lvI (A 28) (F 27 1) x1) = (-1) → inB x1 10 = true ∧ (X (d + 1) 73 0 [.ref 21, .int 1, .int x1, .int (lvI (A 28) (F 27 1) x1), .int (A 29 x1.toNatClampNeg)] [] (F, A, J, G) (KK (d + 2) 65 36 [.ref 21, .int x1, .int (lvI (A 28) (F 27 1) x1)] [] Q))))) : X (d + 2) 65 0 [.ref 21, .int x1, .null] [] (F, A, J, G) Q := by
  refine Y_al0 i_65_0 ?_
  refine Y_gR i_65_1 ow_65 lf_5_33 (k_21 hG) (r_21_0 hG) ?_
  refine Y_il1 i_65_4 ?_
  have o1 := h.1
  replace h := h.2
  refine Y_iv1 (L0 := [.ref 27, .int x1, .null]) i_65_5 ow_65 lm_5_64 ((k_27 hG).trans ow_77.symm) rfl mx_77 rfl rfl hd_65 ?_
  refine c_77 hG tw_27 o1 (KKi' (v' := (lvI (A 28) (F 27 1) x1)) (by simp [wF, wJ, va_up, cpR, bF, bA]) ?_)
  refine Y_is2 i_65_8 rfl ?_
  refine Y_il2 i_65_9 ?_
  refine Y_iconst (v := (-1)) i_65_10 (by decide) ?_
  refine Y_cne i_65_11 (fun e2 => ?_) (fun e2 => ?_)
  · replace h := h.1 e2
    refine Y_al0 i_65_14 ?_
    refine Y_iconst (v := 1) i_65_15 (by decide) ?_
    exact Y_iv1 (L0 := [.ref 21, .int 1]) i_65_16 ow_65 lm_5_71 ((k_21 hG).trans ow_63.symm) rfl mx_63 rfl rfl hd_65 h
  · replace h := h.2 e2
    refine Y_al0 i_65_20 ?_
    refine Y_iconst (v := 1) i_65_21 (by decide) ?_
    refine Y_il1 i_65_22 ?_
    refine Y_il2 i_65_23 ?_
    refine Y_al0 i_65_24 ?_
    refine Y_gR i_65_25 ow_65 lf_5_33 (k_21 hG) (r_21_0 hG) ?_
    refine Y_gR i_65_28 ow_65 lf_5_82 (k_27 hG) (r_27_5 hG) ?_
    refine Y_il1 i_65_31 ?_
    have o3 := h.1
    replace h := h.2
    refine Y_iaload (k := x1.toNatClampNeg) (v := (A 29 x1.toNatClampNeg)) i_65_32 (k_29 hG) (l_29 hG) o3 rfl rfl ?_
    exact Y_iv4 (L0 := [.ref 21, .int 1, .int x1, .int (lvI (A 28) (F 27 1) x1), .int (A 29 x1.toNatClampNeg)]) i_65_33 ow_65 lm_5_78 ((k_21 hG).trans ow_73.symm) rfl mx_73 rfl rfl hd_65 h
theorem k_65n_19 {d : Nat} {F A : Nat → Nat → Int32} {J : Nat → Nat → Int64} {G : pG} {Q : pR → pM → Prop} {SL p q : Nat} {x1 x2 r : Int32} (hG : Geo G SL p q) (h : Q (.inl (some (.int r))) (F, A, J, G)) : KK (d + 2) 65 19 [.ref 21, .int x1, .int x2] [] Q (.inl (some (.int r))) (F, A, J, G) := by
  refine KKi ?_
  exact Y_iret i_65_19 rt_65 h
theorem k_65n_36 {d : Nat} {F A : Nat → Nat → Int32} {J : Nat → Nat → Int64} {G : pG} {Q : pR → pM → Prop} {SL p q : Nat} {x1 x2 : Int32} (hG : Geo G SL p q) (h : X (d + 1) 80 0 [.ref 27, .int x2, .null] [] (F, A, J, G) (KK (d + 2) 65 44 [.ref 21, .int x1, .int x2] [] Q)) : KK (d + 2) 65 36 [.ref 21, .int x1, .int x2] [] Q (.inl none) (F, A, J, G) := by
  refine KKv ?_
  refine Y_al0 i_65_36 ?_
  refine Y_gR i_65_37 ow_65 lf_5_33 (k_21 hG) (r_21_0 hG) ?_
  refine Y_il2 i_65_40 ?_
  exact Y_iv1 (L0 := [.ref 27, .int x2, .null]) i_65_41 ow_65 lm_5_85 ((k_27 hG).trans ow_80.symm) rfl mx_80 rfl rfl hd_65 h
theorem k_65n_44 {d : Nat} {F A : Nat → Nat → Int32} {J : Nat → Nat → Int64} {G : pG} {Q : pR → pM → Prop} {SL p q : Nat} {x1 x2 : Int32} (hG : Geo G SL p q) (h : inB x1 10 = true ∧ (Q (.inl (some (.int x2))) (F, (wF A 29 x1.toNatClampNeg 0), J, G))) : KK (d + 2) 65 44 [.ref 21, .int x1, .int x2] [] Q (.inl none) (F, A, J, G) := by
  refine KKv ?_
  refine Y_al0 i_65_44 ?_
  refine Y_gR i_65_45 ow_65 lf_5_33 (k_21 hG) (r_21_0 hG) ?_
  refine Y_gR i_65_48 ow_65 lf_5_82 (k_27 hG) (r_27_5 hG) ?_
  refine Y_il1 i_65_51 ?_
  refine Y_iconst (v := 0) i_65_52 (by decide) ?_
  have o1 := h.1
  replace h := h.2
  refine Y_iast i_65_53 (k_29 hG) (l_29 hG) o1 rfl ?_
  refine Y_il2 i_65_54 ?_
  exact Y_iret i_65_55 rt_65 h
/- 66 State.changeLevels(II)Z -/
theorem t_66n_0 {d : Nat} {F A : Nat → Nat → Int32} {J : Nat → Nat → Int64} {G : pG} {Q : pR → pM → Prop} {SL p q : Nat} {x1 x2 : Int32} (hG : Geo G SL p q) (h : ((x1 = x2 → X (d + 1) 63 0 [.ref 21, .int 1] [] (F, A, J, G) (KK (d + 2) 66 10 [.ref 21, .int x1, .int x2] [] Q)) ∧ (¬ x1 = x2 → X (d + 1) 81 0 [.ref 27, .int x1, .int x2, .null] [] (F, A, J, G) (KK (d + 2) 66 22 [.ref 21, .int x1, .int x2] [] Q)))) : X (d + 2) 66 0 [.ref 21, .int x1, .int x2] [] (F, A, J, G) Q := by
  refine Y_il1 i_66_0 ?_
  refine Y_il2 i_66_1 ?_
  refine Y_cne i_66_2 (fun e1 => ?_) (fun e1 => ?_)
  · replace h := h.1 e1
    refine Y_al0 i_66_5 ?_
    refine Y_iconst (v := 1) i_66_6 (by decide) ?_
    exact Y_iv1 (L0 := [.ref 21, .int 1]) i_66_7 ow_66 lm_5_71 ((k_21 hG).trans ow_63.symm) rfl mx_63 rfl rfl hd_66 h
  · replace h := h.2 e1
    refine Y_al0 i_66_13 ?_
    refine Y_gR i_66_14 ow_66 lf_5_33 (k_21 hG) (r_21_0 hG) ?_
    refine Y_il1 i_66_17 ?_
    refine Y_il2 i_66_18 ?_
    exact Y_iv2 (L0 := [.ref 27, .int x1, .int x2, .null]) i_66_19 ow_66 lm_5_89 ((k_27 hG).trans ow_81.symm) rfl mx_81 rfl rfl hd_66 h
theorem k_66n_10 {d : Nat} {F A : Nat → Nat → Int32} {J : Nat → Nat → Int64} {G : pG} {Q : pR → pM → Prop} {SL p q : Nat} {x1 x2 r : Int32} (hG : Geo G SL p q) (h : Q (.inl (some (.int 0))) (F, A, J, G)) : KK (d + 2) 66 10 [.ref 21, .int x1, .int x2] [] Q (.inl (some (.int r))) (F, A, J, G) := by
  refine KKi ?_
  refine Y_pop i_66_10 rfl ?_
  refine Y_iconst (v := 0) i_66_11 (by decide) ?_
  exact Y_bret i_66_12 rt_66 (by decide) h
theorem k_66n_22 {d : Nat} {F A : Nat → Nat → Int32} {J : Nat → Nat → Int64} {G : pG} {Q : pR → pM → Prop} {SL p q : Nat} {x1 x2 : Int32} (hG : Geo G SL p q) (h : X (d + 1) 73 0 [.ref 21, .int 2, .int x1, .int x2, .int 0] [] (F, A, J, G) (KK (d + 2) 66 30 [.ref 21, .int x1, .int x2] [] Q)) : KK (d + 2) 66 22 [.ref 21, .int x1, .int x2] [] Q (.inl none) (F, A, J, G) := by
  refine KKv ?_
  refine Y_al0 i_66_22 ?_
  refine Y_iconst (v := 2) i_66_23 (by decide) ?_
  refine Y_il1 i_66_24 ?_
  refine Y_il2 i_66_25 ?_
  refine Y_iconst (v := 0) i_66_26 (by decide) ?_
  exact Y_iv4 (L0 := [.ref 21, .int 2, .int x1, .int x2, .int 0]) i_66_27 ow_66 lm_5_78 ((k_21 hG).trans ow_73.symm) rfl mx_73 rfl rfl hd_66 h
theorem k_66n_30 {d : Nat} {F A : Nat → Nat → Int32} {J : Nat → Nat → Int64} {G : pG} {Q : pR → pM → Prop} {SL p q : Nat} {x1 x2 : Int32} (hG : Geo G SL p q) (h : Q (.inl (some (.int 1))) (F, A, J, G)) : KK (d + 2) 66 30 [.ref 21, .int x1, .int x2] [] Q (.inl none) (F, A, J, G) := by
  refine KKv ?_
  refine Y_iconst (v := 1) i_66_30 (by decide) ?_
  exact Y_bret i_66_31 rt_66 (by decide) h
/- 67 State.setWedge(II)I -/
theorem t_67n_0 {d : Nat} {F A : Nat → Nat → Int32} {J : Nat → Nat → Int64} {G : pG} {Q : pR → pM → Prop} {SL p q : Nat} {x1 x2 : Int32} (hG : Geo G SL p q) (h : ((x2 < (-9) → X (d + 1) 63 0 [.ref 21, .int 1] [] (F, A, J, G) (KK (d + 2) 67 17 [.ref 21, .int x1, .int x2, .null] [] Q)) ∧ (¬ x2 < (-9) → ((9 < x2 → X (d + 1) 63 0 [.ref 21, .int 1] [] (F, A, J, G) (KK (d + 2) 67 17 [.ref 21, .int x1, .int x2, .null] [] Q)) ∧ (¬ 9 < x2 → inB x1 10 = true ∧ (X (d + 1) 73 0 [.ref 21, .int 3, .int x1, .int (A 30 x1.toNatClampNeg), .int 0] [] (F, (wF A 30 x1.toNatClampNeg x2), J, G) (KK (d + 2) 67 49 [.ref 21, .int x1, .int x2, .int (A 30 x1.toNatClampNeg)] [] Q))))))) : X (d + 2) 67 0 [.ref 21, .int x1, .int x2, .null] [] (F, A, J, G) Q := by
  refine Y_il2 i_67_0 ?_
  refine Y_bipush (v := (-9)) i_67_1 (by decide) ?_
  refine Y_clt i_67_3 (fun e1 => ?_) (fun e1 => ?_)
  · replace h := h.1 e1
    refine Y_al0 i_67_12 ?_
    refine Y_iconst (v := 1) i_67_13 (by decide) ?_
    exact Y_iv1 (L0 := [.ref 21, .int 1]) i_67_14 ow_67 lm_5_71 ((k_21 hG).trans ow_63.symm) rfl mx_63 rfl rfl hd_67 h
  · replace h := h.2 e1
    refine Y_il2 i_67_6 ?_
    refine Y_bipush (v := 9) i_67_7 (by decide) ?_
    refine Y_cle i_67_9 (fun e2 => ?_) (fun e2 => ?_)
    · replace h := h.1 e2
      refine Y_al0 i_67_12 ?_
      refine Y_iconst (v := 1) i_67_13 (by decide) ?_
      exact Y_iv1 (L0 := [.ref 21, .int 1]) i_67_14 ow_67 lm_5_71 ((k_21 hG).trans ow_63.symm) rfl mx_63 rfl rfl hd_67 h
    · replace h := h.2 e2
      refine Y_al0 i_67_21 ?_
      refine Y_gR i_67_22 ow_67 lf_5_33 (k_21 hG) (r_21_0 hG) ?_
      refine Y_gR i_67_25 ow_67 lf_5_92 (k_27 hG) (r_27_6 hG) ?_
      refine Y_il1 i_67_28 ?_
      have o3 := h.1
      replace h := h.2
      refine Y_iaload (k := x1.toNatClampNeg) (v := (A 30 x1.toNatClampNeg)) i_67_29 (k_30 hG) (l_30 hG) o3 rfl rfl ?_
      refine Y_is3 i_67_30 rfl ?_
      refine Y_al0 i_67_31 ?_
      refine Y_gR i_67_32 ow_67 lf_5_33 (k_21 hG) (r_21_0 hG) ?_
      refine Y_gR i_67_35 ow_67 lf_5_92 (k_27 hG) (r_27_6 hG) ?_
      refine Y_il1 i_67_38 ?_
      refine Y_il2 i_67_39 ?_
      refine Y_iast i_67_40 (k_30 hG) (l_30 hG) o3 rfl ?_
      refine Y_al0 i_67_41 ?_
      refine Y_iconst (v := 3) i_67_42 (by decide) ?_
      refine Y_il1 i_67_43 ?_
      refine Y_il3 i_67_44 ?_
      refine Y_iconst (v := 0) i_67_45 (by decide) ?_
      exact Y_iv4 (L0 := [.ref 21, .int 3, .int x1, .int (A 30 x1.toNatClampNeg), .int 0]) i_67_46 ow_67 lm_5_78 ((k_21 hG).trans ow_73.symm) rfl mx_73 rfl rfl hd_67 h
theorem k_67n_17 {d : Nat} {F A : Nat → Nat → Int32} {J : Nat → Nat → Int64} {G : pG} {Q : pR → pM → Prop} {SL p q : Nat} {x1 x2 r : Int32} (hG : Geo G SL p q) (h : Q (.inl (some (.int (-99)))) (F, A, J, G)) : KK (d + 2) 67 17 [.ref 21, .int x1, .int x2, .null] [] Q (.inl (some (.int r))) (F, A, J, G) := by
  refine KKi ?_
  refine Y_pop i_67_17 rfl ?_
  refine Y_bipush (v := (-99)) i_67_18 (by decide) ?_
  exact Y_iret i_67_20 rt_67 h
theorem k_67n_49 {d : Nat} {F A : Nat → Nat → Int32} {J : Nat → Nat → Int64} {G : pG} {Q : pR → pM → Prop} {SL p q : Nat} {x1 x2 x3 : Int32} (hG : Geo G SL p q) (h : Q (.inl (some (.int x3))) (F, A, J, G)) : KK (d + 2) 67 49 [.ref 21, .int x1, .int x2, .int x3] [] Q (.inl none) (F, A, J, G) := by
  refine KKv ?_
  refine Y_il3 i_67_49 ?_
  exact Y_iret i_67_50 rt_67 h
/- 68 State.setLean(II)I -/
theorem t_68n_0 {d : Nat} {F A : Nat → Nat → Int32} {J : Nat → Nat → Int64} {G : pG} {Q : pR → pM → Prop} {SL p q : Nat} {x1 x2 : Int32} (hG : Geo G SL p q) (h : ((x2 < (-9) → X (d + 1) 63 0 [.ref 21, .int 1] [] (F, A, J, G) (KK (d + 2) 68 17 [.ref 21, .int x1, .int x2, .null] [] Q)) ∧ (¬ x2 < (-9) → ((9 < x2 → X (d + 1) 63 0 [.ref 21, .int 1] [] (F, A, J, G) (KK (d + 2) 68 17 [.ref 21, .int x1, .int x2, .null] [] Q)) ∧ (¬ 9 < x2 → inB x1 10 = true ∧ (X (d + 1) 73 0 [.ref 21, .int 4, .int x1, .int (A 31 x1.toNatClampNeg), .int 0] [] (F, (wF A 31 x1.toNatClampNeg x2), J, G) (KK (d + 2) 68 49 [.ref 21, .int x1, .int x2, .int (A 31 x1.toNatClampNeg)] [] Q))))))) : X (d + 2) 68 0 [.ref 21, .int x1, .int x2, .null] [] (F, A, J, G) Q := by
  refine Y_il2 i_68_0 ?_
  refine Y_bipush (v := (-9)) i_68_1 (by decide) ?_
  refine Y_clt i_68_3 (fun e1 => ?_) (fun e1 => ?_)
  · replace h := h.1 e1
    refine Y_al0 i_68_12 ?_
    refine Y_iconst (v := 1) i_68_13 (by decide) ?_
    exact Y_iv1 (L0 := [.ref 21, .int 1]) i_68_14 ow_68 lm_5_71 ((k_21 hG).trans ow_63.symm) rfl mx_63 rfl rfl hd_68 h
  · replace h := h.2 e1
    refine Y_il2 i_68_6 ?_
    refine Y_bipush (v := 9) i_68_7 (by decide) ?_
    refine Y_cle i_68_9 (fun e2 => ?_) (fun e2 => ?_)
    · replace h := h.1 e2
      refine Y_al0 i_68_12 ?_
      refine Y_iconst (v := 1) i_68_13 (by decide) ?_
      exact Y_iv1 (L0 := [.ref 21, .int 1]) i_68_14 ow_68 lm_5_71 ((k_21 hG).trans ow_63.symm) rfl mx_63 rfl rfl hd_68 h
    · replace h := h.2 e2
      refine Y_al0 i_68_21 ?_
      refine Y_gR i_68_22 ow_68 lf_5_33 (k_21 hG) (r_21_0 hG) ?_
      refine Y_gR i_68_25 ow_68 lf_5_95 (k_27 hG) (r_27_7 hG) ?_
      refine Y_il1 i_68_28 ?_
      have o3 := h.1
      replace h := h.2
      refine Y_iaload (k := x1.toNatClampNeg) (v := (A 31 x1.toNatClampNeg)) i_68_29 (k_31 hG) (l_31 hG) o3 rfl rfl ?_
      refine Y_is3 i_68_30 rfl ?_
      refine Y_al0 i_68_31 ?_
      refine Y_gR i_68_32 ow_68 lf_5_33 (k_21 hG) (r_21_0 hG) ?_
      refine Y_gR i_68_35 ow_68 lf_5_95 (k_27 hG) (r_27_7 hG) ?_
      refine Y_il1 i_68_38 ?_
      refine Y_il2 i_68_39 ?_
      refine Y_iast i_68_40 (k_31 hG) (l_31 hG) o3 rfl ?_
      refine Y_al0 i_68_41 ?_
      refine Y_iconst (v := 4) i_68_42 (by decide) ?_
      refine Y_il1 i_68_43 ?_
      refine Y_il3 i_68_44 ?_
      refine Y_iconst (v := 0) i_68_45 (by decide) ?_
      exact Y_iv4 (L0 := [.ref 21, .int 4, .int x1, .int (A 31 x1.toNatClampNeg), .int 0]) i_68_46 ow_68 lm_5_78 ((k_21 hG).trans ow_73.symm) rfl mx_73 rfl rfl hd_68 h
theorem k_68n_17 {d : Nat} {F A : Nat → Nat → Int32} {J : Nat → Nat → Int64} {G : pG} {Q : pR → pM → Prop} {SL p q : Nat} {x1 x2 r : Int32} (hG : Geo G SL p q) (h : Q (.inl (some (.int (-99)))) (F, A, J, G)) : KK (d + 2) 68 17 [.ref 21, .int x1, .int x2, .null] [] Q (.inl (some (.int r))) (F, A, J, G) := by
  refine KKi ?_
  refine Y_pop i_68_17 rfl ?_
  refine Y_bipush (v := (-99)) i_68_18 (by decide) ?_
  exact Y_iret i_68_20 rt_68 h
theorem k_68n_49 {d : Nat} {F A : Nat → Nat → Int32} {J : Nat → Nat → Int64} {G : pG} {Q : pR → pM → Prop} {SL p q : Nat} {x1 x2 x3 : Int32} (hG : Geo G SL p q) (h : Q (.inl (some (.int x3))) (F, A, J, G)) : KK (d + 2) 68 49 [.ref 21, .int x1, .int x2, .int x3] [] Q (.inl none) (F, A, J, G) := by
  refine KKv ?_
  refine Y_il3 i_68_49 ?_
  exact Y_iret i_68_50 rt_68 h
/- 69 State.eat(I)I -/
theorem t_69n_0 {d : Nat} {F A : Nat → Nat → Int32} {J : Nat → Nat → Int64} {G : pG} {Q : pR → pM → Prop} {SL p q : Nat} {x1 : Int32} (hG : Geo G SL p q) (h : X (d + 3) 3 0 [.ref 22, .ref 27] [] (F, A, J, G) (KK (d + 4) 69 11 [.ref 21, .int x1] [] Q)) : X (d + 4) 69 0 [.ref 21, .int x1] [] (F, A, J, G) Q := by
  refine Y_al0 i_69_0 ?_
  refine Y_gR i_69_1 ow_69 lf_5_12 (k_21 hG) (r_21_1 hG) ?_
  refine Y_al0 i_69_4 ?_
  refine Y_gR i_69_5 ow_69 lf_5_33 (k_21 hG) (r_21_0 hG) ?_
  exact Y_iv1 (L0 := [.ref 22, .ref 27]) i_69_8 ow_69 lm_5_98 ((k_22 hG).trans ow_3.symm) rfl mx_3 rfl rfl hd_69 h
theorem k_69n_11 {d : Nat} {F A : Nat → Nat → Int32} {J : Nat → Nat → Int64} {G : pG} {Q : pR → pM → Prop} {SL p q : Nat} {x1 : Int32} (hG : Geo G SL p q) (h : X (d + 3) 90 0 [.ref 27, .int x1, .null, .null, .null] [] ((wF F 21 6 1), A, J, G) (KK (d + 4) 69 28 [.ref 21, .int x1] [.ref 27] Q)) : KK (d + 4) 69 11 [.ref 21, .int x1] [] Q (.inl none) (F, A, J, G) := by
  refine KKv ?_
  refine Y_al0 i_69_11 ?_
  refine Y_iconst (v := 1) i_69_12 (by decide) ?_
  refine Y_pB i_69_13 ow_69 lf_5_37 (k_21 hG) (by decide) ?_
  refine Y_al0 i_69_16 ?_
  refine Y_gR i_69_17 ow_69 lf_5_33 (k_21 hG) (r_21_0 hG) ?_
  refine Y_al0 i_69_20 ?_
  refine Y_gR i_69_21 ow_69 lf_5_33 (k_21 hG) (r_21_0 hG) ?_
  refine Y_il1 i_69_24 ?_
  exact Y_iv1 (L0 := [.ref 27, .int x1, .null, .null, .null]) i_69_25 ow_69 lm_5_101 ((k_27 hG).trans ow_90.symm) rfl mx_90 rfl rfl hd_69 h
theorem k_69n_28 {d : Nat} {F A : Nat → Nat → Int32} {J : Nat → Nat → Int64} {G : pG} {Q : pR → pM → Prop} {SL p q : Nat} {x1 r : Int32} (hG : Geo G SL p q) (h : Q (.inl (some (.int r))) ((wF F 27 3 r), A, J, G)) : KK (d + 4) 69 28 [.ref 21, .int x1] [.ref 27] Q (.inl (some (.int r))) (F, A, J, G) := by
  refine KKi ?_
  refine Y_pI i_69_28 ow_69 lf_5_104 (k_27 hG) ?_
  refine Y_al0 i_69_31 ?_
  refine Y_gR i_69_32 ow_69 lf_5_33 (k_21 hG) (r_21_0 hG) ?_
  refine Y_gI (v := r) i_69_35 ow_69 lf_5_104 (by decide) (k_27 hG) (by simp [wF, wJ, va_up, cpR, bF, bA]) ?_
  exact Y_iret i_69_38 rt_69 h
/- 70 State.age(I)I -/
theorem t_70n_0 {d : Nat} {F A : Nat → Nat → Int32} {J : Nat → Nat → Int64} {G : pG} {Q : pR → pM → Prop} {SL p q : Nat} {x1 : Int32} (hG : Geo G SL p q) (h : ((x1 < 1 → X (d + 1) 63 0 [.ref 21, .int 1] [] (F, A, J, G) (KK (d + 2) 70 31 [.ref 21, .int x1] [] Q)) ∧ (¬ x1 < 1 → ((30 < x1 → X (d + 1) 63 0 [.ref 21, .int 1] [] (F, A, J, G) (KK (d + 2) 70 31 [.ref 21, .int x1] [] Q)) ∧ (¬ 30 < x1 → ((999 < ((F 27 2) + x1) → X (d + 1) 63 0 [.ref 21, .int 1] [] (F, A, J, G) (KK (d + 2) 70 31 [.ref 21, .int x1] [] Q)) ∧ (¬ 999 < ((F 27 2) + x1) → X (d + 1) 73 0 [.ref 21, .int 6, .int x1, .int 0, .int 0] [] ((wF F 27 2 ((F 27 2) + x1)), A, J, G) (KK (d + 2) 70 54 [.ref 21, .int x1] [] Q)))))))) : X (d + 2) 70 0 [.ref 21, .int x1] [] (F, A, J, G) Q := by
  refine Y_il1 i_70_0 ?_
  refine Y_iconst (v := 1) i_70_1 (by decide) ?_
  refine Y_clt i_70_2 (fun e1 => ?_) (fun e1 => ?_)
  · replace h := h.1 e1
    refine Y_al0 i_70_26 ?_
    refine Y_iconst (v := 1) i_70_27 (by decide) ?_
    exact Y_iv1 (L0 := [.ref 21, .int 1]) i_70_28 ow_70 lm_5_71 ((k_21 hG).trans ow_63.symm) rfl mx_63 rfl rfl hd_70 h
  · replace h := h.2 e1
    refine Y_il1 i_70_5 ?_
    refine Y_bipush (v := 30) i_70_6 (by decide) ?_
    refine Y_cgt i_70_8 (fun e2 => ?_) (fun e2 => ?_)
    · replace h := h.1 e2
      refine Y_al0 i_70_26 ?_
      refine Y_iconst (v := 1) i_70_27 (by decide) ?_
      exact Y_iv1 (L0 := [.ref 21, .int 1]) i_70_28 ow_70 lm_5_71 ((k_21 hG).trans ow_63.symm) rfl mx_63 rfl rfl hd_70 h
    · replace h := h.2 e2
      refine Y_al0 i_70_11 ?_
      refine Y_gR i_70_12 ow_70 lf_5_33 (k_21 hG) (r_21_0 hG) ?_
      refine Y_gI (v := (F 27 2)) i_70_15 ow_70 lf_5_107 (by decide) (k_27 hG) rfl ?_
      refine Y_il1 i_70_18 ?_
      refine Y_iadd i_70_19 ?_
      refine Y_sipush (v := 999) i_70_20 (by decide) ?_
      refine Y_cle i_70_23 (fun e3 => ?_) (fun e3 => ?_)
      · replace h := h.1 e3
        refine Y_al0 i_70_26 ?_
        refine Y_iconst (v := 1) i_70_27 (by decide) ?_
        exact Y_iv1 (L0 := [.ref 21, .int 1]) i_70_28 ow_70 lm_5_71 ((k_21 hG).trans ow_63.symm) rfl mx_63 rfl rfl hd_70 h
      · replace h := h.2 e3
        refine Y_al0 i_70_32 ?_
        refine Y_gR i_70_33 ow_70 lf_5_33 (k_21 hG) (r_21_0 hG) ?_
        refine Y_dup i_70_36 rfl ?_
        refine Y_gI (v := (F 27 2)) i_70_37 ow_70 lf_5_107 (by decide) (k_27 hG) rfl ?_
        refine Y_il1 i_70_40 ?_
        refine Y_iadd i_70_41 ?_
        refine Y_pI i_70_42 ow_70 lf_5_107 (k_27 hG) ?_
        refine Y_al0 i_70_45 ?_
        refine Y_bipush (v := 6) i_70_46 (by decide) ?_
        refine Y_il1 i_70_48 ?_
        refine Y_iconst (v := 0) i_70_49 (by decide) ?_
        refine Y_iconst (v := 0) i_70_50 (by decide) ?_
        exact Y_iv4 (L0 := [.ref 21, .int 6, .int x1, .int 0, .int 0]) i_70_51 ow_70 lm_5_78 ((k_21 hG).trans ow_73.symm) rfl mx_73 rfl rfl hd_70 h
theorem k_70n_31 {d : Nat} {F A : Nat → Nat → Int32} {J : Nat → Nat → Int64} {G : pG} {Q : pR → pM → Prop} {SL p q : Nat} {x1 r : Int32} (hG : Geo G SL p q) (h : Q (.inl (some (.int r))) (F, A, J, G)) : KK (d + 2) 70 31 [.ref 21, .int x1] [] Q (.inl (some (.int r))) (F, A, J, G) := by
  refine KKi ?_
  exact Y_iret i_70_31 rt_70 h
theorem k_70n_54 {d : Nat} {F A : Nat → Nat → Int32} {J : Nat → Nat → Int64} {G : pG} {Q : pR → pM → Prop} {SL p q : Nat} {x1 : Int32} (hG : Geo G SL p q) (h : Q (.inl (some (.int (F 27 2)))) (F, A, J, G)) : KK (d + 2) 70 54 [.ref 21, .int x1] [] Q (.inl none) (F, A, J, G) := by
  refine KKv ?_
  refine Y_al0 i_70_54 ?_
  refine Y_gR i_70_55 ow_70 lf_5_33 (k_21 hG) (r_21_0 hG) ?_
  refine Y_gI (v := (F 27 2)) i_70_58 ow_70 lf_5_107 (by decide) (k_27 hG) rfl ?_
  exact Y_iret i_70_61 rt_70 h
/- 71 State.undoLast()I -/
theorem t_71n_0 {d : Nat} {F A : Nat → Nat → Int32} {J : Nat → Nat → Int64} {G : pG} {Q : pR → pM → Prop} {SL p q : Nat} (hG : Geo G SL p q) (h : X (d + 2) 4 0 [.ref 22, .ref 27, .null, .null, .null] [] (F, A, J, G) (KK (d + 3) 71 11 [.ref 21] [] Q)) : X (d + 3) 71 0 [.ref 21] [] (F, A, J, G) Q := by
  refine Y_al0 i_71_0 ?_
  refine Y_gR i_71_1 ow_71 lf_5_12 (k_21 hG) (r_21_1 hG) ?_
  refine Y_al0 i_71_4 ?_
  refine Y_gR i_71_5 ow_71 lf_5_33 (k_21 hG) (r_21_0 hG) ?_
  exact Y_iv1 (L0 := [.ref 22, .ref 27, .null, .null, .null]) i_71_8 ow_71 lm_5_110 ((k_22 hG).trans ow_4.symm) rfl mx_4 rfl rfl hd_71 h
theorem k_71n_11 {d : Nat} {F A : Nat → Nat → Int32} {J : Nat → Nat → Int64} {G : pG} {Q : pR → pM → Prop} {SL p q : Nat} {r : Int32} (hG : Geo G SL p q) (h : ((r = 0 → Q (.inl (some (.int (-1)))) (F, A, J, G)) ∧ (¬ r = 0 → Q (.inl (some (.int (F 22 0)))) ((wF F 21 6 1), A, J, G)))) : KK (d + 3) 71 11 [.ref 21] [] Q (.inl (some (.int r))) (F, A, J, G) := by
  refine KKi ?_
  refine Y_zne i_71_11 (fun e1 => ?_) (fun e1 => ?_)
  · replace h := h.1 e1
    refine Y_iconst (v := (-1)) i_71_14 (by decide) ?_
    exact Y_iret i_71_15 rt_71 h
  · replace h := h.2 e1
    refine Y_al0 i_71_16 ?_
    refine Y_iconst (v := 1) i_71_17 (by decide) ?_
    refine Y_pB i_71_18 ow_71 lf_5_37 (k_21 hG) (by decide) ?_
    refine Y_al0 i_71_21 ?_
    refine Y_gR i_71_22 ow_71 lf_5_12 (k_21 hG) (r_21_1 hG) ?_
    refine Y_gI (v := (F 22 0)) i_71_25 ow_71 lf_5_44 (by decide) (k_22 hG) (by simp [wF, wJ, va_up, cpR, bF, bA]) ?_
    exact Y_iret i_71_28 rt_71 h
/- 3 Acts.keepSupper(LTableTower$Tower;)V -/
theorem t_3n_0 {d : Nat} {F A : Nat → Nat → Int32} {J : Nat → Nat → Int64} {G : pG} {Q : pR → pM → Prop} {SL p q : Nat} (hG : Geo G SL p q) (h : X d 2 0 [.ref 22, .int 5, .int (F 27 3), .int 0, .int 0, .null] [] (F, A, J, G) (KK (d + 1) 3 11 [.ref 22, .ref 27] [] Q)) : X (d + 1) 3 0 [.ref 22, .ref 27] [] (F, A, J, G) Q := by
  refine Y_al0 i_3_0 ?_
  refine Y_iconst (v := 5) i_3_1 (by decide) ?_
  refine Y_al1 i_3_2 ?_
  refine Y_gI (v := (F 27 3)) i_3_3 ow_3 lf_0_25 (by decide) (k_27 hG) rfl ?_
  refine Y_iconst (v := 0) i_3_6 (by decide) ?_
  refine Y_iconst (v := 0) i_3_7 (by decide) ?_
  exact Y_iv4 (L0 := [.ref 22, .int 5, .int (F 27 3), .int 0, .int 0, .null]) i_3_8 ow_3 lm_0_30 ((k_22 hG).trans ow_2.symm) rfl mx_2 rfl rfl hd_3 h
theorem k_3n_11 {d : Nat} {F A : Nat → Nat → Int32} {J : Nat → Nat → Int64} {G : pG} {Q : pR → pM → Prop} {SL p q : Nat} (hG : Geo G SL p q) (h : (¬ (0 : Int32) < 0 ∧ ¬ ((((F 22 0) - 1) * 14) + 4) < 0 ∧ ¬ (10 : Int32) < 0 ∧ (0 : Int32).toNatClampNeg + (10 : Int32).toNatClampNeg ≤ 10 ∧ ((((F 22 0) - 1) * 14) + 4).toNatClampNeg + (10 : Int32).toNatClampNeg ≤ 560) ∧ (Q (.inl none) (F, (cpR A 23 29 0 ((((F 22 0) - 1) * 14) + 4).toNatClampNeg 10), J, G))) : KK (d + 1) 3 11 [.ref 22, .ref 27] [] Q (.inl none) (F, A, J, G) := by
  refine KKv ?_
  refine Y_al1 i_3_11 ?_
  refine Y_gR i_3_12 ow_3 lf_0_34 (k_27 hG) (r_27_5 hG) ?_
  refine Y_iconst (v := 0) i_3_15 (by decide) ?_
  refine Y_al0 i_3_16 ?_
  refine Y_gR i_3_17 ow_3 lf_0_11 (k_22 hG) (r_22_1 hG) ?_
  refine Y_al0 i_3_20 ?_
  refine Y_gI (v := (F 22 0)) i_3_21 ow_3 lf_0_15 (by decide) (k_22 hG) rfl ?_
  refine Y_iconst (v := 1) i_3_24 (by decide) ?_
  refine Y_isub i_3_25 ?_
  refine Y_bipush (v := 14) i_3_26 (by decide) ?_
  refine Y_imul i_3_28 ?_
  refine Y_iconst (v := 4) i_3_29 (by decide) ?_
  refine Y_iadd i_3_30 ?_
  refine Y_bipush (v := 10) i_3_31 (by decide) ?_
  have o1 := h.1
  replace h := h.2
  refine Y_acp (ksp := 0) (kdp := ((((F 22 0) - 1) * 14) + 4).toNatClampNeg) (kn := 10) i_3_33 ow_3 lm_0_19 rfl (k_23 hG) (k_29 hG) (l_23 hG) (l_29 hG) o1 (by decide) rfl (by decide) ?_
  exact Y_vret i_3_36 rt_3 h
/- 4 Acts.undoLast(LTableTower$Tower;)Z -/
theorem t_4n_0 {d : Nat} {F A : Nat → Nat → Int32} {J : Nat → Nat → Int64} {G : pG} {Q : pR → pM → Prop} {SL p q : Nat} (hG : Geo G SL p q) (h : ((0 < (F 22 0) → inB ((((F 22 0) - 1) * 14) + 1) 560 = true ∧ inB ((((F 22 0) - 1) * 14) + 2) 560 = true ∧ inB (((F 22 0) - 1) * 14) 560 = true ∧ (((A 23 (((F 22 0) - 1) * 14).toNatClampNeg) = 0 → X (d + 1) 80 0 [.ref 27, .int (A 23 ((((F 22 0) - 1) * 14) + 1).toNatClampNeg), .null] [] ((wF F 22 0 ((F 22 0) - 1)), A, J, G) (KK (d + 2) 4 97 [.ref 22, .ref 27, .int (((F 22 0) - 1) * 14), .int (A 23 ((((F 22 0) - 1) * 14) + 1).toNatClampNeg), .int (A 23 ((((F 22 0) - 1) * 14) + 2).toNatClampNeg)] [] Q)) ∧ ((A 23 (((F 22 0) - 1) * 14).toNatClampNeg) = 1 → inB ((((F 22 0) - 1) * 14) + 3) 560 = true ∧ (X (d + 1) 5 0 [.ref 27, .int (A 23 ((((F 22 0) - 1) * 14) + 1).toNatClampNeg), .int (A 23 ((((F 22 0) - 1) * 14) + 2).toNatClampNeg), .int (A 23 ((((F 22 0) - 1) * 14) + 3).toNatClampNeg)] [] ((wF F 22 0 ((F 22 0) - 1)), A, J, G) (KK (d + 2) 4 115 [.ref 22, .ref 27, .int (((F 22 0) - 1) * 14), .int (A 23 ((((F 22 0) - 1) * 14) + 1).toNatClampNeg), .int (A 23 ((((F 22 0) - 1) * 14) + 2).toNatClampNeg)] [] Q))) ∧ ((A 23 (((F 22 0) - 1) * 14).toNatClampNeg) = 2 → X (d + 1) 81 0 [.ref 27, .int (A 23 ((((F 22 0) - 1) * 14) + 1).toNatClampNeg), .int (A 23 ((((F 22 0) - 1) * 14) + 2).toNatClampNeg), .null] [] ((wF F 22 0 ((F 22 0) - 1)), A, J, G) (KK (d + 2) 4 125 [.ref 22, .ref 27, .int (((F 22 0) - 1) * 14), .int (A 23 ((((F 22 0) - 1) * 14) + 1).toNatClampNeg), .int (A 23 ((((F 22 0) - 1) * 14) + 2).toNatClampNeg)] [] Q)) ∧ ((A 23 (((F 22 0) - 1) * 14).toNatClampNeg) = 3 → inB (A 23 ((((F 22 0) - 1) * 14) + 1).toNatClampNeg) 10 = true ∧ (Q (.inl (some (.int 1))) ((wF F 22 0 ((F 22 0) - 1)), (wF A 30 (A 23 ((((F 22 0) - 1) * 14) + 1).toNatClampNeg).toNatClampNeg (A 23 ((((F 22 0) - 1) * 14) + 2).toNatClampNeg)), J, G))) ∧ ((A 23 (((F 22 0) - 1) * 14).toNatClampNeg) = 4 → inB (A 23 ((((F 22 0) - 1) * 14) + 1).toNatClampNeg) 10 = true ∧ (Q (.inl (some (.int 1))) ((wF F 22 0 ((F 22 0) - 1)), (wF A 31 (A 23 ((((F 22 0) - 1) * 14) + 1).toNatClampNeg).toNatClampNeg (A 23 ((((F 22 0) - 1) * 14) + 2).toNatClampNeg)), J, G))) ∧ ((A 23 (((F 22 0) - 1) * 14).toNatClampNeg) = 5 → X (d + 1) 6 0 [.ref 22, .ref 27, .int (((F 22 0) - 1) * 14)] [] ((wF F 22 0 ((F 22 0) - 1)), A, J, G) (KK (d + 2) 4 156 [.ref 22, .ref 27, .int (((F 22 0) - 1) * 14), .int (A 23 ((((F 22 0) - 1) * 14) + 1).toNatClampNeg), .int (A 23 ((((F 22 0) - 1) * 14) + 2).toNatClampNeg)] [] Q)) ∧ ((((A 23 (((F 22 0) - 1) * 14).toNatClampNeg) : Int32).toInt < 0 ∨ 5 < ((A 23 (((F 22 0) - 1) * 14).toNatClampNeg) : Int32).toInt) → Q (.inl (some (.int 1))) ((wF (wF F 22 0 ((F 22 0) - 1)) 27 2 ((F 27 2) - (A 23 ((((F 22 0) - 1) * 14) + 1).toNatClampNeg))), A, J, G)))) ∧ (¬ 0 < (F 22 0) → Q (.inl (some (.int 0))) (F, A, J, G)))) : X (d + 2) 4 0 [.ref 22, .ref 27, .null, .null, .null] [] (F, A, J, G) Q := by
  refine Y_al0 i_4_0 ?_
  refine Y_gI (v := (F 22 0)) i_4_1 ow_4 lf_0_15 (by decide) (k_22 hG) rfl ?_
  refine Y_zgt i_4_4 (fun e1 => ?_) (fun e1 => ?_)
  · replace h := h.1 e1
    refine Y_al0 i_4_9 ?_
    refine Y_dup i_4_10 rfl ?_
    refine Y_gI (v := (F 22 0)) i_4_11 ow_4 lf_0_15 (by decide) (k_22 hG) rfl ?_
    refine Y_iconst (v := 1) i_4_14 (by decide) ?_
    refine Y_isub i_4_15 ?_
    refine Y_pI i_4_16 ow_4 lf_0_15 (k_22 hG) ?_
    refine Y_al0 i_4_19 ?_
    refine Y_gI (v := ((F 22 0) - 1)) i_4_20 ow_4 lf_0_15 (by decide) (k_22 hG) (by simp [wF, wJ, va_up, cpR, bF, bA]) ?_
    refine Y_bipush (v := 14) i_4_23 (by decide) ?_
    refine Y_imul i_4_25 ?_
    refine Y_is2 i_4_26 rfl ?_
    refine Y_al0 i_4_27 ?_
    refine Y_gR i_4_28 ow_4 lf_0_11 (k_22 hG) (r_22_1 hG) ?_
    refine Y_il2 i_4_31 ?_
    refine Y_iconst (v := 1) i_4_32 (by decide) ?_
    refine Y_iadd i_4_33 ?_
    have o2 := h.1
    replace h := h.2
    refine Y_iaload (k := ((((F 22 0) - 1) * 14) + 1).toNatClampNeg) (v := (A 23 ((((F 22 0) - 1) * 14) + 1).toNatClampNeg)) i_4_34 (k_23 hG) (l_23 hG) o2 rfl rfl ?_
    refine Y_is3 i_4_35 rfl ?_
    refine Y_al0 i_4_36 ?_
    refine Y_gR i_4_37 ow_4 lf_0_11 (k_22 hG) (r_22_1 hG) ?_
    refine Y_il2 i_4_40 ?_
    refine Y_iconst (v := 2) i_4_41 (by decide) ?_
    refine Y_iadd i_4_42 ?_
    have o3 := h.1
    replace h := h.2
    refine Y_iaload (k := ((((F 22 0) - 1) * 14) + 2).toNatClampNeg) (v := (A 23 ((((F 22 0) - 1) * 14) + 2).toNatClampNeg)) i_4_43 (k_23 hG) (l_23 hG) o3 rfl rfl ?_
    refine Y_is4 i_4_44 rfl ?_
    refine Y_al0 i_4_46 ?_
    refine Y_gR i_4_47 ow_4 lf_0_11 (k_22 hG) (r_22_1 hG) ?_
    refine Y_il2 i_4_50 ?_
    have o4 := h.1
    replace h := h.2
    refine Y_iaload (k := (((F 22 0) - 1) * 14).toNatClampNeg) (v := (A 23 (((F 22 0) - 1) * 14).toNatClampNeg)) i_4_51 (k_23 hG) (l_23 hG) o4 rfl rfl ?_
    by_cases f0 : (A 23 (((F 22 0) - 1) * 14).toNatClampNeg) = 0
    · replace h := h.1 f0
      refine Y_sw (t := 92) f0 i_4_52 (fun _ => rfl) rfl (fun _ => rfl) (fun _ => rfl) ?_
      refine Y_al1 i_4_92 ?_
      refine Y_il3 i_4_93 ?_
      exact Y_iv1 (L0 := [.ref 27, .int (A 23 ((((F 22 0) - 1) * 14) + 1).toNatClampNeg), .null]) i_4_94 ow_4 lm_0_37 ((k_27 hG).trans ow_80.symm) rfl mx_80 rfl rfl hd_4 h
    by_cases f1 : (A 23 (((F 22 0) - 1) * 14).toNatClampNeg) = 1
    · replace h := h.2.1 f1
      refine Y_sw (t := 100) f1 i_4_52 (fun _ => rfl) rfl (fun _ => rfl) (fun _ => rfl) ?_
      refine Y_al1 i_4_100 ?_
      refine Y_il3 i_4_101 ?_
      refine Y_il4 i_4_102 ?_
      refine Y_al0 i_4_104 ?_
      refine Y_gR i_4_105 ow_4 lf_0_11 (k_22 hG) (r_22_1 hG) ?_
      refine Y_il2 i_4_108 ?_
      refine Y_iconst (v := 3) i_4_109 (by decide) ?_
      refine Y_iadd i_4_110 ?_
      have o5 := h.1
      replace h := h.2
      refine Y_iaload (k := ((((F 22 0) - 1) * 14) + 3).toNatClampNeg) (v := (A 23 ((((F 22 0) - 1) * 14) + 3).toNatClampNeg)) i_4_111 (k_23 hG) (l_23 hG) o5 rfl rfl ?_
      exact Y_is_4 (L0 := [.ref 27, .int (A 23 ((((F 22 0) - 1) * 14) + 1).toNatClampNeg), .int (A 23 ((((F 22 0) - 1) * 14) + 2).toNatClampNeg), .int (A 23 ((((F 22 0) - 1) * 14) + 3).toNatClampNeg)]) i_4_112 ow_4 lm_0_41 rfl mx_5 rfl rfl hd_4 h
    by_cases f2 : (A 23 (((F 22 0) - 1) * 14).toNatClampNeg) = 2
    · replace h := h.2.2.1 f2
      refine Y_sw (t := 118) f2 i_4_52 (fun _ => rfl) rfl (fun _ => rfl) (fun _ => rfl) ?_
      refine Y_al1 i_4_118 ?_
      refine Y_il3 i_4_119 ?_
      refine Y_il4 i_4_120 ?_
      exact Y_iv2 (L0 := [.ref 27, .int (A 23 ((((F 22 0) - 1) * 14) + 1).toNatClampNeg), .int (A 23 ((((F 22 0) - 1) * 14) + 2).toNatClampNeg), .null]) i_4_122 ow_4 lm_0_45 ((k_27 hG).trans ow_81.symm) rfl mx_81 rfl rfl hd_4 h
    by_cases f3 : (A 23 (((F 22 0) - 1) * 14).toNatClampNeg) = 3
    · replace h := h.2.2.2.1 f3
      refine Y_sw (t := 128) f3 i_4_52 (fun _ => rfl) rfl (fun _ => rfl) (fun _ => rfl) ?_
      refine Y_al1 i_4_128 ?_
      refine Y_gR i_4_129 ow_4 lf_0_49 (k_27 hG) (r_27_6 hG) ?_
      refine Y_il3 i_4_132 ?_
      refine Y_il4 i_4_133 ?_
      have o6 := h.1
      replace h := h.2
      refine Y_iast i_4_135 (k_30 hG) (l_30 hG) o6 rfl ?_
      refine Y_goto i_4_136 ?_
      refine Y_iconst (v := 1) i_4_169 (by decide) ?_
      exact Y_bret i_4_170 rt_4 (by decide) h
    by_cases f4 : (A 23 (((F 22 0) - 1) * 14).toNatClampNeg) = 4
    · replace h := h.2.2.2.2.1 f4
      refine Y_sw (t := 139) f4 i_4_52 (fun _ => rfl) rfl (fun _ => rfl) (fun _ => rfl) ?_
      refine Y_al1 i_4_139 ?_
      refine Y_gR i_4_140 ow_4 lf_0_52 (k_27 hG) (r_27_7 hG) ?_
      refine Y_il3 i_4_143 ?_
      refine Y_il4 i_4_144 ?_
      have o7 := h.1
      replace h := h.2
      refine Y_iast i_4_146 (k_31 hG) (l_31 hG) o7 rfl ?_
      refine Y_goto i_4_147 ?_
      refine Y_iconst (v := 1) i_4_169 (by decide) ?_
      exact Y_bret i_4_170 rt_4 (by decide) h
    by_cases f5 : (A 23 (((F 22 0) - 1) * 14).toNatClampNeg) = 5
    · replace h := h.2.2.2.2.2.1 f5
      refine Y_sw (t := 150) f5 i_4_52 (fun _ => rfl) rfl (fun _ => rfl) (fun _ => rfl) ?_
      refine Y_al0 i_4_150 ?_
      refine Y_al1 i_4_151 ?_
      refine Y_il2 i_4_152 ?_
      exact Y_iv2 (L0 := [.ref 22, .ref 27, .int (((F 22 0) - 1) * 14)]) i_4_153 ow_4 lm_0_55 ((k_22 hG).trans ow_6.symm) rfl mx_6 rfl rfl hd_4 h
    have eD : ((A 23 (((F 22 0) - 1) * 14).toNatClampNeg) : Int32).toInt < 0 ∨ 5 < ((A 23 (((F 22 0) - 1) * 14).toNatClampNeg) : Int32).toInt := by
      have q := ts_out (x := (A 23 (((F 22 0) - 1) * 14).toNatClampNeg)) (lo := 0) (n := 6) (by
        intro j hj
        have : j = 0 ∨ j = 1 ∨ j = 2 ∨ j = 3 ∨ j = 4 ∨ j = 5 := by omega
        rcases this with rfl | rfl | rfl | rfl | rfl | rfl
        · exact ne_toInt f0 (by decide)
        · exact ne_toInt f1 (by decide)
        · exact ne_toInt f2 (by decide)
        · exact ne_toInt f3 (by decide)
        · exact ne_toInt f4 (by decide)
        · exact ne_toInt f5 (by decide)
        )
      omega
    replace h := h.2.2.2.2.2.2 eD
    refine Y_tsD (t := 159) eD i_4_52 (by decide) ?_
    refine Y_al1 i_4_159 ?_
    refine Y_dup i_4_160 rfl ?_
    refine Y_gI (v := (F 27 2)) i_4_161 ow_4 lf_0_59 (by decide) (k_27 hG) (by simp [wF, wJ, va_up, cpR, bF, bA]) ?_
    refine Y_il3 i_4_164 ?_
    refine Y_isub i_4_165 ?_
    refine Y_pI i_4_166 ow_4 lf_0_59 (k_27 hG) ?_
    refine Y_iconst (v := 1) i_4_169 (by decide) ?_
    exact Y_bret i_4_170 rt_4 (by decide) h
  · replace h := h.2 e1
    refine Y_iconst (v := 0) i_4_7 (by decide) ?_
    exact Y_bret i_4_8 rt_4 (by decide) h
theorem k_4n_97 {d : Nat} {F A : Nat → Nat → Int32} {J : Nat → Nat → Int64} {G : pG} {Q : pR → pM → Prop} {SL p q : Nat} {x2 x3 x4 : Int32} (hG : Geo G SL p q) (h : Q (.inl (some (.int 1))) (F, A, J, G)) : KK (d + 2) 4 97 [.ref 22, .ref 27, .int x2, .int x3, .int x4] [] Q (.inl none) (F, A, J, G) := by
  refine KKv ?_
  refine Y_goto i_4_97 ?_
  refine Y_iconst (v := 1) i_4_169 (by decide) ?_
  exact Y_bret i_4_170 rt_4 (by decide) h
theorem k_4n_115 {d : Nat} {F A : Nat → Nat → Int32} {J : Nat → Nat → Int64} {G : pG} {Q : pR → pM → Prop} {SL p q : Nat} {x2 x3 x4 : Int32} (hG : Geo G SL p q) (h : Q (.inl (some (.int 1))) (F, A, J, G)) : KK (d + 2) 4 115 [.ref 22, .ref 27, .int x2, .int x3, .int x4] [] Q (.inl none) (F, A, J, G) := by
  refine KKv ?_
  refine Y_goto i_4_115 ?_
  refine Y_iconst (v := 1) i_4_169 (by decide) ?_
  exact Y_bret i_4_170 rt_4 (by decide) h
theorem k_4n_125 {d : Nat} {F A : Nat → Nat → Int32} {J : Nat → Nat → Int64} {G : pG} {Q : pR → pM → Prop} {SL p q : Nat} {x2 x3 x4 : Int32} (hG : Geo G SL p q) (h : Q (.inl (some (.int 1))) (F, A, J, G)) : KK (d + 2) 4 125 [.ref 22, .ref 27, .int x2, .int x3, .int x4] [] Q (.inl none) (F, A, J, G) := by
  refine KKv ?_
  refine Y_goto i_4_125 ?_
  refine Y_iconst (v := 1) i_4_169 (by decide) ?_
  exact Y_bret i_4_170 rt_4 (by decide) h
theorem k_4n_156 {d : Nat} {F A : Nat → Nat → Int32} {J : Nat → Nat → Int64} {G : pG} {Q : pR → pM → Prop} {SL p q : Nat} {x2 x3 x4 : Int32} (hG : Geo G SL p q) (h : Q (.inl (some (.int 1))) (F, A, J, G)) : KK (d + 2) 4 156 [.ref 22, .ref 27, .int x2, .int x3, .int x4] [] Q (.inl none) (F, A, J, G) := by
  refine KKv ?_
  refine Y_goto i_4_156 ?_
  refine Y_iconst (v := 1) i_4_169 (by decide) ?_
  exact Y_bret i_4_170 rt_4 (by decide) h
/- 126 TableTower.feed(IIIII)I -/
theorem t_126n_0 {d : Nat} {F A : Nat → Nat → Int32} {J : Nat → Nat → Int64} {G : pG} {Q : pR → pM → Prop} {SL p q : Nat} {x1 x2 x3 x4 x5 : Int32} (hG : Geo G SL p q) (h : ((600 < ((F 0 1) + 20) → Q (.inl (some (.int (-1)))) (F, A, J, G)) ∧ (¬ 600 < ((F 0 1) + 20) → X d 170 0 [.ref 0, .int x1, .null] [] (F, A, J, G) (KK (d + 1) 126 20 [.ref 0, .int x1, .int x2, .int x3, .int x4, .int x5] [] Q)))) : X (d + 1) 126 0 [.ref 0, .int x1, .int x2, .int x3, .int x4, .int x5] [] (F, A, J, G) Q := by
  refine Y_al0 i_126_0 ?_
  refine Y_gI (v := (F 0 1)) i_126_1 ow_126 lf_9_13 (by decide) (k_0 hG) rfl ?_
  refine Y_bipush (v := 20) i_126_4 (by decide) ?_
  refine Y_iadd i_126_6 ?_
  refine Y_sipush (v := 600) i_126_7 (by decide) ?_
  refine Y_cle i_126_10 (fun e1 => ?_) (fun e1 => ?_)
  · replace h := h.1 e1
    refine Y_iconst (v := (-1)) i_126_13 (by decide) ?_
    exact Y_iret i_126_14 rt_126 h
  · replace h := h.2 e1
    refine Y_al0 i_126_15 ?_
    refine Y_il1 i_126_16 ?_
    exact Y_iv1 (L0 := [.ref 0, .int x1, .null]) i_126_17 ow_126 lm_9_84 ((k_0 hG).trans ow_170.symm) rfl mx_170 rfl rfl hd_126 h
theorem k_126n_20 {d : Nat} {F A : Nat → Nat → Int32} {J : Nat → Nat → Int64} {G : pG} {Q : pR → pM → Prop} {SL p q : Nat} {x1 x2 x3 x4 x5 : Int32} (hG : Geo G SL p q) (h : X d 170 0 [.ref 0, .int x2, .null] [] (F, A, J, G) (KK (d + 1) 126 25 [.ref 0, .int x1, .int x2, .int x3, .int x4, .int x5] [] Q)) : KK (d + 1) 126 20 [.ref 0, .int x1, .int x2, .int x3, .int x4, .int x5] [] Q (.inl none) (F, A, J, G) := by
  refine KKv ?_
  refine Y_al0 i_126_20 ?_
  refine Y_il2 i_126_21 ?_
  exact Y_iv1 (L0 := [.ref 0, .int x2, .null]) i_126_22 ow_126 lm_9_84 ((k_0 hG).trans ow_170.symm) rfl mx_170 rfl rfl hd_126 h
theorem k_126n_25 {d : Nat} {F A : Nat → Nat → Int32} {J : Nat → Nat → Int64} {G : pG} {Q : pR → pM → Prop} {SL p q : Nat} {x1 x2 x3 x4 x5 : Int32} (hG : Geo G SL p q) (h : X d 170 0 [.ref 0, .int x3, .null] [] (F, A, J, G) (KK (d + 1) 126 30 [.ref 0, .int x1, .int x2, .int x3, .int x4, .int x5] [] Q)) : KK (d + 1) 126 25 [.ref 0, .int x1, .int x2, .int x3, .int x4, .int x5] [] Q (.inl none) (F, A, J, G) := by
  refine KKv ?_
  refine Y_al0 i_126_25 ?_
  refine Y_il3 i_126_26 ?_
  exact Y_iv1 (L0 := [.ref 0, .int x3, .null]) i_126_27 ow_126 lm_9_84 ((k_0 hG).trans ow_170.symm) rfl mx_170 rfl rfl hd_126 h
theorem k_126n_30 {d : Nat} {F A : Nat → Nat → Int32} {J : Nat → Nat → Int64} {G : pG} {Q : pR → pM → Prop} {SL p q : Nat} {x1 x2 x3 x4 x5 : Int32} (hG : Geo G SL p q) (h : X d 170 0 [.ref 0, .int x4, .null] [] (F, A, J, G) (KK (d + 1) 126 36 [.ref 0, .int x1, .int x2, .int x3, .int x4, .int x5] [] Q)) : KK (d + 1) 126 30 [.ref 0, .int x1, .int x2, .int x3, .int x4, .int x5] [] Q (.inl none) (F, A, J, G) := by
  refine KKv ?_
  refine Y_al0 i_126_30 ?_
  refine Y_il4 i_126_31 ?_
  exact Y_iv1 (L0 := [.ref 0, .int x4, .null]) i_126_33 ow_126 lm_9_84 ((k_0 hG).trans ow_170.symm) rfl mx_170 rfl rfl hd_126 h
theorem k_126n_36 {d : Nat} {F A : Nat → Nat → Int32} {J : Nat → Nat → Int64} {G : pG} {Q : pR → pM → Prop} {SL p q : Nat} {x1 x2 x3 x4 x5 : Int32} (hG : Geo G SL p q) (h : X d 170 0 [.ref 0, .int x5, .null] [] (F, A, J, G) (KK (d + 1) 126 42 [.ref 0, .int x1, .int x2, .int x3, .int x4, .int x5] [] Q)) : KK (d + 1) 126 36 [.ref 0, .int x1, .int x2, .int x3, .int x4, .int x5] [] Q (.inl none) (F, A, J, G) := by
  refine KKv ?_
  refine Y_al0 i_126_36 ?_
  refine Y_il5 i_126_37 ?_
  exact Y_iv1 (L0 := [.ref 0, .int x5, .null]) i_126_39 ow_126 lm_9_84 ((k_0 hG).trans ow_170.symm) rfl mx_170 rfl rfl hd_126 h
theorem k_126n_42 {d : Nat} {F A : Nat → Nat → Int32} {J : Nat → Nat → Int64} {G : pG} {Q : pR → pM → Prop} {SL p q : Nat} {x1 x2 x3 x4 x5 : Int32} (hG : Geo G SL p q) (h : Q (.inl (some (.int (F 0 1)))) (F, A, J, G)) : KK (d + 1) 126 42 [.ref 0, .int x1, .int x2, .int x3, .int x4, .int x5] [] Q (.inl none) (F, A, J, G) := by
  refine KKv ?_
  refine Y_al0 i_126_42 ?_
  refine Y_gI (v := (F 0 1)) i_126_43 ow_126 lf_9_13 (by decide) (k_0 hG) rfl ?_
  exact Y_iret i_126_46 rt_126 h
/- 127 TableTower.town(I)I -/
theorem t_127n_0 {d : Nat} {F A : Nat → Nat → Int32} {J : Nat → Nat → Int64} {G : pG} {Q : pR → pM → Prop} {SL p q : Nat} {x1 : Int32} (hG : Geo G SL p q) (h : ((x1 < 0 → Q (.inr 100) (F, A, J, gThr G)) ∧ (¬ x1 < 0 → (((F 0 1) < x1 → Q (.inr 100) (F, A, J, gThr G)) ∧ (¬ (F 0 1) < x1 → X (d + 5) 29 0 [.ref 11, .int x1, .null] [] (F, A, J, G) (KK (d + 6) 127 30 [.ref 0, .int x1, .null] [] Q)))))) : X (d + 6) 127 0 [.ref 0, .int x1, .null] [] (F, A, J, G) Q := by
  refine Y_il1 i_127_0 ?_
  refine Y_zlt i_127_1 (fun e1 => ?_) (fun e1 => ?_)
  · replace h := h.1 e1
    exact Y_thr i_127_12 ow_127 lc_9_88 (by decide +kernel) rfl h
  · replace h := h.2 e1
    refine Y_il1 i_127_4 ?_
    refine Y_al0 i_127_5 ?_
    refine Y_gI (v := (F 0 1)) i_127_6 ow_127 lf_9_13 (by decide) (k_0 hG) rfl ?_
    refine Y_cle i_127_9 (fun e2 => ?_) (fun e2 => ?_)
    · replace h := h.1 e2
      exact Y_thr i_127_12 ow_127 lc_9_88 (by decide +kernel) rfl h
    · replace h := h.2 e2
      refine Y_al0 i_127_22 ?_
      refine Y_gR i_127_23 ow_127 lf_9_36 (k_0 hG) (r_0_4 hG) ?_
      refine Y_il1 i_127_26 ?_
      exact Y_iv1 (L0 := [.ref 11, .int x1, .null]) i_127_27 ow_127 lm_9_95 ((k_11 hG).trans ow_29.symm) rfl mx_29 rfl rfl hd_127 h
theorem k_127n_30 {d : Nat} {F A : Nat → Nat → Int32} {J : Nat → Nat → Int64} {G : pG} {Q : pR → pM → Prop} {SL p q : Nat} {x1 r : Int32} (hG : Geo G SL p q) (h : ((r = 0 → ((r = 0 → (¬ (0 : Int32) < 0 ∧ ¬ (0 : Int32) < 0 ∧ ¬ (F 8 1) < 0 ∧ (0 : Int32).toNatClampNeg + (F 8 1).toNatClampNeg ≤ 600 ∧ (0 : Int32).toNatClampNeg + (F 8 1).toNatClampNeg ≤ 600) ∧ (X (d + 5) 61 0 [.ref 21] [] ((wF (wF (wF (wF (wF (wF F 0 1 0) 0 2 (-1)) 12 0 (F 2 0)) 12 1 (F 2 1)) 12 2 (F 2 2)) 18 1 (F 8 1)), (cpR (cpR (cpR (cpR (cpR (cpR A 13 3 0 0 10) 14 4 0 0 10) 15 5 0 0 10) 16 6 0 0 10) 17 7 0 0 10) 19 9 0 0 (F 8 1).toNatClampNeg), J, G) (KK (d + 6) 127 88 [.ref 0, .int x1, .int r] [] Q))) ∧ (¬ r = 0 → X (d + 5) 63 0 [.ref 21, .int 0] [] ((wF (wF F 0 1 0) 0 2 (-1)), A, J, G) (KK (d + 6) 127 67 [.ref 0, .int x1, .int r] [] Q)))) ∧ (¬ r = 0 → ((r = 0 → (¬ (0 : Int32) < 0 ∧ ¬ (0 : Int32) < 0 ∧ ¬ (F 8 1) < 0 ∧ (0 : Int32).toNatClampNeg + (F 8 1).toNatClampNeg ≤ 600 ∧ (0 : Int32).toNatClampNeg + (F 8 1).toNatClampNeg ≤ 600) ∧ (X (d + 5) 61 0 [.ref 21] [] ((wF (wF (wF (wF (wF (wF F 0 1 0) 0 2 (F 11 0)) 12 0 (F 2 0)) 12 1 (F 2 1)) 12 2 (F 2 2)) 18 1 (F 8 1)), (cpR (cpR (cpR (cpR (cpR (cpR A 13 3 0 0 10) 14 4 0 0 10) 15 5 0 0 10) 16 6 0 0 10) 17 7 0 0 10) 19 9 0 0 (F 8 1).toNatClampNeg), J, G) (KK (d + 6) 127 88 [.ref 0, .int x1, .int r] [] Q))) ∧ (¬ r = 0 → X (d + 5) 63 0 [.ref 21, .int 0] [] ((wF (wF F 0 1 0) 0 2 (F 11 0)), A, J, G) (KK (d + 6) 127 67 [.ref 0, .int x1, .int r] [] Q)))))) : KK (d + 6) 127 30 [.ref 0, .int x1, .null] [] Q (.inl (some (.int r))) (F, A, J, G) := by
  refine KKi ?_
  refine Y_is2 i_127_30 rfl ?_
  refine Y_al0 i_127_31 ?_
  refine Y_iconst (v := 0) i_127_32 (by decide) ?_
  refine Y_pI i_127_33 ow_127 lf_9_13 (k_0 hG) ?_
  refine Y_al0 i_127_36 ?_
  refine Y_il2 i_127_37 ?_
  refine Y_zne i_127_38 (fun e1 => ?_) (fun e1 => ?_)
  · replace h := h.1 e1
    refine Y_iconst (v := (-1)) i_127_41 (by decide) ?_
    refine Y_goto i_127_42 ?_
    refine Y_pI i_127_52 ow_127 lf_9_17 (k_0 hG) ?_
    refine Y_il2 i_127_55 ?_
    refine Y_zeq i_127_56 (fun e2 => ?_) (fun e2 => ?_)
    · replace h := h.1 e2
      refine Y_al0 i_127_70 ?_
      refine Y_gR i_127_71 ow_127 lf_9_40 (k_0 hG) (r_0_6 hG) ?_
      refine Y_al0 i_127_74 ?_
      refine Y_gR i_127_75 ow_127 lf_9_27 (k_0 hG) (r_0_5 hG) ?_
      refine Y_iv1 (L0 := [.ref 12, .ref 2]) i_127_78 ow_127 lm_9_105 ((k_12 hG).trans ow_99.symm) rfl mx_99 rfl rfl hd_127 ?_
      refine Y_al0 i_99_0 ?_
      refine Y_al1 i_99_1 ?_
      refine Y_gI (v := (F 2 0)) i_99_2 ow_99 lf_7_37 (by decide) (k_2 hG) (by simp [wF, wJ, va_up, cpR, bF, bA]) ?_
      refine Y_pI i_99_5 ow_99 lf_7_37 (k_12 hG) ?_
      refine Y_al0 i_99_8 ?_
      refine Y_al1 i_99_9 ?_
      refine Y_gI (v := (F 2 1)) i_99_10 ow_99 lf_7_41 (by decide) (k_2 hG) (by simp [wF, wJ, va_up, cpR, bF, bA]) ?_
      refine Y_pI i_99_13 ow_99 lf_7_41 (k_12 hG) ?_
      refine Y_al0 i_99_16 ?_
      refine Y_al1 i_99_17 ?_
      refine Y_gI (v := (F 2 2)) i_99_18 ow_99 lf_7_44 (by decide) (k_2 hG) (by simp [wF, wJ, va_up, cpR, bF, bA]) ?_
      refine Y_pI i_99_21 ow_99 lf_7_44 (k_12 hG) ?_
      refine Y_al1 i_99_24 ?_
      refine Y_gR i_99_25 ow_99 lf_7_9 (k_2 hG) (r_2_3 hG) ?_
      refine Y_iconst (v := 0) i_99_28 (by decide) ?_
      refine Y_al0 i_99_29 ?_
      refine Y_gR i_99_30 ow_99 lf_7_9 (k_12 hG) (r_12_3 hG) ?_
      refine Y_iconst (v := 0) i_99_33 (by decide) ?_
      refine Y_bipush (v := 10) i_99_34 (by decide) ?_
      refine Y_acp (ksp := 0) (kdp := 0) (kn := 10) i_99_36 ow_99 lm_7_50 rfl (k_13 hG) (k_3 hG) (l_13 hG) (l_3 hG) (by decide) (by decide) (by decide) (by decide) ?_
      refine Y_al1 i_99_39 ?_
      refine Y_gR i_99_40 ow_99 lf_7_15 (k_2 hG) (r_2_4 hG) ?_
      refine Y_iconst (v := 0) i_99_43 (by decide) ?_
      refine Y_al0 i_99_44 ?_
      refine Y_gR i_99_45 ow_99 lf_7_15 (k_12 hG) (r_12_4 hG) ?_
      refine Y_iconst (v := 0) i_99_48 (by decide) ?_
      refine Y_bipush (v := 10) i_99_49 (by decide) ?_
      refine Y_acp (ksp := 0) (kdp := 0) (kn := 10) i_99_51 ow_99 lm_7_50 rfl (k_14 hG) (k_4 hG) (l_14 hG) (l_4 hG) (by decide) (by decide) (by decide) (by decide) ?_
      refine Y_al1 i_99_54 ?_
      refine Y_gR i_99_55 ow_99 lf_7_18 (k_2 hG) (r_2_5 hG) ?_
      refine Y_iconst (v := 0) i_99_58 (by decide) ?_
      refine Y_al0 i_99_59 ?_
      refine Y_gR i_99_60 ow_99 lf_7_18 (k_12 hG) (r_12_5 hG) ?_
      refine Y_iconst (v := 0) i_99_63 (by decide) ?_
      refine Y_bipush (v := 10) i_99_64 (by decide) ?_
      refine Y_acp (ksp := 0) (kdp := 0) (kn := 10) i_99_66 ow_99 lm_7_50 rfl (k_15 hG) (k_5 hG) (l_15 hG) (l_5 hG) (by decide) (by decide) (by decide) (by decide) ?_
      refine Y_al1 i_99_69 ?_
      refine Y_gR i_99_70 ow_99 lf_7_21 (k_2 hG) (r_2_6 hG) ?_
      refine Y_iconst (v := 0) i_99_73 (by decide) ?_
      refine Y_al0 i_99_74 ?_
      refine Y_gR i_99_75 ow_99 lf_7_21 (k_12 hG) (r_12_6 hG) ?_
      refine Y_iconst (v := 0) i_99_78 (by decide) ?_
      refine Y_bipush (v := 10) i_99_79 (by decide) ?_
      refine Y_acp (ksp := 0) (kdp := 0) (kn := 10) i_99_81 ow_99 lm_7_50 rfl (k_16 hG) (k_6 hG) (l_16 hG) (l_6 hG) (by decide) (by decide) (by decide) (by decide) ?_
      refine Y_al1 i_99_84 ?_
      refine Y_gR i_99_85 ow_99 lf_7_24 (k_2 hG) (r_2_7 hG) ?_
      refine Y_iconst (v := 0) i_99_88 (by decide) ?_
      refine Y_al0 i_99_89 ?_
      refine Y_gR i_99_90 ow_99 lf_7_24 (k_12 hG) (r_12_7 hG) ?_
      refine Y_iconst (v := 0) i_99_93 (by decide) ?_
      refine Y_bipush (v := 10) i_99_94 (by decide) ?_
      refine Y_acp (ksp := 0) (kdp := 0) (kn := 10) i_99_96 ow_99 lm_7_50 rfl (k_17 hG) (k_7 hG) (l_17 hG) (l_7 hG) (by decide) (by decide) (by decide) (by decide) ?_
      refine Y_al0 i_99_99 ?_
      refine Y_gR i_99_100 ow_99 lf_7_30 (k_12 hG) (r_12_8 hG) ?_
      refine Y_al1 i_99_103 ?_
      refine Y_gR i_99_104 ow_99 lf_7_30 (k_2 hG) (r_2_8 hG) ?_
      refine Y_iv1 (L0 := [.ref 18, .ref 8]) i_99_107 ow_99 lm_7_56 ((k_18 hG).trans ow_53.symm) rfl mx_53 rfl rfl hd_99 ?_
      refine Y_al0 i_53_0 ?_
      refine Y_al1 i_53_1 ?_
      refine Y_gI (v := (F 8 1)) i_53_2 ow_53 lf_4_18 (by decide) (k_8 hG) (by simp [wF, wJ, va_up, cpR, bF, bA]) ?_
      refine Y_pI i_53_5 ow_53 lf_4_18 (k_18 hG) ?_
      refine Y_al1 i_53_8 ?_
      refine Y_gR i_53_9 ow_53 lf_4_9 (k_8 hG) (r_8_0 hG) ?_
      refine Y_iconst (v := 0) i_53_12 (by decide) ?_
      refine Y_al0 i_53_13 ?_
      refine Y_gR i_53_14 ow_53 lf_4_9 (k_18 hG) (r_18_0 hG) ?_
      refine Y_iconst (v := 0) i_53_17 (by decide) ?_
      refine Y_al0 i_53_18 ?_
      refine Y_gI (v := (F 8 1)) i_53_19 ow_53 lf_4_18 (by decide) (k_18 hG) (by simp [wF, wJ, va_up, cpR, bF, bA]) ?_
      have o3 := h.1
      replace h := h.2
      refine Y_acp (ksp := 0) (kdp := 0) (kn := (F 8 1).toNatClampNeg) i_53_22 ow_53 lm_4_22 rfl (k_19 hG) (k_9 hG) (l_19 hG) (l_9 hG) o3 (by decide) (by decide) rfl ?_
      refine Y_vret i_53_25 rt_53 (KKv ?_)
      refine Y_vret i_99_110 rt_99 (KKv ?_)
      refine Y_al0 i_127_81 ?_
      refine Y_gR i_127_82 ow_127 lf_9_48 (k_0 hG) (r_0_7 hG) ?_
      exact Y_iv0 (L0 := [.ref 21]) i_127_85 ow_127 lm_9_108 ((k_21 hG).trans ow_61.symm) rfl mx_61 rfl rfl hd_127 h
    · replace h := h.2 e2
      refine Y_al0 i_127_59 ?_
      refine Y_gR i_127_60 ow_127 lf_9_48 (k_0 hG) (r_0_7 hG) ?_
      refine Y_iconst (v := 0) i_127_63 (by decide) ?_
      exact Y_iv1 (L0 := [.ref 21, .int 0]) i_127_64 ow_127 lm_9_102 ((k_21 hG).trans ow_63.symm) rfl mx_63 rfl rfl hd_127 h
  · replace h := h.2 e1
    refine Y_al0 i_127_45 ?_
    refine Y_gR i_127_46 ow_127 lf_9_36 (k_0 hG) (r_0_4 hG) ?_
    refine Y_gI (v := (F 11 0)) i_127_49 ow_127 lf_9_99 (by decide) (k_11 hG) (by simp [wF, wJ, va_up, cpR, bF, bA]) ?_
    refine Y_pI i_127_52 ow_127 lf_9_17 (k_0 hG) ?_
    refine Y_il2 i_127_55 ?_
    refine Y_zeq i_127_56 (fun e4 => ?_) (fun e4 => ?_)
    · replace h := h.1 e4
      refine Y_al0 i_127_70 ?_
      refine Y_gR i_127_71 ow_127 lf_9_40 (k_0 hG) (r_0_6 hG) ?_
      refine Y_al0 i_127_74 ?_
      refine Y_gR i_127_75 ow_127 lf_9_27 (k_0 hG) (r_0_5 hG) ?_
      refine Y_iv1 (L0 := [.ref 12, .ref 2]) i_127_78 ow_127 lm_9_105 ((k_12 hG).trans ow_99.symm) rfl mx_99 rfl rfl hd_127 ?_
      refine Y_al0 i_99_0 ?_
      refine Y_al1 i_99_1 ?_
      refine Y_gI (v := (F 2 0)) i_99_2 ow_99 lf_7_37 (by decide) (k_2 hG) (by simp [wF, wJ, va_up, cpR, bF, bA]) ?_
      refine Y_pI i_99_5 ow_99 lf_7_37 (k_12 hG) ?_
      refine Y_al0 i_99_8 ?_
      refine Y_al1 i_99_9 ?_
      refine Y_gI (v := (F 2 1)) i_99_10 ow_99 lf_7_41 (by decide) (k_2 hG) (by simp [wF, wJ, va_up, cpR, bF, bA]) ?_
      refine Y_pI i_99_13 ow_99 lf_7_41 (k_12 hG) ?_
      refine Y_al0 i_99_16 ?_
      refine Y_al1 i_99_17 ?_
      refine Y_gI (v := (F 2 2)) i_99_18 ow_99 lf_7_44 (by decide) (k_2 hG) (by simp [wF, wJ, va_up, cpR, bF, bA]) ?_
      refine Y_pI i_99_21 ow_99 lf_7_44 (k_12 hG) ?_
      refine Y_al1 i_99_24 ?_
      refine Y_gR i_99_25 ow_99 lf_7_9 (k_2 hG) (r_2_3 hG) ?_
      refine Y_iconst (v := 0) i_99_28 (by decide) ?_
      refine Y_al0 i_99_29 ?_
      refine Y_gR i_99_30 ow_99 lf_7_9 (k_12 hG) (r_12_3 hG) ?_
      refine Y_iconst (v := 0) i_99_33 (by decide) ?_
      refine Y_bipush (v := 10) i_99_34 (by decide) ?_
      refine Y_acp (ksp := 0) (kdp := 0) (kn := 10) i_99_36 ow_99 lm_7_50 rfl (k_13 hG) (k_3 hG) (l_13 hG) (l_3 hG) (by decide) (by decide) (by decide) (by decide) ?_
      refine Y_al1 i_99_39 ?_
      refine Y_gR i_99_40 ow_99 lf_7_15 (k_2 hG) (r_2_4 hG) ?_
      refine Y_iconst (v := 0) i_99_43 (by decide) ?_
      refine Y_al0 i_99_44 ?_
      refine Y_gR i_99_45 ow_99 lf_7_15 (k_12 hG) (r_12_4 hG) ?_
      refine Y_iconst (v := 0) i_99_48 (by decide) ?_
      refine Y_bipush (v := 10) i_99_49 (by decide) ?_
      refine Y_acp (ksp := 0) (kdp := 0) (kn := 10) i_99_51 ow_99 lm_7_50 rfl (k_14 hG) (k_4 hG) (l_14 hG) (l_4 hG) (by decide) (by decide) (by decide) (by decide) ?_
      refine Y_al1 i_99_54 ?_
      refine Y_gR i_99_55 ow_99 lf_7_18 (k_2 hG) (r_2_5 hG) ?_
      refine Y_iconst (v := 0) i_99_58 (by decide) ?_
      refine Y_al0 i_99_59 ?_
      refine Y_gR i_99_60 ow_99 lf_7_18 (k_12 hG) (r_12_5 hG) ?_
      refine Y_iconst (v := 0) i_99_63 (by decide) ?_
      refine Y_bipush (v := 10) i_99_64 (by decide) ?_
      refine Y_acp (ksp := 0) (kdp := 0) (kn := 10) i_99_66 ow_99 lm_7_50 rfl (k_15 hG) (k_5 hG) (l_15 hG) (l_5 hG) (by decide) (by decide) (by decide) (by decide) ?_
      refine Y_al1 i_99_69 ?_
      refine Y_gR i_99_70 ow_99 lf_7_21 (k_2 hG) (r_2_6 hG) ?_
      refine Y_iconst (v := 0) i_99_73 (by decide) ?_
      refine Y_al0 i_99_74 ?_
      refine Y_gR i_99_75 ow_99 lf_7_21 (k_12 hG) (r_12_6 hG) ?_
      refine Y_iconst (v := 0) i_99_78 (by decide) ?_
      refine Y_bipush (v := 10) i_99_79 (by decide) ?_
      refine Y_acp (ksp := 0) (kdp := 0) (kn := 10) i_99_81 ow_99 lm_7_50 rfl (k_16 hG) (k_6 hG) (l_16 hG) (l_6 hG) (by decide) (by decide) (by decide) (by decide) ?_
      refine Y_al1 i_99_84 ?_
      refine Y_gR i_99_85 ow_99 lf_7_24 (k_2 hG) (r_2_7 hG) ?_
      refine Y_iconst (v := 0) i_99_88 (by decide) ?_
      refine Y_al0 i_99_89 ?_
      refine Y_gR i_99_90 ow_99 lf_7_24 (k_12 hG) (r_12_7 hG) ?_
      refine Y_iconst (v := 0) i_99_93 (by decide) ?_
      refine Y_bipush (v := 10) i_99_94 (by decide) ?_
      refine Y_acp (ksp := 0) (kdp := 0) (kn := 10) i_99_96 ow_99 lm_7_50 rfl (k_17 hG) (k_7 hG) (l_17 hG) (l_7 hG) (by decide) (by decide) (by decide) (by decide) ?_
      refine Y_al0 i_99_99 ?_
      refine Y_gR i_99_100 ow_99 lf_7_30 (k_12 hG) (r_12_8 hG) ?_
      refine Y_al1 i_99_103 ?_
      refine Y_gR i_99_104 ow_99 lf_7_30 (k_2 hG) (r_2_8 hG) ?_
      refine Y_iv1 (L0 := [.ref 18, .ref 8]) i_99_107 ow_99 lm_7_56 ((k_18 hG).trans ow_53.symm) rfl mx_53 rfl rfl hd_99 ?_
      refine Y_al0 i_53_0 ?_
      refine Y_al1 i_53_1 ?_
      refine Y_gI (v := (F 8 1)) i_53_2 ow_53 lf_4_18 (by decide) (k_8 hG) (by simp [wF, wJ, va_up, cpR, bF, bA]) ?_
      refine Y_pI i_53_5 ow_53 lf_4_18 (k_18 hG) ?_
      refine Y_al1 i_53_8 ?_
      refine Y_gR i_53_9 ow_53 lf_4_9 (k_8 hG) (r_8_0 hG) ?_
      refine Y_iconst (v := 0) i_53_12 (by decide) ?_
      refine Y_al0 i_53_13 ?_
      refine Y_gR i_53_14 ow_53 lf_4_9 (k_18 hG) (r_18_0 hG) ?_
      refine Y_iconst (v := 0) i_53_17 (by decide) ?_
      refine Y_al0 i_53_18 ?_
      refine Y_gI (v := (F 8 1)) i_53_19 ow_53 lf_4_18 (by decide) (k_18 hG) (by simp [wF, wJ, va_up, cpR, bF, bA]) ?_
      have o5 := h.1
      replace h := h.2
      refine Y_acp (ksp := 0) (kdp := 0) (kn := (F 8 1).toNatClampNeg) i_53_22 ow_53 lm_4_22 rfl (k_19 hG) (k_9 hG) (l_19 hG) (l_9 hG) o5 (by decide) (by decide) rfl ?_
      refine Y_vret i_53_25 rt_53 (KKv ?_)
      refine Y_vret i_99_110 rt_99 (KKv ?_)
      refine Y_al0 i_127_81 ?_
      refine Y_gR i_127_82 ow_127 lf_9_48 (k_0 hG) (r_0_7 hG) ?_
      exact Y_iv0 (L0 := [.ref 21]) i_127_85 ow_127 lm_9_108 ((k_21 hG).trans ow_61.symm) rfl mx_61 rfl rfl hd_127 h
    · replace h := h.2 e4
      refine Y_al0 i_127_59 ?_
      refine Y_gR i_127_60 ow_127 lf_9_48 (k_0 hG) (r_0_7 hG) ?_
      refine Y_iconst (v := 0) i_127_63 (by decide) ?_
      exact Y_iv1 (L0 := [.ref 21, .int 0]) i_127_64 ow_127 lm_9_102 ((k_21 hG).trans ow_63.symm) rfl mx_63 rfl rfl hd_127 h
theorem k_127n_67 {d : Nat} {F A : Nat → Nat → Int32} {J : Nat → Nat → Int64} {G : pG} {Q : pR → pM → Prop} {SL p q : Nat} {x1 x2 r : Int32} (hG : Geo G SL p q) (h : Q (.inl (some (.int x2))) (F, A, J, G)) : KK (d + 6) 127 67 [.ref 0, .int x1, .int x2] [] Q (.inl (some (.int r))) (F, A, J, G) := by
  refine KKi ?_
  refine Y_pop i_127_67 rfl ?_
  refine Y_il2 i_127_68 ?_
  exact Y_iret i_127_69 rt_127 h
theorem k_127n_88 {d : Nat} {F A : Nat → Nat → Int32} {J : Nat → Nat → Int64} {G : pG} {Q : pR → pM → Prop} {SL p q : Nat} {x1 x2 : Int32} (hG : Geo G SL p q) (h : Q (.inl (some (.int 0))) ((wF F 0 3 0), A, J, G)) : KK (d + 6) 127 88 [.ref 0, .int x1, .int x2] [] Q (.inl none) (F, A, J, G) := by
  refine KKv ?_
  refine Y_al0 i_127_88 ?_
  refine Y_iconst (v := 0) i_127_89 (by decide) ?_
  refine Y_pB i_127_90 ow_127 lf_9_20 (k_0 hG) (by decide) ?_
  refine Y_iconst (v := 0) i_127_93 (by decide) ?_
  exact Y_iret i_127_94 rt_127 h
/- 128 TableTower.fault()I -/
theorem t_128n_0 {d : Nat} {F A : Nat → Nat → Int32} {J : Nat → Nat → Int64} {G : pG} {Q : pR → pM → Prop} {SL p q : Nat} (hG : Geo G SL p q) (h : Q (.inl (some (.int (F 0 2)))) (F, A, J, G)) : X d 128 0 [.ref 0] [] (F, A, J, G) Q := by
  refine Y_al0 i_128_0 ?_
  refine Y_gI (v := (F 0 2)) i_128_1 ow_128 lf_9_17 (by decide) (k_0 hG) rfl ?_
  exact Y_iret i_128_4 rt_128 h
/- 129 TableTower.count(I)I -/
theorem t_129n_0 {d : Nat} {F A : Nat → Nat → Int32} {J : Nat → Nat → Int64} {G : pG} {Q : pR → pM → Prop} {SL p q : Nat} {x1 : Int32} (hG : Geo G SL p q) (h : ((x1 = 0 → Q (.inl (some (.int (F 12 0)))) (F, A, J, G)) ∧ (x1 = 1 → Q (.inl (some (.int (F 27 1)))) (F, A, J, G)) ∧ (x1 = 2 → Q (.inl (some (.int (F 12 1)))) (F, A, J, G)) ∧ (x1 = 3 → Q (.inl (some (.int (F 12 2)))) (F, A, J, G)) ∧ (x1 = 4 → X (d + 4) 88 0 [.ref 27] [] (F, A, J, G) (KK (d + 5) 129 117 [.ref 0, .int x1, .ref 27] [] Q)) ∧ (x1 = 5 → X (d + 4) 87 0 [.ref 27, .null] [] (F, A, J, G) (KK (d + 5) 129 130 [.ref 0, .int x1, .ref 27] [] Q)) ∧ (x1 = 6 → Q (.inl (some (.int (F 27 3)))) (F, A, J, G)) ∧ (x1 = 7 → X (d + 4) 93 0 [.ref 27, .null, .null, .null] [] (F, A, J, G) (KK (d + 5) 129 140 [.ref 0, .int x1, .ref 27] [] Q)) ∧ (x1 = 8 → Q (.inl (some (.int (F 27 2)))) (F, A, J, G)) ∧ (x1 = 9 → Q (.inl (some (.int (F 22 0)))) (F, A, J, G)) ∧ (x1 = 10 → Q (.inl (some (.int (F 21 2)))) (F, A, J, G)) ∧ (x1 = 11 → Q (.inl (some (.int (F 0 1)))) (F, A, J, G)) ∧ (x1 = 12 → Q (.inl (some (.int (A 26 0)))) (F, A, J, G)) ∧ (x1 = 13 → Q (.inl (some (.int (A 26 1)))) (F, A, J, G)) ∧ (x1 = 14 → Q (.inl (some (.int (A 26 2)))) (F, A, J, G)) ∧ (((x1 : Int32).toInt < 0 ∨ 14 < (x1 : Int32).toInt) → Q (.inr 101) (F, A, J, gThr G)))) : X (d + 5) 129 0 [.ref 0, .int x1, .null] [] (F, A, J, G) Q := by
  refine Y_al0 i_129_0 ?_
  refine Y_gR i_129_1 ow_129 lf_9_48 (k_0 hG) (r_0_7 hG) ?_
  refine Y_gR i_129_4 ow_129 lf_9_57 (k_21 hG) (r_21_0 hG) ?_
  refine Y_as2 i_129_7 rfl ?_
  refine Y_il1 i_129_8 ?_
  by_cases f0 : x1 = 0
  · replace h := h.1 f0
    refine Y_sw (t := 84) f0 i_129_9 (fun _ => rfl) rfl (fun _ => rfl) (fun _ => rfl) ?_
    refine Y_al0 i_129_84 ?_
    refine Y_gR i_129_85 ow_129 lf_9_40 (k_0 hG) (r_0_6 hG) ?_
    refine Y_gI (v := (F 12 0)) i_129_88 ow_129 lf_9_111 (by decide) (k_12 hG) rfl ?_
    exact Y_iret i_129_91 rt_129 h
  by_cases f1 : x1 = 1
  · replace h := h.2.1 f1
    refine Y_sw (t := 92) f1 i_129_9 (fun _ => rfl) rfl (fun _ => rfl) (fun _ => rfl) ?_
    refine Y_al2 i_129_92 ?_
    refine Y_gI (v := (F 27 1)) i_129_93 ow_129 lf_9_114 (by decide) (k_27 hG) rfl ?_
    exact Y_iret i_129_96 rt_129 h
  by_cases f2 : x1 = 2
  · replace h := h.2.2.1 f2
    refine Y_sw (t := 97) f2 i_129_9 (fun _ => rfl) rfl (fun _ => rfl) (fun _ => rfl) ?_
    refine Y_al0 i_129_97 ?_
    refine Y_gR i_129_98 ow_129 lf_9_40 (k_0 hG) (r_0_6 hG) ?_
    refine Y_gI (v := (F 12 1)) i_129_101 ow_129 lf_9_119 (by decide) (k_12 hG) rfl ?_
    exact Y_iret i_129_104 rt_129 h
  by_cases f3 : x1 = 3
  · replace h := h.2.2.2.1 f3
    refine Y_sw (t := 105) f3 i_129_9 (fun _ => rfl) rfl (fun _ => rfl) (fun _ => rfl) ?_
    refine Y_al0 i_129_105 ?_
    refine Y_gR i_129_106 ow_129 lf_9_40 (k_0 hG) (r_0_6 hG) ?_
    refine Y_gI (v := (F 12 2)) i_129_109 ow_129 lf_9_122 (by decide) (k_12 hG) rfl ?_
    exact Y_iret i_129_112 rt_129 h
  by_cases f4 : x1 = 4
  · replace h := h.2.2.2.2.1 f4
    refine Y_sw (t := 113) f4 i_129_9 (fun _ => rfl) rfl (fun _ => rfl) (fun _ => rfl) ?_
    refine Y_al2 i_129_113 ?_
    exact Y_iv0 (L0 := [.ref 27]) i_129_114 ow_129 lm_9_125 ((k_27 hG).trans ow_88.symm) rfl mx_88 rfl rfl hd_129 h
  by_cases f5 : x1 = 5
  · replace h := h.2.2.2.2.2.1 f5
    refine Y_sw (t := 126) f5 i_129_9 (fun _ => rfl) rfl (fun _ => rfl) (fun _ => rfl) ?_
    refine Y_al2 i_129_126 ?_
    exact Y_iv0 (L0 := [.ref 27, .null]) i_129_127 ow_129 lm_9_129 ((k_27 hG).trans ow_87.symm) rfl mx_87 rfl rfl hd_129 h
  by_cases f6 : x1 = 6
  · replace h := h.2.2.2.2.2.2.1 f6
    refine Y_sw (t := 131) f6 i_129_9 (fun _ => rfl) rfl (fun _ => rfl) (fun _ => rfl) ?_
    refine Y_al2 i_129_131 ?_
    refine Y_gI (v := (F 27 3)) i_129_132 ow_129 lf_9_133 (by decide) (k_27 hG) rfl ?_
    exact Y_iret i_129_135 rt_129 h
  by_cases f7 : x1 = 7
  · replace h := h.2.2.2.2.2.2.2.1 f7
    refine Y_sw (t := 136) f7 i_129_9 (fun _ => rfl) rfl (fun _ => rfl) (fun _ => rfl) ?_
    refine Y_al2 i_129_136 ?_
    exact Y_iv0 (L0 := [.ref 27, .null, .null, .null]) i_129_137 ow_129 lm_9_136 ((k_27 hG).trans ow_93.symm) rfl mx_93 rfl rfl hd_129 h
  by_cases f8 : x1 = 8
  · replace h := h.2.2.2.2.2.2.2.2.1 f8
    refine Y_sw (t := 141) f8 i_129_9 (fun _ => rfl) rfl (fun _ => rfl) (fun _ => rfl) ?_
    refine Y_al2 i_129_141 ?_
    refine Y_gI (v := (F 27 2)) i_129_142 ow_129 lf_9_139 (by decide) (k_27 hG) rfl ?_
    exact Y_iret i_129_145 rt_129 h
  by_cases f9 : x1 = 9
  · replace h := h.2.2.2.2.2.2.2.2.2.1 f9
    refine Y_sw (t := 146) f9 i_129_9 (fun _ => rfl) rfl (fun _ => rfl) (fun _ => rfl) ?_
    refine Y_al0 i_129_146 ?_
    refine Y_gR i_129_147 ow_129 lf_9_48 (k_0 hG) (r_0_7 hG) ?_
    refine Y_gR i_129_150 ow_129 lf_9_142 (k_21 hG) (r_21_1 hG) ?_
    refine Y_gI (v := (F 22 0)) i_129_153 ow_129 lf_9_146 (by decide) (k_22 hG) rfl ?_
    exact Y_iret i_129_156 rt_129 h
  by_cases f10 : x1 = 10
  · replace h := h.2.2.2.2.2.2.2.2.2.2.1 f10
    refine Y_sw (t := 157) f10 i_129_9 (fun _ => rfl) rfl (fun _ => rfl) (fun _ => rfl) ?_
    refine Y_al0 i_129_157 ?_
    refine Y_gR i_129_158 ow_129 lf_9_48 (k_0 hG) (r_0_7 hG) ?_
    refine Y_gI (v := (F 21 2)) i_129_161 ow_129 lf_9_150 (by decide) (k_21 hG) rfl ?_
    exact Y_iret i_129_164 rt_129 h
  by_cases f11 : x1 = 11
  · replace h := h.2.2.2.2.2.2.2.2.2.2.2.1 f11
    refine Y_sw (t := 165) f11 i_129_9 (fun _ => rfl) rfl (fun _ => rfl) (fun _ => rfl) ?_
    refine Y_al0 i_129_165 ?_
    refine Y_gI (v := (F 0 1)) i_129_166 ow_129 lf_9_13 (by decide) (k_0 hG) rfl ?_
    exact Y_iret i_129_169 rt_129 h
  by_cases f12 : x1 = 12
  · replace h := h.2.2.2.2.2.2.2.2.2.2.2.2.1 f12
    refine Y_sw (t := 170) f12 i_129_9 (fun _ => rfl) rfl (fun _ => rfl) (fun _ => rfl) ?_
    refine Y_al0 i_129_170 ?_
    refine Y_gR i_129_171 ow_129 lf_9_48 (k_0 hG) (r_0_7 hG) ?_
    refine Y_gR i_129_174 ow_129 lf_9_153 (k_21 hG) (r_21_5 hG) ?_
    refine Y_iconst (v := 0) i_129_177 (by decide) ?_
    refine Y_iaload (k := 0) (v := (A 26 0)) i_129_178 (k_26 hG) (l_26 hG) (by decide) (by decide) rfl ?_
    exact Y_iret i_129_179 rt_129 h
  by_cases f13 : x1 = 13
  · replace h := h.2.2.2.2.2.2.2.2.2.2.2.2.2.1 f13
    refine Y_sw (t := 180) f13 i_129_9 (fun _ => rfl) rfl (fun _ => rfl) (fun _ => rfl) ?_
    refine Y_al0 i_129_180 ?_
    refine Y_gR i_129_181 ow_129 lf_9_48 (k_0 hG) (r_0_7 hG) ?_
    refine Y_gR i_129_184 ow_129 lf_9_153 (k_21 hG) (r_21_5 hG) ?_
    refine Y_iconst (v := 1) i_129_187 (by decide) ?_
    refine Y_iaload (k := 1) (v := (A 26 1)) i_129_188 (k_26 hG) (l_26 hG) (by decide) (by decide) rfl ?_
    exact Y_iret i_129_189 rt_129 h
  by_cases f14 : x1 = 14
  · replace h := h.2.2.2.2.2.2.2.2.2.2.2.2.2.2.1 f14
    refine Y_sw (t := 190) f14 i_129_9 (fun _ => rfl) rfl (fun _ => rfl) (fun _ => rfl) ?_
    refine Y_al0 i_129_190 ?_
    refine Y_gR i_129_191 ow_129 lf_9_48 (k_0 hG) (r_0_7 hG) ?_
    refine Y_gR i_129_194 ow_129 lf_9_153 (k_21 hG) (r_21_5 hG) ?_
    refine Y_iconst (v := 2) i_129_197 (by decide) ?_
    refine Y_iaload (k := 2) (v := (A 26 2)) i_129_198 (k_26 hG) (l_26 hG) (by decide) (by decide) rfl ?_
    exact Y_iret i_129_199 rt_129 h
  have eD : (x1 : Int32).toInt < 0 ∨ 14 < (x1 : Int32).toInt := by
    have q := ts_out (x := x1) (lo := 0) (n := 15) (by
      intro j hj
      have : j = 0 ∨ j = 1 ∨ j = 2 ∨ j = 3 ∨ j = 4 ∨ j = 5 ∨ j = 6 ∨ j = 7 ∨ j = 8 ∨ j = 9 ∨ j = 10 ∨ j = 11 ∨ j = 12 ∨ j = 13 ∨ j = 14 := by omega
      rcases this with rfl | rfl | rfl | rfl | rfl | rfl | rfl | rfl | rfl | rfl | rfl | rfl | rfl | rfl | rfl
      · exact ne_toInt f0 (by decide)
      · exact ne_toInt f1 (by decide)
      · exact ne_toInt f2 (by decide)
      · exact ne_toInt f3 (by decide)
      · exact ne_toInt f4 (by decide)
      · exact ne_toInt f5 (by decide)
      · exact ne_toInt f6 (by decide)
      · exact ne_toInt f7 (by decide)
      · exact ne_toInt f8 (by decide)
      · exact ne_toInt f9 (by decide)
      · exact ne_toInt f10 (by decide)
      · exact ne_toInt f11 (by decide)
      · exact ne_toInt f12 (by decide)
      · exact ne_toInt f13 (by decide)
      · exact ne_toInt f14 (by decide)
      )
    omega
  replace h := h.2.2.2.2.2.2.2.2.2.2.2.2.2.2.2 eD
  refine Y_tsD (t := 200) eD i_129_9 (by decide) ?_
  exact Y_thr i_129_200 ow_129 lc_9_157 (by decide +kernel) rfl h
theorem k_129n_117 {d : Nat} {F A : Nat → Nat → Int32} {J : Nat → Nat → Int64} {G : pG} {Q : pR → pM → Prop} {SL p q : Nat} {x1 r : Int32} (hG : Geo G SL p q) (h : ((r = 0 → Q (.inl (some (.int 0))) (F, A, J, G)) ∧ (¬ r = 0 → Q (.inl (some (.int 1))) (F, A, J, G)))) : KK (d + 5) 129 117 [.ref 0, .int x1, .ref 27] [] Q (.inl (some (.int r))) (F, A, J, G) := by
  refine KKi ?_
  refine Y_zeq i_129_117 (fun e1 => ?_) (fun e1 => ?_)
  · replace h := h.1 e1
    refine Y_iconst (v := 0) i_129_124 (by decide) ?_
    exact Y_iret i_129_125 rt_129 h
  · replace h := h.2 e1
    refine Y_iconst (v := 1) i_129_120 (by decide) ?_
    refine Y_goto i_129_121 ?_
    exact Y_iret i_129_125 rt_129 h
theorem k_129n_130 {d : Nat} {F A : Nat → Nat → Int32} {J : Nat → Nat → Int64} {G : pG} {Q : pR → pM → Prop} {SL p q : Nat} {x1 r : Int32} (hG : Geo G SL p q) (h : Q (.inl (some (.int r))) (F, A, J, G)) : KK (d + 5) 129 130 [.ref 0, .int x1, .ref 27] [] Q (.inl (some (.int r))) (F, A, J, G) := by
  refine KKi ?_
  exact Y_iret i_129_130 rt_129 h
theorem k_129n_140 {d : Nat} {F A : Nat → Nat → Int32} {J : Nat → Nat → Int64} {G : pG} {Q : pR → pM → Prop} {SL p q : Nat} {x1 r : Int32} (hG : Geo G SL p q) (h : Q (.inl (some (.int r))) (F, A, J, G)) : KK (d + 5) 129 140 [.ref 0, .int x1, .ref 27] [] Q (.inl (some (.int r))) (F, A, J, G) := by
  refine KKi ?_
  exact Y_iret i_129_140 rt_129 h
/- 130 TableTower.table(II)I -/
theorem t_130n_0 {d : Nat} {F A : Nat → Nat → Int32} {J : Nat → Nat → Int64} {G : pG} {Q : pR → pM → Prop} {SL p q : Nat} {x1 x2 : Int32} (hG : Geo G SL p q) (h : ((x1 < 0 → Q (.inr 101) (F, A, J, gThr G)) ∧ (¬ x1 < 0 → ((x1 < (F 12 0) → ((x2 = 0 → inB x1 10 = true ∧ (Q (.inl (some (.int (A 13 x1.toNatClampNeg)))) (F, A, J, G))) ∧ (x2 = 1 → inB x1 10 = true ∧ (Q (.inl (some (.int (A 14 x1.toNatClampNeg)))) (F, A, J, G))) ∧ (x2 = 2 → inB x1 10 = true ∧ (Q (.inl (some (.int (carS (A 13 x1.toNatClampNeg) (A 15 x1.toNatClampNeg) (F 27 2) 1)))) (F, A, J, G))) ∧ (x2 = 3 → inB x1 10 = true ∧ (Q (.inl (some (.int (A 31 x1.toNatClampNeg)))) (F, A, J, G))) ∧ (x2 = 4 → inB x1 10 = true ∧ (Q (.inl (some (.int (A 17 x1.toNatClampNeg)))) (F, A, J, G))) ∧ (x2 = 5 → inB x1 10 = true ∧ (Q (.inl (some (.int (A 29 x1.toNatClampNeg)))) (F, A, J, G))) ∧ (x2 = 6 → inB x1 10 = true ∧ (Q (.inl (some (.int (A 30 x1.toNatClampNeg)))) (F, A, J, G))) ∧ (x2 = 7 → hB (F 27 1) = true ∧ (Q (.inl (some (.int (lvI (A 28) (F 27 1) x1)))) (F, A, J, G))) ∧ (((x2 : Int32).toInt < 0 ∨ 7 < (x2 : Int32).toInt) → Q (.inr 101) (F, A, J, gThr G)))) ∧ (¬ x1 < (F 12 0) → Q (.inr 101) (F, A, J, gThr G)))))) : X (d + 2) 130 0 [.ref 0, .int x1, .int x2, .null] [] (F, A, J, G) Q := by
  refine Y_al0 i_130_0 ?_
  refine Y_il1 i_130_1 ?_
  refine Y_iv1 (L0 := [.ref 0, .int x1]) i_130_2 ow_130 lm_9_162 ((k_0 hG).trans ow_171.symm) rfl mx_171 rfl rfl hd_130 ?_
  refine Y_il1 i_171_0 ?_
  refine Y_zlt i_171_1 (fun e1 => ?_) (fun e1 => ?_)
  · replace h := h.1 e1
    exact Y_thr i_171_15 ow_171 lc_9_157 (by decide +kernel) rfl (KKe h)
  · replace h := h.2 e1
    refine Y_il1 i_171_4 ?_
    refine Y_al0 i_171_5 ?_
    refine Y_gR i_171_6 ow_171 lf_9_40 (k_0 hG) (r_0_6 hG) ?_
    refine Y_gI (v := (F 12 0)) i_171_9 ow_171 lf_9_111 (by decide) (k_12 hG) rfl ?_
    refine Y_clt i_171_12 (fun e2 => ?_) (fun e2 => ?_)
    · replace h := h.1 e2
      refine Y_vret i_171_26 rt_171 (KKv ?_)
      refine Y_al0 i_130_5 ?_
      refine Y_gR i_130_6 ow_130 lf_9_48 (k_0 hG) (r_0_7 hG) ?_
      refine Y_gR i_130_9 ow_130 lf_9_57 (k_21 hG) (r_21_0 hG) ?_
      refine Y_as3 i_130_12 rfl ?_
      refine Y_il2 i_130_13 ?_
      by_cases f0 : x2 = 0
      · replace h := h.1 f0
        refine Y_sw (t := 60) f0 i_130_14 (fun _ => rfl) rfl (fun _ => rfl) (fun _ => rfl) ?_
        refine Y_al0 i_130_60 ?_
        refine Y_gR i_130_61 ow_130 lf_9_40 (k_0 hG) (r_0_6 hG) ?_
        refine Y_gR i_130_64 ow_130 lf_9_165 (k_12 hG) (r_12_3 hG) ?_
        refine Y_il1 i_130_67 ?_
        have o3 := h.1
        replace h := h.2
        refine Y_iaload (k := x1.toNatClampNeg) (v := (A 13 x1.toNatClampNeg)) i_130_68 (k_13 hG) (l_13 hG) o3 rfl rfl ?_
        exact Y_iret i_130_69 rt_130 h
      by_cases f1 : x2 = 1
      · replace h := h.2.1 f1
        refine Y_sw (t := 70) f1 i_130_14 (fun _ => rfl) rfl (fun _ => rfl) (fun _ => rfl) ?_
        refine Y_al0 i_130_70 ?_
        refine Y_gR i_130_71 ow_130 lf_9_40 (k_0 hG) (r_0_6 hG) ?_
        refine Y_gR i_130_74 ow_130 lf_9_168 (k_12 hG) (r_12_4 hG) ?_
        refine Y_il1 i_130_77 ?_
        have o4 := h.1
        replace h := h.2
        refine Y_iaload (k := x1.toNatClampNeg) (v := (A 14 x1.toNatClampNeg)) i_130_78 (k_14 hG) (l_14 hG) o4 rfl rfl ?_
        exact Y_iret i_130_79 rt_130 h
      by_cases f2 : x2 = 2
      · replace h := h.2.2.1 f2
        refine Y_sw (t := 80) f2 i_130_14 (fun _ => rfl) rfl (fun _ => rfl) (fun _ => rfl) ?_
        refine Y_al3 i_130_80 ?_
        refine Y_il1 i_130_81 ?_
        refine Y_iconst (v := 1) i_130_82 (by decide) ?_
        have o5 := h.1
        replace h := h.2
        refine Y_iv2 (L0 := [.ref 27, .int x1, .int 1, .null]) i_130_83 ow_130 lm_9_171 ((k_27 hG).trans ow_82.symm) rfl mx_82 rfl rfl hd_130 ?_
        refine c_82 hG tw_27 o5 (KKi ?_)
        exact Y_iret i_130_86 rt_130 h
      by_cases f3 : x2 = 3
      · replace h := h.2.2.2.1 f3
        refine Y_sw (t := 87) f3 i_130_14 (fun _ => rfl) rfl (fun _ => rfl) (fun _ => rfl) ?_
        refine Y_al3 i_130_87 ?_
        refine Y_gR i_130_88 ow_130 lf_9_175 (k_27 hG) (r_27_7 hG) ?_
        refine Y_il1 i_130_91 ?_
        have o6 := h.1
        replace h := h.2
        refine Y_iaload (k := x1.toNatClampNeg) (v := (A 31 x1.toNatClampNeg)) i_130_92 (k_31 hG) (l_31 hG) o6 rfl rfl ?_
        exact Y_iret i_130_93 rt_130 h
      by_cases f4 : x2 = 4
      · replace h := h.2.2.2.2.1 f4
        refine Y_sw (t := 94) f4 i_130_14 (fun _ => rfl) rfl (fun _ => rfl) (fun _ => rfl) ?_
        refine Y_al0 i_130_94 ?_
        refine Y_gR i_130_95 ow_130 lf_9_40 (k_0 hG) (r_0_6 hG) ?_
        refine Y_gR i_130_98 ow_130 lf_9_178 (k_12 hG) (r_12_7 hG) ?_
        refine Y_il1 i_130_101 ?_
        have o7 := h.1
        replace h := h.2
        refine Y_iaload (k := x1.toNatClampNeg) (v := (A 17 x1.toNatClampNeg)) i_130_102 (k_17 hG) (l_17 hG) o7 rfl rfl ?_
        exact Y_iret i_130_103 rt_130 h
      by_cases f5 : x2 = 5
      · replace h := h.2.2.2.2.2.1 f5
        refine Y_sw (t := 104) f5 i_130_14 (fun _ => rfl) rfl (fun _ => rfl) (fun _ => rfl) ?_
        refine Y_al3 i_130_104 ?_
        refine Y_gR i_130_105 ow_130 lf_9_181 (k_27 hG) (r_27_5 hG) ?_
        refine Y_il1 i_130_108 ?_
        have o8 := h.1
        replace h := h.2
        refine Y_iaload (k := x1.toNatClampNeg) (v := (A 29 x1.toNatClampNeg)) i_130_109 (k_29 hG) (l_29 hG) o8 rfl rfl ?_
        exact Y_iret i_130_110 rt_130 h
      by_cases f6 : x2 = 6
      · replace h := h.2.2.2.2.2.2.1 f6
        refine Y_sw (t := 111) f6 i_130_14 (fun _ => rfl) rfl (fun _ => rfl) (fun _ => rfl) ?_
        refine Y_al3 i_130_111 ?_
        refine Y_gR i_130_112 ow_130 lf_9_184 (k_27 hG) (r_27_6 hG) ?_
        refine Y_il1 i_130_115 ?_
        have o9 := h.1
        replace h := h.2
        refine Y_iaload (k := x1.toNatClampNeg) (v := (A 30 x1.toNatClampNeg)) i_130_116 (k_30 hG) (l_30 hG) o9 rfl rfl ?_
        exact Y_iret i_130_117 rt_130 h
      by_cases f7 : x2 = 7
      · replace h := h.2.2.2.2.2.2.2.1 f7
        refine Y_sw (t := 118) f7 i_130_14 (fun _ => rfl) rfl (fun _ => rfl) (fun _ => rfl) ?_
        refine Y_al3 i_130_118 ?_
        refine Y_il1 i_130_119 ?_
        have o10 := h.1
        replace h := h.2
        refine Y_iv1 (L0 := [.ref 27, .int x1, .null]) i_130_120 ow_130 lm_9_187 ((k_27 hG).trans ow_77.symm) rfl mx_77 rfl rfl hd_130 ?_
        refine c_77 hG tw_27 o10 (KKi' (v' := (lvI (A 28) (F 27 1) x1)) (by simp [wF, wJ, va_up, cpR, bF, bA]) ?_)
        exact Y_iret i_130_123 rt_130 h
      have eD : (x2 : Int32).toInt < 0 ∨ 7 < (x2 : Int32).toInt := by
        have q := ts_out (x := x2) (lo := 0) (n := 8) (by
          intro j hj
          have : j = 0 ∨ j = 1 ∨ j = 2 ∨ j = 3 ∨ j = 4 ∨ j = 5 ∨ j = 6 ∨ j = 7 := by omega
          rcases this with rfl | rfl | rfl | rfl | rfl | rfl | rfl | rfl
          · exact ne_toInt f0 (by decide)
          · exact ne_toInt f1 (by decide)
          · exact ne_toInt f2 (by decide)
          · exact ne_toInt f3 (by decide)
          · exact ne_toInt f4 (by decide)
          · exact ne_toInt f5 (by decide)
          · exact ne_toInt f6 (by decide)
          · exact ne_toInt f7 (by decide)
          )
        omega
      replace h := h.2.2.2.2.2.2.2.2 eD
      refine Y_tsD (t := 124) eD i_130_14 (by decide) ?_
      exact Y_thr i_130_124 ow_130 lc_9_157 (by decide +kernel) rfl h
    · replace h := h.2 e2
      exact Y_thr i_171_15 ow_171 lc_9_157 (by decide +kernel) rfl (KKe h)
/- 131 TableTower.level(II)I -/
theorem t_131n_0 {d : Nat} {F A : Nat → Nat → Int32} {J : Nat → Nat → Int64} {G : pG} {Q : pR → pM → Prop} {SL p q : Nat} {x1 x2 : Int32} (hG : Geo G SL p q) (h : ((x1 < 0 → Q (.inr 101) (F, A, J, gThr G)) ∧ (¬ x1 < 0 → ((x1 < (F 27 1) → X (d + 2) 84 0 [.ref 27, .null, .null, .null] [] (F, A, J, G) (KK (d + 3) 131 17 [.ref 0, .int x1, .int x2, .ref 27] [] Q)) ∧ (¬ x1 < (F 27 1) → Q (.inr 101) (F, A, J, gThr G)))))) : X (d + 3) 131 0 [.ref 0, .int x1, .int x2, .null] [] (F, A, J, G) Q := by
  refine Y_al0 i_131_0 ?_
  refine Y_il1 i_131_1 ?_
  refine Y_iv1 (L0 := [.ref 0, .int x1]) i_131_2 ow_131 lm_9_192 ((k_0 hG).trans ow_173.symm) rfl mx_173 rfl rfl hd_131 ?_
  refine Y_il1 i_173_0 ?_
  refine Y_zlt i_173_1 (fun e1 => ?_) (fun e1 => ?_)
  · replace h := h.1 e1
    exact Y_thr i_173_18 ow_173 lc_9_157 (by decide +kernel) rfl (KKe h)
  · replace h := h.2 e1
    refine Y_il1 i_173_4 ?_
    refine Y_al0 i_173_5 ?_
    refine Y_gR i_173_6 ow_173 lf_9_48 (k_0 hG) (r_0_7 hG) ?_
    refine Y_gR i_173_9 ow_173 lf_9_57 (k_21 hG) (r_21_0 hG) ?_
    refine Y_gI (v := (F 27 1)) i_173_12 ow_173 lf_9_114 (by decide) (k_27 hG) rfl ?_
    refine Y_clt i_173_15 (fun e2 => ?_) (fun e2 => ?_)
    · replace h := h.1 e2
      refine Y_vret i_173_29 rt_173 (KKv ?_)
      refine Y_al0 i_131_5 ?_
      refine Y_gR i_131_6 ow_131 lf_9_48 (k_0 hG) (r_0_7 hG) ?_
      refine Y_gR i_131_9 ow_131 lf_9_57 (k_21 hG) (r_21_0 hG) ?_
      refine Y_as3 i_131_12 rfl ?_
      refine Y_al3 i_131_13 ?_
      exact Y_iv0 (L0 := [.ref 27, .null, .null, .null]) i_131_14 ow_131 lm_9_195 ((k_27 hG).trans ow_84.symm) rfl mx_84 rfl rfl hd_131 h
    · replace h := h.2 e2
      exact Y_thr i_173_18 ow_173 lc_9_157 (by decide +kernel) rfl (KKe h)
theorem k_131n_17 {d : Nat} {F A : Nat → Nat → Int32} {J : Nat → Nat → Int64} {G : pG} {Q : pR → pM → Prop} {SL p q : Nat} {x1 x2 : Int32} (hG : Geo G SL p q) (h : ((x2 = 0 → inB x1 10 = true ∧ (Q (.inl (some (.int (A 28 x1.toNatClampNeg)))) (F, A, J, G))) ∧ (x2 = 1 → inB x1 10 = true ∧ (Q (.inl (some (.int (A 32 x1.toNatClampNeg)))) (F, A, J, G))) ∧ (x2 = 2 → inB x1 10 = true ∧ (Q (.inl (some (.int (A 33 x1.toNatClampNeg)))) (F, A, J, G))) ∧ (x2 = 3 → inB x1 10 = true ∧ (Q (.inl (some (.int (A 34 x1.toNatClampNeg)))) (F, A, J, G))) ∧ (x2 = 4 → X (d + 2) 86 0 [.ref 27, .int x1] [] (F, A, J, G) (KK (d + 3) 131 85 [.ref 0, .int x1, .int x2, .ref 27] [] Q)) ∧ (((x2 : Int32).toInt < 0 ∨ 4 < (x2 : Int32).toInt) → Q (.inr 101) (F, A, J, gThr G)))) : KK (d + 3) 131 17 [.ref 0, .int x1, .int x2, .ref 27] [] Q (.inl none) (F, A, J, G) := by
  refine KKv ?_
  refine Y_il2 i_131_17 ?_
  by_cases f0 : x2 = 0
  · replace h := h.1 f0
    refine Y_sw (t := 52) f0 i_131_18 (fun _ => rfl) rfl (fun _ => rfl) (fun _ => rfl) ?_
    refine Y_al3 i_131_52 ?_
    refine Y_gR i_131_53 ow_131 lf_9_198 (k_27 hG) (r_27_4 hG) ?_
    refine Y_il1 i_131_56 ?_
    have o1 := h.1
    replace h := h.2
    refine Y_iaload (k := x1.toNatClampNeg) (v := (A 28 x1.toNatClampNeg)) i_131_57 (k_28 hG) (l_28 hG) o1 rfl rfl ?_
    exact Y_iret i_131_58 rt_131 h
  by_cases f1 : x2 = 1
  · replace h := h.2.1 f1
    refine Y_sw (t := 59) f1 i_131_18 (fun _ => rfl) rfl (fun _ => rfl) (fun _ => rfl) ?_
    refine Y_al3 i_131_59 ?_
    refine Y_gR i_131_60 ow_131 lf_9_201 (k_27 hG) (r_27_8 hG) ?_
    refine Y_il1 i_131_63 ?_
    have o2 := h.1
    replace h := h.2
    refine Y_iaload (k := x1.toNatClampNeg) (v := (A 32 x1.toNatClampNeg)) i_131_64 (k_32 hG) (l_32 hG) o2 rfl rfl ?_
    exact Y_iret i_131_65 rt_131 h
  by_cases f2 : x2 = 2
  · replace h := h.2.2.1 f2
    refine Y_sw (t := 66) f2 i_131_18 (fun _ => rfl) rfl (fun _ => rfl) (fun _ => rfl) ?_
    refine Y_al3 i_131_66 ?_
    refine Y_gR i_131_67 ow_131 lf_9_204 (k_27 hG) (r_27_9 hG) ?_
    refine Y_il1 i_131_70 ?_
    have o3 := h.1
    replace h := h.2
    refine Y_iaload (k := x1.toNatClampNeg) (v := (A 33 x1.toNatClampNeg)) i_131_71 (k_33 hG) (l_33 hG) o3 rfl rfl ?_
    exact Y_iret i_131_72 rt_131 h
  by_cases f3 : x2 = 3
  · replace h := h.2.2.2.1 f3
    refine Y_sw (t := 73) f3 i_131_18 (fun _ => rfl) rfl (fun _ => rfl) (fun _ => rfl) ?_
    refine Y_al3 i_131_73 ?_
    refine Y_gR i_131_74 ow_131 lf_9_207 (k_27 hG) (r_27_10 hG) ?_
    refine Y_il1 i_131_77 ?_
    have o4 := h.1
    replace h := h.2
    refine Y_iaload (k := x1.toNatClampNeg) (v := (A 34 x1.toNatClampNeg)) i_131_78 (k_34 hG) (l_34 hG) o4 rfl rfl ?_
    exact Y_iret i_131_79 rt_131 h
  by_cases f4 : x2 = 4
  · replace h := h.2.2.2.2.1 f4
    refine Y_sw (t := 80) f4 i_131_18 (fun _ => rfl) rfl (fun _ => rfl) (fun _ => rfl) ?_
    refine Y_al3 i_131_80 ?_
    refine Y_il1 i_131_81 ?_
    exact Y_iv1 (L0 := [.ref 27, .int x1]) i_131_82 ow_131 lm_9_210 ((k_27 hG).trans ow_86.symm) rfl mx_86 rfl rfl hd_131 h
  have eD : (x2 : Int32).toInt < 0 ∨ 4 < (x2 : Int32).toInt := by
    have q := ts_out (x := x2) (lo := 0) (n := 5) (by
      intro j hj
      have : j = 0 ∨ j = 1 ∨ j = 2 ∨ j = 3 ∨ j = 4 := by omega
      rcases this with rfl | rfl | rfl | rfl | rfl
      · exact ne_toInt f0 (by decide)
      · exact ne_toInt f1 (by decide)
      · exact ne_toInt f2 (by decide)
      · exact ne_toInt f3 (by decide)
      · exact ne_toInt f4 (by decide)
      )
    omega
  replace h := h.2.2.2.2.2 eD
  refine Y_tsD (t := 94) eD i_131_18 (by decide) ?_
  exact Y_thr i_131_94 ow_131 lc_9_157 (by decide +kernel) rfl h
theorem k_131n_85 {d : Nat} {F A : Nat → Nat → Int32} {J : Nat → Nat → Int64} {G : pG} {Q : pR → pM → Prop} {SL p q : Nat} {x1 x2 r : Int32} (hG : Geo G SL p q) (h : ((r = 0 → Q (.inl (some (.int 0))) (F, A, J, G)) ∧ (¬ r = 0 → Q (.inl (some (.int 1))) (F, A, J, G)))) : KK (d + 3) 131 85 [.ref 0, .int x1, .int x2, .ref 27] [] Q (.inl (some (.int r))) (F, A, J, G) := by
  refine KKi ?_
  refine Y_zeq i_131_85 (fun e1 => ?_) (fun e1 => ?_)
  · replace h := h.1 e1
    refine Y_iconst (v := 0) i_131_92 (by decide) ?_
    exact Y_iret i_131_93 rt_131 h
  · replace h := h.2 e1
    refine Y_iconst (v := 1) i_131_88 (by decide) ?_
    refine Y_goto i_131_89 ?_
    exact Y_iret i_131_93 rt_131 h
/- 132 TableTower.by()I -/
theorem t_132n_0 {d : Nat} {F A : Nat → Nat → Int32} {J : Nat → Nat → Int64} {G : pG} {Q : pR → pM → Prop} {SL p q : Nat} (hG : Geo G SL p q) (h : hB (F 27 1) = true ∧ (Q (.inl (some (.int ((((1 : Int32) <<< ((F 12 0) &&& 31)) - 1) &&& ((bitsI (A 28) (F 27 1)) ^^^ (-1)))))) (F, A, J, G))) : X (d + 1) 132 0 [.ref 0] [] (F, A, J, G) Q := by
  refine Y_al0 i_132_0 ?_
  refine Y_gR i_132_1 ow_132 lf_9_40 (k_0 hG) (r_0_6 hG) ?_
  refine Y_iv0 (L0 := [.ref 12]) i_132_4 ow_132 lm_9_216 ((k_12 hG).trans ow_100.symm) rfl mx_100 rfl rfl hd_132 ?_
  refine Y_iconst (v := 1) i_100_0 (by decide) ?_
  refine Y_al0 i_100_1 ?_
  refine Y_gI (v := (F 12 0)) i_100_2 ow_100 lf_7_37 (by decide) (k_12 hG) rfl ?_
  refine Y_ishl i_100_5 ?_
  refine Y_iconst (v := 1) i_100_6 (by decide) ?_
  refine Y_isub i_100_7 ?_
  refine Y_iret i_100_8 rt_100 (KKi ?_)
  refine Y_al0 i_132_7 ?_
  refine Y_gR i_132_8 ow_132 lf_9_48 (k_0 hG) (r_0_7 hG) ?_
  refine Y_gR i_132_11 ow_132 lf_9_57 (k_21 hG) (r_21_0 hG) ?_
  have o1 := h.1
  replace h := h.2
  refine Y_iv0 (L0 := [.ref 27, .null, .null]) i_132_14 ow_132 lm_9_219 ((k_27 hG).trans ow_78.symm) rfl mx_78 rfl rfl hd_132 ?_
  refine c_78 hG tw_27 o1 (KKi' (v' := (bitsI (A 28) (F 27 1))) (by simp [wF, wJ, va_up, cpR, bF, bA]) ?_)
  refine Y_iconst (v := (-1)) i_132_17 (by decide) ?_
  refine Y_ixor i_132_18 ?_
  refine Y_iand i_132_19 ?_
  exact Y_iret i_132_20 rt_132 h
/- 133 TableTower.put(II)I -/
theorem t_133n_0 {d : Nat} {F A : Nat → Nat → Int32} {J : Nat → Nat → Int64} {G : pG} {Q : pR → pM → Prop} {SL p q : Nat} {x1 x2 : Int32} (hG : Geo G SL p q) (h : ((x1 < 0 → Q (.inr 101) (F, A, J, gThr G)) ∧ (¬ x1 < 0 → ((x1 < (F 12 0) → X (d + 2) 64 0 [.ref 21, .int x1, .int x2] [] (F, A, J, G) (KK (d + 3) 133 14 [.ref 0, .int x1, .int x2] [] Q)) ∧ (¬ x1 < (F 12 0) → Q (.inr 101) (F, A, J, gThr G)))))) : X (d + 3) 133 0 [.ref 0, .int x1, .int x2] [] (F, A, J, G) Q := by
  refine Y_al0 i_133_0 ?_
  refine Y_il1 i_133_1 ?_
  refine Y_iv1 (L0 := [.ref 0, .int x1]) i_133_2 ow_133 lm_9_162 ((k_0 hG).trans ow_171.symm) rfl mx_171 rfl rfl hd_133 ?_
  refine Y_il1 i_171_0 ?_
  refine Y_zlt i_171_1 (fun e1 => ?_) (fun e1 => ?_)
  · replace h := h.1 e1
    exact Y_thr i_171_15 ow_171 lc_9_157 (by decide +kernel) rfl (KKe h)
  · replace h := h.2 e1
    refine Y_il1 i_171_4 ?_
    refine Y_al0 i_171_5 ?_
    refine Y_gR i_171_6 ow_171 lf_9_40 (k_0 hG) (r_0_6 hG) ?_
    refine Y_gI (v := (F 12 0)) i_171_9 ow_171 lf_9_111 (by decide) (k_12 hG) rfl ?_
    refine Y_clt i_171_12 (fun e2 => ?_) (fun e2 => ?_)
    · replace h := h.1 e2
      refine Y_vret i_171_26 rt_171 (KKv ?_)
      refine Y_al0 i_133_5 ?_
      refine Y_gR i_133_6 ow_133 lf_9_48 (k_0 hG) (r_0_7 hG) ?_
      refine Y_il1 i_133_9 ?_
      refine Y_il2 i_133_10 ?_
      exact Y_iv2 (L0 := [.ref 21, .int x1, .int x2]) i_133_11 ow_133 lm_9_222 ((k_21 hG).trans ow_64.symm) rfl mx_64 rfl rfl hd_133 h
    · replace h := h.2 e2
      exact Y_thr i_171_15 ow_171 lc_9_157 (by decide +kernel) rfl (KKe h)
theorem k_133n_14 {d : Nat} {F A : Nat → Nat → Int32} {J : Nat → Nat → Int64} {G : pG} {Q : pR → pM → Prop} {SL p q : Nat} {x1 x2 r : Int32} (hG : Geo G SL p q) (h : Q (.inl (some (.int r))) (F, A, J, G)) : KK (d + 3) 133 14 [.ref 0, .int x1, .int x2] [] Q (.inl (some (.int r))) (F, A, J, G) := by
  refine KKi ?_
  exact Y_iret i_133_14 rt_133 h
/- 134 TableTower.take(I)I -/
theorem t_134n_0 {d : Nat} {F A : Nat → Nat → Int32} {J : Nat → Nat → Int64} {G : pG} {Q : pR → pM → Prop} {SL p q : Nat} {x1 : Int32} (hG : Geo G SL p q) (h : ((x1 < 0 → Q (.inr 101) (F, A, J, gThr G)) ∧ (¬ x1 < 0 → ((x1 < (F 12 0) → X (d + 2) 65 0 [.ref 21, .int x1, .null] [] (F, A, J, G) (KK (d + 3) 134 13 [.ref 0, .int x1] [] Q)) ∧ (¬ x1 < (F 12 0) → Q (.inr 101) (F, A, J, gThr G)))))) : X (d + 3) 134 0 [.ref 0, .int x1] [] (F, A, J, G) Q := by
  refine Y_al0 i_134_0 ?_
  refine Y_il1 i_134_1 ?_
  refine Y_iv1 (L0 := [.ref 0, .int x1]) i_134_2 ow_134 lm_9_162 ((k_0 hG).trans ow_171.symm) rfl mx_171 rfl rfl hd_134 ?_
  refine Y_il1 i_171_0 ?_
  refine Y_zlt i_171_1 (fun e1 => ?_) (fun e1 => ?_)
  · replace h := h.1 e1
    exact Y_thr i_171_15 ow_171 lc_9_157 (by decide +kernel) rfl (KKe h)
  · replace h := h.2 e1
    refine Y_il1 i_171_4 ?_
    refine Y_al0 i_171_5 ?_
    refine Y_gR i_171_6 ow_171 lf_9_40 (k_0 hG) (r_0_6 hG) ?_
    refine Y_gI (v := (F 12 0)) i_171_9 ow_171 lf_9_111 (by decide) (k_12 hG) rfl ?_
    refine Y_clt i_171_12 (fun e2 => ?_) (fun e2 => ?_)
    · replace h := h.1 e2
      refine Y_vret i_171_26 rt_171 (KKv ?_)
      refine Y_al0 i_134_5 ?_
      refine Y_gR i_134_6 ow_134 lf_9_48 (k_0 hG) (r_0_7 hG) ?_
      refine Y_il1 i_134_9 ?_
      exact Y_iv1 (L0 := [.ref 21, .int x1, .null]) i_134_10 ow_134 lm_9_226 ((k_21 hG).trans ow_65.symm) rfl mx_65 rfl rfl hd_134 h
    · replace h := h.2 e2
      exact Y_thr i_171_15 ow_171 lc_9_157 (by decide +kernel) rfl (KKe h)
theorem k_134n_13 {d : Nat} {F A : Nat → Nat → Int32} {J : Nat → Nat → Int64} {G : pG} {Q : pR → pM → Prop} {SL p q : Nat} {x1 r : Int32} (hG : Geo G SL p q) (h : Q (.inl (some (.int r))) (F, A, J, G)) : KK (d + 3) 134 13 [.ref 0, .int x1] [] Q (.inl (some (.int r))) (F, A, J, G) := by
  refine KKi ?_
  exact Y_iret i_134_13 rt_134 h
/- 135 TableTower.change(II)Z -/
theorem t_135n_0 {d : Nat} {F A : Nat → Nat → Int32} {J : Nat → Nat → Int64} {G : pG} {Q : pR → pM → Prop} {SL p q : Nat} {x1 x2 : Int32} (hG : Geo G SL p q) (h : ((x1 < 0 → Q (.inr 101) (F, A, J, gThr G)) ∧ (¬ x1 < 0 → ((x1 < (F 27 1) → ((x2 < 0 → Q (.inr 101) (F, A, J, gThr G)) ∧ (¬ x2 < 0 → ((x2 < (F 27 1) → X (d + 2) 66 0 [.ref 21, .int x1, .int x2] [] (F, A, J, G) (KK (d + 3) 135 19 [.ref 0, .int x1, .int x2] [] Q)) ∧ (¬ x2 < (F 27 1) → Q (.inr 101) (F, A, J, gThr G)))))) ∧ (¬ x1 < (F 27 1) → Q (.inr 101) (F, A, J, gThr G)))))) : X (d + 3) 135 0 [.ref 0, .int x1, .int x2] [] (F, A, J, G) Q := by
  refine Y_al0 i_135_0 ?_
  refine Y_il1 i_135_1 ?_
  refine Y_iv1 (L0 := [.ref 0, .int x1]) i_135_2 ow_135 lm_9_192 ((k_0 hG).trans ow_173.symm) rfl mx_173 rfl rfl hd_135 ?_
  refine Y_il1 i_173_0 ?_
  refine Y_zlt i_173_1 (fun e1 => ?_) (fun e1 => ?_)
  · replace h := h.1 e1
    exact Y_thr i_173_18 ow_173 lc_9_157 (by decide +kernel) rfl (KKe h)
  · replace h := h.2 e1
    refine Y_il1 i_173_4 ?_
    refine Y_al0 i_173_5 ?_
    refine Y_gR i_173_6 ow_173 lf_9_48 (k_0 hG) (r_0_7 hG) ?_
    refine Y_gR i_173_9 ow_173 lf_9_57 (k_21 hG) (r_21_0 hG) ?_
    refine Y_gI (v := (F 27 1)) i_173_12 ow_173 lf_9_114 (by decide) (k_27 hG) rfl ?_
    refine Y_clt i_173_15 (fun e2 => ?_) (fun e2 => ?_)
    · replace h := h.1 e2
      refine Y_vret i_173_29 rt_173 (KKv ?_)
      refine Y_al0 i_135_5 ?_
      refine Y_il2 i_135_6 ?_
      refine Y_iv1 (L0 := [.ref 0, .int x2]) i_135_7 ow_135 lm_9_192 ((k_0 hG).trans ow_173.symm) rfl mx_173 rfl rfl hd_135 ?_
      refine Y_il1 i_173_0 ?_
      refine Y_zlt i_173_1 (fun e3 => ?_) (fun e3 => ?_)
      · replace h := h.1 e3
        exact Y_thr i_173_18 ow_173 lc_9_157 (by decide +kernel) rfl (KKe h)
      · replace h := h.2 e3
        refine Y_il1 i_173_4 ?_
        refine Y_al0 i_173_5 ?_
        refine Y_gR i_173_6 ow_173 lf_9_48 (k_0 hG) (r_0_7 hG) ?_
        refine Y_gR i_173_9 ow_173 lf_9_57 (k_21 hG) (r_21_0 hG) ?_
        refine Y_gI (v := (F 27 1)) i_173_12 ow_173 lf_9_114 (by decide) (k_27 hG) rfl ?_
        refine Y_clt i_173_15 (fun e4 => ?_) (fun e4 => ?_)
        · replace h := h.1 e4
          refine Y_vret i_173_29 rt_173 (KKv ?_)
          refine Y_al0 i_135_10 ?_
          refine Y_gR i_135_11 ow_135 lf_9_48 (k_0 hG) (r_0_7 hG) ?_
          refine Y_il1 i_135_14 ?_
          refine Y_il2 i_135_15 ?_
          exact Y_iv2 (L0 := [.ref 21, .int x1, .int x2]) i_135_16 ow_135 lm_9_229 ((k_21 hG).trans ow_66.symm) rfl mx_66 rfl rfl hd_135 h
        · replace h := h.2 e4
          exact Y_thr i_173_18 ow_173 lc_9_157 (by decide +kernel) rfl (KKe h)
    · replace h := h.2 e2
      exact Y_thr i_173_18 ow_173 lc_9_157 (by decide +kernel) rfl (KKe h)
theorem k_135n_19 {d : Nat} {F A : Nat → Nat → Int32} {J : Nat → Nat → Int64} {G : pG} {Q : pR → pM → Prop} {SL p q : Nat} {x1 x2 r : Int32} (hG : Geo G SL p q) (h : (r = 0 ∨ r = 1) ∧ (Q (.inl (some (.int r))) (F, A, J, G))) : KK (d + 3) 135 19 [.ref 0, .int x1, .int x2] [] Q (.inl (some (.int r))) (F, A, J, G) := by
  refine KKi ?_
  have o1 := h.1
  replace h := h.2
  exact Y_bret i_135_19 rt_135 o1 h
/- 136 TableTower.wedge(II)I -/
theorem t_136n_0 {d : Nat} {F A : Nat → Nat → Int32} {J : Nat → Nat → Int64} {G : pG} {Q : pR → pM → Prop} {SL p q : Nat} {x1 x2 : Int32} (hG : Geo G SL p q) (h : ((x1 < 0 → Q (.inr 101) (F, A, J, gThr G)) ∧ (¬ x1 < 0 → ((x1 < (F 12 0) → X (d + 2) 67 0 [.ref 21, .int x1, .int x2, .null] [] (F, A, J, G) (KK (d + 3) 136 14 [.ref 0, .int x1, .int x2] [] Q)) ∧ (¬ x1 < (F 12 0) → Q (.inr 101) (F, A, J, gThr G)))))) : X (d + 3) 136 0 [.ref 0, .int x1, .int x2] [] (F, A, J, G) Q := by
  refine Y_al0 i_136_0 ?_
  refine Y_il1 i_136_1 ?_
  refine Y_iv1 (L0 := [.ref 0, .int x1]) i_136_2 ow_136 lm_9_162 ((k_0 hG).trans ow_171.symm) rfl mx_171 rfl rfl hd_136 ?_
  refine Y_il1 i_171_0 ?_
  refine Y_zlt i_171_1 (fun e1 => ?_) (fun e1 => ?_)
  · replace h := h.1 e1
    exact Y_thr i_171_15 ow_171 lc_9_157 (by decide +kernel) rfl (KKe h)
  · replace h := h.2 e1
    refine Y_il1 i_171_4 ?_
    refine Y_al0 i_171_5 ?_
    refine Y_gR i_171_6 ow_171 lf_9_40 (k_0 hG) (r_0_6 hG) ?_
    refine Y_gI (v := (F 12 0)) i_171_9 ow_171 lf_9_111 (by decide) (k_12 hG) rfl ?_
    refine Y_clt i_171_12 (fun e2 => ?_) (fun e2 => ?_)
    · replace h := h.1 e2
      refine Y_vret i_171_26 rt_171 (KKv ?_)
      refine Y_al0 i_136_5 ?_
      refine Y_gR i_136_6 ow_136 lf_9_48 (k_0 hG) (r_0_7 hG) ?_
      refine Y_il1 i_136_9 ?_
      refine Y_il2 i_136_10 ?_
      exact Y_iv2 (L0 := [.ref 21, .int x1, .int x2, .null]) i_136_11 ow_136 lm_9_233 ((k_21 hG).trans ow_67.symm) rfl mx_67 rfl rfl hd_136 h
    · replace h := h.2 e2
      exact Y_thr i_171_15 ow_171 lc_9_157 (by decide +kernel) rfl (KKe h)
theorem k_136n_14 {d : Nat} {F A : Nat → Nat → Int32} {J : Nat → Nat → Int64} {G : pG} {Q : pR → pM → Prop} {SL p q : Nat} {x1 x2 r : Int32} (hG : Geo G SL p q) (h : Q (.inl (some (.int r))) (F, A, J, G)) : KK (d + 3) 136 14 [.ref 0, .int x1, .int x2] [] Q (.inl (some (.int r))) (F, A, J, G) := by
  refine KKi ?_
  exact Y_iret i_136_14 rt_136 h
/- 137 TableTower.saw(II)I -/
theorem t_137n_0 {d : Nat} {F A : Nat → Nat → Int32} {J : Nat → Nat → Int64} {G : pG} {Q : pR → pM → Prop} {SL p q : Nat} {x1 x2 : Int32} (hG : Geo G SL p q) (h : ((x1 < 0 → Q (.inr 101) (F, A, J, gThr G)) ∧ (¬ x1 < 0 → ((x1 < (F 12 0) → X (d + 2) 68 0 [.ref 21, .int x1, .int x2, .null] [] (F, A, J, G) (KK (d + 3) 137 14 [.ref 0, .int x1, .int x2] [] Q)) ∧ (¬ x1 < (F 12 0) → Q (.inr 101) (F, A, J, gThr G)))))) : X (d + 3) 137 0 [.ref 0, .int x1, .int x2] [] (F, A, J, G) Q := by
  refine Y_al0 i_137_0 ?_
  refine Y_il1 i_137_1 ?_
  refine Y_iv1 (L0 := [.ref 0, .int x1]) i_137_2 ow_137 lm_9_162 ((k_0 hG).trans ow_171.symm) rfl mx_171 rfl rfl hd_137 ?_
  refine Y_il1 i_171_0 ?_
  refine Y_zlt i_171_1 (fun e1 => ?_) (fun e1 => ?_)
  · replace h := h.1 e1
    exact Y_thr i_171_15 ow_171 lc_9_157 (by decide +kernel) rfl (KKe h)
  · replace h := h.2 e1
    refine Y_il1 i_171_4 ?_
    refine Y_al0 i_171_5 ?_
    refine Y_gR i_171_6 ow_171 lf_9_40 (k_0 hG) (r_0_6 hG) ?_
    refine Y_gI (v := (F 12 0)) i_171_9 ow_171 lf_9_111 (by decide) (k_12 hG) rfl ?_
    refine Y_clt i_171_12 (fun e2 => ?_) (fun e2 => ?_)
    · replace h := h.1 e2
      refine Y_vret i_171_26 rt_171 (KKv ?_)
      refine Y_al0 i_137_5 ?_
      refine Y_gR i_137_6 ow_137 lf_9_48 (k_0 hG) (r_0_7 hG) ?_
      refine Y_il1 i_137_9 ?_
      refine Y_il2 i_137_10 ?_
      exact Y_iv2 (L0 := [.ref 21, .int x1, .int x2, .null]) i_137_11 ow_137 lm_9_236 ((k_21 hG).trans ow_68.symm) rfl mx_68 rfl rfl hd_137 h
    · replace h := h.2 e2
      exact Y_thr i_171_15 ow_171 lc_9_157 (by decide +kernel) rfl (KKe h)
theorem k_137n_14 {d : Nat} {F A : Nat → Nat → Int32} {J : Nat → Nat → Int64} {G : pG} {Q : pR → pM → Prop} {SL p q : Nat} {x1 x2 r : Int32} (hG : Geo G SL p q) (h : Q (.inl (some (.int r))) (F, A, J, G)) : KK (d + 3) 137 14 [.ref 0, .int x1, .int x2] [] Q (.inl (some (.int r))) (F, A, J, G) := by
  refine KKi ?_
  exact Y_iret i_137_14 rt_137 h
/- 138 TableTower.supper()I -/
theorem t_138n_0 {d : Nat} {F A : Nat → Nat → Int32} {J : Nat → Nat → Int64} {G : pG} {Q : pR → pM → Prop} {SL p q : Nat} (hG : Geo G SL p q) (h : X (d + 4) 69 0 [.ref 21, .int (F 12 2)] [] (F, A, J, G) (KK (d + 5) 138 14 [.ref 0] [] Q)) : X (d + 5) 138 0 [.ref 0] [] (F, A, J, G) Q := by
  refine Y_al0 i_138_0 ?_
  refine Y_gR i_138_1 ow_138 lf_9_48 (k_0 hG) (r_0_7 hG) ?_
  refine Y_al0 i_138_4 ?_
  refine Y_gR i_138_5 ow_138 lf_9_40 (k_0 hG) (r_0_6 hG) ?_
  refine Y_gI (v := (F 12 2)) i_138_8 ow_138 lf_9_122 (by decide) (k_12 hG) rfl ?_
  exact Y_iv1 (L0 := [.ref 21, .int (F 12 2)]) i_138_11 ow_138 lm_9_239 ((k_21 hG).trans ow_69.symm) rfl mx_69 rfl rfl hd_138 h
theorem k_138n_14 {d : Nat} {F A : Nat → Nat → Int32} {J : Nat → Nat → Int64} {G : pG} {Q : pR → pM → Prop} {SL p q : Nat} {r : Int32} (hG : Geo G SL p q) (h : Q (.inl (some (.int r))) (F, A, J, G)) : KK (d + 5) 138 14 [.ref 0] [] Q (.inl (some (.int r))) (F, A, J, G) := by
  refine KKi ?_
  exact Y_iret i_138_14 rt_138 h
/- 139 TableTower.years(I)I -/
theorem t_139n_0 {d : Nat} {F A : Nat → Nat → Int32} {J : Nat → Nat → Int64} {G : pG} {Q : pR → pM → Prop} {SL p q : Nat} {x1 : Int32} (hG : Geo G SL p q) (h : X (d + 2) 70 0 [.ref 21, .int x1] [] (F, A, J, G) (KK (d + 3) 139 8 [.ref 0, .int x1] [] Q)) : X (d + 3) 139 0 [.ref 0, .int x1] [] (F, A, J, G) Q := by
  refine Y_al0 i_139_0 ?_
  refine Y_gR i_139_1 ow_139 lf_9_48 (k_0 hG) (r_0_7 hG) ?_
  refine Y_il1 i_139_4 ?_
  exact Y_iv1 (L0 := [.ref 21, .int x1]) i_139_5 ow_139 lm_9_242 ((k_21 hG).trans ow_70.symm) rfl mx_70 rfl rfl hd_139 h
theorem k_139n_8 {d : Nat} {F A : Nat → Nat → Int32} {J : Nat → Nat → Int64} {G : pG} {Q : pR → pM → Prop} {SL p q : Nat} {x1 r : Int32} (hG : Geo G SL p q) (h : Q (.inl (some (.int r))) (F, A, J, G)) : KK (d + 3) 139 8 [.ref 0, .int x1] [] Q (.inl (some (.int r))) (F, A, J, G) := by
  refine KKi ?_
  exact Y_iret i_139_8 rt_139 h
/- 140 TableTower.undo()I -/
theorem t_140n_0 {d : Nat} {F A : Nat → Nat → Int32} {J : Nat → Nat → Int64} {G : pG} {Q : pR → pM → Prop} {SL p q : Nat} (hG : Geo G SL p q) (h : X (d + 3) 71 0 [.ref 21] [] (F, A, J, G) (KK (d + 4) 140 7 [.ref 0] [] Q)) : X (d + 4) 140 0 [.ref 0] [] (F, A, J, G) Q := by
  refine Y_al0 i_140_0 ?_
  refine Y_gR i_140_1 ow_140 lf_9_48 (k_0 hG) (r_0_7 hG) ?_
  exact Y_iv0 (L0 := [.ref 21]) i_140_4 ow_140 lm_9_245 ((k_21 hG).trans ow_71.symm) rfl mx_71 rfl rfl hd_140 h
theorem k_140n_7 {d : Nat} {F A : Nat → Nat → Int32} {J : Nat → Nat → Int64} {G : pG} {Q : pR → pM → Prop} {SL p q : Nat} {r : Int32} (hG : Geo G SL p q) (h : Q (.inl (some (.int r))) (F, A, J, G)) : KK (d + 4) 140 7 [.ref 0] [] Q (.inl (some (.int r))) (F, A, J, G) := by
  refine KKi ?_
  exact Y_iret i_140_7 rt_140 h
/- 141 TableTower.more()I -/
theorem t_141n_0 {d : Nat} {F A : Nat → Nat → Int32} {J : Nat → Nat → Int64} {G : pG} {Q : pR → pM → Prop} {SL p q : Nat} (hG : Geo G SL p q) (h : X (d + 4) 89 0 [.ref 27, .null, .null] [] (F, A, J, G) (KK (d + 5) 141 10 [.ref 0] [] Q)) : X (d + 5) 141 0 [.ref 0] [] (F, A, J, G) Q := by
  refine Y_al0 i_141_0 ?_
  refine Y_gR i_141_1 ow_141 lf_9_48 (k_0 hG) (r_0_7 hG) ?_
  refine Y_gR i_141_4 ow_141 lf_9_57 (k_21 hG) (r_21_0 hG) ?_
  exact Y_iv0 (L0 := [.ref 27, .null, .null]) i_141_7 ow_141 lm_9_248 ((k_27 hG).trans ow_89.symm) rfl mx_89 rfl rfl hd_141 h
theorem k_141n_10 {d : Nat} {F A : Nat → Nat → Int32} {J : Nat → Nat → Int64} {G : pG} {Q : pR → pM → Prop} {SL p q : Nat} {r : Int32} (hG : Geo G SL p q) (h : Q (.inl (some (.int r))) (F, A, J, G)) : KK (d + 5) 141 10 [.ref 0] [] Q (.inl (some (.int r))) (F, A, J, G) := by
  refine KKi ?_
  exact Y_iret i_141_10 rt_141 h
/- 142 TableTower.without(I)Z -/
theorem t_142n_0 {d : Nat} {F A : Nat → Nat → Int32} {J : Nat → Nat → Int64} {G : pG} {Q : pR → pM → Prop} {SL p q : Nat} {x1 : Int32} (hG : Geo G SL p q) (h : ((x1 < 0 → Q (.inr 101) (F, A, J, gThr G)) ∧ (¬ x1 < 0 → ((x1 < (F 12 0) → hB (F 27 1) = true ∧ (((lvI (A 28) (F 27 1) x1) = (-1) → Q (.inl (some (.int 0))) (F, A, J, G)) ∧ (¬ (lvI (A 28) (F 27 1) x1) = (-1) → X (d + 5) 105 0 [.ref 49, .int x1] [] (F, A, J, G) (KK (d + 6) 142 28 [.ref 0, .int x1] [] Q)))) ∧ (¬ x1 < (F 12 0) → Q (.inr 101) (F, A, J, gThr G)))))) : X (d + 6) 142 0 [.ref 0, .int x1] [] (F, A, J, G) Q := by
  refine Y_al0 i_142_0 ?_
  refine Y_il1 i_142_1 ?_
  refine Y_iv1 (L0 := [.ref 0, .int x1]) i_142_2 ow_142 lm_9_162 ((k_0 hG).trans ow_171.symm) rfl mx_171 rfl rfl hd_142 ?_
  refine Y_il1 i_171_0 ?_
  refine Y_zlt i_171_1 (fun e1 => ?_) (fun e1 => ?_)
  · replace h := h.1 e1
    exact Y_thr i_171_15 ow_171 lc_9_157 (by decide +kernel) rfl (KKe h)
  · replace h := h.2 e1
    refine Y_il1 i_171_4 ?_
    refine Y_al0 i_171_5 ?_
    refine Y_gR i_171_6 ow_171 lf_9_40 (k_0 hG) (r_0_6 hG) ?_
    refine Y_gI (v := (F 12 0)) i_171_9 ow_171 lf_9_111 (by decide) (k_12 hG) rfl ?_
    refine Y_clt i_171_12 (fun e2 => ?_) (fun e2 => ?_)
    · replace h := h.1 e2
      refine Y_vret i_171_26 rt_171 (KKv ?_)
      refine Y_al0 i_142_5 ?_
      refine Y_gR i_142_6 ow_142 lf_9_48 (k_0 hG) (r_0_7 hG) ?_
      refine Y_gR i_142_9 ow_142 lf_9_57 (k_21 hG) (r_21_0 hG) ?_
      refine Y_il1 i_142_12 ?_
      have o3 := h.1
      replace h := h.2
      refine Y_iv1 (L0 := [.ref 27, .int x1, .null]) i_142_13 ow_142 lm_9_187 ((k_27 hG).trans ow_77.symm) rfl mx_77 rfl rfl hd_142 ?_
      refine c_77 hG tw_27 o3 (KKi' (v' := (lvI (A 28) (F 27 1) x1)) (by simp [wF, wJ, va_up, cpR, bF, bA]) ?_)
      refine Y_iconst (v := (-1)) i_142_16 (by decide) ?_
      refine Y_ceq i_142_17 (fun e4 => ?_) (fun e4 => ?_)
      · replace h := h.1 e4
        refine Y_iconst (v := 0) i_142_36 (by decide) ?_
        exact Y_bret i_142_37 rt_142 (by decide) h
      · replace h := h.2 e4
        refine Y_al0 i_142_20 ?_
        refine Y_gR i_142_21 ow_142 lf_9_64 (k_0 hG) (r_0_9 hG) ?_
        refine Y_il1 i_142_24 ?_
        exact Y_iv1 (L0 := [.ref 49, .int x1]) i_142_25 ow_142 lm_9_251 ((k_49 hG).trans ow_105.symm) rfl mx_105 rfl rfl hd_142 h
    · replace h := h.2 e2
      exact Y_thr i_171_15 ow_171 lc_9_157 (by decide +kernel) rfl (KKe h)
theorem k_142n_28 {d : Nat} {F A : Nat → Nat → Int32} {J : Nat → Nat → Int64} {G : pG} {Q : pR → pM → Prop} {SL p q : Nat} {x1 r : Int32} (hG : Geo G SL p q) (h : ((r = (-1) → Q (.inl (some (.int 0))) (F, A, J, G)) ∧ (¬ r = (-1) → Q (.inl (some (.int 1))) (F, A, J, G)))) : KK (d + 6) 142 28 [.ref 0, .int x1] [] Q (.inl (some (.int r))) (F, A, J, G) := by
  refine KKi ?_
  refine Y_iconst (v := (-1)) i_142_28 (by decide) ?_
  refine Y_ceq i_142_29 (fun e1 => ?_) (fun e1 => ?_)
  · replace h := h.1 e1
    refine Y_iconst (v := 0) i_142_36 (by decide) ?_
    exact Y_bret i_142_37 rt_142 (by decide) h
  · replace h := h.2 e1
    refine Y_iconst (v := 1) i_142_32 (by decide) ?_
    refine Y_goto i_142_33 ?_
    exact Y_bret i_142_37 rt_142 (by decide) h
/- 143 TableTower.most(I)I -/
theorem t_143n_0 {d : Nat} {F A : Nat → Nat → Int32} {J : Nat → Nat → Int64} {G : pG} {Q : pR → pM → Prop} {SL p q : Nat} {x1 : Int32} (hG : Geo G SL p q) (h : ((x1 = 0 → X (d + 6) 18 0 [.ref 61] [] (F, A, J, G) (KK (d + 7) 143 26 [.ref 0, .int x1] [] Q)) ∧ (¬ x1 = 0 → ((x1 = 1 → X (d + 6) 18 0 [.ref 61] [] (F, A, J, G) (KK (d + 7) 143 26 [.ref 0, .int x1] [] Q)) ∧ (¬ x1 = 1 → Q (.inr 101) (F, A, J, gThr G)))))) : X (d + 7) 143 0 [.ref 0, .int x1] [] (F, A, J, G) Q := by
  refine Y_il1 i_143_0 ?_
  refine Y_zeq i_143_1 (fun e1 => ?_) (fun e1 => ?_)
  · replace h := h.1 e1
    refine Y_al0 i_143_19 ?_
    refine Y_gR i_143_20 ow_143 lf_9_73 (k_0 hG) (r_0_10 hG) ?_
    exact Y_iv0 (L0 := [.ref 61]) i_143_23 ow_143 lm_9_256 ((k_61 hG).trans ow_18.symm) rfl mx_18 rfl rfl hd_143 h
  · replace h := h.2 e1
    refine Y_il1 i_143_4 ?_
    refine Y_iconst (v := 1) i_143_5 (by decide) ?_
    refine Y_ceq i_143_6 (fun e2 => ?_) (fun e2 => ?_)
    · replace h := h.1 e2
      refine Y_al0 i_143_19 ?_
      refine Y_gR i_143_20 ow_143 lf_9_73 (k_0 hG) (r_0_10 hG) ?_
      exact Y_iv0 (L0 := [.ref 61]) i_143_23 ow_143 lm_9_256 ((k_61 hG).trans ow_18.symm) rfl mx_18 rfl rfl hd_143 h
    · replace h := h.2 e2
      exact Y_thr i_143_9 ow_143 lc_9_157 (by decide +kernel) rfl h
theorem k_143n_26 {d : Nat} {F A : Nat → Nat → Int32} {J : Nat → Nat → Int64} {G : pG} {Q : pR → pM → Prop} {SL p q : Nat} {x1 : Int32} (hG : Geo G SL p q) (h : ((x1 = 0 → inB (F 61 2) 1024 = true ∧ (Q (.inl (some (.int (nI (pcn (F 61 2).toNatClampNeg))))) (F, A, J, G))) ∧ (¬ x1 = 0 → Q (.inl (some (.int (F 61 2)))) (F, A, J, G)))) : KK (d + 7) 143 26 [.ref 0, .int x1] [] Q (.inl none) (F, A, J, G) := by
  refine KKv ?_
  refine Y_il1 i_143_26 ?_
  refine Y_zne i_143_27 (fun e1 => ?_) (fun e1 => ?_)
  · replace h := h.1 e1
    refine Y_al0 i_143_30 ?_
    refine Y_gR i_143_31 ow_143 lf_9_73 (k_0 hG) (r_0_10 hG) ?_
    refine Y_gI (v := (F 61 2)) i_143_34 ow_143 lf_9_259 (by decide) (k_61 hG) rfl ?_
    have o2 := h.1
    replace h := h.2
    refine Y_is_1 (L0 := [.int (F 61 2)]) i_143_37 ow_143 lm_9_262 rfl mx_289 rfl rfl hd_143 ?_
    refine c_289 hG o2 (KKi ?_)
    refine Y_goto i_143_40 ?_
    exact Y_iret i_143_50 rt_143 h
  · replace h := h.2 e1
    refine Y_al0 i_143_43 ?_
    refine Y_gR i_143_44 ow_143 lf_9_73 (k_0 hG) (r_0_10 hG) ?_
    refine Y_gI (v := (F 61 2)) i_143_47 ow_143 lf_9_259 (by decide) (k_61 hG) rfl ?_
    exact Y_iret i_143_50 rt_143 h
/- 144 TableTower.row(I)I -/
theorem t_144n_0 {d : Nat} {F A : Nat → Nat → Int32} {J : Nat → Nat → Int64} {G : pG} {Q : pR → pM → Prop} {SL p q : Nat} {x1 : Int32} (hG : Geo G SL p q) (h : X (d + 6) 18 0 [.ref 61] [] (F, A, J, G) (KK (d + 7) 144 7 [.ref 0, .int x1] [] Q)) : X (d + 7) 144 0 [.ref 0, .int x1] [] (F, A, J, G) Q := by
  refine Y_al0 i_144_0 ?_
  refine Y_gR i_144_1 ow_144 lf_9_73 (k_0 hG) (r_0_10 hG) ?_
  exact Y_iv0 (L0 := [.ref 61]) i_144_4 ow_144 lm_9_256 ((k_61 hG).trans ow_18.symm) rfl mx_18 rfl rfl hd_144 h
theorem k_144n_7 {d : Nat} {F A : Nat → Nat → Int32} {J : Nat → Nat → Int64} {G : pG} {Q : pR → pM → Prop} {SL p q : Nat} {x1 : Int32} (hG : Geo G SL p q) (h : ((x1 < 0 → Q (.inr 101) (F, A, J, gThr G)) ∧ (¬ x1 < 0 → inB (F 61 2) 1024 = true ∧ ((x1 < (nI (pcn (F 61 2).toNatClampNeg)) → inB x1 10 = true ∧ (Q (.inl (some (.int (A 62 x1.toNatClampNeg)))) (F, A, J, G))) ∧ (¬ x1 < (nI (pcn (F 61 2).toNatClampNeg)) → Q (.inr 101) (F, A, J, gThr G)))))) : KK (d + 7) 144 7 [.ref 0, .int x1] [] Q (.inl none) (F, A, J, G) := by
  refine KKv ?_
  refine Y_il1 i_144_7 ?_
  refine Y_zlt i_144_8 (fun e1 => ?_) (fun e1 => ?_)
  · replace h := h.1 e1
    exact Y_thr i_144_25 ow_144 lc_9_157 (by decide +kernel) rfl h
  · replace h := h.2 e1
    refine Y_il1 i_144_11 ?_
    refine Y_al0 i_144_12 ?_
    refine Y_gR i_144_13 ow_144 lf_9_73 (k_0 hG) (r_0_10 hG) ?_
    refine Y_gI (v := (F 61 2)) i_144_16 ow_144 lf_9_259 (by decide) (k_61 hG) rfl ?_
    have o2 := h.1
    replace h := h.2
    refine Y_is_1 (L0 := [.int (F 61 2)]) i_144_19 ow_144 lm_9_262 rfl mx_289 rfl rfl hd_144 ?_
    refine c_289 hG o2 (KKi ?_)
    refine Y_clt i_144_22 (fun e3 => ?_) (fun e3 => ?_)
    · replace h := h.1 e3
      refine Y_al0 i_144_36 ?_
      refine Y_gR i_144_37 ow_144 lf_9_73 (k_0 hG) (r_0_10 hG) ?_
      refine Y_gR i_144_40 ow_144 lf_9_269 (k_61 hG) (r_61_3 hG) ?_
      refine Y_il1 i_144_43 ?_
      have o4 := h.1
      replace h := h.2
      refine Y_iaload (k := x1.toNatClampNeg) (v := (A 62 x1.toNatClampNeg)) i_144_44 (k_62 hG) (l_62 hG) o4 rfl rfl ?_
      exact Y_iret i_144_45 rt_144 h
    · replace h := h.2 e3
      exact Y_thr i_144_25 ow_144 lc_9_157 (by decide +kernel) rfl h
/- 145 TableTower.orders()J -/
theorem t_145n_0 {d : Nat} {F A : Nat → Nat → Int32} {J : Nat → Nat → Int64} {G : pG} {Q : pR → pM → Prop} {SL p q : Nat} (hG : Geo G SL p q) (h : X (d + 5) 19 0 [.ref 61, .int 0, .int 0] [] (F, A, J, G) (KK (d + 6) 145 9 [.ref 0] [] Q)) : X (d + 6) 145 0 [.ref 0] [] (F, A, J, G) Q := by
  refine Y_al0 i_145_0 ?_
  refine Y_gR i_145_1 ow_145 lf_9_73 (k_0 hG) (r_0_10 hG) ?_
  refine Y_iconst (v := 0) i_145_4 (by decide) ?_
  refine Y_iconst (v := 0) i_145_5 (by decide) ?_
  exact Y_iv2 (L0 := [.ref 61, .int 0, .int 0]) i_145_6 ow_145 lm_9_272 ((k_61 hG).trans ow_19.symm) rfl mx_19 rfl rfl hd_145 h
theorem k_145n_9 {d : Nat} {F A : Nat → Nat → Int32} {J : Nat → Nat → Int64} {G : pG} {Q : pR → pM → Prop} {SL p q : Nat} {r : Int64} (hG : Geo G SL p q) (h : Q (.inl (some (.long r))) (F, A, J, G)) : KK (d + 6) 145 9 [.ref 0] [] Q (.inl (some (.long r))) (F, A, J, G) := by
  refine KKl ?_
  exact Y_lret i_145_9 rt_145 h
/- 146 TableTower.wedges()I -/
theorem t_146n_0 {d : Nat} {F A : Nat → Nat → Int32} {J : Nat → Nat → Int64} {G : pG} {Q : pR → pM → Prop} {SL p q : Nat} (hG : Geo G SL p q) (h : X (d + 2) 116 0 [.ref 49, .null, .null] [] (F, A, J, G) (KK (d + 3) 146 7 [.ref 0] [] Q)) : X (d + 3) 146 0 [.ref 0] [] (F, A, J, G) Q := by
  refine Y_al0 i_146_0 ?_
  refine Y_gR i_146_1 ow_146 lf_9_64 (k_0 hG) (r_0_9 hG) ?_
  exact Y_iv0 (L0 := [.ref 49, .null, .null]) i_146_4 ow_146 lm_9_276 ((k_49 hG).trans ow_116.symm) rfl mx_116 rfl rfl hd_146 h
theorem k_146n_7 {d : Nat} {F A : Nat → Nat → Int32} {J : Nat → Nat → Int64} {G : pG} {Q : pR → pM → Prop} {SL p q : Nat} {r : Int32} (hG : Geo G SL p q) (h : Q (.inl (some (.int r))) (F, A, J, G)) : KK (d + 3) 146 7 [.ref 0] [] Q (.inl (some (.int r))) (F, A, J, G) := by
  refine KKi ?_
  exact Y_iret i_146_7 rt_146 h
/- 147 TableTower.when()I -/
theorem t_147n_0 {d : Nat} {F A : Nat → Nat → Int32} {J : Nat → Nat → Int64} {G : pG} {Q : pR → pM → Prop} {SL p q : Nat} (hG : Geo G SL p q) (h : X (d + 5) 112 0 [.ref 49, .null] [] (F, A, J, G) (KK (d + 6) 147 7 [.ref 0] [] Q)) : X (d + 6) 147 0 [.ref 0] [] (F, A, J, G) Q := by
  refine Y_al0 i_147_0 ?_
  refine Y_gR i_147_1 ow_147 lf_9_64 (k_0 hG) (r_0_9 hG) ?_
  exact Y_iv0 (L0 := [.ref 49, .null]) i_147_4 ow_147 lm_9_279 ((k_49 hG).trans ow_112.symm) rfl mx_112 rfl rfl hd_147 h
theorem k_147n_7 {d : Nat} {F A : Nat → Nat → Int32} {J : Nat → Nat → Int64} {G : pG} {Q : pR → pM → Prop} {SL p q : Nat} {r : Int32} (hG : Geo G SL p q) (h : Q (.inl (some (.int r))) (F, A, J, G)) : KK (d + 6) 147 7 [.ref 0] [] Q (.inl (some (.int r))) (F, A, J, G) := by
  refine KKi ?_
  exact Y_iret i_147_7 rt_147 h
/- 148 TableTower.marriages()I -/
theorem t_148n_0 {d : Nat} {F A : Nat → Nat → Int32} {J : Nat → Nat → Int64} {G : pG} {Q : pR → pM → Prop} {SL p q : Nat} (hG : Geo G SL p q) (h : X (d + 4) 26 0 [.ref 61, .null, .null, .null] [] (F, A, J, G) (KK (d + 5) 148 7 [.ref 0] [] Q)) : X (d + 5) 148 0 [.ref 0] [] (F, A, J, G) Q := by
  refine Y_al0 i_148_0 ?_
  refine Y_gR i_148_1 ow_148 lf_9_73 (k_0 hG) (r_0_10 hG) ?_
  exact Y_iv0 (L0 := [.ref 61, .null, .null, .null]) i_148_4 ow_148 lm_9_282 ((k_61 hG).trans ow_26.symm) rfl mx_26 rfl rfl hd_148 h
theorem k_148n_7 {d : Nat} {F A : Nat → Nat → Int32} {J : Nat → Nat → Int64} {G : pG} {Q : pR → pM → Prop} {SL p q : Nat} {r : Int32} (hG : Geo G SL p q) (h : Q (.inl (some (.int r))) (F, A, J, G)) : KK (d + 5) 148 7 [.ref 0] [] Q (.inl (some (.int r))) (F, A, J, G) := by
  refine KKi ?_
  exact Y_iret i_148_7 rt_148 h
/- 149 TableTower.marry(II)Z -/
theorem t_149n_0 {d : Nat} {F A : Nat → Nat → Int32} {J : Nat → Nat → Int64} {G : pG} {Q : pR → pM → Prop} {SL p q : Nat} {x1 x2 : Int32} (hG : Geo G SL p q) (h : ((x1 < 0 → Q (.inr 101) (F, A, J, gThr G)) ∧ (¬ x1 < 0 → ((x1 < (F 12 0) → ((x2 < 0 → Q (.inr 101) (F, A, J, gThr G)) ∧ (¬ x2 < 0 → ((x2 < (F 12 0) → ((x1 = x2 → Q (.inr 100) (F, A, J, gThr G)) ∧ (¬ x1 = x2 → inB x1 10 = true ∧ inB x2 10 = true ∧ (Q (.inl (some (.int (bI (marB (carS (A 13 x1.toNatClampNeg) (A 15 x1.toNatClampNeg) (F 27 2) 0) (A 14 x2.toNatClampNeg) (carS (A 13 x2.toNatClampNeg) (A 15 x2.toNatClampNeg) (F 27 2) 0) (A 14 x1.toNatClampNeg)))))) (F, A, J, G))))) ∧ (¬ x2 < (F 12 0) → Q (.inr 101) (F, A, J, gThr G)))))) ∧ (¬ x1 < (F 12 0) → Q (.inr 101) (F, A, J, gThr G)))))) : X (d + 3) 149 0 [.ref 0, .int x1, .int x2] [] (F, A, J, G) Q := by
  refine Y_al0 i_149_0 ?_
  refine Y_il1 i_149_1 ?_
  refine Y_iv1 (L0 := [.ref 0, .int x1]) i_149_2 ow_149 lm_9_162 ((k_0 hG).trans ow_171.symm) rfl mx_171 rfl rfl hd_149 ?_
  refine Y_il1 i_171_0 ?_
  refine Y_zlt i_171_1 (fun e1 => ?_) (fun e1 => ?_)
  · replace h := h.1 e1
    exact Y_thr i_171_15 ow_171 lc_9_157 (by decide +kernel) rfl (KKe h)
  · replace h := h.2 e1
    refine Y_il1 i_171_4 ?_
    refine Y_al0 i_171_5 ?_
    refine Y_gR i_171_6 ow_171 lf_9_40 (k_0 hG) (r_0_6 hG) ?_
    refine Y_gI (v := (F 12 0)) i_171_9 ow_171 lf_9_111 (by decide) (k_12 hG) rfl ?_
    refine Y_clt i_171_12 (fun e2 => ?_) (fun e2 => ?_)
    · replace h := h.1 e2
      refine Y_vret i_171_26 rt_171 (KKv ?_)
      refine Y_al0 i_149_5 ?_
      refine Y_il2 i_149_6 ?_
      refine Y_iv1 (L0 := [.ref 0, .int x2]) i_149_7 ow_149 lm_9_162 ((k_0 hG).trans ow_171.symm) rfl mx_171 rfl rfl hd_149 ?_
      refine Y_il1 i_171_0 ?_
      refine Y_zlt i_171_1 (fun e3 => ?_) (fun e3 => ?_)
      · replace h := h.1 e3
        exact Y_thr i_171_15 ow_171 lc_9_157 (by decide +kernel) rfl (KKe h)
      · replace h := h.2 e3
        refine Y_il1 i_171_4 ?_
        refine Y_al0 i_171_5 ?_
        refine Y_gR i_171_6 ow_171 lf_9_40 (k_0 hG) (r_0_6 hG) ?_
        refine Y_gI (v := (F 12 0)) i_171_9 ow_171 lf_9_111 (by decide) (k_12 hG) rfl ?_
        refine Y_clt i_171_12 (fun e4 => ?_) (fun e4 => ?_)
        · replace h := h.1 e4
          refine Y_vret i_171_26 rt_171 (KKv ?_)
          refine Y_il1 i_149_10 ?_
          refine Y_il2 i_149_11 ?_
          refine Y_cne i_149_12 (fun e5 => ?_) (fun e5 => ?_)
          · replace h := h.1 e5
            exact Y_thr i_149_15 ow_149 lc_9_88 (by decide +kernel) rfl h
          · replace h := h.2 e5
            refine Y_al0 i_149_26 ?_
            refine Y_gR i_149_27 ow_149 lf_9_48 (k_0 hG) (r_0_7 hG) ?_
            refine Y_gR i_149_30 ow_149 lf_9_57 (k_21 hG) (r_21_0 hG) ?_
            refine Y_il1 i_149_33 ?_
            refine Y_il2 i_149_34 ?_
            have o6 := h.1
            replace h := h.2
            have o7 := h.1
            replace h := h.2
            refine Y_iv2 (L0 := [.ref 27, .int x1, .int x2]) i_149_35 ow_149 lm_9_287 ((k_27 hG).trans ow_96.symm) rfl mx_96 rfl rfl hd_149 ?_
            refine c_96 hG tw_27 o6 o7 (KKi ?_)
            exact Y_bret i_149_38 rt_149 (bI_01 _) h
        · replace h := h.2 e4
          exact Y_thr i_171_15 ow_171 lc_9_157 (by decide +kernel) rfl (KKe h)
    · replace h := h.2 e2
      exact Y_thr i_171_15 ow_171 lc_9_157 (by decide +kernel) rfl (KKe h)
/- 150 TableTower.nod(II)I -/
theorem t_150n_0 {d : Nat} {F A : Nat → Nat → Int32} {J : Nat → Nat → Int64} {G : pG} {Q : pR → pM → Prop} {SL p q : Nat} {x1 x2 : Int32} (hG : Geo G SL p q) (h : hB (F 27 1) = true ∧ (((lvI (A 28) (F 27 1) x1) = (-1) → Q (.inr 101) (F, A, J, gThr G)) ∧ (¬ (lvI (A 28) (F 27 1) x1) = (-1) → ((x2 < 0 → Q (.inr 100) (F, A, J, gThr G)) ∧ (¬ x2 < 0 → ((99 < x2 → Q (.inr 100) (F, A, J, gThr G)) ∧ (¬ 99 < x2 → X (d + 4) 110 0 [.ref 49, .int x1, .int x2] [] (F, A, J, G) (KK (d + 5) 150 35 [.ref 0, .int x1, .int x2] [] Q)))))))) : X (d + 5) 150 0 [.ref 0, .int x1, .int x2] [] (F, A, J, G) Q := by
  refine Y_al0 i_150_0 ?_
  refine Y_il1 i_150_1 ?_
  refine Y_iv1 (L0 := [.ref 0, .int x1]) i_150_2 ow_150 lm_9_290 ((k_0 hG).trans ow_172.symm) rfl mx_172 rfl rfl hd_150 ?_
  refine Y_al0 i_172_0 ?_
  refine Y_gR i_172_1 ow_172 lf_9_48 (k_0 hG) (r_0_7 hG) ?_
  refine Y_gR i_172_4 ow_172 lf_9_57 (k_21 hG) (r_21_0 hG) ?_
  refine Y_il1 i_172_7 ?_
  have o1 := h.1
  replace h := h.2
  refine Y_iv1 (L0 := [.ref 27, .int x1, .null]) i_172_8 ow_172 lm_9_187 ((k_27 hG).trans ow_77.symm) rfl mx_77 rfl rfl hd_172 ?_
  refine c_77 hG tw_27 o1 (KKi' (v' := (lvI (A 28) (F 27 1) x1)) (by simp [wF, wJ, va_up, cpR, bF, bA]) ?_)
  refine Y_iconst (v := (-1)) i_172_11 (by decide) ?_
  refine Y_cne i_172_12 (fun e2 => ?_) (fun e2 => ?_)
  · replace h := h.1 e2
    exact Y_thr i_172_15 ow_172 lc_9_157 (by decide +kernel) rfl (KKe h)
  · replace h := h.2 e2
    refine Y_vret i_172_26 rt_172 (KKv ?_)
    refine Y_il2 i_150_5 ?_
    refine Y_zlt i_150_6 (fun e3 => ?_) (fun e3 => ?_)
    · replace h := h.1 e3
      exact Y_thr i_150_15 ow_150 lc_9_88 (by decide +kernel) rfl h
    · replace h := h.2 e3
      refine Y_il2 i_150_9 ?_
      refine Y_bipush (v := 99) i_150_10 (by decide) ?_
      refine Y_cle i_150_12 (fun e4 => ?_) (fun e4 => ?_)
      · replace h := h.1 e4
        exact Y_thr i_150_15 ow_150 lc_9_88 (by decide +kernel) rfl h
      · replace h := h.2 e4
        refine Y_al0 i_150_26 ?_
        refine Y_gR i_150_27 ow_150 lf_9_64 (k_0 hG) (r_0_9 hG) ?_
        refine Y_il1 i_150_30 ?_
        refine Y_il2 i_150_31 ?_
        exact Y_iv2 (L0 := [.ref 49, .int x1, .int x2]) i_150_32 ow_150 lm_9_295 ((k_49 hG).trans ow_110.symm) rfl mx_110 rfl rfl hd_150 h
theorem k_150n_35 {d : Nat} {F A : Nat → Nat → Int32} {J : Nat → Nat → Int64} {G : pG} {Q : pR → pM → Prop} {SL p q : Nat} {x1 x2 r : Int32} (hG : Geo G SL p q) (h : Q (.inl (some (.int r))) (F, A, J, G)) : KK (d + 5) 150 35 [.ref 0, .int x1, .int x2] [] Q (.inl (some (.int r))) (F, A, J, G) := by
  refine KKi ?_
  exact Y_iret i_150_35 rt_150 h
/- 151 TableTower.fair()I -/
theorem t_151n_0 {d : Nat} {F A : Nat → Nat → Int32} {J : Nat → Nat → Int64} {G : pG} {Q : pR → pM → Prop} {SL p q : Nat} (hG : Geo G SL p q) (h : X (d + 4) 114 0 [.ref 49, .null] [] (F, A, J, G) (KK (d + 5) 151 7 [.ref 0] [] Q)) : X (d + 5) 151 0 [.ref 0] [] (F, A, J, G) Q := by
  refine Y_al0 i_151_0 ?_
  refine Y_gR i_151_1 ow_151 lf_9_64 (k_0 hG) (r_0_9 hG) ?_
  exact Y_iv0 (L0 := [.ref 49, .null]) i_151_4 ow_151 lm_9_298 ((k_49 hG).trans ow_114.symm) rfl mx_114 rfl rfl hd_151 h
theorem k_151n_7 {d : Nat} {F A : Nat → Nat → Int32} {J : Nat → Nat → Int64} {G : pG} {Q : pR → pM → Prop} {SL p q : Nat} {r : Int32} (hG : Geo G SL p q) (h : Q (.inl (some (.int r))) (F, A, J, G)) : KK (d + 5) 151 7 [.ref 0] [] Q (.inl (some (.int r))) (F, A, J, G) := by
  refine KKi ?_
  exact Y_iret i_151_7 rt_151 h
/- 152 TableTower.out(I)I -/
theorem t_152n_0 {d : Nat} {F A : Nat → Nat → Int32} {J : Nat → Nat → Int64} {G : pG} {Q : pR → pM → Prop} {SL p q : Nat} {x1 : Int32} (hG : Geo G SL p q) (h : hB (F 27 1) = true ∧ (((lvI (A 28) (F 27 1) x1) = (-1) → Q (.inr 101) (F, A, J, gThr G)) ∧ (¬ (lvI (A 28) (F 27 1) x1) = (-1) → X (d + 6) 107 0 [.ref 49, .int x1, .null, .null, .null, .null] [] (F, A, J, G) (KK (d + 7) 152 13 [.ref 0, .int x1] [] Q)))) : X (d + 7) 152 0 [.ref 0, .int x1] [] (F, A, J, G) Q := by
  refine Y_al0 i_152_0 ?_
  refine Y_il1 i_152_1 ?_
  refine Y_iv1 (L0 := [.ref 0, .int x1]) i_152_2 ow_152 lm_9_290 ((k_0 hG).trans ow_172.symm) rfl mx_172 rfl rfl hd_152 ?_
  refine Y_al0 i_172_0 ?_
  refine Y_gR i_172_1 ow_172 lf_9_48 (k_0 hG) (r_0_7 hG) ?_
  refine Y_gR i_172_4 ow_172 lf_9_57 (k_21 hG) (r_21_0 hG) ?_
  refine Y_il1 i_172_7 ?_
  have o1 := h.1
  replace h := h.2
  refine Y_iv1 (L0 := [.ref 27, .int x1, .null]) i_172_8 ow_172 lm_9_187 ((k_27 hG).trans ow_77.symm) rfl mx_77 rfl rfl hd_172 ?_
  refine c_77 hG tw_27 o1 (KKi' (v' := (lvI (A 28) (F 27 1) x1)) (by simp [wF, wJ, va_up, cpR, bF, bA]) ?_)
  refine Y_iconst (v := (-1)) i_172_11 (by decide) ?_
  refine Y_cne i_172_12 (fun e2 => ?_) (fun e2 => ?_)
  · replace h := h.1 e2
    exact Y_thr i_172_15 ow_172 lc_9_157 (by decide +kernel) rfl (KKe h)
  · replace h := h.2 e2
    refine Y_vret i_172_26 rt_172 (KKv ?_)
    refine Y_al0 i_152_5 ?_
    refine Y_gR i_152_6 ow_152 lf_9_64 (k_0 hG) (r_0_9 hG) ?_
    refine Y_il1 i_152_9 ?_
    exact Y_iv1 (L0 := [.ref 49, .int x1, .null, .null, .null, .null]) i_152_10 ow_152 lm_9_301 ((k_49 hG).trans ow_107.symm) rfl mx_107 rfl rfl hd_152 h
theorem k_152n_13 {d : Nat} {F A : Nat → Nat → Int32} {J : Nat → Nat → Int64} {G : pG} {Q : pR → pM → Prop} {SL p q : Nat} {x1 r : Int32} (hG : Geo G SL p q) (h : Q (.inl (some (.int r))) (F, A, J, G)) : KK (d + 7) 152 13 [.ref 0, .int x1] [] Q (.inl (some (.int r))) (F, A, J, G) := by
  refine KKi ?_
  exact Y_iret i_152_13 rt_152 h
/- 153 TableTower.oneWedge()I -/
theorem t_153n_0 {d : Nat} {F A : Nat → Nat → Int32} {J : Nat → Nat → Int64} {G : pG} {Q : pR → pM → Prop} {SL p q : Nat} (hG : Geo G SL p q) (h : X (d + 5) 115 0 [.ref 49, .null, .null, .null] [] (F, A, J, G) (KK (d + 6) 153 7 [.ref 0] [] Q)) : X (d + 6) 153 0 [.ref 0] [] (F, A, J, G) Q := by
  refine Y_al0 i_153_0 ?_
  refine Y_gR i_153_1 ow_153 lf_9_64 (k_0 hG) (r_0_9 hG) ?_
  exact Y_iv0 (L0 := [.ref 49, .null, .null, .null]) i_153_4 ow_153 lm_9_304 ((k_49 hG).trans ow_115.symm) rfl mx_115 rfl rfl hd_153 h
theorem k_153n_7 {d : Nat} {F A : Nat → Nat → Int32} {J : Nat → Nat → Int64} {G : pG} {Q : pR → pM → Prop} {SL p q : Nat} {r : Int32} (hG : Geo G SL p q) (h : Q (.inl (some (.int r))) (F, A, J, G)) : KK (d + 6) 153 7 [.ref 0] [] Q (.inl (some (.int r))) (F, A, J, G) := by
  refine KKi ?_
  exact Y_iret i_153_7 rt_153 h
/- 154 TableTower.lifted(II)J -/
theorem t_154n_0 {d : Nat} {F A : Nat → Nat → Int32} {J : Nat → Nat → Int64} {G : pG} {Q : pR → pM → Prop} {SL p q : Nat} {x1 x2 : Int32} (hG : Geo G SL p q) (h : (((x1 &&& ((((1 : Int32) <<< ((F 12 0) &&& 31)) - 1) ^^^ (-1))) = 0 → ((x2 < 0 → Q (.inr 100) (F, A, J, gThr G)) ∧ (¬ x2 < 0 → ((10 < x2 → Q (.inr 100) (F, A, J, gThr G)) ∧ (¬ 10 < x2 → X (d + 5) 19 0 [.ref 61, .int x1, .int x2] [] (F, A, J, G) (KK (d + 6) 154 44 [.ref 0, .int x1, .int x2] [] Q)))))) ∧ (¬ (x1 &&& ((((1 : Int32) <<< ((F 12 0) &&& 31)) - 1) ^^^ (-1))) = 0 → Q (.inr 100) (F, A, J, gThr G)))) : X (d + 6) 154 0 [.ref 0, .int x1, .int x2] [] (F, A, J, G) Q := by
  refine Y_il1 i_154_0 ?_
  refine Y_al0 i_154_1 ?_
  refine Y_gR i_154_2 ow_154 lf_9_40 (k_0 hG) (r_0_6 hG) ?_
  refine Y_iv0 (L0 := [.ref 12]) i_154_5 ow_154 lm_9_216 ((k_12 hG).trans ow_100.symm) rfl mx_100 rfl rfl hd_154 ?_
  refine Y_iconst (v := 1) i_100_0 (by decide) ?_
  refine Y_al0 i_100_1 ?_
  refine Y_gI (v := (F 12 0)) i_100_2 ow_100 lf_7_37 (by decide) (k_12 hG) rfl ?_
  refine Y_ishl i_100_5 ?_
  refine Y_iconst (v := 1) i_100_6 (by decide) ?_
  refine Y_isub i_100_7 ?_
  refine Y_iret i_100_8 rt_100 (KKi ?_)
  refine Y_iconst (v := (-1)) i_154_8 (by decide) ?_
  refine Y_ixor i_154_9 ?_
  refine Y_iand i_154_10 ?_
  refine Y_zne i_154_11 (fun e1 => ?_) (fun e1 => ?_)
  · replace h := h.1 e1
    refine Y_il2 i_154_14 ?_
    refine Y_zlt i_154_15 (fun e2 => ?_) (fun e2 => ?_)
    · replace h := h.1 e2
      exact Y_thr i_154_24 ow_154 lc_9_88 (by decide +kernel) rfl h
    · replace h := h.2 e2
      refine Y_il2 i_154_18 ?_
      refine Y_bipush (v := 10) i_154_19 (by decide) ?_
      refine Y_cle i_154_21 (fun e3 => ?_) (fun e3 => ?_)
      · replace h := h.1 e3
        exact Y_thr i_154_24 ow_154 lc_9_88 (by decide +kernel) rfl h
      · replace h := h.2 e3
        refine Y_al0 i_154_35 ?_
        refine Y_gR i_154_36 ow_154 lf_9_73 (k_0 hG) (r_0_10 hG) ?_
        refine Y_il1 i_154_39 ?_
        refine Y_il2 i_154_40 ?_
        exact Y_iv2 (L0 := [.ref 61, .int x1, .int x2]) i_154_41 ow_154 lm_9_272 ((k_61 hG).trans ow_19.symm) rfl mx_19 rfl rfl hd_154 h
  · replace h := h.2 e1
    exact Y_thr i_154_24 ow_154 lc_9_88 (by decide +kernel) rfl h
theorem k_154n_44 {d : Nat} {F A : Nat → Nat → Int32} {J : Nat → Nat → Int64} {G : pG} {Q : pR → pM → Prop} {SL p q : Nat} {x1 x2 : Int32} {r : Int64} (hG : Geo G SL p q) (h : Q (.inl (some (.long r))) (F, A, J, G)) : KK (d + 6) 154 44 [.ref 0, .int x1, .int x2] [] Q (.inl (some (.long r))) (F, A, J, G) := by
  refine KKl ?_
  exact Y_lret i_154_44 rt_154 h
/- 155 TableTower.swap()I -/
theorem t_155n_0 {d : Nat} {F A : Nat → Nat → Int32} {J : Nat → Nat → Int64} {G : pG} {Q : pR → pM → Prop} {SL p q : Nat} (hG : Geo G SL p q) (h : X (d + 5) 109 0 [.ref 49, .null, .null, .null, .null, .null] [] (F, A, J, G) (KK (d + 6) 155 7 [.ref 0] [] Q)) : X (d + 6) 155 0 [.ref 0] [] (F, A, J, G) Q := by
  refine Y_al0 i_155_0 ?_
  refine Y_gR i_155_1 ow_155 lf_9_64 (k_0 hG) (r_0_9 hG) ?_
  exact Y_iv0 (L0 := [.ref 49, .null, .null, .null, .null, .null]) i_155_4 ow_155 lm_9_309 ((k_49 hG).trans ow_109.symm) rfl mx_109 rfl rfl hd_155 h
theorem k_155n_7 {d : Nat} {F A : Nat → Nat → Int32} {J : Nat → Nat → Int64} {G : pG} {Q : pR → pM → Prop} {SL p q : Nat} {r : Int32} (hG : Geo G SL p q) (h : Q (.inl (some (.int r))) (F, A, J, G)) : KK (d + 6) 155 7 [.ref 0] [] Q (.inl (some (.int r))) (F, A, J, G) := by
  refine KKi ?_
  exact Y_iret i_155_7 rt_155 h
/- 156 TableTower.slack(I)I -/
theorem t_156n_0 {d : Nat} {F A : Nat → Nat → Int32} {J : Nat → Nat → Int64} {G : pG} {Q : pR → pM → Prop} {SL p q : Nat} {x1 : Int32} (hG : Geo G SL p q) (h : ((x1 < 0 → Q (.inr 101) (F, A, J, gThr G)) ∧ (¬ x1 < 0 → ((x1 < (F 27 1) → X (d + 2) 84 0 [.ref 27, .null, .null, .null] [] (F, A, J, G) (KK (d + 3) 156 15 [.ref 0, .int x1] [] Q)) ∧ (¬ x1 < (F 27 1) → Q (.inr 101) (F, A, J, gThr G)))))) : X (d + 3) 156 0 [.ref 0, .int x1] [] (F, A, J, G) Q := by
  refine Y_al0 i_156_0 ?_
  refine Y_il1 i_156_1 ?_
  refine Y_iv1 (L0 := [.ref 0, .int x1]) i_156_2 ow_156 lm_9_192 ((k_0 hG).trans ow_173.symm) rfl mx_173 rfl rfl hd_156 ?_
  refine Y_il1 i_173_0 ?_
  refine Y_zlt i_173_1 (fun e1 => ?_) (fun e1 => ?_)
  · replace h := h.1 e1
    exact Y_thr i_173_18 ow_173 lc_9_157 (by decide +kernel) rfl (KKe h)
  · replace h := h.2 e1
    refine Y_il1 i_173_4 ?_
    refine Y_al0 i_173_5 ?_
    refine Y_gR i_173_6 ow_173 lf_9_48 (k_0 hG) (r_0_7 hG) ?_
    refine Y_gR i_173_9 ow_173 lf_9_57 (k_21 hG) (r_21_0 hG) ?_
    refine Y_gI (v := (F 27 1)) i_173_12 ow_173 lf_9_114 (by decide) (k_27 hG) rfl ?_
    refine Y_clt i_173_15 (fun e2 => ?_) (fun e2 => ?_)
    · replace h := h.1 e2
      refine Y_vret i_173_29 rt_173 (KKv ?_)
      refine Y_al0 i_156_5 ?_
      refine Y_gR i_156_6 ow_156 lf_9_48 (k_0 hG) (r_0_7 hG) ?_
      refine Y_gR i_156_9 ow_156 lf_9_57 (k_21 hG) (r_21_0 hG) ?_
      exact Y_iv0 (L0 := [.ref 27, .null, .null, .null]) i_156_12 ow_156 lm_9_195 ((k_27 hG).trans ow_84.symm) rfl mx_84 rfl rfl hd_156 h
    · replace h := h.2 e2
      exact Y_thr i_173_18 ow_173 lc_9_157 (by decide +kernel) rfl (KKe h)
theorem k_156n_15 {d : Nat} {F A : Nat → Nat → Int32} {J : Nat → Nat → Int64} {G : pG} {Q : pR → pM → Prop} {SL p q : Nat} {x1 : Int32} (hG : Geo G SL p q) (h : X (d + 2) 85 0 [.ref 27, .int x1] [] (F, A, J, G) (KK (d + 3) 156 26 [.ref 0, .int x1] [] Q)) : KK (d + 3) 156 15 [.ref 0, .int x1] [] Q (.inl none) (F, A, J, G) := by
  refine KKv ?_
  refine Y_al0 i_156_15 ?_
  refine Y_gR i_156_16 ow_156 lf_9_48 (k_0 hG) (r_0_7 hG) ?_
  refine Y_gR i_156_19 ow_156 lf_9_57 (k_21 hG) (r_21_0 hG) ?_
  refine Y_il1 i_156_22 ?_
  exact Y_iv1 (L0 := [.ref 27, .int x1]) i_156_23 ow_156 lm_9_312 ((k_27 hG).trans ow_85.symm) rfl mx_85 rfl rfl hd_156 h
theorem k_156n_26 {d : Nat} {F A : Nat → Nat → Int32} {J : Nat → Nat → Int64} {G : pG} {Q : pR → pM → Prop} {SL p q : Nat} {x1 r : Int32} (hG : Geo G SL p q) (h : Q (.inl (some (.int r))) (F, A, J, G)) : KK (d + 3) 156 26 [.ref 0, .int x1] [] Q (.inl (some (.int r))) (F, A, J, G) := by
  refine KKi ?_
  exact Y_iret i_156_26 rt_156 h
/- 157 TableTower.broken(I)I -/
theorem t_157n_0 {d : Nat} {F A : Nat → Nat → Int32} {J : Nat → Nat → Int64} {G : pG} {Q : pR → pM → Prop} {SL p q : Nat} {x1 : Int32} (hG : Geo G SL p q) (h : ((x1 < 0 → Q (.inr 100) (F, A, J, gThr G)) ∧ (¬ x1 < 0 → ((99 < x1 → Q (.inr 100) (F, A, J, gThr G)) ∧ (¬ 99 < x1 → X (d + 4) 111 0 [.ref 49, .int x1] [] (F, A, J, G) (KK (d + 5) 157 29 [.ref 0, .int x1] [] Q)))))) : X (d + 5) 157 0 [.ref 0, .int x1] [] (F, A, J, G) Q := by
  refine Y_il1 i_157_0 ?_
  refine Y_zlt i_157_1 (fun e1 => ?_) (fun e1 => ?_)
  · replace h := h.1 e1
    exact Y_thr i_157_10 ow_157 lc_9_88 (by decide +kernel) rfl h
  · replace h := h.2 e1
    refine Y_il1 i_157_4 ?_
    refine Y_bipush (v := 99) i_157_5 (by decide) ?_
    refine Y_cle i_157_7 (fun e2 => ?_) (fun e2 => ?_)
    · replace h := h.1 e2
      exact Y_thr i_157_10 ow_157 lc_9_88 (by decide +kernel) rfl h
    · replace h := h.2 e2
      refine Y_al0 i_157_21 ?_
      refine Y_gR i_157_22 ow_157 lf_9_64 (k_0 hG) (r_0_9 hG) ?_
      refine Y_il1 i_157_25 ?_
      exact Y_iv1 (L0 := [.ref 49, .int x1]) i_157_26 ow_157 lm_9_315 ((k_49 hG).trans ow_111.symm) rfl mx_111 rfl rfl hd_157 h
theorem k_157n_29 {d : Nat} {F A : Nat → Nat → Int32} {J : Nat → Nat → Int64} {G : pG} {Q : pR → pM → Prop} {SL p q : Nat} {x1 r : Int32} (hG : Geo G SL p q) (h : Q (.inl (some (.int r))) (F, A, J, G)) : KK (d + 5) 157 29 [.ref 0, .int x1] [] Q (.inl (some (.int r))) (F, A, J, G) := by
  refine KKi ?_
  exact Y_iret i_157_29 rt_157 h
/- 158 TableTower.crooked()I -/
theorem t_158n_0 {d : Nat} {F A : Nat → Nat → Int32} {J : Nat → Nat → Int64} {G : pG} {Q : pR → pM → Prop} {SL p q : Nat} (hG : Geo G SL p q) (h : X (d + 3) 95 0 [.ref 27, .null, .null] [] (F, A, J, G) (KK (d + 4) 158 10 [.ref 0] [] Q)) : X (d + 4) 158 0 [.ref 0] [] (F, A, J, G) Q := by
  refine Y_al0 i_158_0 ?_
  refine Y_gR i_158_1 ow_158 lf_9_48 (k_0 hG) (r_0_7 hG) ?_
  refine Y_gR i_158_4 ow_158 lf_9_57 (k_21 hG) (r_21_0 hG) ?_
  exact Y_iv0 (L0 := [.ref 27, .null, .null]) i_158_7 ow_158 lm_9_318 ((k_27 hG).trans ow_95.symm) rfl mx_95 rfl rfl hd_158 h
theorem k_158n_10 {d : Nat} {F A : Nat → Nat → Int32} {J : Nat → Nat → Int64} {G : pG} {Q : pR → pM → Prop} {SL p q : Nat} {r : Int32} (hG : Geo G SL p q) (h : Q (.inl (some (.int r))) (F, A, J, G)) : KK (d + 4) 158 10 [.ref 0] [] Q (.inl (some (.int r))) (F, A, J, G) := by
  refine KKi ?_
  exact Y_iret i_158_10 rt_158 h
/- 159 TableTower.top(I)I -/
theorem t_159n_0 {d : Nat} {F A : Nat → Nat → Int32} {J : Nat → Nat → Int64} {G : pG} {Q : pR → pM → Prop} {SL p q : Nat} {x1 : Int32} (hG : Geo G SL p q) (h : ((x1 < 0 → Q (.inr 100) (F, A, J, gThr G)) ∧ (¬ x1 < 0 → ((999 < x1 → Q (.inr 100) (F, A, J, gThr G)) ∧ (¬ 999 < x1 → X (d + 4) 113 0 [.ref 49, .int x1] [] (F, A, J, G) (KK (d + 5) 159 30 [.ref 0, .int x1] [] Q)))))) : X (d + 5) 159 0 [.ref 0, .int x1] [] (F, A, J, G) Q := by
  refine Y_il1 i_159_0 ?_
  refine Y_zlt i_159_1 (fun e1 => ?_) (fun e1 => ?_)
  · replace h := h.1 e1
    exact Y_thr i_159_11 ow_159 lc_9_88 (by decide +kernel) rfl h
  · replace h := h.2 e1
    refine Y_il1 i_159_4 ?_
    refine Y_sipush (v := 999) i_159_5 (by decide) ?_
    refine Y_cle i_159_8 (fun e2 => ?_) (fun e2 => ?_)
    · replace h := h.1 e2
      exact Y_thr i_159_11 ow_159 lc_9_88 (by decide +kernel) rfl h
    · replace h := h.2 e2
      refine Y_al0 i_159_22 ?_
      refine Y_gR i_159_23 ow_159 lf_9_64 (k_0 hG) (r_0_9 hG) ?_
      refine Y_il1 i_159_26 ?_
      exact Y_iv1 (L0 := [.ref 49, .int x1]) i_159_27 ow_159 lm_9_323 ((k_49 hG).trans ow_113.symm) rfl mx_113 rfl rfl hd_159 h
theorem k_159n_30 {d : Nat} {F A : Nat → Nat → Int32} {J : Nat → Nat → Int64} {G : pG} {Q : pR → pM → Prop} {SL p q : Nat} {x1 r : Int32} (hG : Geo G SL p q) (h : Q (.inl (some (.int r))) (F, A, J, G)) : KK (d + 5) 159 30 [.ref 0, .int x1] [] Q (.inl (some (.int r))) (F, A, J, G) := by
  refine KKi ?_
  exact Y_iret i_159_30 rt_159 h
/- 160 TableTower.relief()I -/
theorem t_160n_0 {d : Nat} {F A : Nat → Nat → Int32} {J : Nat → Nat → Int64} {G : pG} {Q : pR → pM → Prop} {SL p q : Nat} (hG : Geo G SL p q) (h : X (d + 6) 106 0 [.ref 49, .null, .null, .null, .null] [] (F, A, J, G) (KK (d + 7) 160 7 [.ref 0] [] Q)) : X (d + 7) 160 0 [.ref 0] [] (F, A, J, G) Q := by
  refine Y_al0 i_160_0 ?_
  refine Y_gR i_160_1 ow_160 lf_9_64 (k_0 hG) (r_0_9 hG) ?_
  exact Y_iv0 (L0 := [.ref 49, .null, .null, .null, .null]) i_160_4 ow_160 lm_9_326 ((k_49 hG).trans ow_106.symm) rfl mx_106 rfl rfl hd_160 h
theorem k_160n_7 {d : Nat} {F A : Nat → Nat → Int32} {J : Nat → Nat → Int64} {G : pG} {Q : pR → pM → Prop} {SL p q : Nat} {r : Int32} (hG : Geo G SL p q) (h : Q (.inl (some (.int r))) (F, A, J, G)) : KK (d + 7) 160 7 [.ref 0] [] Q (.inl (some (.int r))) (F, A, J, G) := by
  refine KKi ?_
  exact Y_iret i_160_7 rt_160 h
/- 161 TableTower.hungriest()I -/
theorem t_161n_0 {d : Nat} {F A : Nat → Nat → Int32} {J : Nat → Nat → Int64} {G : pG} {Q : pR → pM → Prop} {SL p q : Nat} (hG : Geo G SL p q) (h : X (d + 1) 94 0 [.ref 27, .null, .null, .null, .null, .null] [] (F, A, J, G) (KK (d + 2) 161 10 [.ref 0] [] Q)) : X (d + 2) 161 0 [.ref 0] [] (F, A, J, G) Q := by
  refine Y_al0 i_161_0 ?_
  refine Y_gR i_161_1 ow_161 lf_9_48 (k_0 hG) (r_0_7 hG) ?_
  refine Y_gR i_161_4 ow_161 lf_9_57 (k_21 hG) (r_21_0 hG) ?_
  exact Y_iv0 (L0 := [.ref 27, .null, .null, .null, .null, .null]) i_161_7 ow_161 lm_9_329 ((k_27 hG).trans ow_94.symm) rfl mx_94 rfl rfl hd_161 h
theorem k_161n_10 {d : Nat} {F A : Nat → Nat → Int32} {J : Nat → Nat → Int64} {G : pG} {Q : pR → pM → Prop} {SL p q : Nat} {r : Int32} (hG : Geo G SL p q) (h : Q (.inl (some (.int r))) (F, A, J, G)) : KK (d + 2) 161 10 [.ref 0] [] Q (.inl (some (.int r))) (F, A, J, G) := by
  refine KKi ?_
  exact Y_iret i_161_10 rt_161 h
/- 162 TableTower.see(II)I -/
theorem t_162n_0 {d : Nat} {F A : Nat → Nat → Int32} {J : Nat → Nat → Int64} {G : pG} {Q : pR → pM → Prop} {SL p q : Nat} {x1 x2 : Int32} (hG : Geo G SL p q) (h : X (d + 1) 72 0 [.ref 21, .int x1, .int x2, .null] [] (F, A, J, G) (KK (d + 2) 162 9 [.ref 0, .int x1, .int x2] [] Q)) : X (d + 2) 162 0 [.ref 0, .int x1, .int x2] [] (F, A, J, G) Q := by
  refine Y_al0 i_162_0 ?_
  refine Y_gR i_162_1 ow_162 lf_9_48 (k_0 hG) (r_0_7 hG) ?_
  refine Y_il1 i_162_4 ?_
  refine Y_il2 i_162_5 ?_
  exact Y_iv2 (L0 := [.ref 21, .int x1, .int x2, .null]) i_162_6 ow_162 lm_9_332 ((k_21 hG).trans ow_72.symm) rfl mx_72 rfl rfl hd_162 h
theorem k_162n_9 {d : Nat} {F A : Nat → Nat → Int32} {J : Nat → Nat → Int64} {G : pG} {Q : pR → pM → Prop} {SL p q : Nat} {x1 x2 r : Int32} (hG : Geo G SL p q) (h : Q (.inl (some (.int r))) (F, A, J, G)) : KK (d + 2) 162 9 [.ref 0, .int x1, .int x2] [] Q (.inl (some (.int r))) (F, A, J, G) := by
  refine KKi ?_
  exact Y_iret i_162_9 rt_162 h
/- 163 TableTower.which(I)I -/
theorem t_163n_0 {d : Nat} {F A : Nat → Nat → Int32} {J : Nat → Nat → Int64} {G : pG} {Q : pR → pM → Prop} {SL p q : Nat} {x1 : Int32} (hG : Geo G SL p q) (h : ((x1 = 0 → X (d + 3) 9 0 [.ref 66, .null, .null, .null, .null] [] (F, A, J, G) (KK (d + 4) 163 35 [.ref 0, .int x1] [] Q)) ∧ (x1 = 1 → X (d + 3) 10 0 [.ref 66, .null, .null, .null] [] (F, A, J, G) (KK (d + 4) 163 43 [.ref 0, .int x1] [] Q)) ∧ (x1 = 2 → X (d + 3) 8 0 [.ref 66] [] (F, A, J, G) (KK (d + 4) 163 51 [.ref 0, .int x1] [] Q)) ∧ (((x1 : Int32).toInt < 0 ∨ 2 < (x1 : Int32).toInt) → Q (.inr 101) (F, A, J, gThr G)))) : X (d + 4) 163 0 [.ref 0, .int x1] [] (F, A, J, G) Q := by
  refine Y_il1 i_163_0 ?_
  by_cases f0 : x1 = 0
  · replace h := h.1 f0
    refine Y_sw (t := 28) f0 i_163_1 (fun _ => rfl) rfl (fun _ => rfl) (fun _ => rfl) ?_
    refine Y_al0 i_163_28 ?_
    refine Y_gR i_163_29 ow_163 lf_9_80 (k_0 hG) (r_0_11 hG) ?_
    exact Y_iv0 (L0 := [.ref 66, .null, .null, .null, .null]) i_163_32 ow_163 lm_9_335 ((k_66 hG).trans ow_9.symm) rfl mx_9 rfl rfl hd_163 h
  by_cases f1 : x1 = 1
  · replace h := h.2.1 f1
    refine Y_sw (t := 36) f1 i_163_1 (fun _ => rfl) rfl (fun _ => rfl) (fun _ => rfl) ?_
    refine Y_al0 i_163_36 ?_
    refine Y_gR i_163_37 ow_163 lf_9_80 (k_0 hG) (r_0_11 hG) ?_
    exact Y_iv0 (L0 := [.ref 66, .null, .null, .null]) i_163_40 ow_163 lm_9_338 ((k_66 hG).trans ow_10.symm) rfl mx_10 rfl rfl hd_163 h
  by_cases f2 : x1 = 2
  · replace h := h.2.2.1 f2
    refine Y_sw (t := 44) f2 i_163_1 (fun _ => rfl) rfl (fun _ => rfl) (fun _ => rfl) ?_
    refine Y_al0 i_163_44 ?_
    refine Y_gR i_163_45 ow_163 lf_9_80 (k_0 hG) (r_0_11 hG) ?_
    exact Y_iv0 (L0 := [.ref 66]) i_163_48 ow_163 lm_9_341 ((k_66 hG).trans ow_8.symm) rfl mx_8 rfl rfl hd_163 h
  have eD : (x1 : Int32).toInt < 0 ∨ 2 < (x1 : Int32).toInt := by
    have q := ts_out (x := x1) (lo := 0) (n := 3) (by
      intro j hj
      have : j = 0 ∨ j = 1 ∨ j = 2 := by omega
      rcases this with rfl | rfl | rfl
      · exact ne_toInt f0 (by decide)
      · exact ne_toInt f1 (by decide)
      · exact ne_toInt f2 (by decide)
      )
    omega
  replace h := h.2.2.2 eD
  refine Y_tsD (t := 60) eD i_163_1 (by decide) ?_
  exact Y_thr i_163_60 ow_163 lc_9_157 (by decide +kernel) rfl h
theorem k_163n_35 {d : Nat} {F A : Nat → Nat → Int32} {J : Nat → Nat → Int64} {G : pG} {Q : pR → pM → Prop} {SL p q : Nat} {x1 r : Int32} (hG : Geo G SL p q) (h : Q (.inl (some (.int r))) (F, A, J, G)) : KK (d + 4) 163 35 [.ref 0, .int x1] [] Q (.inl (some (.int r))) (F, A, J, G) := by
  refine KKi ?_
  exact Y_iret i_163_35 rt_163 h
theorem k_163n_43 {d : Nat} {F A : Nat → Nat → Int32} {J : Nat → Nat → Int64} {G : pG} {Q : pR → pM → Prop} {SL p q : Nat} {x1 r : Int32} (hG : Geo G SL p q) (h : Q (.inl (some (.int r))) (F, A, J, G)) : KK (d + 4) 163 43 [.ref 0, .int x1] [] Q (.inl (some (.int r))) (F, A, J, G) := by
  refine KKi ?_
  exact Y_iret i_163_43 rt_163 h
theorem k_163n_51 {d : Nat} {F A : Nat → Nat → Int32} {J : Nat → Nat → Int64} {G : pG} {Q : pR → pM → Prop} {SL p q : Nat} {x1 r : Int32} (hG : Geo G SL p q) (h : ((r = 0 → Q (.inl (some (.int 0))) (F, A, J, G)) ∧ (¬ r = 0 → Q (.inl (some (.int 1))) (F, A, J, G)))) : KK (d + 4) 163 51 [.ref 0, .int x1] [] Q (.inl (some (.int r))) (F, A, J, G) := by
  refine KKi ?_
  refine Y_zeq i_163_51 (fun e1 => ?_) (fun e1 => ?_)
  · replace h := h.1 e1
    refine Y_iconst (v := 0) i_163_58 (by decide) ?_
    exact Y_iret i_163_59 rt_163 h
  · replace h := h.2 e1
    refine Y_iconst (v := 1) i_163_54 (by decide) ?_
    refine Y_goto i_163_55 ?_
    exact Y_iret i_163_59 rt_163 h
/- 164 TableTower.look()I -/
theorem t_164n_0 {d : Nat} {F A : Nat → Nat → Int32} {J : Nat → Nat → Int64} {G : pG} {Q : pR → pM → Prop} {SL p q : Nat} (hG : Geo G SL p q) (h : X (d + 4) 11 0 [.ref 66, .null, .null, .null, .null] [] (F, A, J, G) (KK (d + 5) 164 7 [.ref 0] [] Q)) : X (d + 5) 164 0 [.ref 0] [] (F, A, J, G) Q := by
  refine Y_al0 i_164_0 ?_
  refine Y_gR i_164_1 ow_164 lf_9_80 (k_0 hG) (r_0_11 hG) ?_
  exact Y_iv0 (L0 := [.ref 66, .null, .null, .null, .null]) i_164_4 ow_164 lm_9_346 ((k_66 hG).trans ow_11.symm) rfl mx_11 rfl rfl hd_164 h
theorem k_164n_7 {d : Nat} {F A : Nat → Nat → Int32} {J : Nat → Nat → Int64} {G : pG} {Q : pR → pM → Prop} {SL p q : Nat} {r : Int32} (hG : Geo G SL p q) (h : Q (.inl (some (.int r))) (F, A, J, G)) : KK (d + 5) 164 7 [.ref 0] [] Q (.inl (some (.int r))) (F, A, J, G) := by
  refine KKi ?_
  exact Y_iret i_164_7 rt_164 h
/- 165 TableTower.forget()V -/
theorem t_165n_0 {d : Nat} {F A : Nat → Nat → Int32} {J : Nat → Nat → Int64} {G : pG} {Q : pR → pM → Prop} {SL p q : Nat} (hG : Geo G SL p q) (h : Q (.inl none) ((wF F 21 2 0), A, J, G)) : X d 165 0 [.ref 0] [] (F, A, J, G) Q := by
  refine Y_al0 i_165_0 ?_
  refine Y_gR i_165_1 ow_165 lf_9_48 (k_0 hG) (r_0_7 hG) ?_
  refine Y_iconst (v := 0) i_165_4 (by decide) ?_
  refine Y_pI i_165_5 ow_165 lf_9_150 (k_21 hG) ?_
  exact Y_vret i_165_8 rt_165 h
/- 166 TableTower.game(I)I -/
theorem t_166n_0 {d : Nat} {F A : Nat → Nat → Int32} {J : Nat → Nat → Int64} {G : pG} {Q : pR → pM → Prop} {SL p q : Nat} {x1 : Int32} (hG : Geo G SL p q) (h : ((x1 = 0 → X (d + 6) 118 0 [.ref 49, .null, .null] [] (F, A, J, G) (KK (d + 7) 166 27 [.ref 0, .int x1] [] Q)) ∧ (¬ x1 = 0 → ((x1 = 1 → X (d + 6) 118 0 [.ref 49, .null, .null] [] (F, A, J, G) (KK (d + 7) 166 27 [.ref 0, .int x1] [] Q)) ∧ (¬ x1 = 1 → Q (.inr 101) (F, A, J, gThr G)))))) : X (d + 7) 166 0 [.ref 0, .int x1] [] (F, A, J, G) Q := by
  refine Y_il1 i_166_0 ?_
  refine Y_zeq i_166_1 (fun e1 => ?_) (fun e1 => ?_)
  · replace h := h.1 e1
    refine Y_al0 i_166_20 ?_
    refine Y_gR i_166_21 ow_166 lf_9_64 (k_0 hG) (r_0_9 hG) ?_
    exact Y_iv0 (L0 := [.ref 49, .null, .null]) i_166_24 ow_166 lm_9_351 ((k_49 hG).trans ow_118.symm) rfl mx_118 rfl rfl hd_166 h
  · replace h := h.2 e1
    refine Y_il1 i_166_4 ?_
    refine Y_iconst (v := 1) i_166_5 (by decide) ?_
    refine Y_ceq i_166_6 (fun e2 => ?_) (fun e2 => ?_)
    · replace h := h.1 e2
      refine Y_al0 i_166_20 ?_
      refine Y_gR i_166_21 ow_166 lf_9_64 (k_0 hG) (r_0_9 hG) ?_
      exact Y_iv0 (L0 := [.ref 49, .null, .null]) i_166_24 ow_166 lm_9_351 ((k_49 hG).trans ow_118.symm) rfl mx_118 rfl rfl hd_166 h
    · replace h := h.2 e2
      exact Y_thr i_166_9 ow_166 lc_9_157 (by decide +kernel) rfl h
theorem k_166n_27 {d : Nat} {F A : Nat → Nat → Int32} {J : Nat → Nat → Int64} {G : pG} {Q : pR → pM → Prop} {SL p q : Nat} {x1 : Int32} (hG : Geo G SL p q) (h : ((x1 = 0 → Q (.inl (some (.int (F 49 3)))) (F, A, J, G)) ∧ (¬ x1 = 0 → Q (.inl (some (.int (F 49 4)))) (F, A, J, G)))) : KK (d + 7) 166 27 [.ref 0, .int x1] [] Q (.inl none) (F, A, J, G) := by
  refine KKv ?_
  refine Y_il1 i_166_27 ?_
  refine Y_zne i_166_28 (fun e1 => ?_) (fun e1 => ?_)
  · replace h := h.1 e1
    refine Y_al0 i_166_31 ?_
    refine Y_gR i_166_32 ow_166 lf_9_64 (k_0 hG) (r_0_9 hG) ?_
    refine Y_gI (v := (F 49 3)) i_166_35 ow_166 lf_9_354 (by decide) (k_49 hG) rfl ?_
    refine Y_goto i_166_38 ?_
    exact Y_iret i_166_48 rt_166 h
  · replace h := h.2 e1
    refine Y_al0 i_166_41 ?_
    refine Y_gR i_166_42 ow_166 lf_9_64 (k_0 hG) (r_0_9 hG) ?_
    refine Y_gI (v := (F 49 4)) i_166_45 ow_166 lf_9_357 (by decide) (k_49 hG) rfl ?_
    exact Y_iret i_166_48 rt_166 h
/- 167 TableTower.decades(III)I -/
theorem t_167n_0 {d : Nat} {F A : Nat → Nat → Int32} {J : Nat → Nat → Int64} {G : pG} {Q : pR → pM → Prop} {SL p q : Nat} {x1 x2 x3 : Int32} (hG : Geo G SL p q) (h : ((x3 < 0 → Q (.inr 101) (F, A, J, gThr G)) ∧ (¬ x3 < 0 → ((2 < x3 → Q (.inr 101) (F, A, J, gThr G)) ∧ (¬ 2 < x3 → ((x2 < 0 → Q (.inr 100) (F, A, J, gThr G)) ∧ (¬ x2 < 0 → ((40 < x2 → Q (.inr 100) (F, A, J, gThr G)) ∧ (¬ 40 < x2 → X (d + 5) 122 0 [.ref 49, .int x1, .int x2, .null] [] (F, A, J, G) (KK (d + 6) 167 50 [.ref 0, .int x1, .int x2, .int x3] [] Q)))))))))) : X (d + 6) 167 0 [.ref 0, .int x1, .int x2, .int x3] [] (F, A, J, G) Q := by
  refine Y_il3 i_167_0 ?_
  refine Y_zlt i_167_1 (fun e1 => ?_) (fun e1 => ?_)
  · replace h := h.1 e1
    exact Y_thr i_167_9 ow_167 lc_9_157 (by decide +kernel) rfl h
  · replace h := h.2 e1
    refine Y_il3 i_167_4 ?_
    refine Y_iconst (v := 2) i_167_5 (by decide) ?_
    refine Y_cle i_167_6 (fun e2 => ?_) (fun e2 => ?_)
    · replace h := h.1 e2
      exact Y_thr i_167_9 ow_167 lc_9_157 (by decide +kernel) rfl h
    · replace h := h.2 e2
      refine Y_il2 i_167_20 ?_
      refine Y_zlt i_167_21 (fun e3 => ?_) (fun e3 => ?_)
      · replace h := h.1 e3
        exact Y_thr i_167_30 ow_167 lc_9_88 (by decide +kernel) rfl h
      · replace h := h.2 e3
        refine Y_il2 i_167_24 ?_
        refine Y_bipush (v := 40) i_167_25 (by decide) ?_
        refine Y_cle i_167_27 (fun e4 => ?_) (fun e4 => ?_)
        · replace h := h.1 e4
          exact Y_thr i_167_30 ow_167 lc_9_88 (by decide +kernel) rfl h
        · replace h := h.2 e4
          refine Y_al0 i_167_41 ?_
          refine Y_gR i_167_42 ow_167 lf_9_64 (k_0 hG) (r_0_9 hG) ?_
          refine Y_il1 i_167_45 ?_
          refine Y_il2 i_167_46 ?_
          exact Y_iv2 (L0 := [.ref 49, .int x1, .int x2, .null]) i_167_47 ow_167 lm_9_364 ((k_49 hG).trans ow_122.symm) rfl mx_122 rfl rfl hd_167 h
theorem k_167n_50 {d : Nat} {F A : Nat → Nat → Int32} {J : Nat → Nat → Int64} {G : pG} {Q : pR → pM → Prop} {SL p q : Nat} {x1 x2 x3 : Int32} (hG : Geo G SL p q) (h : ((x3 = 0 → Q (.inl (some (.int (F 49 5)))) (F, A, J, G)) ∧ (¬ x3 = 0 → ((x3 = 1 → Q (.inl (some (.int (F 49 6)))) (F, A, J, G)) ∧ (¬ x3 = 1 → Q (.inl (some (.int (F 49 7)))) (F, A, J, G)))))) : KK (d + 6) 167 50 [.ref 0, .int x1, .int x2, .int x3] [] Q (.inl none) (F, A, J, G) := by
  refine KKv ?_
  refine Y_il3 i_167_50 ?_
  refine Y_zne i_167_51 (fun e1 => ?_) (fun e1 => ?_)
  · replace h := h.1 e1
    refine Y_al0 i_167_54 ?_
    refine Y_gR i_167_55 ow_167 lf_9_64 (k_0 hG) (r_0_9 hG) ?_
    refine Y_gI (v := (F 49 5)) i_167_58 ow_167 lf_9_368 (by decide) (k_49 hG) rfl ?_
    exact Y_iret i_167_61 rt_167 h
  · replace h := h.2 e1
    refine Y_il3 i_167_62 ?_
    refine Y_iconst (v := 1) i_167_63 (by decide) ?_
    refine Y_cne i_167_64 (fun e2 => ?_) (fun e2 => ?_)
    · replace h := h.1 e2
      refine Y_al0 i_167_67 ?_
      refine Y_gR i_167_68 ow_167 lf_9_64 (k_0 hG) (r_0_9 hG) ?_
      refine Y_gI (v := (F 49 6)) i_167_71 ow_167 lf_9_371 (by decide) (k_49 hG) rfl ?_
      refine Y_goto i_167_74 ?_
      exact Y_iret i_167_84 rt_167 h
    · replace h := h.2 e2
      refine Y_al0 i_167_77 ?_
      refine Y_gR i_167_78 ow_167 lf_9_64 (k_0 hG) (r_0_9 hG) ?_
      refine Y_gI (v := (F 49 7)) i_167_81 ow_167 lf_9_374 (by decide) (k_49 hG) rfl ?_
      exact Y_iret i_167_84 rt_167 h
/- 168 TableTower.image()V -/
theorem t_168n_0 {d : Nat} {F A : Nat → Nat → Int32} {J : Nat → Nat → Int64} {G : pG} {Q : pR → pM → Prop} {SL p q : Nat} (hG : Geo G SL p q) (h : X (d + 1) 62 0 [.ref 35, .ref 21] [] (F, A, J, G) (KK (d + 2) 168 11 [.ref 0] [] Q)) : X (d + 2) 168 0 [.ref 0] [] (F, A, J, G) Q := by
  refine Y_al0 i_168_0 ?_
  refine Y_gR i_168_1 ow_168 lf_9_52 (k_0 hG) (r_0_8 hG) ?_
  refine Y_al0 i_168_4 ?_
  refine Y_gR i_168_5 ow_168 lf_9_48 (k_0 hG) (r_0_7 hG) ?_
  exact Y_iv1 (L0 := [.ref 35, .ref 21]) i_168_8 ow_168 lm_9_377 ((k_35 hG).trans ow_62.symm) rfl mx_62 rfl rfl hd_168 h
theorem k_168n_11 {d : Nat} {F A : Nat → Nat → Int32} {J : Nat → Nat → Int64} {G : pG} {Q : pR → pM → Prop} {SL p q : Nat} (hG : Geo G SL p q) (h : Q (.inl none) ((wF F 0 3 1), A, J, G)) : KK (d + 2) 168 11 [.ref 0] [] Q (.inl none) (F, A, J, G) := by
  refine KKv ?_
  refine Y_al0 i_168_11 ?_
  refine Y_iconst (v := 1) i_168_12 (by decide) ?_
  refine Y_pB i_168_13 ow_168 lf_9_20 (k_0 hG) (by decide) ?_
  exact Y_vret i_168_16 rt_168 h
/- 169 TableTower.restore()Z -/
theorem t_169n_0 {d : Nat} {F A : Nat → Nat → Int32} {J : Nat → Nat → Int64} {G : pG} {Q : pR → pM → Prop} {SL p q : Nat} (hG : Geo G SL p q) (h : (((F 0 3) = 0 → Q (.inl (some (.int 0))) (F, A, J, G)) ∧ (¬ (F 0 3) = 0 → X (d + 1) 62 0 [.ref 21, .ref 35] [] (F, A, J, G) (KK (d + 2) 169 20 [.ref 0] [] Q)))) : X (d + 2) 169 0 [.ref 0] [] (F, A, J, G) Q := by
  refine Y_al0 i_169_0 ?_
  refine Y_gI (v := (F 0 3)) i_169_1 ow_169 lf_9_20 (by decide) (k_0 hG) rfl ?_
  refine Y_zne i_169_4 (fun e1 => ?_) (fun e1 => ?_)
  · replace h := h.1 e1
    refine Y_iconst (v := 0) i_169_7 (by decide) ?_
    exact Y_bret i_169_8 rt_169 (by decide) h
  · replace h := h.2 e1
    refine Y_al0 i_169_9 ?_
    refine Y_gR i_169_10 ow_169 lf_9_48 (k_0 hG) (r_0_7 hG) ?_
    refine Y_al0 i_169_13 ?_
    refine Y_gR i_169_14 ow_169 lf_9_52 (k_0 hG) (r_0_8 hG) ?_
    exact Y_iv1 (L0 := [.ref 21, .ref 35]) i_169_17 ow_169 lm_9_377 ((k_21 hG).trans ow_62.symm) rfl mx_62 rfl rfl hd_169 h
theorem k_169n_20 {d : Nat} {F A : Nat → Nat → Int32} {J : Nat → Nat → Int64} {G : pG} {Q : pR → pM → Prop} {SL p q : Nat} (hG : Geo G SL p q) (h : Q (.inl (some (.int 1))) (F, A, J, G)) : KK (d + 2) 169 20 [.ref 0] [] Q (.inl none) (F, A, J, G) := by
  refine KKv ?_
  refine Y_iconst (v := 1) i_169_20 (by decide) ?_
  exact Y_bret i_169_21 rt_169 (by decide) h
end Tr20a
