section LeafB2
/- 96 Tower.canMarry(II)Z -/
theorem t_96_0 {d : Nat} {F A : Nat → Nat → Int32} {J : Nat → Nat → Int64} {G : pG} {Q : pR → pM → Prop} {SL p q : Nat} {t : Nat} {x1 x2 : Int32} (hG : Geo G SL p q) (ht : Tw t) (h : inB x1 10 = true ∧ inB x2 10 = true ∧ (((carS (A 13 x1.toNatClampNeg) (A 15 x1.toNatClampNeg) (F t 2) 0) < (A 14 x2.toNatClampNeg) → Q (.inl (some (.int 0))) (F, A, J, G)) ∧ (¬ (carS (A 13 x1.toNatClampNeg) (A 15 x1.toNatClampNeg) (F t 2) 0) < (A 14 x2.toNatClampNeg) → (((carS (A 13 x2.toNatClampNeg) (A 15 x2.toNatClampNeg) (F t 2) 0) < (A 14 x1.toNatClampNeg) → Q (.inl (some (.int 0))) (F, A, J, G)) ∧ (¬ (carS (A 13 x2.toNatClampNeg) (A 15 x2.toNatClampNeg) (F t 2) 0) < (A 14 x1.toNatClampNeg) → Q (.inl (some (.int 1))) (F, A, J, G)))))) : X (d + 2) 96 0 [.ref t, .int x1, .int x2] [] (F, A, J, G) Q := by
  refine Y_al0 i_96_0 ?_
  refine Y_il1 i_96_1 ?_
  refine Y_iconst (v := 0) i_96_2 (by decide) ?_
  have o1 := h.1
  replace h := h.2
  refine Y_iv2 (L0 := [.ref t, .int x1, .int 0, .null]) i_96_3 ow_96 lm_6_78 ((kT0 hG ht).trans ow_82.symm) rfl mx_82 rfl rfl hd_96 ?_
  refine c_82 hG ht o1 (KKi ?_)
  refine Y_al0 i_96_6 ?_
  refine Y_gR i_96_7 ow_96 lf_6_33 (kT0 hG ht) (rT0 hG ht) ?_
  refine Y_gR i_96_10 ow_96 lf_6_82 (k_12 hG) (r_12_4 hG) ?_
  refine Y_il2 i_96_13 ?_
  have o2 := h.1
  replace h := h.2
  refine Y_iaload (k := x2.toNatClampNeg) (v := (A 14 x2.toNatClampNeg)) i_96_14 (k_14 hG) (l_14 hG) o2 rfl rfl ?_
  refine Y_clt i_96_15 (fun e3 => ?_) (fun e3 => ?_)
  · replace h := h.1 e3
    refine Y_iconst (v := 0) i_96_40 (by decide) ?_
    exact Y_bret i_96_41 rt_96 (by decide) h
  · replace h := h.2 e3
    refine Y_al0 i_96_18 ?_
    refine Y_il2 i_96_19 ?_
    refine Y_iconst (v := 0) i_96_20 (by decide) ?_
    refine Y_iv2 (L0 := [.ref t, .int x2, .int 0, .null]) i_96_21 ow_96 lm_6_78 ((kT0 hG ht).trans ow_82.symm) rfl mx_82 rfl rfl hd_96 ?_
    refine c_82 hG ht o2 (KKi ?_)
    refine Y_al0 i_96_24 ?_
    refine Y_gR i_96_25 ow_96 lf_6_33 (kT0 hG ht) (rT0 hG ht) ?_
    refine Y_gR i_96_28 ow_96 lf_6_82 (k_12 hG) (r_12_4 hG) ?_
    refine Y_il1 i_96_31 ?_
    refine Y_iaload (k := x1.toNatClampNeg) (v := (A 14 x1.toNatClampNeg)) i_96_32 (k_14 hG) (l_14 hG) o1 rfl rfl ?_
    refine Y_clt i_96_33 (fun e4 => ?_) (fun e4 => ?_)
    · replace h := h.1 e4
      refine Y_iconst (v := 0) i_96_40 (by decide) ?_
      exact Y_bret i_96_41 rt_96 (by decide) h
    · replace h := h.2 e4
      refine Y_iconst (v := 1) i_96_36 (by decide) ?_
      refine Y_goto i_96_37 ?_
      exact Y_bret i_96_41 rt_96 (by decide) h
/- 214 Model.carriedBy(I)I -/
theorem t_214_0 {d : Nat} {F A : Nat → Nat → Int32} {J : Nat → Nat → Int64} {G : pG} {Q : pR → pM → Prop} {SL p q : Nat} {x1 : Int32} (hG : Geo G SL p q) (h : inB x1 10 = true ∧ ((x1 = ((F 68 28) - 1) → inB (A 81 x1.toNatClampNeg) 20 = true ∧ inB (A 73 (A 81 x1.toNatClampNeg).toNatClampNeg) 4 = true ∧ Wrm A ∧ (Q (.inl (some (.int (carS (A 73 (A 81 x1.toNatClampNeg).toNatClampNeg) (A 75 (A 81 x1.toNatClampNeg).toNatClampNeg) (F 68 29) 1)))) (F, A, J, G))) ∧ (¬ x1 = ((F 68 28) - 1) → inB (A 81 x1.toNatClampNeg) 20 = true ∧ inB (A 73 (A 81 x1.toNatClampNeg).toNatClampNeg) 4 = true ∧ Wrm A ∧ (Q (.inl (some (.int (carS (A 73 (A 81 x1.toNatClampNeg).toNatClampNeg) (A 75 (A 81 x1.toNatClampNeg).toNatClampNeg) (F 68 29) 0)))) (F, A, J, G))))) : X (d + 2) 214 0 [.ref 68, .int x1] [] (F, A, J, G) Q := by
  refine Y_al0 i_214_0 ?_
  refine Y_al0 i_214_1 ?_
  refine Y_gR i_214_2 ow_214 lf_10_70 (k_68 hG) (r_68_23 hG) ?_
  refine Y_il1 i_214_5 ?_
  have o1 := h.1
  replace h := h.2
  refine Y_iaload (k := x1.toNatClampNeg) (v := (A 81 x1.toNatClampNeg)) i_214_6 (k_81 hG) (l_81 hG) o1 rfl rfl ?_
  refine Y_il1 i_214_7 ?_
  refine Y_al0 i_214_8 ?_
  refine Y_gI (v := (F 68 28)) i_214_9 ow_214 lf_10_150 (by decide) (k_68 hG) rfl ?_
  refine Y_iconst (v := 1) i_214_12 (by decide) ?_
  refine Y_isub i_214_13 ?_
  refine Y_cne i_214_14 (fun e2 => ?_) (fun e2 => ?_)
  · replace h := h.1 e2
    refine Y_iconst (v := 1) i_214_17 (by decide) ?_
    refine Y_goto i_214_18 ?_
    have o3 := h.1
    replace h := h.2
    have o4 := h.1
    replace h := h.2
    have o5 := h.1
    replace h := h.2
    refine Y_iv2 (L0 := [.ref 68, .int (A 81 x1.toNatClampNeg), .int 1, .null]) i_214_22 ow_214 lm_10_301 ((k_68 hG).trans ow_211.symm) rfl mx_211 rfl rfl hd_214 ?_
    refine c_211 hG o3 o4 o5 (KKi ?_)
    exact Y_iret i_214_25 rt_214 h
  · replace h := h.2 e2
    refine Y_iconst (v := 0) i_214_21 (by decide) ?_
    have o6 := h.1
    replace h := h.2
    have o7 := h.1
    replace h := h.2
    have o8 := h.1
    replace h := h.2
    refine Y_iv2 (L0 := [.ref 68, .int (A 81 x1.toNatClampNeg), .int 0, .null]) i_214_22 ow_214 lm_10_301 ((k_68 hG).trans ow_211.symm) rfl mx_211 rfl rfl hd_214 ?_
    refine c_211 hG o6 o7 o8 (KKi ?_)
    exact Y_iret i_214_25 rt_214 h
/- 258 Model.canMarry(II)Z -/
theorem t_258_0 {d : Nat} {F A : Nat → Nat → Int32} {J : Nat → Nat → Int64} {G : pG} {Q : pR → pM → Prop} {SL p q : Nat} {x1 x2 : Int32} (hG : Geo G SL p q) (h : inB x2 20 = true ∧ inB x1 20 = true ∧ inB (A 73 x1.toNatClampNeg) 4 = true ∧ Wrm A ∧ (((carS (A 73 x1.toNatClampNeg) (A 75 x1.toNatClampNeg) (F 68 29) 0) < (A 74 x2.toNatClampNeg) → Q (.inl (some (.int 0))) (F, A, J, G)) ∧ (¬ (carS (A 73 x1.toNatClampNeg) (A 75 x1.toNatClampNeg) (F 68 29) 0) < (A 74 x2.toNatClampNeg) → inB (A 73 x2.toNatClampNeg) 4 = true ∧ (((carS (A 73 x2.toNatClampNeg) (A 75 x2.toNatClampNeg) (F 68 29) 0) < (A 74 x1.toNatClampNeg) → Q (.inl (some (.int 0))) (F, A, J, G)) ∧ (¬ (carS (A 73 x2.toNatClampNeg) (A 75 x2.toNatClampNeg) (F 68 29) 0) < (A 74 x1.toNatClampNeg) → Q (.inl (some (.int 1))) (F, A, J, G)))))) : X (d + 2) 258 0 [.ref 68, .int x1, .int x2] [] (F, A, J, G) Q := by
  refine Y_al0 i_258_0 ?_
  refine Y_gR i_258_1 ow_258 lf_10_47 (k_68 hG) (r_68_6 hG) ?_
  refine Y_il2 i_258_4 ?_
  have o1 := h.1
  replace h := h.2
  refine Y_iaload (k := x2.toNatClampNeg) (v := (A 74 x2.toNatClampNeg)) i_258_5 (k_74 hG) (l_74 hG) o1 rfl rfl ?_
  refine Y_al0 i_258_6 ?_
  refine Y_il1 i_258_7 ?_
  refine Y_iconst (v := 0) i_258_8 (by decide) ?_
  have o2 := h.1
  replace h := h.2
  have o3 := h.1
  replace h := h.2
  have o4 := h.1
  replace h := h.2
  refine Y_iv2 (L0 := [.ref 68, .int x1, .int 0, .null]) i_258_9 ow_258 lm_10_301 ((k_68 hG).trans ow_211.symm) rfl mx_211 rfl rfl hd_258 ?_
  refine c_211 hG o2 o3 o4 (KKi ?_)
  refine Y_cgt i_258_12 (fun e5 => ?_) (fun e5 => ?_)
  · replace h := h.1 e5
    refine Y_iconst (v := 0) i_258_34 (by decide) ?_
    exact Y_bret i_258_35 rt_258 (by decide) h
  · replace h := h.2 e5
    refine Y_al0 i_258_15 ?_
    refine Y_gR i_258_16 ow_258 lf_10_47 (k_68 hG) (r_68_6 hG) ?_
    refine Y_il1 i_258_19 ?_
    refine Y_iaload (k := x1.toNatClampNeg) (v := (A 74 x1.toNatClampNeg)) i_258_20 (k_74 hG) (l_74 hG) o2 rfl rfl ?_
    refine Y_al0 i_258_21 ?_
    refine Y_il2 i_258_22 ?_
    refine Y_iconst (v := 0) i_258_23 (by decide) ?_
    have o6 := h.1
    replace h := h.2
    refine Y_iv2 (L0 := [.ref 68, .int x2, .int 0, .null]) i_258_24 ow_258 lm_10_301 ((k_68 hG).trans ow_211.symm) rfl mx_211 rfl rfl hd_258 ?_
    refine c_211 hG o1 o6 o4 (KKi ?_)
    refine Y_cgt i_258_27 (fun e7 => ?_) (fun e7 => ?_)
    · replace h := h.1 e7
      refine Y_iconst (v := 0) i_258_34 (by decide) ?_
      exact Y_bret i_258_35 rt_258 (by decide) h
    · replace h := h.2 e7
      refine Y_iconst (v := 1) i_258_30 (by decide) ?_
      refine Y_goto i_258_31 ?_
      exact Y_bret i_258_35 rt_258 (by decide) h
/- 76 Tower.become(LTableTower$Tower;)V -/
theorem t_76a_0 {d : Nat} {F A : Nat → Nat → Int32} {J : Nat → Nat → Int64} {G : pG} {Q : pR → pM → Prop} {SL p q : Nat} (hG : Geo G SL p q) (h : Q (.inl none) ((wF (wF (wF F 41 1 (F 27 1)) 41 2 (F 27 2)) 41 3 (F 27 3)), (cpR (cpR (cpR (cpR A 42 28 0 0 10) 43 29 0 0 10) 44 30 0 0 10) 45 31 0 0 10), J, G)) : X d 76 0 [.ref 41, .ref 27] [] (F, A, J, G) Q := by
  refine Y_al0 i_76_0 ?_
  refine Y_al1 i_76_1 ?_
  refine Y_gI (v := (F 27 1)) i_76_2 ow_76 lf_6_37 (by decide) (k_27 hG) rfl ?_
  refine Y_pI i_76_5 ow_76 lf_6_37 (k_41 hG) ?_
  refine Y_al0 i_76_8 ?_
  refine Y_al1 i_76_9 ?_
  refine Y_gI (v := (F 27 2)) i_76_10 ow_76 lf_6_41 (by decide) (k_27 hG) (by simp [wF, wJ, va_up, cpR]) ?_
  refine Y_pI i_76_13 ow_76 lf_6_41 (k_41 hG) ?_
  refine Y_al0 i_76_16 ?_
  refine Y_al1 i_76_17 ?_
  refine Y_gI (v := (F 27 3)) i_76_18 ow_76 lf_6_44 (by decide) (k_27 hG) (by simp [wF, wJ, va_up, cpR]) ?_
  refine Y_pI i_76_21 ow_76 lf_6_44 (k_41 hG) ?_
  refine Y_al1 i_76_24 ?_
  refine Y_gR i_76_25 ow_76 lf_6_9 (k_27 hG) (r_27_4 hG) ?_
  refine Y_iconst (v := 0) i_76_28 (by decide) ?_
  refine Y_al0 i_76_29 ?_
  refine Y_gR i_76_30 ow_76 lf_6_9 (k_41 hG) (r_41_4 hG) ?_
  refine Y_iconst (v := 0) i_76_33 (by decide) ?_
  refine Y_bipush (v := 10) i_76_34 (by decide) ?_
  refine Y_acp (ksp := 0) (kdp := 0) (kn := 10) i_76_36 ow_76 lm_6_53 rfl (k_42 hG) (k_28 hG) (l_42 hG) (l_28 hG) (by decide) (by decide) (by decide) (by decide) ?_
  refine Y_al1 i_76_39 ?_
  refine Y_gR i_76_40 ow_76 lf_6_15 (k_27 hG) (r_27_5 hG) ?_
  refine Y_iconst (v := 0) i_76_43 (by decide) ?_
  refine Y_al0 i_76_44 ?_
  refine Y_gR i_76_45 ow_76 lf_6_15 (k_41 hG) (r_41_5 hG) ?_
  refine Y_iconst (v := 0) i_76_48 (by decide) ?_
  refine Y_bipush (v := 10) i_76_49 (by decide) ?_
  refine Y_acp (ksp := 0) (kdp := 0) (kn := 10) i_76_51 ow_76 lm_6_53 rfl (k_43 hG) (k_29 hG) (l_43 hG) (l_29 hG) (by decide) (by decide) (by decide) (by decide) ?_
  refine Y_al1 i_76_54 ?_
  refine Y_gR i_76_55 ow_76 lf_6_18 (k_27 hG) (r_27_6 hG) ?_
  refine Y_iconst (v := 0) i_76_58 (by decide) ?_
  refine Y_al0 i_76_59 ?_
  refine Y_gR i_76_60 ow_76 lf_6_18 (k_41 hG) (r_41_6 hG) ?_
  refine Y_iconst (v := 0) i_76_63 (by decide) ?_
  refine Y_bipush (v := 10) i_76_64 (by decide) ?_
  refine Y_acp (ksp := 0) (kdp := 0) (kn := 10) i_76_66 ow_76 lm_6_53 rfl (k_44 hG) (k_30 hG) (l_44 hG) (l_30 hG) (by decide) (by decide) (by decide) (by decide) ?_
  refine Y_al1 i_76_69 ?_
  refine Y_gR i_76_70 ow_76 lf_6_21 (k_27 hG) (r_27_7 hG) ?_
  refine Y_iconst (v := 0) i_76_73 (by decide) ?_
  refine Y_al0 i_76_74 ?_
  refine Y_gR i_76_75 ow_76 lf_6_21 (k_41 hG) (r_41_7 hG) ?_
  refine Y_iconst (v := 0) i_76_78 (by decide) ?_
  refine Y_bipush (v := 10) i_76_79 (by decide) ?_
  refine Y_acp (ksp := 0) (kdp := 0) (kn := 10) i_76_81 ow_76 lm_6_53 rfl (k_45 hG) (k_31 hG) (l_45 hG) (l_31 hG) (by decide) (by decide) (by decide) (by decide) ?_
  exact Y_vret i_76_84 rt_76 h
/- 76 Tower.become(LTableTower$Tower;)V -/
theorem t_76b_0 {d : Nat} {F A : Nat → Nat → Int32} {J : Nat → Nat → Int64} {G : pG} {Q : pR → pM → Prop} {SL p q : Nat} (hG : Geo G SL p q) (h : Q (.inl none) ((wF (wF (wF F 27 1 (F 41 1)) 27 2 (F 41 2)) 27 3 (F 41 3)), (cpR (cpR (cpR (cpR A 28 42 0 0 10) 29 43 0 0 10) 30 44 0 0 10) 31 45 0 0 10), J, G)) : X d 76 0 [.ref 27, .ref 41] [] (F, A, J, G) Q := by
  refine Y_al0 i_76_0 ?_
  refine Y_al1 i_76_1 ?_
  refine Y_gI (v := (F 41 1)) i_76_2 ow_76 lf_6_37 (by decide) (k_41 hG) rfl ?_
  refine Y_pI i_76_5 ow_76 lf_6_37 (k_27 hG) ?_
  refine Y_al0 i_76_8 ?_
  refine Y_al1 i_76_9 ?_
  refine Y_gI (v := (F 41 2)) i_76_10 ow_76 lf_6_41 (by decide) (k_41 hG) (by simp [wF, wJ, va_up, cpR]) ?_
  refine Y_pI i_76_13 ow_76 lf_6_41 (k_27 hG) ?_
  refine Y_al0 i_76_16 ?_
  refine Y_al1 i_76_17 ?_
  refine Y_gI (v := (F 41 3)) i_76_18 ow_76 lf_6_44 (by decide) (k_41 hG) (by simp [wF, wJ, va_up, cpR]) ?_
  refine Y_pI i_76_21 ow_76 lf_6_44 (k_27 hG) ?_
  refine Y_al1 i_76_24 ?_
  refine Y_gR i_76_25 ow_76 lf_6_9 (k_41 hG) (r_41_4 hG) ?_
  refine Y_iconst (v := 0) i_76_28 (by decide) ?_
  refine Y_al0 i_76_29 ?_
  refine Y_gR i_76_30 ow_76 lf_6_9 (k_27 hG) (r_27_4 hG) ?_
  refine Y_iconst (v := 0) i_76_33 (by decide) ?_
  refine Y_bipush (v := 10) i_76_34 (by decide) ?_
  refine Y_acp (ksp := 0) (kdp := 0) (kn := 10) i_76_36 ow_76 lm_6_53 rfl (k_28 hG) (k_42 hG) (l_28 hG) (l_42 hG) (by decide) (by decide) (by decide) (by decide) ?_
  refine Y_al1 i_76_39 ?_
  refine Y_gR i_76_40 ow_76 lf_6_15 (k_41 hG) (r_41_5 hG) ?_
  refine Y_iconst (v := 0) i_76_43 (by decide) ?_
  refine Y_al0 i_76_44 ?_
  refine Y_gR i_76_45 ow_76 lf_6_15 (k_27 hG) (r_27_5 hG) ?_
  refine Y_iconst (v := 0) i_76_48 (by decide) ?_
  refine Y_bipush (v := 10) i_76_49 (by decide) ?_
  refine Y_acp (ksp := 0) (kdp := 0) (kn := 10) i_76_51 ow_76 lm_6_53 rfl (k_29 hG) (k_43 hG) (l_29 hG) (l_43 hG) (by decide) (by decide) (by decide) (by decide) ?_
  refine Y_al1 i_76_54 ?_
  refine Y_gR i_76_55 ow_76 lf_6_18 (k_41 hG) (r_41_6 hG) ?_
  refine Y_iconst (v := 0) i_76_58 (by decide) ?_
  refine Y_al0 i_76_59 ?_
  refine Y_gR i_76_60 ow_76 lf_6_18 (k_27 hG) (r_27_6 hG) ?_
  refine Y_iconst (v := 0) i_76_63 (by decide) ?_
  refine Y_bipush (v := 10) i_76_64 (by decide) ?_
  refine Y_acp (ksp := 0) (kdp := 0) (kn := 10) i_76_66 ow_76 lm_6_53 rfl (k_30 hG) (k_44 hG) (l_30 hG) (l_44 hG) (by decide) (by decide) (by decide) (by decide) ?_
  refine Y_al1 i_76_69 ?_
  refine Y_gR i_76_70 ow_76 lf_6_21 (k_41 hG) (r_41_7 hG) ?_
  refine Y_iconst (v := 0) i_76_73 (by decide) ?_
  refine Y_al0 i_76_74 ?_
  refine Y_gR i_76_75 ow_76 lf_6_21 (k_27 hG) (r_27_7 hG) ?_
  refine Y_iconst (v := 0) i_76_78 (by decide) ?_
  refine Y_bipush (v := 10) i_76_79 (by decide) ?_
  refine Y_acp (ksp := 0) (kdp := 0) (kn := 10) i_76_81 ow_76 lm_6_53 rfl (k_31 hG) (k_45 hG) (l_31 hG) (l_45 hG) (by decide) (by decide) (by decide) (by decide) ?_
  exact Y_vret i_76_84 rt_76 h
/- 76 Tower.become(LTableTower$Tower;)V -/
theorem t_76c_0 {d : Nat} {F A : Nat → Nat → Int32} {J : Nat → Nat → Int64} {G : pG} {Q : pR → pM → Prop} {SL p q : Nat} (hG : Geo G SL p q) (h : Q (.inl none) ((wF (wF (wF F 53 1 (F 27 1)) 53 2 (F 27 2)) 53 3 (F 27 3)), (cpR (cpR (cpR (cpR A 54 28 0 0 10) 55 29 0 0 10) 56 30 0 0 10) 57 31 0 0 10), J, G)) : X d 76 0 [.ref 53, .ref 27] [] (F, A, J, G) Q := by
  refine Y_al0 i_76_0 ?_
  refine Y_al1 i_76_1 ?_
  refine Y_gI (v := (F 27 1)) i_76_2 ow_76 lf_6_37 (by decide) (k_27 hG) rfl ?_
  refine Y_pI i_76_5 ow_76 lf_6_37 (k_53 hG) ?_
  refine Y_al0 i_76_8 ?_
  refine Y_al1 i_76_9 ?_
  refine Y_gI (v := (F 27 2)) i_76_10 ow_76 lf_6_41 (by decide) (k_27 hG) (by simp [wF, wJ, va_up, cpR]) ?_
  refine Y_pI i_76_13 ow_76 lf_6_41 (k_53 hG) ?_
  refine Y_al0 i_76_16 ?_
  refine Y_al1 i_76_17 ?_
  refine Y_gI (v := (F 27 3)) i_76_18 ow_76 lf_6_44 (by decide) (k_27 hG) (by simp [wF, wJ, va_up, cpR]) ?_
  refine Y_pI i_76_21 ow_76 lf_6_44 (k_53 hG) ?_
  refine Y_al1 i_76_24 ?_
  refine Y_gR i_76_25 ow_76 lf_6_9 (k_27 hG) (r_27_4 hG) ?_
  refine Y_iconst (v := 0) i_76_28 (by decide) ?_
  refine Y_al0 i_76_29 ?_
  refine Y_gR i_76_30 ow_76 lf_6_9 (k_53 hG) (r_53_4 hG) ?_
  refine Y_iconst (v := 0) i_76_33 (by decide) ?_
  refine Y_bipush (v := 10) i_76_34 (by decide) ?_
  refine Y_acp (ksp := 0) (kdp := 0) (kn := 10) i_76_36 ow_76 lm_6_53 rfl (k_54 hG) (k_28 hG) (l_54 hG) (l_28 hG) (by decide) (by decide) (by decide) (by decide) ?_
  refine Y_al1 i_76_39 ?_
  refine Y_gR i_76_40 ow_76 lf_6_15 (k_27 hG) (r_27_5 hG) ?_
  refine Y_iconst (v := 0) i_76_43 (by decide) ?_
  refine Y_al0 i_76_44 ?_
  refine Y_gR i_76_45 ow_76 lf_6_15 (k_53 hG) (r_53_5 hG) ?_
  refine Y_iconst (v := 0) i_76_48 (by decide) ?_
  refine Y_bipush (v := 10) i_76_49 (by decide) ?_
  refine Y_acp (ksp := 0) (kdp := 0) (kn := 10) i_76_51 ow_76 lm_6_53 rfl (k_55 hG) (k_29 hG) (l_55 hG) (l_29 hG) (by decide) (by decide) (by decide) (by decide) ?_
  refine Y_al1 i_76_54 ?_
  refine Y_gR i_76_55 ow_76 lf_6_18 (k_27 hG) (r_27_6 hG) ?_
  refine Y_iconst (v := 0) i_76_58 (by decide) ?_
  refine Y_al0 i_76_59 ?_
  refine Y_gR i_76_60 ow_76 lf_6_18 (k_53 hG) (r_53_6 hG) ?_
  refine Y_iconst (v := 0) i_76_63 (by decide) ?_
  refine Y_bipush (v := 10) i_76_64 (by decide) ?_
  refine Y_acp (ksp := 0) (kdp := 0) (kn := 10) i_76_66 ow_76 lm_6_53 rfl (k_56 hG) (k_30 hG) (l_56 hG) (l_30 hG) (by decide) (by decide) (by decide) (by decide) ?_
  refine Y_al1 i_76_69 ?_
  refine Y_gR i_76_70 ow_76 lf_6_21 (k_27 hG) (r_27_7 hG) ?_
  refine Y_iconst (v := 0) i_76_73 (by decide) ?_
  refine Y_al0 i_76_74 ?_
  refine Y_gR i_76_75 ow_76 lf_6_21 (k_53 hG) (r_53_7 hG) ?_
  refine Y_iconst (v := 0) i_76_78 (by decide) ?_
  refine Y_bipush (v := 10) i_76_79 (by decide) ?_
  refine Y_acp (ksp := 0) (kdp := 0) (kn := 10) i_76_81 ow_76 lm_6_53 rfl (k_57 hG) (k_31 hG) (l_57 hG) (l_31 hG) (by decide) (by decide) (by decide) (by decide) ?_
  exact Y_vret i_76_84 rt_76 h
end LeafB2
