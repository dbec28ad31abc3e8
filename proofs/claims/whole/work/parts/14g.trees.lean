section Tr14g
/- 205 Model.takeOver()V -/
theorem t_205_0 {d : Nat} {F A : Nat → Nat → Int32} {J : Nat → Nat → Int64} {G : pG} {Q : pR → pM → Prop} {SL p q : Nat} (hG : Geo G SL p q) (h : X d 204 0 [.ref 72, .null] [] (F, A, J, G) (KK (d + 1) 205 7 [.ref 68, .null] [] Q)) : X (d + 1) 205 0 [.ref 68, .null] [] (F, A, J, G) Q := by
  refine Y_al0 i_205_0 ?_
  refine Y_gR i_205_1 ow_205 lf_10_42 (k_68 hG) (r_68_4 hG) ?_
  exact Y_is_1 (L0 := [.ref 72, .null]) i_205_4 ow_205 lm_10_278 rfl mx_204 rfl rfl hd_205 h
theorem k_205_7 {d : Nat} {F A : Nat → Nat → Int32} {J : Nat → Nat → Int64} {G : pG} {Q : pR → pM → Prop} {SL p q : Nat} (hG : Geo G SL p q) (h : X d 204 0 [.ref 73, .null] [] (F, A, J, G) (KK (d + 1) 205 14 [.ref 68, .null] [] Q)) : KK (d + 1) 205 7 [.ref 68, .null] [] Q (.inl none) (F, A, J, G) := by
  refine KKv ?_
  refine Y_al0 i_205_7 ?_
  refine Y_gR i_205_8 ow_205 lf_10_45 (k_68 hG) (r_68_5 hG) ?_
  exact Y_is_1 (L0 := [.ref 73, .null]) i_205_11 ow_205 lm_10_278 rfl mx_204 rfl rfl hd_205 h
theorem k_205_14 {d : Nat} {F A : Nat → Nat → Int32} {J : Nat → Nat → Int64} {G : pG} {Q : pR → pM → Prop} {SL p q : Nat} (hG : Geo G SL p q) (h : X d 204 0 [.ref 74, .null] [] (F, A, J, G) (KK (d + 1) 205 21 [.ref 68, .null] [] Q)) : KK (d + 1) 205 14 [.ref 68, .null] [] Q (.inl none) (F, A, J, G) := by
  refine KKv ?_
  refine Y_al0 i_205_14 ?_
  refine Y_gR i_205_15 ow_205 lf_10_47 (k_68 hG) (r_68_6 hG) ?_
  exact Y_is_1 (L0 := [.ref 74, .null]) i_205_18 ow_205 lm_10_278 rfl mx_204 rfl rfl hd_205 h
theorem k_205_21 {d : Nat} {F A : Nat → Nat → Int32} {J : Nat → Nat → Int64} {G : pG} {Q : pR → pM → Prop} {SL p q : Nat} (hG : Geo G SL p q) (h : X d 204 0 [.ref 75, .null] [] (F, A, J, G) (KK (d + 1) 205 28 [.ref 68, .null] [] Q)) : KK (d + 1) 205 21 [.ref 68, .null] [] Q (.inl none) (F, A, J, G) := by
  refine KKv ?_
  refine Y_al0 i_205_21 ?_
  refine Y_gR i_205_22 ow_205 lf_10_49 (k_68 hG) (r_68_7 hG) ?_
  exact Y_is_1 (L0 := [.ref 75, .null]) i_205_25 ow_205 lm_10_278 rfl mx_204 rfl rfl hd_205 h
theorem k_205_28 {d : Nat} {F A : Nat → Nat → Int32} {J : Nat → Nat → Int64} {G : pG} {Q : pR → pM → Prop} {SL p q : Nat} (hG : Geo G SL p q) (h : X d 204 0 [.ref 76, .null] [] (F, A, J, G) (KK (d + 1) 205 35 [.ref 68, .null] [] Q)) : KK (d + 1) 205 28 [.ref 68, .null] [] Q (.inl none) (F, A, J, G) := by
  refine KKv ?_
  refine Y_al0 i_205_28 ?_
  refine Y_gR i_205_29 ow_205 lf_10_52 (k_68 hG) (r_68_8 hG) ?_
  exact Y_is_1 (L0 := [.ref 76, .null]) i_205_32 ow_205 lm_10_278 rfl mx_204 rfl rfl hd_205 h
theorem k_205_35 {d : Nat} {F A : Nat → Nat → Int32} {J : Nat → Nat → Int64} {G : pG} {Q : pR → pM → Prop} {SL p q : Nat} (hG : Geo G SL p q) (h : X d 204 0 [.ref 77, .null] [] (F, A, J, G) (KK (d + 1) 205 42 [.ref 68, .null] [] Q)) : KK (d + 1) 205 35 [.ref 68, .null] [] Q (.inl none) (F, A, J, G) := by
  refine KKv ?_
  refine Y_al0 i_205_35 ?_
  refine Y_gR i_205_36 ow_205 lf_10_55 (k_68 hG) (r_68_9 hG) ?_
  exact Y_is_1 (L0 := [.ref 77, .null]) i_205_39 ow_205 lm_10_278 rfl mx_204 rfl rfl hd_205 h
theorem k_205_42 {d : Nat} {F A : Nat → Nat → Int32} {J : Nat → Nat → Int64} {G : pG} {Q : pR → pM → Prop} {SL p q : Nat} (hG : Geo G SL p q) (h : X d 204 0 [.ref 78, .null] [] (F, A, J, G) (KK (d + 1) 205 49 [.ref 68, .null] [] Q)) : KK (d + 1) 205 42 [.ref 68, .null] [] Q (.inl none) (F, A, J, G) := by
  refine KKv ?_
  refine Y_al0 i_205_42 ?_
  refine Y_gR i_205_43 ow_205 lf_10_57 (k_68 hG) (r_68_10 hG) ?_
  exact Y_is_1 (L0 := [.ref 78, .null]) i_205_46 ow_205 lm_10_278 rfl mx_204 rfl rfl hd_205 h
theorem k_205_49 {d : Nat} {F A : Nat → Nat → Int32} {J : Nat → Nat → Int64} {G : pG} {Q : pR → pM → Prop} {SL p q : Nat} (hG : Geo G SL p q) (h : X (d + 1) 205 71 [.ref 68, .int 0] [] ((wF (wF (wF F 68 28 (A 72 0)) 68 29 0) 68 30 (-1)), A, J, G) Q) : KK (d + 1) 205 49 [.ref 68, .null] [] Q (.inl none) (F, A, J, G) := by
  refine KKv ?_
  refine Y_al0 i_205_49 ?_
  refine Y_al0 i_205_50 ?_
  refine Y_gR i_205_51 ow_205 lf_10_42 (k_68 hG) (r_68_4 hG) ?_
  refine Y_iconst (v := 0) i_205_54 (by decide) ?_
  refine Y_iaload (k := 0) (v := (A 72 0)) i_205_55 (k_72 hG) (l_72 hG) (by decide) (by decide) rfl ?_
  refine Y_pI i_205_56 ow_205 lf_10_150 (k_68 hG) ?_
  refine Y_al0 i_205_59 ?_
  refine Y_iconst (v := 0) i_205_60 (by decide) ?_
  refine Y_pI i_205_61 ow_205 lf_10_282 (k_68 hG) ?_
  refine Y_al0 i_205_64 ?_
  refine Y_iconst (v := (-1)) i_205_65 (by decide) ?_
  refine Y_pI i_205_66 ow_205 lf_10_85 (k_68 hG) ?_
  refine Y_iconst (v := 0) i_205_69 (by decide) ?_
  refine Y_is1 i_205_70 rfl ?_
  exact h
theorem t_205_71 {d : Nat} {F A : Nat → Nat → Int32} {J : Nat → Nat → Int64} {G : pG} {Q : pR → pM → Prop} {SL p q : Nat} {x1 : Int32} (hG : Geo G SL p q) (h : ((x1 < 10 → inB x1 10 = true ∧ inB x1 20 = true ∧ (X (d + 1) 205 71 [.ref 68, .int (x1 + 1)] [] (F, (wF (wF (wF (wF A 81 x1.toNatClampNeg x1) 82 x1.toNatClampNeg 0) 83 x1.toNatClampNeg 0) 84 x1.toNatClampNeg (A 76 x1.toNatClampNeg)), J, G) Q)) ∧ (¬ x1 < 10 → Q (.inl none) ((wF (wF (wF F 68 31 0) 68 32 0) 68 50 0), A, J, G)))) : X (d + 1) 205 71 [.ref 68, .int x1] [] (F, A, J, G) Q := by
  refine Y_il1 i_205_71 ?_
  refine Y_bipush (v := 10) i_205_72 (by decide) ?_
  refine Y_cge i_205_74 (fun e1 => ?_) (fun e1 => ?_)
  · replace h := h.1 e1
    refine Y_al0 i_205_77 ?_
    refine Y_gR i_205_78 ow_205 lf_10_70 (k_68 hG) (r_68_23 hG) ?_
    refine Y_il1 i_205_81 ?_
    refine Y_il1 i_205_82 ?_
    have o2 := h.1
    replace h := h.2
    refine Y_iast i_205_83 (k_81 hG) (l_81 hG) o2 rfl ?_
    refine Y_al0 i_205_84 ?_
    refine Y_gR i_205_85 ow_205 lf_10_73 (k_68 hG) (r_68_24 hG) ?_
    refine Y_il1 i_205_88 ?_
    refine Y_iconst (v := 0) i_205_89 (by decide) ?_
    refine Y_iast i_205_90 (k_82 hG) (l_82 hG) o2 rfl ?_
    refine Y_al0 i_205_91 ?_
    refine Y_gR i_205_92 ow_205 lf_10_76 (k_68 hG) (r_68_25 hG) ?_
    refine Y_il1 i_205_95 ?_
    refine Y_iconst (v := 0) i_205_96 (by decide) ?_
    refine Y_iast i_205_97 (k_83 hG) (l_83 hG) o2 rfl ?_
    refine Y_al0 i_205_98 ?_
    refine Y_gR i_205_99 ow_205 lf_10_79 (k_68 hG) (r_68_26 hG) ?_
    refine Y_il1 i_205_102 ?_
    refine Y_al0 i_205_103 ?_
    refine Y_gR i_205_104 ow_205 lf_10_52 (k_68 hG) (r_68_8 hG) ?_
    refine Y_il1 i_205_107 ?_
    have o3 := h.1
    replace h := h.2
    refine Y_iaload (k := x1.toNatClampNeg) (v := (A 76 x1.toNatClampNeg)) i_205_108 (k_76 hG) (l_76 hG) o3 rfl (by simp [wF, wJ, va_up, cpR, bF, bA]) ?_
    refine Y_iast i_205_109 (k_84 hG) (l_84 hG) o2 rfl ?_
    refine Y_ii1 (v := 1) i_205_110 (by decide) rfl ?_
    refine Y_goto i_205_113 ?_
    exact h
  · replace h := h.2 e1
    refine Y_al0 i_205_116 ?_
    refine Y_iconst (v := 0) i_205_117 (by decide) ?_
    refine Y_pI i_205_118 ow_205 lf_10_285 (k_68 hG) ?_
    refine Y_al0 i_205_121 ?_
    refine Y_iconst (v := 0) i_205_122 (by decide) ?_
    refine Y_pI i_205_123 ow_205 lf_10_288 (k_68 hG) ?_
    refine Y_al0 i_205_126 ?_
    refine Y_iconst (v := 0) i_205_127 (by decide) ?_
    refine Y_pB i_205_128 ow_205 lf_10_291 (k_68 hG) (by decide) ?_
    exact Y_vret i_205_131 rt_205 h
/- 206 Model.fault()I -/
theorem t_206_0 {d : Nat} {F A : Nat → Nat → Int32} {J : Nat → Nat → Int64} {G : pG} {Q : pR → pM → Prop} {SL p q : Nat} (hG : Geo G SL p q) (h : Q (.inl (some (.int (F 68 22)))) ((wF F 68 3 0), A, J, G)) : X d 206 0 [.ref 68] [] (F, A, J, G) Q := by
  refine Y_al0 i_206_0 ?_
  refine Y_iconst (v := 0) i_206_1 (by decide) ?_
  refine Y_pI i_206_2 ow_206 lf_10_143 (k_68 hG) ?_
  refine Y_al0 i_206_5 ?_
  refine Y_gI (v := (F 68 22)) i_206_6 ow_206 lf_10_66 (by decide) (k_68 hG) (by simp [wF, wJ, va_up, cpR, bF, bA]) ?_
  exact Y_iret i_206_9 rt_206 h
/- 207 Model.pack([II)V -/
theorem t_207_0 {d : Nat} {F A : Nat → Nat → Int32} {J : Nat → Nat → Int64} {G : pG} {Q : pR → pM → Prop} {SL p q : Nat} {a na : Nat} {x2 : Int32} (hG : Geo G SL p q) (hka : gK G a = 20) (hla : gL G a = na) (h : inB x2 na = true ∧ inB (x2 + 1) na = true ∧ inB (x2 + 2) na = true ∧ (X d 207 27 [.ref 68, .ref a, .int x2, .int 0] [] (F, (wF (wF (wF A a x2.toNatClampNeg (F 68 28)) a (x2 + 1).toNatClampNeg (F 68 29)) a (x2 + 2).toNatClampNeg (F 68 30)), J, G) Q)) : X d 207 0 [.ref 68, .ref a, .int x2, .null] [] (F, A, J, G) Q := by
  refine Y_al1 i_207_0 ?_
  refine Y_il2 i_207_1 ?_
  refine Y_al0 i_207_2 ?_
  refine Y_gI (v := (F 68 28)) i_207_3 ow_207 lf_10_150 (by decide) (k_68 hG) rfl ?_
  have o1 := h.1
  replace h := h.2
  refine Y_iast i_207_6 hka hla o1 rfl ?_
  refine Y_al1 i_207_7 ?_
  refine Y_il2 i_207_8 ?_
  refine Y_iconst (v := 1) i_207_9 (by decide) ?_
  refine Y_iadd i_207_10 ?_
  refine Y_al0 i_207_11 ?_
  refine Y_gI (v := (F 68 29)) i_207_12 ow_207 lf_10_282 (by decide) (k_68 hG) rfl ?_
  have o2 := h.1
  replace h := h.2
  refine Y_iast i_207_15 hka hla o2 rfl ?_
  refine Y_al1 i_207_16 ?_
  refine Y_il2 i_207_17 ?_
  refine Y_iconst (v := 2) i_207_18 (by decide) ?_
  refine Y_iadd i_207_19 ?_
  refine Y_al0 i_207_20 ?_
  refine Y_gI (v := (F 68 30)) i_207_21 ow_207 lf_10_85 (by decide) (k_68 hG) rfl ?_
  have o3 := h.1
  replace h := h.2
  refine Y_iast i_207_24 hka hla o3 rfl ?_
  refine Y_iconst (v := 0) i_207_25 (by decide) ?_
  refine Y_is3 i_207_26 rfl ?_
  exact h
theorem t_207_27 {d : Nat} {F A : Nat → Nat → Int32} {J : Nat → Nat → Int64} {G : pG} {Q : pR → pM → Prop} {SL p q : Nat} {a na : Nat} {x2 x3 : Int32} (hG : Geo G SL p q) (hka : gK G a = 20) (hla : gL G a = na) (h : ((x3 < 10 → inB x3 10 = true ∧ inB ((x2 + 3) + x3) na = true ∧ inB (((x2 + 3) + 10) + x3) na = true ∧ inB (((x2 + 3) + 20) + x3) na = true ∧ inB (((x2 + 3) + 30) + x3) na = true ∧ (X d 207 27 [.ref 68, .ref a, .int x2, .int (x3 + 1)] [] (F, (wF (wF (wF (wF A a ((x2 + 3) + x3).toNatClampNeg (A 81 x3.toNatClampNeg)) a (((x2 + 3) + 10) + x3).toNatClampNeg ((wF A a ((x2 + 3) + x3).toNatClampNeg (A 81 x3.toNatClampNeg)) 82 x3.toNatClampNeg)) a (((x2 + 3) + 20) + x3).toNatClampNeg ((wF (wF A a ((x2 + 3) + x3).toNatClampNeg (A 81 x3.toNatClampNeg)) a (((x2 + 3) + 10) + x3).toNatClampNeg ((wF A a ((x2 + 3) + x3).toNatClampNeg (A 81 x3.toNatClampNeg)) 82 x3.toNatClampNeg)) 83 x3.toNatClampNeg)) a (((x2 + 3) + 30) + x3).toNatClampNeg ((wF (wF (wF A a ((x2 + 3) + x3).toNatClampNeg (A 81 x3.toNatClampNeg)) a (((x2 + 3) + 10) + x3).toNatClampNeg ((wF A a ((x2 + 3) + x3).toNatClampNeg (A 81 x3.toNatClampNeg)) 82 x3.toNatClampNeg)) a (((x2 + 3) + 20) + x3).toNatClampNeg ((wF (wF A a ((x2 + 3) + x3).toNatClampNeg (A 81 x3.toNatClampNeg)) a (((x2 + 3) + 10) + x3).toNatClampNeg ((wF A a ((x2 + 3) + x3).toNatClampNeg (A 81 x3.toNatClampNeg)) 82 x3.toNatClampNeg)) 83 x3.toNatClampNeg)) 84 x3.toNatClampNeg)), J, G) Q)) ∧ (¬ x3 < 10 → Q (.inl none) (F, A, J, G)))) : X d 207 27 [.ref 68, .ref a, .int x2, .int x3] [] (F, A, J, G) Q := by
  refine Y_il3 i_207_27 ?_
  refine Y_bipush (v := 10) i_207_28 (by decide) ?_
  refine Y_cge i_207_30 (fun e1 => ?_) (fun e1 => ?_)
  · replace h := h.1 e1
    refine Y_al1 i_207_33 ?_
    refine Y_il2 i_207_34 ?_
    refine Y_iconst (v := 3) i_207_35 (by decide) ?_
    refine Y_iadd i_207_36 ?_
    refine Y_il3 i_207_37 ?_
    refine Y_iadd i_207_38 ?_
    refine Y_al0 i_207_39 ?_
    refine Y_gR i_207_40 ow_207 lf_10_70 (k_68 hG) (r_68_23 hG) ?_
    refine Y_il3 i_207_43 ?_
    have o2 := h.1
    replace h := h.2
    refine Y_iaload (k := x3.toNatClampNeg) (v := (A 81 x3.toNatClampNeg)) i_207_44 (k_81 hG) (l_81 hG) o2 rfl rfl ?_
    have o3 := h.1
    replace h := h.2
    refine Y_iast i_207_45 hka hla o3 rfl ?_
    refine Y_al1 i_207_46 ?_
    refine Y_il2 i_207_47 ?_
    refine Y_iconst (v := 3) i_207_48 (by decide) ?_
    refine Y_iadd i_207_49 ?_
    refine Y_bipush (v := 10) i_207_50 (by decide) ?_
    refine Y_iadd i_207_52 ?_
    refine Y_il3 i_207_53 ?_
    refine Y_iadd i_207_54 ?_
    refine Y_al0 i_207_55 ?_
    refine Y_gR i_207_56 ow_207 lf_10_73 (k_68 hG) (r_68_24 hG) ?_
    refine Y_il3 i_207_59 ?_
    refine Y_iaload (k := x3.toNatClampNeg) (v := ((wF A a ((x2 + 3) + x3).toNatClampNeg (A 81 x3.toNatClampNeg)) 82 x3.toNatClampNeg)) i_207_60 (k_82 hG) (l_82 hG) o2 rfl rfl ?_
    have o4 := h.1
    replace h := h.2
    refine Y_iast i_207_61 hka hla o4 rfl ?_
    refine Y_al1 i_207_62 ?_
    refine Y_il2 i_207_63 ?_
    refine Y_iconst (v := 3) i_207_64 (by decide) ?_
    refine Y_iadd i_207_65 ?_
    refine Y_bipush (v := 20) i_207_66 (by decide) ?_
    refine Y_iadd i_207_68 ?_
    refine Y_il3 i_207_69 ?_
    refine Y_iadd i_207_70 ?_
    refine Y_al0 i_207_71 ?_
    refine Y_gR i_207_72 ow_207 lf_10_76 (k_68 hG) (r_68_25 hG) ?_
    refine Y_il3 i_207_75 ?_
    refine Y_iaload (k := x3.toNatClampNeg) (v := ((wF (wF A a ((x2 + 3) + x3).toNatClampNeg (A 81 x3.toNatClampNeg)) a (((x2 + 3) + 10) + x3).toNatClampNeg ((wF A a ((x2 + 3) + x3).toNatClampNeg (A 81 x3.toNatClampNeg)) 82 x3.toNatClampNeg)) 83 x3.toNatClampNeg)) i_207_76 (k_83 hG) (l_83 hG) o2 rfl rfl ?_
    have o5 := h.1
    replace h := h.2
    refine Y_iast i_207_77 hka hla o5 rfl ?_
    refine Y_al1 i_207_78 ?_
    refine Y_il2 i_207_79 ?_
    refine Y_iconst (v := 3) i_207_80 (by decide) ?_
    refine Y_iadd i_207_81 ?_
    refine Y_bipush (v := 30) i_207_82 (by decide) ?_
    refine Y_iadd i_207_84 ?_
    refine Y_il3 i_207_85 ?_
    refine Y_iadd i_207_86 ?_
    refine Y_al0 i_207_87 ?_
    refine Y_gR i_207_88 ow_207 lf_10_79 (k_68 hG) (r_68_26 hG) ?_
    refine Y_il3 i_207_91 ?_
    refine Y_iaload (k := x3.toNatClampNeg) (v := ((wF (wF (wF A a ((x2 + 3) + x3).toNatClampNeg (A 81 x3.toNatClampNeg)) a (((x2 + 3) + 10) + x3).toNatClampNeg ((wF A a ((x2 + 3) + x3).toNatClampNeg (A 81 x3.toNatClampNeg)) 82 x3.toNatClampNeg)) a (((x2 + 3) + 20) + x3).toNatClampNeg ((wF (wF A a ((x2 + 3) + x3).toNatClampNeg (A 81 x3.toNatClampNeg)) a (((x2 + 3) + 10) + x3).toNatClampNeg ((wF A a ((x2 + 3) + x3).toNatClampNeg (A 81 x3.toNatClampNeg)) 82 x3.toNatClampNeg)) 83 x3.toNatClampNeg)) 84 x3.toNatClampNeg)) i_207_92 (k_84 hG) (l_84 hG) o2 rfl rfl ?_
    have o6 := h.1
    replace h := h.2
    refine Y_iast i_207_93 hka hla o6 rfl ?_
    refine Y_ii3 (v := 1) i_207_94 (by decide) rfl ?_
    refine Y_goto i_207_97 ?_
    exact h
  · replace h := h.2 e1
    exact Y_vret i_207_100 rt_207 h
/- 208 Model.unpack([II)V -/
theorem t_208_0 {d : Nat} {F A : Nat → Nat → Int32} {J : Nat → Nat → Int64} {G : pG} {Q : pR → pM → Prop} {SL p q : Nat} {a na : Nat} {x2 : Int32} (hG : Geo G SL p q) (hka : gK G a = 20) (hla : gL G a = na) (h : inB x2 na = true ∧ inB (x2 + 1) na = true ∧ inB (x2 + 2) na = true ∧ (X d 208 27 [.ref 68, .ref a, .int x2, .int 0] [] ((wF (wF (wF F 68 28 (A a x2.toNatClampNeg)) 68 29 (A a (x2 + 1).toNatClampNeg)) 68 30 (A a (x2 + 2).toNatClampNeg)), A, J, G) Q)) : X d 208 0 [.ref 68, .ref a, .int x2, .null] [] (F, A, J, G) Q := by
  refine Y_al0 i_208_0 ?_
  refine Y_al1 i_208_1 ?_
  refine Y_il2 i_208_2 ?_
  have o1 := h.1
  replace h := h.2
  refine Y_iaload (k := x2.toNatClampNeg) (v := (A a x2.toNatClampNeg)) i_208_3 hka hla o1 rfl rfl ?_
  refine Y_pI i_208_4 ow_208 lf_10_150 (k_68 hG) ?_
  refine Y_al0 i_208_7 ?_
  refine Y_al1 i_208_8 ?_
  refine Y_il2 i_208_9 ?_
  refine Y_iconst (v := 1) i_208_10 (by decide) ?_
  refine Y_iadd i_208_11 ?_
  have o2 := h.1
  replace h := h.2
  refine Y_iaload (k := (x2 + 1).toNatClampNeg) (v := (A a (x2 + 1).toNatClampNeg)) i_208_12 hka hla o2 rfl rfl ?_
  refine Y_pI i_208_13 ow_208 lf_10_282 (k_68 hG) ?_
  refine Y_al0 i_208_16 ?_
  refine Y_al1 i_208_17 ?_
  refine Y_il2 i_208_18 ?_
  refine Y_iconst (v := 2) i_208_19 (by decide) ?_
  refine Y_iadd i_208_20 ?_
  have o3 := h.1
  replace h := h.2
  refine Y_iaload (k := (x2 + 2).toNatClampNeg) (v := (A a (x2 + 2).toNatClampNeg)) i_208_21 hka hla o3 rfl rfl ?_
  refine Y_pI i_208_22 ow_208 lf_10_85 (k_68 hG) ?_
  refine Y_iconst (v := 0) i_208_25 (by decide) ?_
  refine Y_is3 i_208_26 rfl ?_
  exact h
theorem t_208_27 {d : Nat} {F A : Nat → Nat → Int32} {J : Nat → Nat → Int64} {G : pG} {Q : pR → pM → Prop} {SL p q : Nat} {a na : Nat} {x2 x3 : Int32} (hG : Geo G SL p q) (hka : gK G a = 20) (hla : gL G a = na) (h : ((x3 < 10 → inB ((x2 + 3) + x3) na = true ∧ inB x3 10 = true ∧ inB (((x2 + 3) + 10) + x3) na = true ∧ inB (((x2 + 3) + 20) + x3) na = true ∧ inB (((x2 + 3) + 30) + x3) na = true ∧ (X d 208 27 [.ref 68, .ref a, .int x2, .int (x3 + 1)] [] (F, (wF (wF (wF (wF A 81 x3.toNatClampNeg (A a ((x2 + 3) + x3).toNatClampNeg)) 82 x3.toNatClampNeg ((wF A 81 x3.toNatClampNeg (A a ((x2 + 3) + x3).toNatClampNeg)) a (((x2 + 3) + 10) + x3).toNatClampNeg)) 83 x3.toNatClampNeg ((wF (wF A 81 x3.toNatClampNeg (A a ((x2 + 3) + x3).toNatClampNeg)) 82 x3.toNatClampNeg ((wF A 81 x3.toNatClampNeg (A a ((x2 + 3) + x3).toNatClampNeg)) a (((x2 + 3) + 10) + x3).toNatClampNeg)) a (((x2 + 3) + 20) + x3).toNatClampNeg)) 84 x3.toNatClampNeg ((wF (wF (wF A 81 x3.toNatClampNeg (A a ((x2 + 3) + x3).toNatClampNeg)) 82 x3.toNatClampNeg ((wF A 81 x3.toNatClampNeg (A a ((x2 + 3) + x3).toNatClampNeg)) a (((x2 + 3) + 10) + x3).toNatClampNeg)) 83 x3.toNatClampNeg ((wF (wF A 81 x3.toNatClampNeg (A a ((x2 + 3) + x3).toNatClampNeg)) 82 x3.toNatClampNeg ((wF A 81 x3.toNatClampNeg (A a ((x2 + 3) + x3).toNatClampNeg)) a (((x2 + 3) + 10) + x3).toNatClampNeg)) a (((x2 + 3) + 20) + x3).toNatClampNeg)) a (((x2 + 3) + 30) + x3).toNatClampNeg)), J, G) Q)) ∧ (¬ x3 < 10 → Q (.inl none) (F, A, J, G)))) : X d 208 27 [.ref 68, .ref a, .int x2, .int x3] [] (F, A, J, G) Q := by
  refine Y_il3 i_208_27 ?_
  refine Y_bipush (v := 10) i_208_28 (by decide) ?_
  refine Y_cge i_208_30 (fun e1 => ?_) (fun e1 => ?_)
  · replace h := h.1 e1
    refine Y_al0 i_208_33 ?_
    refine Y_gR i_208_34 ow_208 lf_10_70 (k_68 hG) (r_68_23 hG) ?_
    refine Y_il3 i_208_37 ?_
    refine Y_al1 i_208_38 ?_
    refine Y_il2 i_208_39 ?_
    refine Y_iconst (v := 3) i_208_40 (by decide) ?_
    refine Y_iadd i_208_41 ?_
    refine Y_il3 i_208_42 ?_
    refine Y_iadd i_208_43 ?_
    have o2 := h.1
    replace h := h.2
    refine Y_iaload (k := ((x2 + 3) + x3).toNatClampNeg) (v := (A a ((x2 + 3) + x3).toNatClampNeg)) i_208_44 hka hla o2 rfl rfl ?_
    have o3 := h.1
    replace h := h.2
    refine Y_iast i_208_45 (k_81 hG) (l_81 hG) o3 rfl ?_
    refine Y_al0 i_208_46 ?_
    refine Y_gR i_208_47 ow_208 lf_10_73 (k_68 hG) (r_68_24 hG) ?_
    refine Y_il3 i_208_50 ?_
    refine Y_al1 i_208_51 ?_
    refine Y_il2 i_208_52 ?_
    refine Y_iconst (v := 3) i_208_53 (by decide) ?_
    refine Y_iadd i_208_54 ?_
    refine Y_bipush (v := 10) i_208_55 (by decide) ?_
    refine Y_iadd i_208_57 ?_
    refine Y_il3 i_208_58 ?_
    refine Y_iadd i_208_59 ?_
    have o4 := h.1
    replace h := h.2
    refine Y_iaload (k := (((x2 + 3) + 10) + x3).toNatClampNeg) (v := ((wF A 81 x3.toNatClampNeg (A a ((x2 + 3) + x3).toNatClampNeg)) a (((x2 + 3) + 10) + x3).toNatClampNeg)) i_208_60 hka hla o4 rfl rfl ?_
    refine Y_iast i_208_61 (k_82 hG) (l_82 hG) o3 rfl ?_
    refine Y_al0 i_208_62 ?_
    refine Y_gR i_208_63 ow_208 lf_10_76 (k_68 hG) (r_68_25 hG) ?_
    refine Y_il3 i_208_66 ?_
    refine Y_al1 i_208_67 ?_
    refine Y_il2 i_208_68 ?_
    refine Y_iconst (v := 3) i_208_69 (by decide) ?_
    refine Y_iadd i_208_70 ?_
    refine Y_bipush (v := 20) i_208_71 (by decide) ?_
    refine Y_iadd i_208_73 ?_
    refine Y_il3 i_208_74 ?_
    refine Y_iadd i_208_75 ?_
    have o5 := h.1
    replace h := h.2
    refine Y_iaload (k := (((x2 + 3) + 20) + x3).toNatClampNeg) (v := ((wF (wF A 81 x3.toNatClampNeg (A a ((x2 + 3) + x3).toNatClampNeg)) 82 x3.toNatClampNeg ((wF A 81 x3.toNatClampNeg (A a ((x2 + 3) + x3).toNatClampNeg)) a (((x2 + 3) + 10) + x3).toNatClampNeg)) a (((x2 + 3) + 20) + x3).toNatClampNeg)) i_208_76 hka hla o5 rfl rfl ?_
    refine Y_iast i_208_77 (k_83 hG) (l_83 hG) o3 rfl ?_
    refine Y_al0 i_208_78 ?_
    refine Y_gR i_208_79 ow_208 lf_10_79 (k_68 hG) (r_68_26 hG) ?_
    refine Y_il3 i_208_82 ?_
    refine Y_al1 i_208_83 ?_
    refine Y_il2 i_208_84 ?_
    refine Y_iconst (v := 3) i_208_85 (by decide) ?_
    refine Y_iadd i_208_86 ?_
    refine Y_bipush (v := 30) i_208_87 (by decide) ?_
    refine Y_iadd i_208_89 ?_
    refine Y_il3 i_208_90 ?_
    refine Y_iadd i_208_91 ?_
    have o6 := h.1
    replace h := h.2
    refine Y_iaload (k := (((x2 + 3) + 30) + x3).toNatClampNeg) (v := ((wF (wF (wF A 81 x3.toNatClampNeg (A a ((x2 + 3) + x3).toNatClampNeg)) 82 x3.toNatClampNeg ((wF A 81 x3.toNatClampNeg (A a ((x2 + 3) + x3).toNatClampNeg)) a (((x2 + 3) + 10) + x3).toNatClampNeg)) 83 x3.toNatClampNeg ((wF (wF A 81 x3.toNatClampNeg (A a ((x2 + 3) + x3).toNatClampNeg)) 82 x3.toNatClampNeg ((wF A 81 x3.toNatClampNeg (A a ((x2 + 3) + x3).toNatClampNeg)) a (((x2 + 3) + 10) + x3).toNatClampNeg)) a (((x2 + 3) + 20) + x3).toNatClampNeg)) a (((x2 + 3) + 30) + x3).toNatClampNeg)) i_208_92 hka hla o6 rfl rfl ?_
    refine Y_iast i_208_93 (k_84 hG) (l_84 hG) o3 rfl ?_
    refine Y_ii3 (v := 1) i_208_94 (by decide) rfl ?_
    refine Y_goto i_208_97 ?_
    exact h
  · replace h := h.2 e1
    exact Y_vret i_208_100 rt_208 h
/- 213 Model.loadOn(I)I -/
theorem t_213_0 {d : Nat} {F A : Nat → Nat → Int32} {J : Nat → Nat → Int64} {G : pG} {Q : pR → pM → Prop} {SL p q : Nat} {x1 : Int32} (hG : Geo G SL p q) (h : inB x1 10 = true ∧ inB (A 81 x1.toNatClampNeg) 10 = true ∧ (X d 213 16 [.ref 68, .int x1, .int (A 82 (A 81 x1.toNatClampNeg).toNatClampNeg), .int (x1 + 1)] [] (F, A, J, G) Q)) : X d 213 0 [.ref 68, .int x1, .null, .null] [] (F, A, J, G) Q := by
  refine Y_al0 i_213_0 ?_
  refine Y_gR i_213_1 ow_213 lf_10_73 (k_68 hG) (r_68_24 hG) ?_
  refine Y_al0 i_213_4 ?_
  refine Y_gR i_213_5 ow_213 lf_10_70 (k_68 hG) (r_68_23 hG) ?_
  refine Y_il1 i_213_8 ?_
  have o1 := h.1
  replace h := h.2
  refine Y_iaload (k := x1.toNatClampNeg) (v := (A 81 x1.toNatClampNeg)) i_213_9 (k_81 hG) (l_81 hG) o1 rfl rfl ?_
  have o2 := h.1
  replace h := h.2
  refine Y_iaload (k := (A 81 x1.toNatClampNeg).toNatClampNeg) (v := (A 82 (A 81 x1.toNatClampNeg).toNatClampNeg)) i_213_10 (k_82 hG) (l_82 hG) o2 rfl rfl ?_
  refine Y_is2 i_213_11 rfl ?_
  refine Y_il1 i_213_12 ?_
  refine Y_iconst (v := 1) i_213_13 (by decide) ?_
  refine Y_iadd i_213_14 ?_
  refine Y_is3 i_213_15 rfl ?_
  exact h
theorem t_213_16 {d : Nat} {F A : Nat → Nat → Int32} {J : Nat → Nat → Int64} {G : pG} {Q : pR → pM → Prop} {SL p q : Nat} {x1 x2 x3 : Int32} (hG : Geo G SL p q) (h : ((x3 < (F 68 28) → inB x3 10 = true ∧ inB (A 81 x3.toNatClampNeg) 20 = true ∧ inB (A 81 x3.toNatClampNeg) 10 = true ∧ (X d 213 16 [.ref 68, .int x1, .int (x2 + ((A 74 (A 81 x3.toNatClampNeg).toNatClampNeg) + (A 82 (A 81 x3.toNatClampNeg).toNatClampNeg))), .int (x3 + 1)] [] (F, A, J, G) Q)) ∧ (¬ x3 < (F 68 28) → Q (.inl (some (.int x2))) (F, A, J, G)))) : X d 213 16 [.ref 68, .int x1, .int x2, .int x3] [] (F, A, J, G) Q := by
  refine Y_il3 i_213_16 ?_
  refine Y_al0 i_213_17 ?_
  refine Y_gI (v := (F 68 28)) i_213_18 ow_213 lf_10_150 (by decide) (k_68 hG) rfl ?_
  refine Y_cge i_213_21 (fun e1 => ?_) (fun e1 => ?_)
  · replace h := h.1 e1
    refine Y_il2 i_213_24 ?_
    refine Y_al0 i_213_25 ?_
    refine Y_gR i_213_26 ow_213 lf_10_47 (k_68 hG) (r_68_6 hG) ?_
    refine Y_al0 i_213_29 ?_
    refine Y_gR i_213_30 ow_213 lf_10_70 (k_68 hG) (r_68_23 hG) ?_
    refine Y_il3 i_213_33 ?_
    have o2 := h.1
    replace h := h.2
    refine Y_iaload (k := x3.toNatClampNeg) (v := (A 81 x3.toNatClampNeg)) i_213_34 (k_81 hG) (l_81 hG) o2 rfl rfl ?_
    have o3 := h.1
    replace h := h.2
    refine Y_iaload (k := (A 81 x3.toNatClampNeg).toNatClampNeg) (v := (A 74 (A 81 x3.toNatClampNeg).toNatClampNeg)) i_213_35 (k_74 hG) (l_74 hG) o3 rfl rfl ?_
    refine Y_al0 i_213_36 ?_
    refine Y_gR i_213_37 ow_213 lf_10_73 (k_68 hG) (r_68_24 hG) ?_
    refine Y_al0 i_213_40 ?_
    refine Y_gR i_213_41 ow_213 lf_10_70 (k_68 hG) (r_68_23 hG) ?_
    refine Y_il3 i_213_44 ?_
    refine Y_iaload (k := x3.toNatClampNeg) (v := (A 81 x3.toNatClampNeg)) i_213_45 (k_81 hG) (l_81 hG) o2 rfl rfl ?_
    have o4 := h.1
    replace h := h.2
    refine Y_iaload (k := (A 81 x3.toNatClampNeg).toNatClampNeg) (v := (A 82 (A 81 x3.toNatClampNeg).toNatClampNeg)) i_213_46 (k_82 hG) (l_82 hG) o4 rfl rfl ?_
    refine Y_iadd i_213_47 ?_
    refine Y_iadd i_213_48 ?_
    refine Y_is2 i_213_49 rfl ?_
    refine Y_ii3 (v := 1) i_213_50 (by decide) rfl ?_
    refine Y_goto i_213_53 ?_
    exact h
  · replace h := h.2 e1
    refine Y_il2 i_213_56 ?_
    exact Y_iret i_213_57 rt_213 h
/- 215 Model.tiltAt(I)I -/
theorem t_215_0 {d : Nat} {F A : Nat → Nat → Int32} {J : Nat → Nat → Int64} {G : pG} {Q : pR → pM → Prop} {SL p q : Nat} {x1 : Int32} (hG : Geo G SL p q) (h : X (d + 1) 215 4 [.ref 68, .int x1, .int 0, .int 0] [] (F, A, J, G) Q) : X (d + 1) 215 0 [.ref 68, .int x1, .null, .null] [] (F, A, J, G) Q := by
  refine Y_iconst (v := 0) i_215_0 (by decide) ?_
  refine Y_is2 i_215_1 rfl ?_
  refine Y_iconst (v := 0) i_215_2 (by decide) ?_
  refine Y_is3 i_215_3 rfl ?_
  exact h
theorem t_215_4 {d : Nat} {F A : Nat → Nat → Int32} {J : Nat → Nat → Int64} {G : pG} {Q : pR → pM → Prop} {SL p q : Nat} {x1 x2 x3 : Int32} (hG : Geo G SL p q) (h : ((x1 < x3 → Q (.inl (some (.int x2))) (F, A, J, G)) ∧ (¬ x1 < x3 → inB x3 10 = true ∧ inB (A 81 x3.toNatClampNeg) 10 = true ∧ (X (d + 1) 215 4 [.ref 68, .int x1, .int (x2 + (lnS (A 73 (A 81 x3.toNatClampNeg).toNatClampNeg) (A 84 (A 81 x3.toNatClampNeg).toNatClampNeg) (A 83 (A 81 x3.toNatClampNeg).toNatClampNeg))), .int (x3 + 1)] [] (F, A, J, G) Q)))) : X (d + 1) 215 4 [.ref 68, .int x1, .int x2, .int x3] [] (F, A, J, G) Q := by
  refine Y_il3 i_215_4 ?_
  refine Y_il1 i_215_5 ?_
  refine Y_cgt i_215_6 (fun e1 => ?_) (fun e1 => ?_)
  · replace h := h.1 e1
    refine Y_il2 i_215_28 ?_
    exact Y_iret i_215_29 rt_215 h
  · replace h := h.2 e1
    refine Y_il2 i_215_9 ?_
    refine Y_al0 i_215_10 ?_
    refine Y_al0 i_215_11 ?_
    refine Y_gR i_215_12 ow_215 lf_10_70 (k_68 hG) (r_68_23 hG) ?_
    refine Y_il3 i_215_15 ?_
    have o2 := h.1
    replace h := h.2
    refine Y_iaload (k := x3.toNatClampNeg) (v := (A 81 x3.toNatClampNeg)) i_215_16 (k_81 hG) (l_81 hG) o2 rfl rfl ?_
    have o3 := h.1
    replace h := h.2
    refine Y_iv1 (L0 := [.ref 68, .int (A 81 x3.toNatClampNeg)]) i_215_17 ow_215 lm_10_305 ((k_68 hG).trans ow_212.symm) rfl mx_212 rfl rfl hd_215 ?_
    refine c_212 hG o3 (KKi ?_)
    refine Y_iadd i_215_20 ?_
    refine Y_is2 i_215_21 rfl ?_
    refine Y_ii3 (v := 1) i_215_22 (by decide) rfl ?_
    refine Y_goto i_215_25 ?_
    exact h
/- 216 Model.isHeld(I)Z -/
theorem t_216_0 {d : Nat} {F A : Nat → Nat → Int32} {J : Nat → Nat → Int64} {G : pG} {Q : pR → pM → Prop} {SL p q : Nat} {x1 : Int32} (hG : Geo G SL p q) (h : X (d + 2) 213 0 [.ref 68, .int x1, .null, .null] [] (F, A, J, G) (KK (d + 3) 216 5 [.ref 68, .int x1] [] Q)) : X (d + 3) 216 0 [.ref 68, .int x1] [] (F, A, J, G) Q := by
  refine Y_al0 i_216_0 ?_
  refine Y_il1 i_216_1 ?_
  exact Y_iv1 (L0 := [.ref 68, .int x1, .null, .null]) i_216_2 ow_216 lm_10_308 ((k_68 hG).trans ow_213.symm) rfl mx_213 rfl rfl hd_216 h
theorem k_216_5 {d : Nat} {F A : Nat → Nat → Int32} {J : Nat → Nat → Int64} {G : pG} {Q : pR → pM → Prop} {SL p q : Nat} {x1 r : Int32} (hG : Geo G SL p q) (h : inB x1 10 = true ∧ inB (A 81 x1.toNatClampNeg) 10 = true ∧ inB (A 73 (A 81 x1.toNatClampNeg).toNatClampNeg) 4 = true ∧ Wrm A ∧ (((carS (A 73 (A 81 x1.toNatClampNeg).toNatClampNeg) (A 75 (A 81 x1.toNatClampNeg).toNatClampNeg) (F 68 29) (bI (decide (x1 = F 68 28 - 1)))) < r → Q (.inl (some (.int 0))) (F, A, J, G)) ∧ (¬ (carS (A 73 (A 81 x1.toNatClampNeg).toNatClampNeg) (A 75 (A 81 x1.toNatClampNeg).toNatClampNeg) (F 68 29) (bI (decide (x1 = F 68 28 - 1)))) < r → X (d + 2) 215 0 [.ref 68, .int x1, .null, .null] [] (F, A, J, G) (KK (d + 3) 216 18 [.ref 68, .int x1] [] Q)))) : KK (d + 3) 216 5 [.ref 68, .int x1] [] Q (.inl (some (.int r))) (F, A, J, G) := by
  refine KKi ?_
  refine Y_al0 i_216_5 ?_
  refine Y_il1 i_216_6 ?_
  have o1 := h.1
  replace h := h.2
  have o2 := h.1
  replace h := h.2
  have o3 := h.1
  replace h := h.2
  have o4 := h.1
  replace h := h.2
  refine Y_iv1 (L0 := [.ref 68, .int x1]) i_216_7 ow_216 lm_10_311 ((k_68 hG).trans ow_214.symm) rfl mx_214 rfl rfl hd_216 ?_
  refine c_214 hG o1 o2 o3 o4 (KKi ?_)
  refine Y_cgt i_216_10 (fun e5 => ?_) (fun e5 => ?_)
  · replace h := h.1 e5
    refine Y_iconst (v := 0) i_216_34 (by decide) ?_
    exact Y_bret i_216_35 rt_216 (by decide) h
  · replace h := h.2 e5
    refine Y_al0 i_216_13 ?_
    refine Y_il1 i_216_14 ?_
    exact Y_iv1 (L0 := [.ref 68, .int x1, .null, .null]) i_216_15 ow_216 lm_10_314 ((k_68 hG).trans ow_215.symm) rfl mx_215 rfl rfl hd_216 h
theorem k_216_18 {d : Nat} {F A : Nat → Nat → Int32} {J : Nat → Nat → Int64} {G : pG} {Q : pR → pM → Prop} {SL p q : Nat} {x1 r : Int32} (hG : Geo G SL p q) (h : (((A 72 1) < (jabs r) → Q (.inl (some (.int 0))) (F, A, J, G)) ∧ (¬ (A 72 1) < (jabs r) → Q (.inl (some (.int 1))) (F, A, J, G)))) : KK (d + 3) 216 18 [.ref 68, .int x1] [] Q (.inl (some (.int r))) (F, A, J, G) := by
  refine KKi ?_
  refine Y_abs i_216_18 ow_216 lm_10_317 rfl ?_
  refine Y_al0 i_216_21 ?_
  refine Y_gR i_216_22 ow_216 lf_10_42 (k_68 hG) (r_68_4 hG) ?_
  refine Y_iconst (v := 1) i_216_25 (by decide) ?_
  refine Y_iaload (k := 1) (v := (A 72 1)) i_216_26 (k_72 hG) (l_72 hG) (by decide) (by decide) rfl ?_
  refine Y_cgt i_216_27 (fun e1 => ?_) (fun e1 => ?_)
  · replace h := h.1 e1
    refine Y_iconst (v := 0) i_216_34 (by decide) ?_
    exact Y_bret i_216_35 rt_216 (by decide) h
  · replace h := h.2 e1
    refine Y_iconst (v := 1) i_216_30 (by decide) ?_
    refine Y_goto i_216_31 ?_
    exact Y_bret i_216_35 rt_216 (by decide) h
/- 217 Model.breaksAt()I -/
theorem t_217_0 {d : Nat} {F A : Nat → Nat → Int32} {J : Nat → Nat → Int64} {G : pG} {Q : pR → pM → Prop} {SL p q : Nat} (hG : Geo G SL p q) (h : X (d + 4) 217 2 [.ref 68, .int 0] [] (F, A, J, G) Q) : X (d + 4) 217 0 [.ref 68, .null] [] (F, A, J, G) Q := by
  refine Y_iconst (v := 0) i_217_0 (by decide) ?_
  refine Y_is1 i_217_1 rfl ?_
  exact h
theorem t_217_2 {d : Nat} {F A : Nat → Nat → Int32} {J : Nat → Nat → Int64} {G : pG} {Q : pR → pM → Prop} {SL p q : Nat} {x1 : Int32} (hG : Geo G SL p q) (h : ((x1 < (F 68 28) → X (d + 3) 216 0 [.ref 68, .int x1] [] (F, A, J, G) (KK (d + 4) 217 15 [.ref 68, .int x1] [] Q)) ∧ (¬ x1 < (F 68 28) → Q (.inl (some (.int (-1)))) (F, A, J, G)))) : X (d + 4) 217 2 [.ref 68, .int x1] [] (F, A, J, G) Q := by
  refine Y_il1 i_217_2 ?_
  refine Y_al0 i_217_3 ?_
  refine Y_gI (v := (F 68 28)) i_217_4 ow_217 lf_10_150 (by decide) (k_68 hG) rfl ?_
  refine Y_cge i_217_7 (fun e1 => ?_) (fun e1 => ?_)
  · replace h := h.1 e1
    refine Y_al0 i_217_10 ?_
    refine Y_il1 i_217_11 ?_
    exact Y_iv1 (L0 := [.ref 68, .int x1]) i_217_12 ow_217 lm_10_320 ((k_68 hG).trans ow_216.symm) rfl mx_216 rfl rfl hd_217 h
  · replace h := h.2 e1
    refine Y_iconst (v := (-1)) i_217_26 (by decide) ?_
    exact Y_iret i_217_27 rt_217 h
theorem k_217_15 {d : Nat} {F A : Nat → Nat → Int32} {J : Nat → Nat → Int64} {G : pG} {Q : pR → pM → Prop} {SL p q : Nat} {x1 r : Int32} (hG : Geo G SL p q) (h : ((r = 0 → Q (.inl (some (.int x1))) (F, A, J, G)) ∧ (¬ r = 0 → X (d + 4) 217 2 [.ref 68, .int (x1 + 1)] [] (F, A, J, G) Q))) : KK (d + 4) 217 15 [.ref 68, .int x1] [] Q (.inl (some (.int r))) (F, A, J, G) := by
  refine KKi ?_
  refine Y_zne i_217_15 (fun e1 => ?_) (fun e1 => ?_)
  · replace h := h.1 e1
    refine Y_il1 i_217_18 ?_
    exact Y_iret i_217_19 rt_217 h
  · replace h := h.2 e1
    refine Y_ii1 (v := 1) i_217_20 (by decide) rfl ?_
    refine Y_goto i_217_23 ?_
    exact h
/- 218 Model.stands()Z -/
theorem t_218_0 {d : Nat} {F A : Nat → Nat → Int32} {J : Nat → Nat → Int64} {G : pG} {Q : pR → pM → Prop} {SL p q : Nat} (hG : Geo G SL p q) (h : X (d + 4) 217 0 [.ref 68, .null] [] (F, A, J, G) (KK (d + 5) 218 4 [.ref 68] [] Q)) : X (d + 5) 218 0 [.ref 68] [] (F, A, J, G) Q := by
  refine Y_al0 i_218_0 ?_
  exact Y_iv0 (L0 := [.ref 68, .null]) i_218_1 ow_218 lm_10_323 ((k_68 hG).trans ow_217.symm) rfl mx_217 rfl rfl hd_218 h
theorem k_218_4 {d : Nat} {F A : Nat → Nat → Int32} {J : Nat → Nat → Int64} {G : pG} {Q : pR → pM → Prop} {SL p q : Nat} {r : Int32} (hG : Geo G SL p q) (h : ((r = (-1) → Q (.inl (some (.int 1))) (F, A, J, G)) ∧ (¬ r = (-1) → Q (.inl (some (.int 0))) (F, A, J, G)))) : KK (d + 5) 218 4 [.ref 68] [] Q (.inl (some (.int r))) (F, A, J, G) := by
  refine KKi ?_
  refine Y_iconst (v := (-1)) i_218_4 (by decide) ?_
  refine Y_cne i_218_5 (fun e1 => ?_) (fun e1 => ?_)
  · replace h := h.1 e1
    refine Y_iconst (v := 1) i_218_8 (by decide) ?_
    refine Y_goto i_218_9 ?_
    exact Y_bret i_218_13 rt_218 (by decide) h
  · replace h := h.2 e1
    refine Y_iconst (v := 0) i_218_12 (by decide) ?_
    exact Y_bret i_218_13 rt_218 (by decide) h
/- 219 Model.moreNow()I -/
theorem t_219_0 {d : Nat} {F A : Nat → Nat → Int32} {J : Nat → Nat → Int64} {G : pG} {Q : pR → pM → Prop} {SL p q : Nat} (hG : Geo G SL p q) (h : X (d + 5) 218 0 [.ref 68] [] (F, A, J, G) (KK (d + 6) 219 4 [.ref 68, .null, .null] [] Q)) : X (d + 6) 219 0 [.ref 68, .null, .null] [] (F, A, J, G) Q := by
  refine Y_al0 i_219_0 ?_
  exact Y_iv0 (L0 := [.ref 68]) i_219_1 ow_219 lm_10_326 ((k_68 hG).trans ow_218.symm) rfl mx_218 rfl rfl hd_219 h
theorem k_219_4 {d : Nat} {F A : Nat → Nat → Int32} {J : Nat → Nat → Int64} {G : pG} {Q : pR → pM → Prop} {SL p q : Nat} {r : Int32} (hG : Geo G SL p q) (h : ((r = 0 → Q (.inl (some (.int (-1)))) (F, A, J, G)) ∧ (¬ r = 0 → X (d + 6) 219 15 [.ref 68, .int 9999, .int 0] [] (F, A, J, G) Q))) : KK (d + 6) 219 4 [.ref 68, .null, .null] [] Q (.inl (some (.int r))) (F, A, J, G) := by
  refine KKi ?_
  refine Y_zne i_219_4 (fun e1 => ?_) (fun e1 => ?_)
  · replace h := h.1 e1
    refine Y_iconst (v := (-1)) i_219_7 (by decide) ?_
    exact Y_iret i_219_8 rt_219 h
  · replace h := h.2 e1
    refine Y_sipush (v := 9999) i_219_9 (by decide) ?_
    refine Y_is1 i_219_12 rfl ?_
    refine Y_iconst (v := 0) i_219_13 (by decide) ?_
    refine Y_is2 i_219_14 rfl ?_
    exact h
theorem t_219_15 {d : Nat} {F A : Nat → Nat → Int32} {J : Nat → Nat → Int64} {G : pG} {Q : pR → pM → Prop} {SL p q : Nat} {x1 x2 : Int32} (hG : Geo G SL p q) (h : ((x2 < (F 68 28) → inB x2 10 = true ∧ inB (A 81 x2.toNatClampNeg) 10 = true ∧ inB (A 73 (A 81 x2.toNatClampNeg).toNatClampNeg) 4 = true ∧ Wrm A ∧ (X (d + 5) 213 0 [.ref 68, .int x2, .null, .null] [] (F, A, J, G) (KK (d + 6) 219 34 [.ref 68, .int x1, .int x2] [.int (carS (A 73 (A 81 x2.toNatClampNeg).toNatClampNeg) (A 75 (A 81 x2.toNatClampNeg).toNatClampNeg) (F 68 29) (bI (decide (x2 = F 68 28 - 1)))), .int x1] Q))) ∧ (¬ x2 < (F 68 28) → Q (.inl (some (.int x1))) (F, A, J, G)))) : X (d + 6) 219 15 [.ref 68, .int x1, .int x2] [] (F, A, J, G) Q := by
  refine Y_il2 i_219_15 ?_
  refine Y_al0 i_219_16 ?_
  refine Y_gI (v := (F 68 28)) i_219_17 ow_219 lf_10_150 (by decide) (k_68 hG) rfl ?_
  refine Y_cge i_219_20 (fun e1 => ?_) (fun e1 => ?_)
  · replace h := h.1 e1
    refine Y_il1 i_219_23 ?_
    refine Y_al0 i_219_24 ?_
    refine Y_il2 i_219_25 ?_
    have o2 := h.1
    replace h := h.2
    have o3 := h.1
    replace h := h.2
    have o4 := h.1
    replace h := h.2
    have o5 := h.1
    replace h := h.2
    refine Y_iv1 (L0 := [.ref 68, .int x2]) i_219_26 ow_219 lm_10_311 ((k_68 hG).trans ow_214.symm) rfl mx_214 rfl rfl hd_219 ?_
    refine c_214 hG o2 o3 o4 o5 (KKi ?_)
    refine Y_al0 i_219_29 ?_
    refine Y_il2 i_219_30 ?_
    exact Y_iv1 (L0 := [.ref 68, .int x2, .null, .null]) i_219_31 ow_219 lm_10_308 ((k_68 hG).trans ow_213.symm) rfl mx_213 rfl rfl hd_219 h
  · replace h := h.2 e1
    refine Y_il1 i_219_45 ?_
    exact Y_iret i_219_46 rt_219 h
theorem k_219_34 {d : Nat} {F A : Nat → Nat → Int32} {J : Nat → Nat → Int64} {G : pG} {Q : pR → pM → Prop} {SL p q : Nat} {x1 x2 r s0 s1 : Int32} (hG : Geo G SL p q) (h : X (d + 6) 219 15 [.ref 68, .int (jmin s1 (s0 - r)), .int (x2 + 1)] [] (F, A, J, G) Q) : KK (d + 6) 219 34 [.ref 68, .int x1, .int x2] [.int s0, .int s1] Q (.inl (some (.int r))) (F, A, J, G) := by
  refine KKi ?_
  refine Y_isub i_219_34 ?_
  refine Y_min i_219_35 ow_219 lm_10_183 rfl ?_
  refine Y_is1 i_219_38 rfl ?_
  refine Y_ii2 (v := 1) i_219_39 (by decide) rfl ?_
  refine Y_goto i_219_42 ?_
  exact h
/- 220 Model.fullNow()I -/
theorem t_220_0 {d : Nat} {F A : Nat → Nat → Int32} {J : Nat → Nat → Int64} {G : pG} {Q : pR → pM → Prop} {SL p q : Nat} (hG : Geo G SL p q) (h : X d 220 4 [.ref 68, .int 0, .int 0] [] (F, A, J, G) Q) : X d 220 0 [.ref 68, .null, .null] [] (F, A, J, G) Q := by
  refine Y_iconst (v := 0) i_220_0 (by decide) ?_
  refine Y_is1 i_220_1 rfl ?_
  refine Y_iconst (v := 0) i_220_2 (by decide) ?_
  refine Y_is2 i_220_3 rfl ?_
  exact h
theorem t_220_4 {d : Nat} {F A : Nat → Nat → Int32} {J : Nat → Nat → Int64} {G : pG} {Q : pR → pM → Prop} {SL p q : Nat} {x1 x2 : Int32} (hG : Geo G SL p q) (h : ((x2 < (F 68 28) → inB x2 10 = true ∧ inB (A 81 x2.toNatClampNeg) 10 = true ∧ inB (A 81 x2.toNatClampNeg) 20 = true ∧ (((A 82 (A 81 x2.toNatClampNeg).toNatClampNeg) < (A 77 (A 81 x2.toNatClampNeg).toNatClampNeg) → X d 220 4 [.ref 68, .int (x1 ||| 0), .int (x2 + 1)] [] (F, A, J, G) Q) ∧ (¬ (A 82 (A 81 x2.toNatClampNeg).toNatClampNeg) < (A 77 (A 81 x2.toNatClampNeg).toNatClampNeg) → X d 220 4 [.ref 68, .int (x1 ||| ((1 : Int32) <<< ((A 81 x2.toNatClampNeg) &&& 31))), .int (x2 + 1)] [] (F, A, J, G) Q))) ∧ (¬ x2 < (F 68 28) → Q (.inl (some (.int x1))) (F, A, J, G)))) : X d 220 4 [.ref 68, .int x1, .int x2] [] (F, A, J, G) Q := by
  refine Y_il2 i_220_4 ?_
  refine Y_al0 i_220_5 ?_
  refine Y_gI (v := (F 68 28)) i_220_6 ow_220 lf_10_150 (by decide) (k_68 hG) rfl ?_
  refine Y_cge i_220_9 (fun e1 => ?_) (fun e1 => ?_)
  · replace h := h.1 e1
    refine Y_il1 i_220_12 ?_
    refine Y_al0 i_220_13 ?_
    refine Y_gR i_220_14 ow_220 lf_10_73 (k_68 hG) (r_68_24 hG) ?_
    refine Y_al0 i_220_17 ?_
    refine Y_gR i_220_18 ow_220 lf_10_70 (k_68 hG) (r_68_23 hG) ?_
    refine Y_il2 i_220_21 ?_
    have o2 := h.1
    replace h := h.2
    refine Y_iaload (k := x2.toNatClampNeg) (v := (A 81 x2.toNatClampNeg)) i_220_22 (k_81 hG) (l_81 hG) o2 rfl rfl ?_
    have o3 := h.1
    replace h := h.2
    refine Y_iaload (k := (A 81 x2.toNatClampNeg).toNatClampNeg) (v := (A 82 (A 81 x2.toNatClampNeg).toNatClampNeg)) i_220_23 (k_82 hG) (l_82 hG) o3 rfl rfl ?_
    refine Y_al0 i_220_24 ?_
    refine Y_gR i_220_25 ow_220 lf_10_55 (k_68 hG) (r_68_9 hG) ?_
    refine Y_al0 i_220_28 ?_
    refine Y_gR i_220_29 ow_220 lf_10_70 (k_68 hG) (r_68_23 hG) ?_
    refine Y_il2 i_220_32 ?_
    refine Y_iaload (k := x2.toNatClampNeg) (v := (A 81 x2.toNatClampNeg)) i_220_33 (k_81 hG) (l_81 hG) o2 rfl rfl ?_
    have o4 := h.1
    replace h := h.2
    refine Y_iaload (k := (A 81 x2.toNatClampNeg).toNatClampNeg) (v := (A 77 (A 81 x2.toNatClampNeg).toNatClampNeg)) i_220_34 (k_77 hG) (l_77 hG) o4 rfl rfl ?_
    refine Y_clt i_220_35 (fun e5 => ?_) (fun e5 => ?_)
    · replace h := h.1 e5
      refine Y_iconst (v := 0) i_220_49 (by decide) ?_
      refine Y_ior i_220_50 ?_
      refine Y_is1 i_220_51 rfl ?_
      refine Y_ii2 (v := 1) i_220_52 (by decide) rfl ?_
      refine Y_goto i_220_55 ?_
      exact h
    · replace h := h.2 e5
      refine Y_iconst (v := 1) i_220_38 (by decide) ?_
      refine Y_al0 i_220_39 ?_
      refine Y_gR i_220_40 ow_220 lf_10_70 (k_68 hG) (r_68_23 hG) ?_
      refine Y_il2 i_220_43 ?_
      refine Y_iaload (k := x2.toNatClampNeg) (v := (A 81 x2.toNatClampNeg)) i_220_44 (k_81 hG) (l_81 hG) o2 rfl rfl ?_
      refine Y_ishl i_220_45 ?_
      refine Y_goto i_220_46 ?_
      refine Y_ior i_220_50 ?_
      refine Y_is1 i_220_51 rfl ?_
      refine Y_ii2 (v := 1) i_220_52 (by decide) rfl ?_
      refine Y_goto i_220_55 ?_
      exact h
  · replace h := h.2 e1
    refine Y_il1 i_220_58 ?_
    exact Y_iret i_220_59 rt_220 h
/- 222 Model.count(I)I -/
theorem t_222_0 {d : Nat} {F A : Nat → Nat → Int32} {J : Nat → Nat → Int64} {G : pG} {Q : pR → pM → Prop} {SL p q : Nat} {x1 : Int32} (hG : Geo G SL p q) (h : ((x1 = 0 → Q (.inl (some (.int (A 72 0)))) ((wF F 68 3 0), A, J, G)) ∧ (x1 = 1 → Q (.inl (some (.int (F 68 28)))) ((wF F 68 3 0), A, J, G)) ∧ (x1 = 2 → inB (x1 - 1) 8 = true ∧ (Q (.inl (some (.int (A 72 (x1 - 1).toNatClampNeg)))) ((wF F 68 3 0), A, J, G))) ∧ (x1 = 3 → inB (x1 - 1) 8 = true ∧ (Q (.inl (some (.int (A 72 (x1 - 1).toNatClampNeg)))) ((wF F 68 3 0), A, J, G))) ∧ (x1 = 4 → X (d + 5) 218 0 [.ref 68] [] ((wF F 68 3 0), A, J, G) (KK (d + 6) 222 105 [.ref 68, .int x1] [] Q)) ∧ (x1 = 5 → X (d + 5) 217 0 [.ref 68, .null] [] ((wF F 68 3 0), A, J, G) (KK (d + 6) 222 118 [.ref 68, .int x1] [] Q)) ∧ (x1 = 6 → Q (.inl (some (.int (F 68 30)))) ((wF F 68 3 0), A, J, G)) ∧ (x1 = 7 → X (d + 5) 220 0 [.ref 68, .null, .null] [] ((wF F 68 3 0), A, J, G) (KK (d + 6) 222 128 [.ref 68, .int x1] [] Q)) ∧ (x1 = 8 → Q (.inl (some (.int (F 68 29)))) ((wF F 68 3 0), A, J, G)) ∧ (x1 = 9 → Q (.inl (some (.int (F 68 31)))) ((wF F 68 3 0), A, J, G)) ∧ (x1 = 10 → Q (.inl (some (.int (F 68 32)))) ((wF F 68 3 0), A, J, G)) ∧ (x1 = 11 → Q (.inl (some (.int (F 68 13)))) ((wF F 68 3 0), A, J, G)) ∧ (x1 = 12 → inB (x1 - 12) 3 = true ∧ (Q (.inl (some (.int (A 79 (x1 - 12).toNatClampNeg)))) ((wF F 68 3 0), A, J, G))) ∧ (x1 = 13 → inB (x1 - 12) 3 = true ∧ (Q (.inl (some (.int (A 79 (x1 - 12).toNatClampNeg)))) ((wF F 68 3 0), A, J, G))) ∧ (x1 = 14 → inB (x1 - 12) 3 = true ∧ (Q (.inl (some (.int (A 79 (x1 - 12).toNatClampNeg)))) ((wF F 68 3 0), A, J, G))) ∧ (((x1 : Int32).toInt < 0 ∨ 14 < (x1 : Int32).toInt) → Q (.inl (some (.int 0))) ((wF (wF F 68 3 0) 68 3 1), A, J, G)))) : X (d + 6) 222 0 [.ref 68, .int x1] [] (F, A, J, G) Q := by
  refine Y_al0 i_222_0 ?_
  refine Y_iconst (v := 0) i_222_1 (by decide) ?_
  refine Y_pI i_222_2 ow_222 lf_10_143 (k_68 hG) ?_
  refine Y_il1 i_222_5 ?_
  by_cases f0 : x1 = 0
  · replace h := h.1 f0
    refine Y_sw (t := 80) f0 i_222_6 (fun _ => rfl) rfl (fun _ => rfl) (fun _ => rfl) ?_
    refine Y_al0 i_222_80 ?_
    refine Y_gR i_222_81 ow_222 lf_10_42 (k_68 hG) (r_68_4 hG) ?_
    refine Y_iconst (v := 0) i_222_84 (by decide) ?_
    refine Y_iaload (k := 0) (v := (A 72 0)) i_222_85 (k_72 hG) (l_72 hG) (by decide) (by decide) rfl ?_
    exact Y_iret i_222_86 rt_222 h
  by_cases f1 : x1 = 1
  · replace h := h.2.1 f1
    refine Y_sw (t := 87) f1 i_222_6 (fun _ => rfl) rfl (fun _ => rfl) (fun _ => rfl) ?_
    refine Y_al0 i_222_87 ?_
    refine Y_gI (v := (F 68 28)) i_222_88 ow_222 lf_10_150 (by decide) (k_68 hG) (by simp [wF, wJ, va_up, cpR, bF, bA]) ?_
    exact Y_iret i_222_91 rt_222 h
  by_cases f2 : x1 = 2
  · replace h := h.2.2.1 f2
    refine Y_sw (t := 92) f2 i_222_6 (fun _ => rfl) rfl (fun _ => rfl) (fun _ => rfl) ?_
    refine Y_al0 i_222_92 ?_
    refine Y_gR i_222_93 ow_222 lf_10_42 (k_68 hG) (r_68_4 hG) ?_
    refine Y_il1 i_222_96 ?_
    refine Y_iconst (v := 1) i_222_97 (by decide) ?_
    refine Y_isub i_222_98 ?_
    have o1 := h.1
    replace h := h.2
    refine Y_iaload (k := (x1 - 1).toNatClampNeg) (v := (A 72 (x1 - 1).toNatClampNeg)) i_222_99 (k_72 hG) (l_72 hG) o1 rfl rfl ?_
    exact Y_iret i_222_100 rt_222 h
  by_cases f3 : x1 = 3
  · replace h := h.2.2.2.1 f3
    refine Y_sw (t := 92) f3 i_222_6 (fun _ => rfl) rfl (fun _ => rfl) (fun _ => rfl) ?_
    refine Y_al0 i_222_92 ?_
    refine Y_gR i_222_93 ow_222 lf_10_42 (k_68 hG) (r_68_4 hG) ?_
    refine Y_il1 i_222_96 ?_
    refine Y_iconst (v := 1) i_222_97 (by decide) ?_
    refine Y_isub i_222_98 ?_
    have o2 := h.1
    replace h := h.2
    refine Y_iaload (k := (x1 - 1).toNatClampNeg) (v := (A 72 (x1 - 1).toNatClampNeg)) i_222_99 (k_72 hG) (l_72 hG) o2 rfl rfl ?_
    exact Y_iret i_222_100 rt_222 h
  by_cases f4 : x1 = 4
  · replace h := h.2.2.2.2.1 f4
    refine Y_sw (t := 101) f4 i_222_6 (fun _ => rfl) rfl (fun _ => rfl) (fun _ => rfl) ?_
    refine Y_al0 i_222_101 ?_
    exact Y_iv0 (L0 := [.ref 68]) i_222_102 ow_222 lm_10_326 ((k_68 hG).trans ow_218.symm) rfl mx_218 rfl rfl hd_222 h
  by_cases f5 : x1 = 5
  · replace h := h.2.2.2.2.2.1 f5
    refine Y_sw (t := 114) f5 i_222_6 (fun _ => rfl) rfl (fun _ => rfl) (fun _ => rfl) ?_
    refine Y_al0 i_222_114 ?_
    exact Y_iv0 (L0 := [.ref 68, .null]) i_222_115 ow_222 lm_10_323 ((k_68 hG).trans ow_217.symm) rfl mx_217 rfl rfl hd_222 h
  by_cases f6 : x1 = 6
  · replace h := h.2.2.2.2.2.2.1 f6
    refine Y_sw (t := 119) f6 i_222_6 (fun _ => rfl) rfl (fun _ => rfl) (fun _ => rfl) ?_
    refine Y_al0 i_222_119 ?_
    refine Y_gI (v := (F 68 30)) i_222_120 ow_222 lf_10_85 (by decide) (k_68 hG) (by simp [wF, wJ, va_up, cpR, bF, bA]) ?_
    exact Y_iret i_222_123 rt_222 h
  by_cases f7 : x1 = 7
  · replace h := h.2.2.2.2.2.2.2.1 f7
    refine Y_sw (t := 124) f7 i_222_6 (fun _ => rfl) rfl (fun _ => rfl) (fun _ => rfl) ?_
    refine Y_al0 i_222_124 ?_
    exact Y_iv0 (L0 := [.ref 68, .null, .null]) i_222_125 ow_222 lm_10_330 ((k_68 hG).trans ow_220.symm) rfl mx_220 rfl rfl hd_222 h
  by_cases f8 : x1 = 8
  · replace h := h.2.2.2.2.2.2.2.2.1 f8
    refine Y_sw (t := 129) f8 i_222_6 (fun _ => rfl) rfl (fun _ => rfl) (fun _ => rfl) ?_
    refine Y_al0 i_222_129 ?_
    refine Y_gI (v := (F 68 29)) i_222_130 ow_222 lf_10_282 (by decide) (k_68 hG) (by simp [wF, wJ, va_up, cpR, bF, bA]) ?_
    exact Y_iret i_222_133 rt_222 h
  by_cases f9 : x1 = 9
  · replace h := h.2.2.2.2.2.2.2.2.2.1 f9
    refine Y_sw (t := 134) f9 i_222_6 (fun _ => rfl) rfl (fun _ => rfl) (fun _ => rfl) ?_
    refine Y_al0 i_222_134 ?_
    refine Y_gI (v := (F 68 31)) i_222_135 ow_222 lf_10_285 (by decide) (k_68 hG) (by simp [wF, wJ, va_up, cpR, bF, bA]) ?_
    exact Y_iret i_222_138 rt_222 h
  by_cases f10 : x1 = 10
  · replace h := h.2.2.2.2.2.2.2.2.2.2.1 f10
    refine Y_sw (t := 139) f10 i_222_6 (fun _ => rfl) rfl (fun _ => rfl) (fun _ => rfl) ?_
    refine Y_al0 i_222_139 ?_
    refine Y_gI (v := (F 68 32)) i_222_140 ow_222 lf_10_288 (by decide) (k_68 hG) (by simp [wF, wJ, va_up, cpR, bF, bA]) ?_
    exact Y_iret i_222_143 rt_222 h
  by_cases f11 : x1 = 11
  · replace h := h.2.2.2.2.2.2.2.2.2.2.2.1 f11
    refine Y_sw (t := 144) f11 i_222_6 (fun _ => rfl) rfl (fun _ => rfl) (fun _ => rfl) ?_
    refine Y_al0 i_222_144 ?_
    refine Y_gI (v := (F 68 13)) i_222_145 ow_222 lf_10_153 (by decide) (k_68 hG) (by simp [wF, wJ, va_up, cpR, bF, bA]) ?_
    exact Y_iret i_222_148 rt_222 h
  by_cases f12 : x1 = 12
  · replace h := h.2.2.2.2.2.2.2.2.2.2.2.2.1 f12
    refine Y_sw (t := 149) f12 i_222_6 (fun _ => rfl) rfl (fun _ => rfl) (fun _ => rfl) ?_
    refine Y_al0 i_222_149 ?_
    refine Y_gR i_222_150 ow_222 lf_10_60 (k_68 hG) (r_68_11 hG) ?_
    refine Y_il1 i_222_153 ?_
    refine Y_bipush (v := 12) i_222_154 (by decide) ?_
    refine Y_isub i_222_156 ?_
    have o3 := h.1
    replace h := h.2
    refine Y_iaload (k := (x1 - 12).toNatClampNeg) (v := (A 79 (x1 - 12).toNatClampNeg)) i_222_157 (k_79 hG) (l_79 hG) o3 rfl rfl ?_
    exact Y_iret i_222_158 rt_222 h
  by_cases f13 : x1 = 13
  · replace h := h.2.2.2.2.2.2.2.2.2.2.2.2.2.1 f13
    refine Y_sw (t := 149) f13 i_222_6 (fun _ => rfl) rfl (fun _ => rfl) (fun _ => rfl) ?_
    refine Y_al0 i_222_149 ?_
    refine Y_gR i_222_150 ow_222 lf_10_60 (k_68 hG) (r_68_11 hG) ?_
    refine Y_il1 i_222_153 ?_
    refine Y_bipush (v := 12) i_222_154 (by decide) ?_
    refine Y_isub i_222_156 ?_
    have o4 := h.1
    replace h := h.2
    refine Y_iaload (k := (x1 - 12).toNatClampNeg) (v := (A 79 (x1 - 12).toNatClampNeg)) i_222_157 (k_79 hG) (l_79 hG) o4 rfl rfl ?_
    exact Y_iret i_222_158 rt_222 h
  by_cases f14 : x1 = 14
  · replace h := h.2.2.2.2.2.2.2.2.2.2.2.2.2.2.1 f14
    refine Y_sw (t := 149) f14 i_222_6 (fun _ => rfl) rfl (fun _ => rfl) (fun _ => rfl) ?_
    refine Y_al0 i_222_149 ?_
    refine Y_gR i_222_150 ow_222 lf_10_60 (k_68 hG) (r_68_11 hG) ?_
    refine Y_il1 i_222_153 ?_
    refine Y_bipush (v := 12) i_222_154 (by decide) ?_
    refine Y_isub i_222_156 ?_
    have o5 := h.1
    replace h := h.2
    refine Y_iaload (k := (x1 - 12).toNatClampNeg) (v := (A 79 (x1 - 12).toNatClampNeg)) i_222_157 (k_79 hG) (l_79 hG) o5 rfl rfl ?_
    exact Y_iret i_222_158 rt_222 h
  have eD : (x1 : Int32).toInt < 0 ∨ 14 < (x1 : Int32).toInt := by
    have q := ts_out (x := x1) (lo := 0) (n := 15) (by
      intro j hj
      have : j = 0 ∨ j = 1 ∨ j = 2 ∨ j = 3 ∨ j = 4 ∨ j = 5 ∨ j = 6 ∨ j = 7 ∨ j = 8 ∨ j = 9 ∨ j = 10 ∨ j = 11 ∨ j = 12 ∨ j = 13 ∨ j = 14 := by omega
      rcases this with rfl | rfl | rfl | rfl | rfl | rfl | rfl | rfl | rfl | rfl | rfl | rfl | rfl | rfl | rfl
      · exact ne_toInt f0 (by decide)
      · exact ne_toInt f1 (by decide)
      · exact ne_toInt f2 (by decide)
      · exact ne_toInt f3 (by decide)
      · exact ne_toInt f4 (by decide)
      · exact ne_toInt f5 (by decide)
      · exact ne_toInt f6 (by decide)
      · exact ne_toInt f7 (by decide)
      · exact ne_toInt f8 (by decide)
      · exact ne_toInt f9 (by decide)
      · exact ne_toInt f10 (by decide)
      · exact ne_toInt f11 (by decide)
      · exact ne_toInt f12 (by decide)
      · exact ne_toInt f13 (by decide)
      · exact ne_toInt f14 (by decide)
      )
    omega
  replace h := h.2.2.2.2.2.2.2.2.2.2.2.2.2.2.2 eD
  refine Y_tsD (t := 159) eD i_222_6 (by decide) ?_
  refine Y_al0 i_222_159 ?_
  refine Y_iconst (v := 1) i_222_160 (by decide) ?_
  refine Y_iv1 (L0 := [.ref 68, .int 1]) i_222_161 ow_222 lm_10_269 ((k_68 hG).trans ow_176.symm) rfl mx_176 rfl rfl hd_222 ?_
  refine Y_al0 i_176_0 ?_
  refine Y_il1 i_176_1 ?_
  refine Y_pI i_176_2 ow_176 lf_10_143 (k_68 hG) ?_
  refine Y_iconst (v := 0) i_176_5 (by decide) ?_
  refine Y_iret i_176_6 rt_176 (KKi ?_)
  exact Y_iret i_222_164 rt_222 h
theorem k_222_105 {d : Nat} {F A : Nat → Nat → Int32} {J : Nat → Nat → Int64} {G : pG} {Q : pR → pM → Prop} {SL p q : Nat} {x1 r : Int32} (hG : Geo G SL p q) (h : ((r = 0 → Q (.inl (some (.int 0))) (F, A, J, G)) ∧ (¬ r = 0 → Q (.inl (some (.int 1))) (F, A, J, G)))) : KK (d + 6) 222 105 [.ref 68, .int x1] [] Q (.inl (some (.int r))) (F, A, J, G) := by
  refine KKi ?_
  refine Y_zeq i_222_105 (fun e1 => ?_) (fun e1 => ?_)
  · replace h := h.1 e1
    refine Y_iconst (v := 0) i_222_112 (by decide) ?_
    exact Y_iret i_222_113 rt_222 h
  · replace h := h.2 e1
    refine Y_iconst (v := 1) i_222_108 (by decide) ?_
    refine Y_goto i_222_109 ?_
    exact Y_iret i_222_113 rt_222 h
theorem k_222_118 {d : Nat} {F A : Nat → Nat → Int32} {J : Nat → Nat → Int64} {G : pG} {Q : pR → pM → Prop} {SL p q : Nat} {x1 r : Int32} (hG : Geo G SL p q) (h : Q (.inl (some (.int r))) (F, A, J, G)) : KK (d + 6) 222 118 [.ref 68, .int x1] [] Q (.inl (some (.int r))) (F, A, J, G) := by
  refine KKi ?_
  exact Y_iret i_222_118 rt_222 h
theorem k_222_128 {d : Nat} {F A : Nat → Nat → Int32} {J : Nat → Nat → Int64} {G : pG} {Q : pR → pM → Prop} {SL p q : Nat} {x1 r : Int32} (hG : Geo G SL p q) (h : Q (.inl (some (.int r))) (F, A, J, G)) : KK (d + 6) 222 128 [.ref 68, .int x1] [] Q (.inl (some (.int r))) (F, A, J, G) := by
  refine KKi ?_
  exact Y_iret i_222_128 rt_222 h
/- 223 Model.table(II)I -/
theorem t_223_0 {d : Nat} {F A : Nat → Nat → Int32} {J : Nat → Nat → Int64} {G : pG} {Q : pR → pM → Prop} {SL p q : Nat} {x1 x2 : Int32} (hG : Geo G SL p q) (h : hB (A 72 0) = true ∧ (((inR x1 (A 72 0)) = true → ((x2 = 0 → inB x1 20 = true ∧ (Q (.inl (some (.int (A 73 x1.toNatClampNeg)))) ((wF F 68 3 0), A, J, G))) ∧ (x2 = 1 → inB x1 20 = true ∧ (Q (.inl (some (.int (A 74 x1.toNatClampNeg)))) ((wF F 68 3 0), A, J, G))) ∧ (x2 = 2 → inB x1 20 = true ∧ inB (A 73 x1.toNatClampNeg) 4 = true ∧ (Q (.inl (some (.int (jmax 0 ((A 75 x1.toNatClampNeg) - ((A 71 (A 73 x1.toNatClampNeg).toNatClampNeg) * (F 68 29))))))) ((wF F 68 3 0), A, J, G))) ∧ (x2 = 3 → inB x1 10 = true ∧ (Q (.inl (some (.int (A 84 x1.toNatClampNeg)))) ((wF F 68 3 0), A, J, G))) ∧ (x2 = 4 → inB x1 20 = true ∧ (Q (.inl (some (.int (A 77 x1.toNatClampNeg)))) ((wF F 68 3 0), A, J, G))) ∧ (x2 = 5 → inB x1 10 = true ∧ (Q (.inl (some (.int (A 82 x1.toNatClampNeg)))) ((wF F 68 3 0), A, J, G))) ∧ (x2 = 6 → inB x1 10 = true ∧ (Q (.inl (some (.int (A 83 x1.toNatClampNeg)))) ((wF F 68 3 0), A, J, G))) ∧ (x2 = 7 → hB ((wF F 68 3 0) 68 28) = true ∧ (Q (.inl (some (.int (lvI (A 81) ((wF F 68 3 0) 68 28) x1)))) ((wF F 68 3 0), A, J, G))) ∧ (((x2 : Int32).toInt < 0 ∨ 7 < (x2 : Int32).toInt) → Q (.inl (some (.int 0))) ((wF (wF F 68 3 0) 68 3 1), A, J, G)))) ∧ ((inR x1 (A 72 0)) = false → Q (.inl (some (.int 0))) ((wF (wF F 68 3 0) 68 3 1), A, J, G)))) : X (d + 2) 223 0 [.ref 68, .int x1, .int x2] [] (F, A, J, G) Q := by
  refine Y_al0 i_223_0 ?_
  refine Y_iconst (v := 0) i_223_1 (by decide) ?_
  refine Y_pI i_223_2 ow_223 lf_10_143 (k_68 hG) ?_
  refine Y_al0 i_223_5 ?_
  refine Y_il1 i_223_6 ?_
  have o1 := h.1
  replace h := h.2
  refine Y_iv1 (L0 := [.ref 68, .int x1]) i_223_7 ow_223 lm_10_333 ((k_68 hG).trans ow_180.symm) rfl mx_180 rfl rfl hd_223 ?_
  refine c_180 hG o1 (KKi ?_)
  refine Y_bne i_223_10 (fun e2 => ?_) (fun e2 => ?_)
  · replace h := h.1 e2
    refine Y_il2 i_223_19 ?_
    by_cases f0 : x2 = 0
    · replace h := h.1 f0
      refine Y_sw (t := 68) f0 i_223_20 (fun _ => rfl) rfl (fun _ => rfl) (fun _ => rfl) ?_
      refine Y_al0 i_223_68 ?_
      refine Y_gR i_223_69 ow_223 lf_10_45 (k_68 hG) (r_68_5 hG) ?_
      refine Y_il1 i_223_72 ?_
      have o3 := h.1
      replace h := h.2
      refine Y_iaload (k := x1.toNatClampNeg) (v := (A 73 x1.toNatClampNeg)) i_223_73 (k_73 hG) (l_73 hG) o3 rfl rfl ?_
      exact Y_iret i_223_74 rt_223 h
    by_cases f1 : x2 = 1
    · replace h := h.2.1 f1
      refine Y_sw (t := 75) f1 i_223_20 (fun _ => rfl) rfl (fun _ => rfl) (fun _ => rfl) ?_
      refine Y_al0 i_223_75 ?_
      refine Y_gR i_223_76 ow_223 lf_10_47 (k_68 hG) (r_68_6 hG) ?_
      refine Y_il1 i_223_79 ?_
      have o4 := h.1
      replace h := h.2
      refine Y_iaload (k := x1.toNatClampNeg) (v := (A 74 x1.toNatClampNeg)) i_223_80 (k_74 hG) (l_74 hG) o4 rfl rfl ?_
      exact Y_iret i_223_81 rt_223 h
    by_cases f2 : x2 = 2
    · replace h := h.2.2.1 f2
      refine Y_sw (t := 82) f2 i_223_20 (fun _ => rfl) rfl (fun _ => rfl) (fun _ => rfl) ?_
      refine Y_iconst (v := 0) i_223_82 (by decide) ?_
      refine Y_al0 i_223_83 ?_
      refine Y_gR i_223_84 ow_223 lf_10_49 (k_68 hG) (r_68_7 hG) ?_
      refine Y_il1 i_223_87 ?_
      have o5 := h.1
      replace h := h.2
      refine Y_iaload (k := x1.toNatClampNeg) (v := (A 75 x1.toNatClampNeg)) i_223_88 (k_75 hG) (l_75 hG) o5 rfl rfl ?_
      refine Y_al0 i_223_89 ?_
      refine Y_il1 i_223_90 ?_
      refine Y_iv1 (L0 := [.ref 68, .int x1]) i_223_91 ow_223 lm_10_295 ((k_68 hG).trans ow_210.symm) rfl mx_210 rfl rfl hd_223 ?_
      refine Y_al0 i_210_0 ?_
      refine Y_gR i_210_1 ow_210 lf_10_38 (k_68 hG) (r_68_2 hG) ?_
      refine Y_al0 i_210_4 ?_
      refine Y_gR i_210_5 ow_210 lf_10_45 (k_68 hG) (r_68_5 hG) ?_
      refine Y_il1 i_210_8 ?_
      refine Y_iaload (k := x1.toNatClampNeg) (v := (A 73 x1.toNatClampNeg)) i_210_9 (k_73 hG) (l_73 hG) o5 rfl rfl ?_
      have o6 := h.1
      replace h := h.2
      refine Y_iaload (k := (A 73 x1.toNatClampNeg).toNatClampNeg) (v := (A 71 (A 73 x1.toNatClampNeg).toNatClampNeg)) i_210_10 (k_71 hG) (l_71 hG) o6 rfl rfl ?_
      refine Y_al0 i_210_11 ?_
      refine Y_gI (v := (F 68 29)) i_210_12 ow_210 lf_10_282 (by decide) (k_68 hG) (by simp [wF, wJ, va_up, cpR, bF, bA]) ?_
      refine Y_imul i_210_15 ?_
      refine Y_iret i_210_16 rt_210 (KKi ?_)
      refine Y_isub i_223_94 ?_
      refine Y_max i_223_95 ow_223 lm_10_298 rfl ?_
      exact Y_iret i_223_98 rt_223 h
    by_cases f3 : x2 = 3
    · replace h := h.2.2.2.1 f3
      refine Y_sw (t := 99) f3 i_223_20 (fun _ => rfl) rfl (fun _ => rfl) (fun _ => rfl) ?_
      refine Y_al0 i_223_99 ?_
      refine Y_gR i_223_100 ow_223 lf_10_79 (k_68 hG) (r_68_26 hG) ?_
      refine Y_il1 i_223_103 ?_
      have o7 := h.1
      replace h := h.2
      refine Y_iaload (k := x1.toNatClampNeg) (v := (A 84 x1.toNatClampNeg)) i_223_104 (k_84 hG) (l_84 hG) o7 rfl rfl ?_
      exact Y_iret i_223_105 rt_223 h
    by_cases f4 : x2 = 4
    · replace h := h.2.2.2.2.1 f4
      refine Y_sw (t := 106) f4 i_223_20 (fun _ => rfl) rfl (fun _ => rfl) (fun _ => rfl) ?_
      refine Y_al0 i_223_106 ?_
      refine Y_gR i_223_107 ow_223 lf_10_55 (k_68 hG) (r_68_9 hG) ?_
      refine Y_il1 i_223_110 ?_
      have o8 := h.1
      replace h := h.2
      refine Y_iaload (k := x1.toNatClampNeg) (v := (A 77 x1.toNatClampNeg)) i_223_111 (k_77 hG) (l_77 hG) o8 rfl rfl ?_
      exact Y_iret i_223_112 rt_223 h
    by_cases f5 : x2 = 5
    · replace h := h.2.2.2.2.2.1 f5
      refine Y_sw (t := 113) f5 i_223_20 (fun _ => rfl) rfl (fun _ => rfl) (fun _ => rfl) ?_
      refine Y_al0 i_223_113 ?_
      refine Y_gR i_223_114 ow_223 lf_10_73 (k_68 hG) (r_68_24 hG) ?_
      refine Y_il1 i_223_117 ?_
      have o9 := h.1
      replace h := h.2
      refine Y_iaload (k := x1.toNatClampNeg) (v := (A 82 x1.toNatClampNeg)) i_223_118 (k_82 hG) (l_82 hG) o9 rfl rfl ?_
      exact Y_iret i_223_119 rt_223 h
    by_cases f6 : x2 = 6
    · replace h := h.2.2.2.2.2.2.1 f6
      refine Y_sw (t := 120) f6 i_223_20 (fun _ => rfl) rfl (fun _ => rfl) (fun _ => rfl) ?_
      refine Y_al0 i_223_120 ?_
      refine Y_gR i_223_121 ow_223 lf_10_76 (k_68 hG) (r_68_25 hG) ?_
      refine Y_il1 i_223_124 ?_
      have o10 := h.1
      replace h := h.2
      refine Y_iaload (k := x1.toNatClampNeg) (v := (A 83 x1.toNatClampNeg)) i_223_125 (k_83 hG) (l_83 hG) o10 rfl rfl ?_
      exact Y_iret i_223_126 rt_223 h
    by_cases f7 : x2 = 7
    · replace h := h.2.2.2.2.2.2.2.1 f7
      refine Y_sw (t := 127) f7 i_223_20 (fun _ => rfl) rfl (fun _ => rfl) (fun _ => rfl) ?_
      refine Y_al0 i_223_127 ?_
      refine Y_il1 i_223_128 ?_
      have o11 := h.1
      replace h := h.2
      refine Y_iv1 (L0 := [.ref 68, .int x1, .null]) i_223_129 ow_223 lm_10_336 ((k_68 hG).trans ow_209.symm) rfl mx_209 rfl rfl hd_223 ?_
      refine c_209 hG o11 (KKi ?_)
      exact Y_iret i_223_132 rt_223 h
    have eD : (x2 : Int32).toInt < 0 ∨ 7 < (x2 : Int32).toInt := by
      have q := ts_out (x := x2) (lo := 0) (n := 8) (by
        intro j hj
        have : j = 0 ∨ j = 1 ∨ j = 2 ∨ j = 3 ∨ j = 4 ∨ j = 5 ∨ j = 6 ∨ j = 7 := by omega
        rcases this with rfl | rfl | rfl | rfl | rfl | rfl | rfl | rfl
        · exact ne_toInt f0 (by decide)
        · exact ne_toInt f1 (by decide)
        · exact ne_toInt f2 (by decide)
        · exact ne_toInt f3 (by decide)
        · exact ne_toInt f4 (by decide)
        · exact ne_toInt f5 (by decide)
        · exact ne_toInt f6 (by decide)
        · exact ne_toInt f7 (by decide)
        )
      omega
    replace h := h.2.2.2.2.2.2.2.2 eD
    refine Y_tsD (t := 133) eD i_223_20 (by decide) ?_
    refine Y_al0 i_223_133 ?_
    refine Y_iconst (v := 1) i_223_134 (by decide) ?_
    refine Y_iv1 (L0 := [.ref 68, .int 1]) i_223_135 ow_223 lm_10_269 ((k_68 hG).trans ow_176.symm) rfl mx_176 rfl rfl hd_223 ?_
    refine Y_al0 i_176_0 ?_
    refine Y_il1 i_176_1 ?_
    refine Y_pI i_176_2 ow_176 lf_10_143 (k_68 hG) ?_
    refine Y_iconst (v := 0) i_176_5 (by decide) ?_
    refine Y_iret i_176_6 rt_176 (KKi ?_)
    exact Y_iret i_223_138 rt_223 h
  · replace h := h.2 e2
    refine Y_al0 i_223_13 ?_
    refine Y_iconst (v := 1) i_223_14 (by decide) ?_
    refine Y_iv1 (L0 := [.ref 68, .int 1]) i_223_15 ow_223 lm_10_269 ((k_68 hG).trans ow_176.symm) rfl mx_176 rfl rfl hd_223 ?_
    refine Y_al0 i_176_0 ?_
    refine Y_il1 i_176_1 ?_
    refine Y_pI i_176_2 ow_176 lf_10_143 (k_68 hG) ?_
    refine Y_iconst (v := 0) i_176_5 (by decide) ?_
    refine Y_iret i_176_6 rt_176 (KKi ?_)
    exact Y_iret i_223_18 rt_223 h
/- 224 Model.by()I -/
theorem t_224_0 {d : Nat} {F A : Nat → Nat → Int32} {J : Nat → Nat → Int64} {G : pG} {Q : pR → pM → Prop} {SL p q : Nat} (hG : Geo G SL p q) (h : hB ((wF F 68 3 0) 68 28) = true ∧ (Q (.inl (some (.int ((((1 : Int32) <<< ((A 72 0) &&& 31)) - 1) &&& ((bitsI (A 81) ((wF F 68 3 0) 68 28)) ^^^ (-1)))))) ((wF F 68 3 0), A, J, G))) : X (d + 1) 224 0 [.ref 68] [] (F, A, J, G) Q := by
  refine Y_al0 i_224_0 ?_
  refine Y_iconst (v := 0) i_224_1 (by decide) ?_
  refine Y_pI i_224_2 ow_224 lf_10_143 (k_68 hG) ?_
  refine Y_iconst (v := 1) i_224_5 (by decide) ?_
  refine Y_al0 i_224_6 ?_
  refine Y_gR i_224_7 ow_224 lf_10_42 (k_68 hG) (r_68_4 hG) ?_
  refine Y_iconst (v := 0) i_224_10 (by decide) ?_
  refine Y_iaload (k := 0) (v := (A 72 0)) i_224_11 (k_72 hG) (l_72 hG) (by decide) (by decide) rfl ?_
  refine Y_ishl i_224_12 ?_
  refine Y_iconst (v := 1) i_224_13 (by decide) ?_
  refine Y_isub i_224_14 ?_
  refine Y_al0 i_224_15 ?_
  have o1 := h.1
  replace h := h.2
  refine Y_iv0 (L0 := [.ref 68, .null, .null]) i_224_16 ow_224 lm_10_339 ((k_68 hG).trans ow_221.symm) rfl mx_221 rfl rfl hd_224 ?_
  refine c_221 hG o1 (KKi ?_)
  refine Y_iconst (v := (-1)) i_224_19 (by decide) ?_
  refine Y_ixor i_224_20 ?_
  refine Y_iand i_224_21 ?_
  exact Y_iret i_224_22 rt_224 h
/- 225 Model.level(II)I -/
theorem t_225_0 {d : Nat} {F A : Nat → Nat → Int32} {J : Nat → Nat → Int64} {G : pG} {Q : pR → pM → Prop} {SL p q : Nat} {x1 x2 : Int32} (hG : Geo G SL p q) (h : hB ((wF F 68 3 0) 68 28) = true ∧ (((inR x1 ((wF F 68 3 0) 68 28)) = true → (((inL x2.toInt64 0 4) = true → ((x2 = 0 → inB x1 10 = true ∧ (Q (.inl (some (.int (A 81 x1.toNatClampNeg)))) ((wF F 68 3 0), A, J, G))) ∧ (¬ x2 = 0 → ((x2 = 1 → X (d + 3) 213 0 [.ref 68, .int x1, .null, .null] [] ((wF F 68 3 0), A, J, G) (KK (d + 4) 225 54 [.ref 68, .int x1, .int x2] [] Q)) ∧ (¬ x2 = 1 → ((x2 = 2 → inB x1 10 = true ∧ inB (A 81 x1.toNatClampNeg) 10 = true ∧ inB (A 73 (A 81 x1.toNatClampNeg).toNatClampNeg) 4 = true ∧ Wrm A ∧ (Q (.inl (some (.int (carS (A 73 (A 81 x1.toNatClampNeg).toNatClampNeg) (A 75 (A 81 x1.toNatClampNeg).toNatClampNeg) ((wF F 68 3 0) 68 29) (bI (decide (x1 = (wF F 68 3 0) 68 28 - 1))))))) ((wF F 68 3 0), A, J, G))) ∧ (¬ x2 = 2 → ((x2 = 3 → X (d + 3) 215 0 [.ref 68, .int x1, .null, .null] [] ((wF F 68 3 0), A, J, G) (KK (d + 4) 225 80 [.ref 68, .int x1, .int x2] [] Q)) ∧ (¬ x2 = 3 → X (d + 3) 216 0 [.ref 68, .int x1] [] ((wF F 68 3 0), A, J, G) (KK (d + 4) 225 88 [.ref 68, .int x1, .int x2] [] Q)))))))))) ∧ ((inL x2.toInt64 0 4) = false → Q (.inl (some (.int 0))) ((wF (wF F 68 3 0) 68 3 1), A, J, G)))) ∧ ((inR x1 ((wF F 68 3 0) 68 28)) = false → Q (.inl (some (.int 0))) ((wF (wF F 68 3 0) 68 3 1), A, J, G)))) : X (d + 4) 225 0 [.ref 68, .int x1, .int x2] [] (F, A, J, G) Q := by
  refine Y_al0 i_225_0 ?_
  refine Y_iconst (v := 0) i_225_1 (by decide) ?_
  refine Y_pI i_225_2 ow_225 lf_10_143 (k_68 hG) ?_
  refine Y_al0 i_225_5 ?_
  refine Y_il1 i_225_6 ?_
  have o1 := h.1
  replace h := h.2
  refine Y_iv1 (L0 := [.ref 68, .int x1]) i_225_7 ow_225 lm_10_342 ((k_68 hG).trans ow_181.symm) rfl mx_181 rfl rfl hd_225 ?_
  refine c_181 hG o1 (KKi ?_)
  refine Y_beq i_225_10 (fun e2 => ?_) (fun e2 => ?_)
  · replace h := h.1 e2
    refine Y_il2 i_225_13 ?_
    refine Y_i2l i_225_14 ?_
    refine Y_lconst (v := 0) i_225_15 (by decide) ?_
    refine Y_ldcL i_225_16 ow_225 lj_10_345 ?_
    refine Y_is_3 (L0 := [.long x2.toInt64, .null, .long 0, .null, .long 4, .null]) i_225_19 ow_225 lm_10_146 rfl mx_178 rfl rfl hd_225 ?_
    refine c_178 hG (KKi ?_)
    refine Y_bne i_225_22 (fun e3 => ?_) (fun e3 => ?_)
    · replace h := h.1 e3
      refine Y_il2 i_225_31 ?_
      refine Y_zne i_225_32 (fun e4 => ?_) (fun e4 => ?_)
      · replace h := h.1 e4
        refine Y_al0 i_225_35 ?_
        refine Y_gR i_225_36 ow_225 lf_10_70 (k_68 hG) (r_68_23 hG) ?_
        refine Y_il1 i_225_39 ?_
        have o5 := h.1
        replace h := h.2
        refine Y_iaload (k := x1.toNatClampNeg) (v := (A 81 x1.toNatClampNeg)) i_225_40 (k_81 hG) (l_81 hG) o5 rfl rfl ?_
        refine Y_goto i_225_41 ?_
        exact Y_iret i_225_96 rt_225 h
      · replace h := h.2 e4
        refine Y_il2 i_225_44 ?_
        refine Y_iconst (v := 1) i_225_45 (by decide) ?_
        refine Y_cne i_225_46 (fun e6 => ?_) (fun e6 => ?_)
        · replace h := h.1 e6
          refine Y_al0 i_225_49 ?_
          refine Y_il1 i_225_50 ?_
          exact Y_iv1 (L0 := [.ref 68, .int x1, .null, .null]) i_225_51 ow_225 lm_10_308 ((k_68 hG).trans ow_213.symm) rfl mx_213 rfl rfl hd_225 h
        · replace h := h.2 e6
          refine Y_il2 i_225_57 ?_
          refine Y_iconst (v := 2) i_225_58 (by decide) ?_
          refine Y_cne i_225_59 (fun e7 => ?_) (fun e7 => ?_)
          · replace h := h.1 e7
            refine Y_al0 i_225_62 ?_
            refine Y_il1 i_225_63 ?_
            have o8 := h.1
            replace h := h.2
            have o9 := h.1
            replace h := h.2
            have o10 := h.1
            replace h := h.2
            have o11 := h.1
            replace h := h.2
            refine Y_iv1 (L0 := [.ref 68, .int x1]) i_225_64 ow_225 lm_10_311 ((k_68 hG).trans ow_214.symm) rfl mx_214 rfl rfl hd_225 ?_
            refine c_214 hG o8 o9 o10 o11 (KKi ?_)
            refine Y_goto i_225_67 ?_
            exact Y_iret i_225_96 rt_225 h
          · replace h := h.2 e7
            refine Y_il2 i_225_70 ?_
            refine Y_iconst (v := 3) i_225_71 (by decide) ?_
            refine Y_cne i_225_72 (fun e12 => ?_) (fun e12 => ?_)
            · replace h := h.1 e12
              refine Y_al0 i_225_75 ?_
              refine Y_il1 i_225_76 ?_
              exact Y_iv1 (L0 := [.ref 68, .int x1, .null, .null]) i_225_77 ow_225 lm_10_314 ((k_68 hG).trans ow_215.symm) rfl mx_215 rfl rfl hd_225 h
            · replace h := h.2 e12
              refine Y_al0 i_225_83 ?_
              refine Y_il1 i_225_84 ?_
              exact Y_iv1 (L0 := [.ref 68, .int x1]) i_225_85 ow_225 lm_10_320 ((k_68 hG).trans ow_216.symm) rfl mx_216 rfl rfl hd_225 h
    · replace h := h.2 e3
      refine Y_al0 i_225_25 ?_
      refine Y_iconst (v := 1) i_225_26 (by decide) ?_
      refine Y_iv1 (L0 := [.ref 68, .int 1]) i_225_27 ow_225 lm_10_269 ((k_68 hG).trans ow_176.symm) rfl mx_176 rfl rfl hd_225 ?_
      refine Y_al0 i_176_0 ?_
      refine Y_il1 i_176_1 ?_
      refine Y_pI i_176_2 ow_176 lf_10_143 (k_68 hG) ?_
      refine Y_iconst (v := 0) i_176_5 (by decide) ?_
      refine Y_iret i_176_6 rt_176 (KKi ?_)
      exact Y_iret i_225_30 rt_225 h
  · replace h := h.2 e2
    refine Y_al0 i_225_25 ?_
    refine Y_iconst (v := 1) i_225_26 (by decide) ?_
    refine Y_iv1 (L0 := [.ref 68, .int 1]) i_225_27 ow_225 lm_10_269 ((k_68 hG).trans ow_176.symm) rfl mx_176 rfl rfl hd_225 ?_
    refine Y_al0 i_176_0 ?_
    refine Y_il1 i_176_1 ?_
    refine Y_pI i_176_2 ow_176 lf_10_143 (k_68 hG) ?_
    refine Y_iconst (v := 0) i_176_5 (by decide) ?_
    refine Y_iret i_176_6 rt_176 (KKi ?_)
    exact Y_iret i_225_30 rt_225 h
theorem k_225_54 {d : Nat} {F A : Nat → Nat → Int32} {J : Nat → Nat → Int64} {G : pG} {Q : pR → pM → Prop} {SL p q : Nat} {x1 x2 r : Int32} (hG : Geo G SL p q) (h : Q (.inl (some (.int r))) (F, A, J, G)) : KK (d + 4) 225 54 [.ref 68, .int x1, .int x2] [] Q (.inl (some (.int r))) (F, A, J, G) := by
  refine KKi ?_
  refine Y_goto i_225_54 ?_
  exact Y_iret i_225_96 rt_225 h
theorem k_225_80 {d : Nat} {F A : Nat → Nat → Int32} {J : Nat → Nat → Int64} {G : pG} {Q : pR → pM → Prop} {SL p q : Nat} {x1 x2 r : Int32} (hG : Geo G SL p q) (h : Q (.inl (some (.int r))) (F, A, J, G)) : KK (d + 4) 225 80 [.ref 68, .int x1, .int x2] [] Q (.inl (some (.int r))) (F, A, J, G) := by
  refine KKi ?_
  refine Y_goto i_225_80 ?_
  exact Y_iret i_225_96 rt_225 h
theorem k_225_88 {d : Nat} {F A : Nat → Nat → Int32} {J : Nat → Nat → Int64} {G : pG} {Q : pR → pM → Prop} {SL p q : Nat} {x1 x2 r : Int32} (hG : Geo G SL p q) (h : ((r = 0 → Q (.inl (some (.int 0))) (F, A, J, G)) ∧ (¬ r = 0 → Q (.inl (some (.int 1))) (F, A, J, G)))) : KK (d + 4) 225 88 [.ref 68, .int x1, .int x2] [] Q (.inl (some (.int r))) (F, A, J, G) := by
  refine KKi ?_
  refine Y_zeq i_225_88 (fun e1 => ?_) (fun e1 => ?_)
  · replace h := h.1 e1
    refine Y_iconst (v := 0) i_225_95 (by decide) ?_
    exact Y_iret i_225_96 rt_225 h
  · replace h := h.2 e1
    refine Y_iconst (v := 1) i_225_91 (by decide) ?_
    refine Y_goto i_225_92 ?_
    exact Y_iret i_225_96 rt_225 h
/- 226 Model.refuse(I)I -/
theorem t_226_0 {d : Nat} {F A : Nat → Nat → Int32} {J : Nat → Nat → Int64} {G : pG} {Q : pR → pM → Prop} {SL p q : Nat} {x1 : Int32} (hG : Geo G SL p q) (h : inB x1 3 = true ∧ (Q (.inl (some (.int (-1)))) (F, (wF A 79 x1.toNatClampNeg ((A 79 x1.toNatClampNeg) + 1)), J, G))) : X d 226 0 [.ref 68, .int x1] [] (F, A, J, G) Q := by
  refine Y_al0 i_226_0 ?_
  refine Y_gR i_226_1 ow_226 lf_10_60 (k_68 hG) (r_68_11 hG) ?_
  refine Y_il1 i_226_4 ?_
  refine Y_dup2 i_226_5 rfl rfl ?_
  have o1 := h.1
  replace h := h.2
  refine Y_iaload (k := x1.toNatClampNeg) (v := (A 79 x1.toNatClampNeg)) i_226_6 (k_79 hG) (l_79 hG) o1 rfl rfl ?_
  refine Y_iconst (v := 1) i_226_7 (by decide) ?_
  refine Y_iadd i_226_8 ?_
  refine Y_iast i_226_9 (k_79 hG) (l_79 hG) o1 rfl ?_
  refine Y_iconst (v := (-1)) i_226_10 (by decide) ?_
  exact Y_iret i_226_11 rt_226 h
/- 227 Model.refuseFar()I -/
theorem t_227_0 {d : Nat} {F A : Nat → Nat → Int32} {J : Nat → Nat → Int64} {G : pG} {Q : pR → pM → Prop} {SL p q : Nat} (hG : Geo G SL p q) (h : Q (.inl (some (.int (-99)))) (F, (wF A 79 1 ((A 79 1) + 1)), J, G)) : X d 227 0 [.ref 68] [] (F, A, J, G) Q := by
  refine Y_al0 i_227_0 ?_
  refine Y_gR i_227_1 ow_227 lf_10_60 (k_68 hG) (r_68_11 hG) ?_
  refine Y_iconst (v := 1) i_227_4 (by decide) ?_
  refine Y_dup2 i_227_5 rfl rfl ?_
  refine Y_iaload (k := 1) (v := (A 79 1)) i_227_6 (k_79 hG) (l_79 hG) (by decide) (by decide) rfl ?_
  refine Y_iconst (v := 1) i_227_7 (by decide) ?_
  refine Y_iadd i_227_8 ?_
  refine Y_iast (k := 1) i_227_9 (k_79 hG) (l_79 hG) (by decide) (by decide) ?_
  refine Y_bipush (v := (-99)) i_227_10 (by decide) ?_
  exact Y_iret i_227_12 rt_227 h
/- 228 Model.keep()V -/
theorem t_228_0 {d : Nat} {F A : Nat → Nat → Int32} {J : Nat → Nat → Int64} {G : pG} {Q : pR → pM → Prop} {SL p q : Nat} (hG : Geo G SL p q) (h : (((F 68 31) = 40 → X (d + 1) 228 12 [.ref 68, .int 43] [] (F, A, J, G) Q) ∧ (¬ (F 68 31) = 40 → X d 207 0 [.ref 68, .ref 85, .int ((43 : Int32) * (F 68 31)), .null] [] (F, A, J, G) (KK (d + 1) 228 67 [.ref 68, .null] [] Q)))) : X (d + 1) 228 0 [.ref 68, .null] [] (F, A, J, G) Q := by
  refine Y_al0 i_228_0 ?_
  refine Y_gI (v := (F 68 31)) i_228_1 ow_228 lf_10_285 (by decide) (k_68 hG) rfl ?_
  refine Y_bipush (v := 40) i_228_4 (by decide) ?_
  refine Y_cne i_228_6 (fun e1 => ?_) (fun e1 => ?_)
  · replace h := h.1 e1
    refine Y_bipush (v := 43) i_228_9 (by decide) ?_
    refine Y_is1 i_228_11 rfl ?_
    exact h
  · replace h := h.2 e1
    refine Y_al0 i_228_52 ?_
    refine Y_al0 i_228_53 ?_
    refine Y_gR i_228_54 ow_228 lf_10_82 (k_68 hG) (r_68_27 hG) ?_
    refine Y_bipush (v := 43) i_228_57 (by decide) ?_
    refine Y_al0 i_228_59 ?_
    refine Y_gI (v := (F 68 31)) i_228_60 ow_228 lf_10_285 (by decide) (k_68 hG) rfl ?_
    refine Y_imul i_228_63 ?_
    exact Y_iv2 (L0 := [.ref 68, .ref 85, .int ((43 : Int32) * (F 68 31)), .null]) i_228_64 ow_228 lm_10_347 ((k_68 hG).trans ow_207.symm) rfl mx_207 rfl rfl hd_228 h
theorem t_228_12 {d : Nat} {F A : Nat → Nat → Int32} {J : Nat → Nat → Int64} {G : pG} {Q : pR → pM → Prop} {SL p q : Nat} {x1 : Int32} (hG : Geo G SL p q) (h : ((x1 < 1720 → inB x1 1720 = true ∧ inB (x1 - 43) 1720 = true ∧ (X (d + 1) 228 12 [.ref 68, .int (x1 + 1)] [] (F, (wF A 85 (x1 - 43).toNatClampNeg (A 85 x1.toNatClampNeg)), J, G) Q)) ∧ (¬ x1 < 1720 → X d 207 0 [.ref 68, .ref 85, .int ((43 : Int32) * ((F 68 31) - 1)), .null] [] ((wF F 68 31 ((F 68 31) - 1)), A, J, G) (KK (d + 1) 228 67 [.ref 68, .int x1] [] Q)))) : X (d + 1) 228 12 [.ref 68, .int x1] [] (F, A, J, G) Q := by
  refine Y_il1 i_228_12 ?_
  refine Y_al0 i_228_13 ?_
  refine Y_gR i_228_14 ow_228 lf_10_82 (k_68 hG) (r_68_27 hG) ?_
  refine Y_alen (v := 1720) i_228_17 (Or.inl (k_85 hG)) (l_85 hG) (by decide) ?_
  refine Y_cge i_228_18 (fun e1 => ?_) (fun e1 => ?_)
  · replace h := h.1 e1
    refine Y_al0 i_228_21 ?_
    refine Y_gR i_228_22 ow_228 lf_10_82 (k_68 hG) (r_68_27 hG) ?_
    refine Y_il1 i_228_25 ?_
    refine Y_bipush (v := 43) i_228_26 (by decide) ?_
    refine Y_isub i_228_28 ?_
    refine Y_al0 i_228_29 ?_
    refine Y_gR i_228_30 ow_228 lf_10_82 (k_68 hG) (r_68_27 hG) ?_
    refine Y_il1 i_228_33 ?_
    have o2 := h.1
    replace h := h.2
    refine Y_iaload (k := x1.toNatClampNeg) (v := (A 85 x1.toNatClampNeg)) i_228_34 (k_85 hG) (l_85 hG) o2 rfl rfl ?_
    have o3 := h.1
    replace h := h.2
    refine Y_iast i_228_35 (k_85 hG) (l_85 hG) o3 rfl ?_
    refine Y_ii1 (v := 1) i_228_36 (by decide) rfl ?_
    refine Y_goto i_228_39 ?_
    exact h
  · replace h := h.2 e1
    refine Y_al0 i_228_42 ?_
    refine Y_dup i_228_43 rfl ?_
    refine Y_gI (v := (F 68 31)) i_228_44 ow_228 lf_10_285 (by decide) (k_68 hG) rfl ?_
    refine Y_iconst (v := 1) i_228_47 (by decide) ?_
    refine Y_isub i_228_48 ?_
    refine Y_pI i_228_49 ow_228 lf_10_285 (k_68 hG) ?_
    refine Y_al0 i_228_52 ?_
    refine Y_al0 i_228_53 ?_
    refine Y_gR i_228_54 ow_228 lf_10_82 (k_68 hG) (r_68_27 hG) ?_
    refine Y_bipush (v := 43) i_228_57 (by decide) ?_
    refine Y_al0 i_228_59 ?_
    refine Y_gI (v := ((F 68 31) - 1)) i_228_60 ow_228 lf_10_285 (by decide) (k_68 hG) (by simp [wF, wJ, va_up, cpR, bF, bA]) ?_
    refine Y_imul i_228_63 ?_
    exact Y_iv2 (L0 := [.ref 68, .ref 85, .int ((43 : Int32) * ((F 68 31) - 1)), .null]) i_228_64 ow_228 lm_10_347 ((k_68 hG).trans ow_207.symm) rfl mx_207 rfl rfl hd_228 h
theorem k_228_67 {d : Nat} {F A : Nat → Nat → Int32} {J : Nat → Nat → Int64} {G : pG} {Q : pR → pM → Prop} {SL p q : Nat} {v1 : Value} (hG : Geo G SL p q) (h : Q (.inl none) ((wF F 68 31 ((F 68 31) + 1)), A, J, G)) : KK (d + 1) 228 67 [.ref 68, v1] [] Q (.inl none) (F, A, J, G) := by
  refine KKv ?_
  refine Y_al0 i_228_67 ?_
  refine Y_dup i_228_68 rfl ?_
  refine Y_gI (v := (F 68 31)) i_228_69 ow_228 lf_10_285 (by decide) (k_68 hG) rfl ?_
  refine Y_iconst (v := 1) i_228_72 (by decide) ?_
  refine Y_iadd i_228_73 ?_
  refine Y_pI i_228_74 ow_228 lf_10_285 (k_68 hG) ?_
  exact Y_vret i_228_77 rt_228 h
/- 229 Model.put(II)I -/
theorem t_229_0 {d : Nat} {F A : Nat → Nat → Int32} {J : Nat → Nat → Int64} {G : pG} {Q : pR → pM → Prop} {SL p q : Nat} {x1 x2 : Int32} (hG : Geo G SL p q) (h : hB (A 72 0) = true ∧ (((inR x1 (A 72 0)) = true → hB ((wF F 68 3 0) 68 28) = true ∧ (((lvI (A 81) ((wF F 68 3 0) 68 28) x1) = (-1) → ((x2 < 0 → Q (.inl (some (.int (-1)))) ((wF F 68 3 0), (wF A 79 1 ((A 79 1) + 1)), J, G)) ∧ (¬ x2 < 0 → (((F 68 28) < x2 → Q (.inl (some (.int (-1)))) ((wF F 68 3 0), (wF A 79 1 ((A 79 1) + 1)), J, G)) ∧ (¬ (F 68 28) < x2 → X (d + 1) 228 0 [.ref 68, .null] [] ((wF F 68 3 0), A, J, G) (KK (d + 2) 229 50 [.ref 68, .int x1, .int x2, .null] [] Q)))))) ∧ (¬ (lvI (A 81) ((wF F 68 3 0) 68 28) x1) = (-1) → Q (.inl (some (.int (-1)))) ((wF F 68 3 0), (wF A 79 1 ((A 79 1) + 1)), J, G)))) ∧ ((inR x1 (A 72 0)) = false → Q (.inl (some (.int 0))) ((wF (wF F 68 3 0) 68 3 1), A, J, G)))) : X (d + 2) 229 0 [.ref 68, .int x1, .int x2, .null] [] (F, A, J, G) Q := by
  refine Y_al0 i_229_0 ?_
  refine Y_iconst (v := 0) i_229_1 (by decide) ?_
  refine Y_pI i_229_2 ow_229 lf_10_143 (k_68 hG) ?_
  refine Y_al0 i_229_5 ?_
  refine Y_il1 i_229_6 ?_
  have o1 := h.1
  replace h := h.2
  refine Y_iv1 (L0 := [.ref 68, .int x1]) i_229_7 ow_229 lm_10_333 ((k_68 hG).trans ow_180.symm) rfl mx_180 rfl rfl hd_229 ?_
  refine c_180 hG o1 (KKi ?_)
  refine Y_bne i_229_10 (fun e2 => ?_) (fun e2 => ?_)
  · replace h := h.1 e2
    refine Y_al0 i_229_19 ?_
    refine Y_il1 i_229_20 ?_
    have o3 := h.1
    replace h := h.2
    refine Y_iv1 (L0 := [.ref 68, .int x1, .null]) i_229_21 ow_229 lm_10_336 ((k_68 hG).trans ow_209.symm) rfl mx_209 rfl rfl hd_229 ?_
    refine c_209 hG o3 (KKi ?_)
    refine Y_iconst (v := (-1)) i_229_24 (by decide) ?_
    refine Y_cne i_229_25 (fun e4 => ?_) (fun e4 => ?_)
    · replace h := h.1 e4
      refine Y_il2 i_229_28 ?_
      refine Y_zlt i_229_29 (fun e5 => ?_) (fun e5 => ?_)
      · replace h := h.1 e5
        refine Y_al0 i_229_40 ?_
        refine Y_iconst (v := 1) i_229_41 (by decide) ?_
        refine Y_iv1 (L0 := [.ref 68, .int 1]) i_229_42 ow_229 lm_10_351 ((k_68 hG).trans ow_226.symm) rfl mx_226 rfl rfl hd_229 ?_
        refine Y_al0 i_226_0 ?_
        refine Y_gR i_226_1 ow_226 lf_10_60 (k_68 hG) (r_68_11 hG) ?_
        refine Y_il1 i_226_4 ?_
        refine Y_dup2 i_226_5 rfl rfl ?_
        refine Y_iaload (k := 1) (v := (A 79 1)) i_226_6 (k_79 hG) (l_79 hG) (by decide) (by decide) rfl ?_
        refine Y_iconst (v := 1) i_226_7 (by decide) ?_
        refine Y_iadd i_226_8 ?_
        refine Y_iast (k := 1) i_226_9 (k_79 hG) (l_79 hG) (by decide) (by decide) ?_
        refine Y_iconst (v := (-1)) i_226_10 (by decide) ?_
        refine Y_iret i_226_11 rt_226 (KKi ?_)
        exact Y_iret i_229_45 rt_229 h
      · replace h := h.2 e5
        refine Y_il2 i_229_32 ?_
        refine Y_al0 i_229_33 ?_
        refine Y_gI (v := (F 68 28)) i_229_34 ow_229 lf_10_150 (by decide) (k_68 hG) (by simp [wF, wJ, va_up, cpR, bF, bA]) ?_
        refine Y_cle i_229_37 (fun e6 => ?_) (fun e6 => ?_)
        · replace h := h.1 e6
          refine Y_al0 i_229_40 ?_
          refine Y_iconst (v := 1) i_229_41 (by decide) ?_
          refine Y_iv1 (L0 := [.ref 68, .int 1]) i_229_42 ow_229 lm_10_351 ((k_68 hG).trans ow_226.symm) rfl mx_226 rfl rfl hd_229 ?_
          refine Y_al0 i_226_0 ?_
          refine Y_gR i_226_1 ow_226 lf_10_60 (k_68 hG) (r_68_11 hG) ?_
          refine Y_il1 i_226_4 ?_
          refine Y_dup2 i_226_5 rfl rfl ?_
          refine Y_iaload (k := 1) (v := (A 79 1)) i_226_6 (k_79 hG) (l_79 hG) (by decide) (by decide) rfl ?_
          refine Y_iconst (v := 1) i_226_7 (by decide) ?_
          refine Y_iadd i_226_8 ?_
          refine Y_iast (k := 1) i_226_9 (k_79 hG) (l_79 hG) (by decide) (by decide) ?_
          refine Y_iconst (v := (-1)) i_226_10 (by decide) ?_
          refine Y_iret i_226_11 rt_226 (KKi ?_)
          exact Y_iret i_229_45 rt_229 h
        · replace h := h.2 e6
          refine Y_al0 i_229_46 ?_
          exact Y_iv0 (L0 := [.ref 68, .null]) i_229_47 ow_229 lm_10_354 ((k_68 hG).trans ow_228.symm) rfl mx_228 rfl rfl hd_229 h
    · replace h := h.2 e4
      refine Y_al0 i_229_40 ?_
      refine Y_iconst (v := 1) i_229_41 (by decide) ?_
      refine Y_iv1 (L0 := [.ref 68, .int 1]) i_229_42 ow_229 lm_10_351 ((k_68 hG).trans ow_226.symm) rfl mx_226 rfl rfl hd_229 ?_
      refine Y_al0 i_226_0 ?_
      refine Y_gR i_226_1 ow_226 lf_10_60 (k_68 hG) (r_68_11 hG) ?_
      refine Y_il1 i_226_4 ?_
      refine Y_dup2 i_226_5 rfl rfl ?_
      refine Y_iaload (k := 1) (v := (A 79 1)) i_226_6 (k_79 hG) (l_79 hG) (by decide) (by decide) rfl ?_
      refine Y_iconst (v := 1) i_226_7 (by decide) ?_
      refine Y_iadd i_226_8 ?_
      refine Y_iast (k := 1) i_226_9 (k_79 hG) (l_79 hG) (by decide) (by decide) ?_
      refine Y_iconst (v := (-1)) i_226_10 (by decide) ?_
      refine Y_iret i_226_11 rt_226 (KKi ?_)
      exact Y_iret i_229_45 rt_229 h
  · replace h := h.2 e2
    refine Y_al0 i_229_13 ?_
    refine Y_iconst (v := 1) i_229_14 (by decide) ?_
    refine Y_iv1 (L0 := [.ref 68, .int 1]) i_229_15 ow_229 lm_10_269 ((k_68 hG).trans ow_176.symm) rfl mx_176 rfl rfl hd_229 ?_
    refine Y_al0 i_176_0 ?_
    refine Y_il1 i_176_1 ?_
    refine Y_pI i_176_2 ow_176 lf_10_143 (k_68 hG) ?_
    refine Y_iconst (v := 0) i_176_5 (by decide) ?_
    refine Y_iret i_176_6 rt_176 (KKi ?_)
    exact Y_iret i_229_18 rt_229 h
theorem k_229_50 {d : Nat} {F A : Nat → Nat → Int32} {J : Nat → Nat → Int64} {G : pG} {Q : pR → pM → Prop} {SL p q : Nat} {x1 x2 : Int32} (hG : Geo G SL p q) (h : X (d + 2) 229 55 [.ref 68, .int x1, .int x2, .int (F 68 28)] [] (F, A, J, G) Q) : KK (d + 2) 229 50 [.ref 68, .int x1, .int x2, .null] [] Q (.inl none) (F, A, J, G) := by
  refine KKv ?_
  refine Y_al0 i_229_50 ?_
  refine Y_gI (v := (F 68 28)) i_229_51 ow_229 lf_10_150 (by decide) (k_68 hG) rfl ?_
  refine Y_is3 i_229_54 rfl ?_
  exact h
theorem t_229_55 {d : Nat} {F A : Nat → Nat → Int32} {J : Nat → Nat → Int64} {G : pG} {Q : pR → pM → Prop} {SL p q : Nat} {x1 x2 x3 : Int32} (hG : Geo G SL p q) (h : ((x2 < x3 → inB (x3 - 1) 10 = true ∧ inB x3 10 = true ∧ (X (d + 2) 229 55 [.ref 68, .int x1, .int x2, .int (x3 + (-1))] [] (F, (wF A 81 x3.toNatClampNeg (A 81 (x3 - 1).toNatClampNeg)), J, G) Q)) ∧ (¬ x2 < x3 → inB x2 10 = true ∧ (Q (.inl (some (.int ((F 68 28) + 1)))) ((wF F 68 28 ((F 68 28) + 1)), (wF A 81 x2.toNatClampNeg x1), J, G))))) : X (d + 2) 229 55 [.ref 68, .int x1, .int x2, .int x3] [] (F, A, J, G) Q := by
  refine Y_il3 i_229_55 ?_
  refine Y_il2 i_229_56 ?_
  refine Y_cle i_229_57 (fun e1 => ?_) (fun e1 => ?_)
  · replace h := h.1 e1
    refine Y_al0 i_229_60 ?_
    refine Y_gR i_229_61 ow_229 lf_10_70 (k_68 hG) (r_68_23 hG) ?_
    refine Y_il3 i_229_64 ?_
    refine Y_al0 i_229_65 ?_
    refine Y_gR i_229_66 ow_229 lf_10_70 (k_68 hG) (r_68_23 hG) ?_
    refine Y_il3 i_229_69 ?_
    refine Y_iconst (v := 1) i_229_70 (by decide) ?_
    refine Y_isub i_229_71 ?_
    have o2 := h.1
    replace h := h.2
    refine Y_iaload (k := (x3 - 1).toNatClampNeg) (v := (A 81 (x3 - 1).toNatClampNeg)) i_229_72 (k_81 hG) (l_81 hG) o2 rfl rfl ?_
    have o3 := h.1
    replace h := h.2
    refine Y_iast i_229_73 (k_81 hG) (l_81 hG) o3 rfl ?_
    refine Y_ii3 (v := (-1)) i_229_74 (by decide) rfl ?_
    refine Y_goto i_229_77 ?_
    exact h
  · replace h := h.2 e1
    refine Y_al0 i_229_80 ?_
    refine Y_gR i_229_81 ow_229 lf_10_70 (k_68 hG) (r_68_23 hG) ?_
    refine Y_il2 i_229_84 ?_
    refine Y_il1 i_229_85 ?_
    have o4 := h.1
    replace h := h.2
    refine Y_iast i_229_86 (k_81 hG) (l_81 hG) o4 rfl ?_
    refine Y_al0 i_229_87 ?_
    refine Y_dup i_229_88 rfl ?_
    refine Y_gI (v := (F 68 28)) i_229_89 ow_229 lf_10_150 (by decide) (k_68 hG) rfl ?_
    refine Y_iconst (v := 1) i_229_92 (by decide) ?_
    refine Y_iadd i_229_93 ?_
    refine Y_pI i_229_94 ow_229 lf_10_150 (k_68 hG) ?_
    refine Y_al0 i_229_97 ?_
    refine Y_gI (v := ((F 68 28) + 1)) i_229_98 ow_229 lf_10_150 (by decide) (k_68 hG) (by simp [wF, wJ, va_up, cpR, bF, bA]) ?_
    exact Y_iret i_229_101 rt_229 h
/- 230 Model.takeOff(I)V -/
theorem t_230_0 {d : Nat} {F A : Nat → Nat → Int32} {J : Nat → Nat → Int64} {G : pG} {Q : pR → pM → Prop} {SL p q : Nat} {x1 : Int32} (hG : Geo G SL p q) (h : hB (F 68 28) = true ∧ (X (d + 1) 230 18 [.ref 68, .int x1, .int (lvI (A 81) (F 68 28) x1), .int (lvI (A 81) (F 68 28) x1)] [] ((wF F 68 28 ((F 68 28) - 1)), A, J, G) Q)) : X (d + 1) 230 0 [.ref 68, .int x1, .null, .null] [] (F, A, J, G) Q := by
  refine Y_al0 i_230_0 ?_
  refine Y_il1 i_230_1 ?_
  have o1 := h.1
  replace h := h.2
  refine Y_iv1 (L0 := [.ref 68, .int x1, .null]) i_230_2 ow_230 lm_10_336 ((k_68 hG).trans ow_209.symm) rfl mx_209 rfl rfl hd_230 ?_
  refine c_209 hG o1 (KKi ?_)
  refine Y_is2 i_230_5 rfl ?_
  refine Y_al0 i_230_6 ?_
  refine Y_dup i_230_7 rfl ?_
  refine Y_gI (v := (F 68 28)) i_230_8 ow_230 lf_10_150 (by decide) (k_68 hG) rfl ?_
  refine Y_iconst (v := 1) i_230_11 (by decide) ?_
  refine Y_isub i_230_12 ?_
  refine Y_pI i_230_13 ow_230 lf_10_150 (k_68 hG) ?_
  refine Y_il2 i_230_16 ?_
  refine Y_is3 i_230_17 rfl ?_
  exact h
theorem t_230_18 {d : Nat} {F A : Nat → Nat → Int32} {J : Nat → Nat → Int64} {G : pG} {Q : pR → pM → Prop} {SL p q : Nat} {x1 x2 x3 : Int32} (hG : Geo G SL p q) (h : ((x3 < (F 68 28) → inB (x3 + 1) 10 = true ∧ inB x3 10 = true ∧ (X (d + 1) 230 18 [.ref 68, .int x1, .int x2, .int (x3 + 1)] [] (F, (wF A 81 x3.toNatClampNeg (A 81 (x3 + 1).toNatClampNeg)), J, G) Q)) ∧ (¬ x3 < (F 68 28) → inB x1 10 = true ∧ (Q (.inl none) (F, (wF A 82 x1.toNatClampNeg 0), J, G))))) : X (d + 1) 230 18 [.ref 68, .int x1, .int x2, .int x3] [] (F, A, J, G) Q := by
  refine Y_il3 i_230_18 ?_
  refine Y_al0 i_230_19 ?_
  refine Y_gI (v := (F 68 28)) i_230_20 ow_230 lf_10_150 (by decide) (k_68 hG) rfl ?_
  refine Y_cge i_230_23 (fun e1 => ?_) (fun e1 => ?_)
  · replace h := h.1 e1
    refine Y_al0 i_230_26 ?_
    refine Y_gR i_230_27 ow_230 lf_10_70 (k_68 hG) (r_68_23 hG) ?_
    refine Y_il3 i_230_30 ?_
    refine Y_al0 i_230_31 ?_
    refine Y_gR i_230_32 ow_230 lf_10_70 (k_68 hG) (r_68_23 hG) ?_
    refine Y_il3 i_230_35 ?_
    refine Y_iconst (v := 1) i_230_36 (by decide) ?_
    refine Y_iadd i_230_37 ?_
    have o2 := h.1
    replace h := h.2
    refine Y_iaload (k := (x3 + 1).toNatClampNeg) (v := (A 81 (x3 + 1).toNatClampNeg)) i_230_38 (k_81 hG) (l_81 hG) o2 rfl rfl ?_
    have o3 := h.1
    replace h := h.2
    refine Y_iast i_230_39 (k_81 hG) (l_81 hG) o3 rfl ?_
    refine Y_ii3 (v := 1) i_230_40 (by decide) rfl ?_
    refine Y_goto i_230_43 ?_
    exact h
  · replace h := h.2 e1
    refine Y_al0 i_230_46 ?_
    refine Y_gR i_230_47 ow_230 lf_10_73 (k_68 hG) (r_68_24 hG) ?_
    refine Y_il1 i_230_50 ?_
    refine Y_iconst (v := 0) i_230_51 (by decide) ?_
    have o4 := h.1
    replace h := h.2
    refine Y_iast i_230_52 (k_82 hG) (l_82 hG) o4 rfl ?_
    exact Y_vret i_230_53 rt_230 h
/- 231 Model.take(I)I -/
theorem t_231_0 {d : Nat} {F A : Nat → Nat → Int32} {J : Nat → Nat → Int64} {G : pG} {Q : pR → pM → Prop} {SL p q : Nat} {x1 : Int32} (hG : Geo G SL p q) (h : hB (A 72 0) = true ∧ (((inR x1 (A 72 0)) = true → hB ((wF F 68 3 0) 68 28) = true ∧ (((lvI (A 81) ((wF F 68 3 0) 68 28) x1) = (-1) → Q (.inl (some (.int (-1)))) ((wF F 68 3 0), (wF A 79 1 ((A 79 1) + 1)), J, G)) ∧ (¬ (lvI (A 81) ((wF F 68 3 0) 68 28) x1) = (-1) → X (d + 1) 228 0 [.ref 68, .null] [] ((wF F 68 3 0), A, J, G) (KK (d + 2) 231 40 [.ref 68, .int x1, .int (lvI (A 81) ((wF F 68 3 0) 68 28) x1)] [] Q)))) ∧ ((inR x1 (A 72 0)) = false → Q (.inl (some (.int 0))) ((wF (wF F 68 3 0) 68 3 1), A, J, G)))) : X (d + 2) 231 0 [.ref 68, .int x1, .null] [] (F, A, J, G) Q := by
  refine Y_al0 i_231_0 ?_
  refine Y_iconst (v := 0) i_231_1 (by decide) ?_
  refine Y_pI i_231_2 ow_231 lf_10_143 (k_68 hG) ?_
  refine Y_al0 i_231_5 ?_
  refine Y_il1 i_231_6 ?_
  have o1 := h.1
  replace h := h.2
  refine Y_iv1 (L0 := [.ref 68, .int x1]) i_231_7 ow_231 lm_10_333 ((k_68 hG).trans ow_180.symm) rfl mx_180 rfl rfl hd_231 ?_
  refine c_180 hG o1 (KKi ?_)
  refine Y_bne i_231_10 (fun e2 => ?_) (fun e2 => ?_)
  · replace h := h.1 e2
    refine Y_al0 i_231_19 ?_
    refine Y_il1 i_231_20 ?_
    have o3 := h.1
    replace h := h.2
    refine Y_iv1 (L0 := [.ref 68, .int x1, .null]) i_231_21 ow_231 lm_10_336 ((k_68 hG).trans ow_209.symm) rfl mx_209 rfl rfl hd_231 ?_
    refine c_209 hG o3 (KKi ?_)
    refine Y_is2 i_231_24 rfl ?_
    refine Y_il2 i_231_25 ?_
    refine Y_iconst (v := (-1)) i_231_26 (by decide) ?_
    refine Y_cne i_231_27 (fun e4 => ?_) (fun e4 => ?_)
    · replace h := h.1 e4
      refine Y_al0 i_231_30 ?_
      refine Y_iconst (v := 1) i_231_31 (by decide) ?_
      refine Y_iv1 (L0 := [.ref 68, .int 1]) i_231_32 ow_231 lm_10_351 ((k_68 hG).trans ow_226.symm) rfl mx_226 rfl rfl hd_231 ?_
      refine Y_al0 i_226_0 ?_
      refine Y_gR i_226_1 ow_226 lf_10_60 (k_68 hG) (r_68_11 hG) ?_
      refine Y_il1 i_226_4 ?_
      refine Y_dup2 i_226_5 rfl rfl ?_
      refine Y_iaload (k := 1) (v := (A 79 1)) i_226_6 (k_79 hG) (l_79 hG) (by decide) (by decide) rfl ?_
      refine Y_iconst (v := 1) i_226_7 (by decide) ?_
      refine Y_iadd i_226_8 ?_
      refine Y_iast (k := 1) i_226_9 (k_79 hG) (l_79 hG) (by decide) (by decide) ?_
      refine Y_iconst (v := (-1)) i_226_10 (by decide) ?_
      refine Y_iret i_226_11 rt_226 (KKi ?_)
      exact Y_iret i_231_35 rt_231 h
    · replace h := h.2 e4
      refine Y_al0 i_231_36 ?_
      exact Y_iv0 (L0 := [.ref 68, .null]) i_231_37 ow_231 lm_10_354 ((k_68 hG).trans ow_228.symm) rfl mx_228 rfl rfl hd_231 h
  · replace h := h.2 e2
    refine Y_al0 i_231_13 ?_
    refine Y_iconst (v := 1) i_231_14 (by decide) ?_
    refine Y_iv1 (L0 := [.ref 68, .int 1]) i_231_15 ow_231 lm_10_269 ((k_68 hG).trans ow_176.symm) rfl mx_176 rfl rfl hd_231 ?_
    refine Y_al0 i_176_0 ?_
    refine Y_il1 i_176_1 ?_
    refine Y_pI i_176_2 ow_176 lf_10_143 (k_68 hG) ?_
    refine Y_iconst (v := 0) i_176_5 (by decide) ?_
    refine Y_iret i_176_6 rt_176 (KKi ?_)
    exact Y_iret i_231_18 rt_231 h
theorem k_231_40 {d : Nat} {F A : Nat → Nat → Int32} {J : Nat → Nat → Int64} {G : pG} {Q : pR → pM → Prop} {SL p q : Nat} {x1 x2 : Int32} (hG : Geo G SL p q) (h : X (d + 1) 230 0 [.ref 68, .int x1, .null, .null] [] (F, A, J, G) (KK (d + 2) 231 45 [.ref 68, .int x1, .int x2] [] Q)) : KK (d + 2) 231 40 [.ref 68, .int x1, .int x2] [] Q (.inl none) (F, A, J, G) := by
  refine KKv ?_
  refine Y_al0 i_231_40 ?_
  refine Y_il1 i_231_41 ?_
  exact Y_iv1 (L0 := [.ref 68, .int x1, .null, .null]) i_231_42 ow_231 lm_10_357 ((k_68 hG).trans ow_230.symm) rfl mx_230 rfl rfl hd_231 h
theorem k_231_45 {d : Nat} {F A : Nat → Nat → Int32} {J : Nat → Nat → Int64} {G : pG} {Q : pR → pM → Prop} {SL p q : Nat} {x1 x2 : Int32} (hG : Geo G SL p q) (h : Q (.inl (some (.int x2))) (F, A, J, G)) : KK (d + 2) 231 45 [.ref 68, .int x1, .int x2] [] Q (.inl none) (F, A, J, G) := by
  refine KKv ?_
  refine Y_il2 i_231_45 ?_
  exact Y_iret i_231_46 rt_231 h
/- 232 Model.exchange(II)V -/
theorem t_232_0 {d : Nat} {F A : Nat → Nat → Int32} {J : Nat → Nat → Int64} {G : pG} {Q : pR → pM → Prop} {SL p q : Nat} {x1 x2 : Int32} (hG : Geo G SL p q) (h : inB x1 10 = true ∧ inB x2 10 = true ∧ (Q (.inl none) (F, (wF (wF A 81 x1.toNatClampNeg (A 81 x2.toNatClampNeg)) 81 x2.toNatClampNeg (A 81 x1.toNatClampNeg)), J, G))) : X d 232 0 [.ref 68, .int x1, .int x2, .null] [] (F, A, J, G) Q := by
  refine Y_al0 i_232_0 ?_
  refine Y_gR i_232_1 ow_232 lf_10_70 (k_68 hG) (r_68_23 hG) ?_
  refine Y_il1 i_232_4 ?_
  have o1 := h.1
  replace h := h.2
  refine Y_iaload (k := x1.toNatClampNeg) (v := (A 81 x1.toNatClampNeg)) i_232_5 (k_81 hG) (l_81 hG) o1 rfl rfl ?_
  refine Y_is3 i_232_6 rfl ?_
  refine Y_al0 i_232_7 ?_
  refine Y_gR i_232_8 ow_232 lf_10_70 (k_68 hG) (r_68_23 hG) ?_
  refine Y_il1 i_232_11 ?_
  refine Y_al0 i_232_12 ?_
  refine Y_gR i_232_13 ow_232 lf_10_70 (k_68 hG) (r_68_23 hG) ?_
  refine Y_il2 i_232_16 ?_
  have o2 := h.1
  replace h := h.2
  refine Y_iaload (k := x2.toNatClampNeg) (v := (A 81 x2.toNatClampNeg)) i_232_17 (k_81 hG) (l_81 hG) o2 rfl rfl ?_
  refine Y_iast i_232_18 (k_81 hG) (l_81 hG) o1 rfl ?_
  refine Y_al0 i_232_19 ?_
  refine Y_gR i_232_20 ow_232 lf_10_70 (k_68 hG) (r_68_23 hG) ?_
  refine Y_il2 i_232_23 ?_
  refine Y_il3 i_232_24 ?_
  refine Y_iast i_232_25 (k_81 hG) (l_81 hG) o2 rfl ?_
  exact Y_vret i_232_26 rt_232 h
/- 233 Model.change(II)Z -/
theorem t_233_0 {d : Nat} {F A : Nat → Nat → Int32} {J : Nat → Nat → Int64} {G : pG} {Q : pR → pM → Prop} {SL p q : Nat} {x1 x2 : Int32} (hG : Geo G SL p q) (h : hB ((wF F 68 3 0) 68 28) = true ∧ (((inR x1 ((wF F 68 3 0) 68 28)) = true → (((inR x2 ((wF F 68 3 0) 68 28)) = true → ((x1 = x2 → Q (.inl (some (.int 0))) ((wF F 68 3 0), (wF A 79 1 ((A 79 1) + 1)), J, G)) ∧ (¬ x1 = x2 → X (d + 1) 228 0 [.ref 68, .null] [] ((wF F 68 3 0), A, J, G) (KK (d + 2) 233 48 [.ref 68, .int x1, .int x2] [] Q)))) ∧ ((inR x2 ((wF F 68 3 0) 68 28)) = false → Q (.inl (some (.int 0))) ((wF (wF F 68 3 0) 68 3 1), A, J, G)))) ∧ ((inR x1 ((wF F 68 3 0) 68 28)) = false → Q (.inl (some (.int 0))) ((wF (wF F 68 3 0) 68 3 1), A, J, G)))) : X (d + 2) 233 0 [.ref 68, .int x1, .int x2] [] (F, A, J, G) Q := by
  refine Y_al0 i_233_0 ?_
  refine Y_iconst (v := 0) i_233_1 (by decide) ?_
  refine Y_pI i_233_2 ow_233 lf_10_143 (k_68 hG) ?_
  refine Y_al0 i_233_5 ?_
  refine Y_il1 i_233_6 ?_
  have o1 := h.1
  replace h := h.2
  refine Y_iv1 (L0 := [.ref 68, .int x1]) i_233_7 ow_233 lm_10_342 ((k_68 hG).trans ow_181.symm) rfl mx_181 rfl rfl hd_233 ?_
  refine c_181 hG o1 (KKi ?_)
  refine Y_beq i_233_10 (fun e2 => ?_) (fun e2 => ?_)
  · replace h := h.1 e2
    refine Y_al0 i_233_13 ?_
    refine Y_il2 i_233_14 ?_
    refine Y_iv1 (L0 := [.ref 68, .int x2]) i_233_15 ow_233 lm_10_342 ((k_68 hG).trans ow_181.symm) rfl mx_181 rfl rfl hd_233 ?_
    refine c_181 hG o1 (KKi ?_)
    refine Y_bne i_233_18 (fun e3 => ?_) (fun e3 => ?_)
    · replace h := h.1 e3
      refine Y_il1 i_233_27 ?_
      refine Y_il2 i_233_28 ?_
      refine Y_cne i_233_29 (fun e4 => ?_) (fun e4 => ?_)
      · replace h := h.1 e4
        refine Y_al0 i_233_32 ?_
        refine Y_gR i_233_33 ow_233 lf_10_60 (k_68 hG) (r_68_11 hG) ?_
        refine Y_iconst (v := 1) i_233_36 (by decide) ?_
        refine Y_dup2 i_233_37 rfl rfl ?_
        refine Y_iaload (k := 1) (v := (A 79 1)) i_233_38 (k_79 hG) (l_79 hG) (by decide) (by decide) rfl ?_
        refine Y_iconst (v := 1) i_233_39 (by decide) ?_
        refine Y_iadd i_233_40 ?_
        refine Y_iast (k := 1) i_233_41 (k_79 hG) (l_79 hG) (by decide) (by decide) ?_
        refine Y_iconst (v := 0) i_233_42 (by decide) ?_
        exact Y_bret i_233_43 rt_233 (by decide) h
      · replace h := h.2 e4
        refine Y_al0 i_233_44 ?_
        exact Y_iv0 (L0 := [.ref 68, .null]) i_233_45 ow_233 lm_10_354 ((k_68 hG).trans ow_228.symm) rfl mx_228 rfl rfl hd_233 h
    · replace h := h.2 e3
      refine Y_al0 i_233_21 ?_
      refine Y_iconst (v := 1) i_233_22 (by decide) ?_
      refine Y_iv1 (L0 := [.ref 68, .int 1]) i_233_23 ow_233 lm_10_360 ((k_68 hG).trans ow_177.symm) rfl mx_177 rfl rfl hd_233 ?_
      refine Y_al0 i_177_0 ?_
      refine Y_il1 i_177_1 ?_
      refine Y_pI i_177_2 ow_177 lf_10_143 (k_68 hG) ?_
      refine Y_iconst (v := 0) i_177_5 (by decide) ?_
      refine Y_bret i_177_6 rt_177 (by decide) (KKi ?_)
      exact Y_bret i_233_26 rt_233 (by decide) h
  · replace h := h.2 e2
    refine Y_al0 i_233_21 ?_
    refine Y_iconst (v := 1) i_233_22 (by decide) ?_
    refine Y_iv1 (L0 := [.ref 68, .int 1]) i_233_23 ow_233 lm_10_360 ((k_68 hG).trans ow_177.symm) rfl mx_177 rfl rfl hd_233 ?_
    refine Y_al0 i_177_0 ?_
    refine Y_il1 i_177_1 ?_
    refine Y_pI i_177_2 ow_177 lf_10_143 (k_68 hG) ?_
    refine Y_iconst (v := 0) i_177_5 (by decide) ?_
    refine Y_bret i_177_6 rt_177 (by decide) (KKi ?_)
    exact Y_bret i_233_26 rt_233 (by decide) h
theorem k_233_48 {d : Nat} {F A : Nat → Nat → Int32} {J : Nat → Nat → Int64} {G : pG} {Q : pR → pM → Prop} {SL p q : Nat} {x1 x2 : Int32} (hG : Geo G SL p q) (h : inB x1 10 = true ∧ inB x2 10 = true ∧ (Q (.inl (some (.int 1))) (F, (wF (wF A 81 x1.toNatClampNeg (A 81 x2.toNatClampNeg)) 81 x2.toNatClampNeg (A 81 x1.toNatClampNeg)), J, G))) : KK (d + 2) 233 48 [.ref 68, .int x1, .int x2] [] Q (.inl none) (F, A, J, G) := by
  refine KKv ?_
  refine Y_al0 i_233_48 ?_
  refine Y_il1 i_233_49 ?_
  refine Y_il2 i_233_50 ?_
  refine Y_iv2 (L0 := [.ref 68, .int x1, .int x2, .null]) i_233_51 ow_233 lm_10_363 ((k_68 hG).trans ow_232.symm) rfl mx_232 rfl rfl hd_233 ?_
  refine Y_al0 i_232_0 ?_
  refine Y_gR i_232_1 ow_232 lf_10_70 (k_68 hG) (r_68_23 hG) ?_
  refine Y_il1 i_232_4 ?_
  have o1 := h.1
  replace h := h.2
  refine Y_iaload (k := x1.toNatClampNeg) (v := (A 81 x1.toNatClampNeg)) i_232_5 (k_81 hG) (l_81 hG) o1 rfl rfl ?_
  refine Y_is3 i_232_6 rfl ?_
  refine Y_al0 i_232_7 ?_
  refine Y_gR i_232_8 ow_232 lf_10_70 (k_68 hG) (r_68_23 hG) ?_
  refine Y_il1 i_232_11 ?_
  refine Y_al0 i_232_12 ?_
  refine Y_gR i_232_13 ow_232 lf_10_70 (k_68 hG) (r_68_23 hG) ?_
  refine Y_il2 i_232_16 ?_
  have o2 := h.1
  replace h := h.2
  refine Y_iaload (k := x2.toNatClampNeg) (v := (A 81 x2.toNatClampNeg)) i_232_17 (k_81 hG) (l_81 hG) o2 rfl rfl ?_
  refine Y_iast i_232_18 (k_81 hG) (l_81 hG) o1 rfl ?_
  refine Y_al0 i_232_19 ?_
  refine Y_gR i_232_20 ow_232 lf_10_70 (k_68 hG) (r_68_23 hG) ?_
  refine Y_il2 i_232_23 ?_
  refine Y_il3 i_232_24 ?_
  refine Y_iast i_232_25 (k_81 hG) (l_81 hG) o2 rfl ?_
  refine Y_vret i_232_26 rt_232 (KKv ?_)
  refine Y_iconst (v := 1) i_233_54 (by decide) ?_
  exact Y_bret i_233_55 rt_233 (by decide) h
/- 234 Model.wedge(II)I -/
theorem t_234_0 {d : Nat} {F A : Nat → Nat → Int32} {J : Nat → Nat → Int64} {G : pG} {Q : pR → pM → Prop} {SL p q : Nat} {x1 x2 : Int32} (hG : Geo G SL p q) (h : hB (A 72 0) = true ∧ (((inR x1 (A 72 0)) = true → (((inL x2.toInt64 (-9) 9) = true → X (d + 1) 228 0 [.ref 68, .null] [] ((wF F 68 3 0), A, J, G) (KK (d + 2) 234 42 [.ref 68, .int x1, .int x2, .null] [] Q)) ∧ ((inL x2.toInt64 (-9) 9) = false → Q (.inl (some (.int (-99)))) ((wF F 68 3 0), (wF A 79 1 ((A 79 1) + 1)), J, G)))) ∧ ((inR x1 (A 72 0)) = false → Q (.inl (some (.int 0))) ((wF (wF F 68 3 0) 68 3 1), A, J, G)))) : X (d + 2) 234 0 [.ref 68, .int x1, .int x2, .null] [] (F, A, J, G) Q := by
  refine Y_al0 i_234_0 ?_
  refine Y_iconst (v := 0) i_234_1 (by decide) ?_
  refine Y_pI i_234_2 ow_234 lf_10_143 (k_68 hG) ?_
  refine Y_al0 i_234_5 ?_
  refine Y_il1 i_234_6 ?_
  have o1 := h.1
  replace h := h.2
  refine Y_iv1 (L0 := [.ref 68, .int x1]) i_234_7 ow_234 lm_10_333 ((k_68 hG).trans ow_180.symm) rfl mx_180 rfl rfl hd_234 ?_
  refine c_180 hG o1 (KKi ?_)
  refine Y_bne i_234_10 (fun e2 => ?_) (fun e2 => ?_)
  · replace h := h.1 e2
    refine Y_il2 i_234_19 ?_
    refine Y_i2l i_234_20 ?_
    refine Y_ldcL i_234_21 ow_234 lj_10_367 ?_
    refine Y_ldcL i_234_24 ow_234 lj_10_369 ?_
    refine Y_is_3 (L0 := [.long x2.toInt64, .null, .long (-9), .null, .long 9, .null]) i_234_27 ow_234 lm_10_146 rfl mx_178 rfl rfl hd_234 ?_
    refine c_178 hG (KKi ?_)
    refine Y_bne i_234_30 (fun e3 => ?_) (fun e3 => ?_)
    · replace h := h.1 e3
      refine Y_al0 i_234_38 ?_
      exact Y_iv0 (L0 := [.ref 68, .null]) i_234_39 ow_234 lm_10_354 ((k_68 hG).trans ow_228.symm) rfl mx_228 rfl rfl hd_234 h
    · replace h := h.2 e3
      refine Y_al0 i_234_33 ?_
      refine Y_iv0 (L0 := [.ref 68]) i_234_34 ow_234 lm_10_371 ((k_68 hG).trans ow_227.symm) rfl mx_227 rfl rfl hd_234 ?_
      refine Y_al0 i_227_0 ?_
      refine Y_gR i_227_1 ow_227 lf_10_60 (k_68 hG) (r_68_11 hG) ?_
      refine Y_iconst (v := 1) i_227_4 (by decide) ?_
      refine Y_dup2 i_227_5 rfl rfl ?_
      refine Y_iaload (k := 1) (v := (A 79 1)) i_227_6 (k_79 hG) (l_79 hG) (by decide) (by decide) rfl ?_
      refine Y_iconst (v := 1) i_227_7 (by decide) ?_
      refine Y_iadd i_227_8 ?_
      refine Y_iast (k := 1) i_227_9 (k_79 hG) (l_79 hG) (by decide) (by decide) ?_
      refine Y_bipush (v := (-99)) i_227_10 (by decide) ?_
      refine Y_iret i_227_12 rt_227 (KKi ?_)
      exact Y_iret i_234_37 rt_234 h
  · replace h := h.2 e2
    refine Y_al0 i_234_13 ?_
    refine Y_iconst (v := 1) i_234_14 (by decide) ?_
    refine Y_iv1 (L0 := [.ref 68, .int 1]) i_234_15 ow_234 lm_10_269 ((k_68 hG).trans ow_176.symm) rfl mx_176 rfl rfl hd_234 ?_
    refine Y_al0 i_176_0 ?_
    refine Y_il1 i_176_1 ?_
    refine Y_pI i_176_2 ow_176 lf_10_143 (k_68 hG) ?_
    refine Y_iconst (v := 0) i_176_5 (by decide) ?_
    refine Y_iret i_176_6 rt_176 (KKi ?_)
    exact Y_iret i_234_18 rt_234 h
theorem k_234_42 {d : Nat} {F A : Nat → Nat → Int32} {J : Nat → Nat → Int64} {G : pG} {Q : pR → pM → Prop} {SL p q : Nat} {x1 x2 : Int32} (hG : Geo G SL p q) (h : inB x1 10 = true ∧ (Q (.inl (some (.int (A 83 x1.toNatClampNeg)))) (F, (wF A 83 x1.toNatClampNeg x2), J, G))) : KK (d + 2) 234 42 [.ref 68, .int x1, .int x2, .null] [] Q (.inl none) (F, A, J, G) := by
  refine KKv ?_
  refine Y_al0 i_234_42 ?_
  refine Y_gR i_234_43 ow_234 lf_10_76 (k_68 hG) (r_68_25 hG) ?_
  refine Y_il1 i_234_46 ?_
  have o1 := h.1
  replace h := h.2
  refine Y_iaload (k := x1.toNatClampNeg) (v := (A 83 x1.toNatClampNeg)) i_234_47 (k_83 hG) (l_83 hG) o1 rfl rfl ?_
  refine Y_is3 i_234_48 rfl ?_
  refine Y_al0 i_234_49 ?_
  refine Y_gR i_234_50 ow_234 lf_10_76 (k_68 hG) (r_68_25 hG) ?_
  refine Y_il1 i_234_53 ?_
  refine Y_il2 i_234_54 ?_
  refine Y_iast i_234_55 (k_83 hG) (l_83 hG) o1 rfl ?_
  refine Y_il3 i_234_56 ?_
  exact Y_iret i_234_57 rt_234 h
/- 235 Model.saw(II)I -/
theorem t_235_0 {d : Nat} {F A : Nat → Nat → Int32} {J : Nat → Nat → Int64} {G : pG} {Q : pR → pM → Prop} {SL p q : Nat} {x1 x2 : Int32} (hG : Geo G SL p q) (h : hB (A 72 0) = true ∧ (((inR x1 (A 72 0)) = true → (((inL x2.toInt64 (-9) 9) = true → X (d + 1) 228 0 [.ref 68, .null] [] ((wF F 68 3 0), A, J, G) (KK (d + 2) 235 42 [.ref 68, .int x1, .int x2, .null] [] Q)) ∧ ((inL x2.toInt64 (-9) 9) = false → Q (.inl (some (.int (-99)))) ((wF F 68 3 0), (wF A 79 1 ((A 79 1) + 1)), J, G)))) ∧ ((inR x1 (A 72 0)) = false → Q (.inl (some (.int 0))) ((wF (wF F 68 3 0) 68 3 1), A, J, G)))) : X (d + 2) 235 0 [.ref 68, .int x1, .int x2, .null] [] (F, A, J, G) Q := by
  refine Y_al0 i_235_0 ?_
  refine Y_iconst (v := 0) i_235_1 (by decide) ?_
  refine Y_pI i_235_2 ow_235 lf_10_143 (k_68 hG) ?_
  refine Y_al0 i_235_5 ?_
  refine Y_il1 i_235_6 ?_
  have o1 := h.1
  replace h := h.2
  refine Y_iv1 (L0 := [.ref 68, .int x1]) i_235_7 ow_235 lm_10_333 ((k_68 hG).trans ow_180.symm) rfl mx_180 rfl rfl hd_235 ?_
  refine c_180 hG o1 (KKi ?_)
  refine Y_bne i_235_10 (fun e2 => ?_) (fun e2 => ?_)
  · replace h := h.1 e2
    refine Y_il2 i_235_19 ?_
    refine Y_i2l i_235_20 ?_
    refine Y_ldcL i_235_21 ow_235 lj_10_367 ?_
    refine Y_ldcL i_235_24 ow_235 lj_10_369 ?_
    refine Y_is_3 (L0 := [.long x2.toInt64, .null, .long (-9), .null, .long 9, .null]) i_235_27 ow_235 lm_10_146 rfl mx_178 rfl rfl hd_235 ?_
    refine c_178 hG (KKi ?_)
    refine Y_bne i_235_30 (fun e3 => ?_) (fun e3 => ?_)
    · replace h := h.1 e3
      refine Y_al0 i_235_38 ?_
      exact Y_iv0 (L0 := [.ref 68, .null]) i_235_39 ow_235 lm_10_354 ((k_68 hG).trans ow_228.symm) rfl mx_228 rfl rfl hd_235 h
    · replace h := h.2 e3
      refine Y_al0 i_235_33 ?_
      refine Y_iv0 (L0 := [.ref 68]) i_235_34 ow_235 lm_10_371 ((k_68 hG).trans ow_227.symm) rfl mx_227 rfl rfl hd_235 ?_
      refine Y_al0 i_227_0 ?_
      refine Y_gR i_227_1 ow_227 lf_10_60 (k_68 hG) (r_68_11 hG) ?_
      refine Y_iconst (v := 1) i_227_4 (by decide) ?_
      refine Y_dup2 i_227_5 rfl rfl ?_
      refine Y_iaload (k := 1) (v := (A 79 1)) i_227_6 (k_79 hG) (l_79 hG) (by decide) (by decide) rfl ?_
      refine Y_iconst (v := 1) i_227_7 (by decide) ?_
      refine Y_iadd i_227_8 ?_
      refine Y_iast (k := 1) i_227_9 (k_79 hG) (l_79 hG) (by decide) (by decide) ?_
      refine Y_bipush (v := (-99)) i_227_10 (by decide) ?_
      refine Y_iret i_227_12 rt_227 (KKi ?_)
      exact Y_iret i_235_37 rt_235 h
  · replace h := h.2 e2
    refine Y_al0 i_235_13 ?_
    refine Y_iconst (v := 1) i_235_14 (by decide) ?_
    refine Y_iv1 (L0 := [.ref 68, .int 1]) i_235_15 ow_235 lm_10_269 ((k_68 hG).trans ow_176.symm) rfl mx_176 rfl rfl hd_235 ?_
    refine Y_al0 i_176_0 ?_
    refine Y_il1 i_176_1 ?_
    refine Y_pI i_176_2 ow_176 lf_10_143 (k_68 hG) ?_
    refine Y_iconst (v := 0) i_176_5 (by decide) ?_
    refine Y_iret i_176_6 rt_176 (KKi ?_)
    exact Y_iret i_235_18 rt_235 h
theorem k_235_42 {d : Nat} {F A : Nat → Nat → Int32} {J : Nat → Nat → Int64} {G : pG} {Q : pR → pM → Prop} {SL p q : Nat} {x1 x2 : Int32} (hG : Geo G SL p q) (h : inB x1 10 = true ∧ (Q (.inl (some (.int (A 84 x1.toNatClampNeg)))) (F, (wF A 84 x1.toNatClampNeg x2), J, G))) : KK (d + 2) 235 42 [.ref 68, .int x1, .int x2, .null] [] Q (.inl none) (F, A, J, G) := by
  refine KKv ?_
  refine Y_al0 i_235_42 ?_
  refine Y_gR i_235_43 ow_235 lf_10_79 (k_68 hG) (r_68_26 hG) ?_
  refine Y_il1 i_235_46 ?_
  have o1 := h.1
  replace h := h.2
  refine Y_iaload (k := x1.toNatClampNeg) (v := (A 84 x1.toNatClampNeg)) i_235_47 (k_84 hG) (l_84 hG) o1 rfl rfl ?_
  refine Y_is3 i_235_48 rfl ?_
  refine Y_al0 i_235_49 ?_
  refine Y_gR i_235_50 ow_235 lf_10_79 (k_68 hG) (r_68_26 hG) ?_
  refine Y_il1 i_235_53 ?_
  refine Y_il2 i_235_54 ?_
  refine Y_iast i_235_55 (k_84 hG) (l_84 hG) o1 rfl ?_
  refine Y_il3 i_235_56 ?_
  exact Y_iret i_235_57 rt_235 h
/- 237 Model.valueNow()I -/
theorem t_237_0 {d : Nat} {F A : Nat → Nat → Int32} {J : Nat → Nat → Int64} {G : pG} {Q : pR → pM → Prop} {SL p q : Nat} (hG : Geo G SL p q) (h : X (d + 1) 237 4 [.ref 68, .int 0, .int 0, .null] [] (F, A, J, G) Q) : X (d + 1) 237 0 [.ref 68, .null, .null, .null] [] (F, A, J, G) Q := by
  refine Y_iconst (v := 0) i_237_0 (by decide) ?_
  refine Y_is1 i_237_1 rfl ?_
  refine Y_iconst (v := 0) i_237_2 (by decide) ?_
  refine Y_is2 i_237_3 rfl ?_
  exact h
theorem t_237_4 {d : Nat} {F A : Nat → Nat → Int32} {J : Nat → Nat → Int64} {G : pG} {Q : pR → pM → Prop} {SL p q : Nat} {x1 x2 : Int32} {v3 : Value} (hG : Geo G SL p q) (h : ((x2 < (A 72 3) → inB x2 1200 = true ∧ (((-20) < (A 78 x2.toNatClampNeg) → (((A 78 x2.toNatClampNeg) < 0 → inB ((-1 : Int32) - (A 78 x2.toNatClampNeg)) 6 = true ∧ inB x1 64 = true ∧ (X (d + 1) 237 4 [.ref 68, .int (x1 + 1), .int (x2 + 1), .int (A 78 x2.toNatClampNeg)] [] (F, (wF A 87 x1.toNatClampNeg (A 86 ((-1 : Int32) - (A 78 x2.toNatClampNeg)).toNatClampNeg)), J, G) Q)) ∧ (¬ (A 78 x2.toNatClampNeg) < 0 → inB x1 64 = true ∧ (X (d + 1) 237 4 [.ref 68, .int (x1 + 1), .int (x2 + 1), .int (A 78 x2.toNatClampNeg)] [] (F, (wF A 87 x1.toNatClampNeg (A 78 x2.toNatClampNeg)), J, G) Q)))) ∧ (¬ (-20) < (A 78 x2.toNatClampNeg) → (((A 78 x2.toNatClampNeg) = (-28) → inB (x1 - 1) 64 = true ∧ (((A 87 (x1 - 1).toNatClampNeg) = 0 → X (d + 1) 237 4 [.ref 68, .int x1, .int (x2 + 1), .int (A 78 x2.toNatClampNeg)] [] (F, (wF A 87 (x1 - 1).toNatClampNeg 1), J, G) Q) ∧ (¬ (A 87 (x1 - 1).toNatClampNeg) = 0 → X (d + 1) 237 4 [.ref 68, .int x1, .int (x2 + 1), .int (A 78 x2.toNatClampNeg)] [] (F, (wF A 87 (x1 - 1).toNatClampNeg 0), J, G) Q))) ∧ (¬ (A 78 x2.toNatClampNeg) = (-28) → inB ((x1 + (-1)) - 1) 64 = true ∧ inB (x1 + (-1)) 64 = true ∧ (X (d + 1) 237 4 [.ref 68, .int (x1 + (-1)), .int (x2 + 1), .int (A 78 x2.toNatClampNeg)] [] (F, (wF A 87 ((x1 + (-1)) - 1).toNatClampNeg (opR (A 78 x2.toNatClampNeg) (A 87 ((x1 + (-1)) - 1).toNatClampNeg) (A 87 (x1 + (-1)).toNatClampNeg))), J, G) Q)))))) ∧ (¬ x2 < (A 72 3) → Q (.inl (some (.int (A 87 0)))) (F, A, J, G)))) : X (d + 1) 237 4 [.ref 68, .int x1, .int x2, v3] [] (F, A, J, G) Q := by
  refine Y_il2 i_237_4 ?_
  refine Y_al0 i_237_5 ?_
  refine Y_gR i_237_6 ow_237 lf_10_42 (k_68 hG) (r_68_4 hG) ?_
  refine Y_iconst (v := 3) i_237_9 (by decide) ?_
  refine Y_iaload (k := 3) (v := (A 72 3)) i_237_10 (k_72 hG) (l_72 hG) (by decide) (by decide) rfl ?_
  refine Y_cge i_237_11 (fun e1 => ?_) (fun e1 => ?_)
  · replace h := h.1 e1
    refine Y_al0 i_237_14 ?_
    refine Y_gR i_237_15 ow_237 lf_10_57 (k_68 hG) (r_68_10 hG) ?_
    refine Y_il2 i_237_18 ?_
    have o2 := h.1
    replace h := h.2
    refine Y_iaload (k := x2.toNatClampNeg) (v := (A 78 x2.toNatClampNeg)) i_237_19 (k_78 hG) (l_78 hG) o2 rfl rfl ?_
    refine Y_is3 i_237_20 rfl ?_
    refine Y_il3 i_237_21 ?_
    refine Y_bipush (v := (-20)) i_237_22 (by decide) ?_
    refine Y_cle i_237_24 (fun e3 => ?_) (fun e3 => ?_)
    · replace h := h.1 e3
      refine Y_al0 i_237_27 ?_
      refine Y_gR i_237_28 ow_237 lf_10_91 (k_68 hG) (r_68_34 hG) ?_
      refine Y_il1 i_237_31 ?_
      refine Y_il3 i_237_32 ?_
      refine Y_zlt i_237_33 (fun e4 => ?_) (fun e4 => ?_)
      · replace h := h.1 e4
        refine Y_al0 i_237_40 ?_
        refine Y_gR i_237_41 ow_237 lf_10_88 (k_68 hG) (r_68_33 hG) ?_
        refine Y_iconst (v := (-1)) i_237_44 (by decide) ?_
        refine Y_il3 i_237_45 ?_
        refine Y_isub i_237_46 ?_
        have o5 := h.1
        replace h := h.2
        refine Y_iaload (k := ((-1 : Int32) - (A 78 x2.toNatClampNeg)).toNatClampNeg) (v := (A 86 ((-1 : Int32) - (A 78 x2.toNatClampNeg)).toNatClampNeg)) i_237_47 (k_86 hG) (l_86 hG) o5 rfl rfl ?_
        have o6 := h.1
        replace h := h.2
        refine Y_iast i_237_48 (k_87 hG) (l_87 hG) o6 rfl ?_
        refine Y_ii1 (v := 1) i_237_49 (by decide) rfl ?_
        refine Y_goto i_237_52 ?_
        refine Y_ii2 (v := 1) i_237_117 (by decide) rfl ?_
        refine Y_goto i_237_120 ?_
        exact h
      · replace h := h.2 e4
        refine Y_il3 i_237_36 ?_
        refine Y_goto i_237_37 ?_
        have o7 := h.1
        replace h := h.2
        refine Y_iast i_237_48 (k_87 hG) (l_87 hG) o7 rfl ?_
        refine Y_ii1 (v := 1) i_237_49 (by decide) rfl ?_
        refine Y_goto i_237_52 ?_
        refine Y_ii2 (v := 1) i_237_117 (by decide) rfl ?_
        refine Y_goto i_237_120 ?_
        exact h
    · replace h := h.2 e3
      refine Y_il3 i_237_55 ?_
      refine Y_bipush (v := (-28)) i_237_56 (by decide) ?_
      refine Y_cne i_237_58 (fun e8 => ?_) (fun e8 => ?_)
      · replace h := h.1 e8
        refine Y_al0 i_237_61 ?_
        refine Y_gR i_237_62 ow_237 lf_10_91 (k_68 hG) (r_68_34 hG) ?_
        refine Y_il1 i_237_65 ?_
        refine Y_iconst (v := 1) i_237_66 (by decide) ?_
        refine Y_isub i_237_67 ?_
        refine Y_al0 i_237_68 ?_
        refine Y_gR i_237_69 ow_237 lf_10_91 (k_68 hG) (r_68_34 hG) ?_
        refine Y_il1 i_237_72 ?_
        refine Y_iconst (v := 1) i_237_73 (by decide) ?_
        refine Y_isub i_237_74 ?_
        have o9 := h.1
        replace h := h.2
        refine Y_iaload (k := (x1 - 1).toNatClampNeg) (v := (A 87 (x1 - 1).toNatClampNeg)) i_237_75 (k_87 hG) (l_87 hG) o9 rfl rfl ?_
        refine Y_zeq i_237_76 (fun e10 => ?_) (fun e10 => ?_)
        · replace h := h.1 e10
          refine Y_iconst (v := 1) i_237_83 (by decide) ?_
          refine Y_iast i_237_84 (k_87 hG) (l_87 hG) o9 rfl ?_
          refine Y_goto i_237_85 ?_
          refine Y_ii2 (v := 1) i_237_117 (by decide) rfl ?_
          refine Y_goto i_237_120 ?_
          exact h
        · replace h := h.2 e10
          refine Y_iconst (v := 0) i_237_79 (by decide) ?_
          refine Y_goto i_237_80 ?_
          refine Y_iast i_237_84 (k_87 hG) (l_87 hG) o9 rfl ?_
          refine Y_goto i_237_85 ?_
          refine Y_ii2 (v := 1) i_237_117 (by decide) rfl ?_
          refine Y_goto i_237_120 ?_
          exact h
      · replace h := h.2 e8
        refine Y_ii1 (v := (-1)) i_237_88 (by decide) rfl ?_
        refine Y_al0 i_237_91 ?_
        refine Y_gR i_237_92 ow_237 lf_10_91 (k_68 hG) (r_68_34 hG) ?_
        refine Y_il1 i_237_95 ?_
        refine Y_iconst (v := 1) i_237_96 (by decide) ?_
        refine Y_isub i_237_97 ?_
        refine Y_il3 i_237_98 ?_
        refine Y_al0 i_237_99 ?_
        refine Y_gR i_237_100 ow_237 lf_10_91 (k_68 hG) (r_68_34 hG) ?_
        refine Y_il1 i_237_103 ?_
        refine Y_iconst (v := 1) i_237_104 (by decide) ?_
        refine Y_isub i_237_105 ?_
        have o11 := h.1
        replace h := h.2
        refine Y_iaload (k := ((x1 + (-1)) - 1).toNatClampNeg) (v := (A 87 ((x1 + (-1)) - 1).toNatClampNeg)) i_237_106 (k_87 hG) (l_87 hG) o11 rfl rfl ?_
        refine Y_al0 i_237_107 ?_
        refine Y_gR i_237_108 ow_237 lf_10_91 (k_68 hG) (r_68_34 hG) ?_
        refine Y_il1 i_237_111 ?_
        have o12 := h.1
        replace h := h.2
        refine Y_iaload (k := (x1 + (-1)).toNatClampNeg) (v := (A 87 (x1 + (-1)).toNatClampNeg)) i_237_112 (k_87 hG) (l_87 hG) o12 rfl rfl ?_
        refine Y_is_3 (L0 := [.int (A 78 x2.toNatClampNeg), .int (A 87 ((x1 + (-1)) - 1).toNatClampNeg), .int (A 87 (x1 + (-1)).toNatClampNeg)]) i_237_113 ow_237 lm_10_374 rfl mx_236 rfl rfl hd_237 ?_
        refine c_236 hG (KKi ?_)
        refine Y_iast i_237_116 (k_87 hG) (l_87 hG) o11 rfl ?_
        refine Y_ii2 (v := 1) i_237_117 (by decide) rfl ?_
        refine Y_goto i_237_120 ?_
        exact h
  · replace h := h.2 e1
    refine Y_al0 i_237_123 ?_
    refine Y_gR i_237_124 ow_237 lf_10_91 (k_68 hG) (r_68_34 hG) ?_
    refine Y_iconst (v := 0) i_237_127 (by decide) ?_
    refine Y_iaload (k := 0) (v := (A 87 0)) i_237_128 (k_87 hG) (l_87 hG) (by decide) (by decide) rfl ?_
    exact Y_iret i_237_129 rt_237 h
/- 238 Model.eat(I)I -/
theorem t_238_0 {d : Nat} {F A : Nat → Nat → Int32} {J : Nat → Nat → Int64} {G : pG} {Q : pR → pM → Prop} {SL p q : Nat} {x1 : Int32} (hG : Geo G SL p q) (h : X (d + 2) 238 4 [.ref 68, .int x1, .int x1, .int 0, .null, .null] [] (F, A, J, G) Q) : X (d + 2) 238 0 [.ref 68, .int x1, .null, .null, .null, .null] [] (F, A, J, G) Q := by
  refine Y_il1 i_238_0 ?_
  refine Y_is2 i_238_1 rfl ?_
  refine Y_iconst (v := 0) i_238_2 (by decide) ?_
  refine Y_is3 i_238_3 rfl ?_
  exact h
theorem t_238_4 {d : Nat} {F A : Nat → Nat → Int32} {J : Nat → Nat → Int64} {G : pG} {Q : pR → pM → Prop} {SL p q : Nat} {x1 x2 x3 : Int32} {v4 v5 : Value} (hG : Geo G SL p q) (h : ((x3 < (F 68 28) → inB x3 10 = true ∧ inB (A 81 x3.toNatClampNeg) 20 = true ∧ (((A 72 3) = 0 → inB (A 81 x3.toNatClampNeg) 10 = true ∧ (X (d + 2) 238 4 [.ref 68, .int x1, .int (x2 - ((wF (wF (wF (wF (wF (wF (wF A 86 0 x3) 86 1 (A 77 (A 81 x3.toNatClampNeg).toNatClampNeg)) 86 2 x2) 86 3 (A 73 (A 81 x3.toNatClampNeg).toNatClampNeg)) 86 4 (((F 68 28) - 1) - x3)) 86 5 (A 74 (A 81 x3.toNatClampNeg).toNatClampNeg)) 82 (A 81 x3.toNatClampNeg).toNatClampNeg (jmax 0 (jmin x2 (A 77 (A 81 x3.toNatClampNeg).toNatClampNeg)))) 82 (A 81 x3.toNatClampNeg).toNatClampNeg)), .int (x3 + 1), .int (A 81 x3.toNatClampNeg), .int (A 77 (A 81 x3.toNatClampNeg).toNatClampNeg)] [] (F, (wF (wF (wF (wF (wF (wF (wF A 86 0 x3) 86 1 (A 77 (A 81 x3.toNatClampNeg).toNatClampNeg)) 86 2 x2) 86 3 (A 73 (A 81 x3.toNatClampNeg).toNatClampNeg)) 86 4 (((F 68 28) - 1) - x3)) 86 5 (A 74 (A 81 x3.toNatClampNeg).toNatClampNeg)) 82 (A 81 x3.toNatClampNeg).toNatClampNeg (jmax 0 (jmin x2 (A 77 (A 81 x3.toNatClampNeg).toNatClampNeg)))), J, G) Q)) ∧ (¬ (A 72 3) = 0 → X (d + 1) 237 0 [.ref 68, .null, .null, .null] [] (F, (wF (wF (wF (wF (wF (wF A 86 0 x3) 86 1 (A 77 (A 81 x3.toNatClampNeg).toNatClampNeg)) 86 2 x2) 86 3 (A 73 (A 81 x3.toNatClampNeg).toNatClampNeg)) 86 4 (((F 68 28) - 1) - x3)) 86 5 (A 74 (A 81 x3.toNatClampNeg).toNatClampNeg)), J, G) (KK (d + 2) 238 110 [.ref 68, .int x1, .int x2, .int x3, .int (A 81 x3.toNatClampNeg), v5] [] Q)))) ∧ (¬ x3 < (F 68 28) → Q (.inl (some (.int x2))) (F, A, J, G)))) : X (d + 2) 238 4 [.ref 68, .int x1, .int x2, .int x3, v4, v5] [] (F, A, J, G) Q := by
  refine Y_il3 i_238_4 ?_
  refine Y_al0 i_238_5 ?_
  refine Y_gI (v := (F 68 28)) i_238_6 ow_238 lf_10_150 (by decide) (k_68 hG) rfl ?_
  refine Y_cge i_238_9 (fun e1 => ?_) (fun e1 => ?_)
  · replace h := h.1 e1
    refine Y_al0 i_238_12 ?_
    refine Y_gR i_238_13 ow_238 lf_10_70 (k_68 hG) (r_68_23 hG) ?_
    refine Y_il3 i_238_16 ?_
    have o2 := h.1
    replace h := h.2
    refine Y_iaload (k := x3.toNatClampNeg) (v := (A 81 x3.toNatClampNeg)) i_238_17 (k_81 hG) (l_81 hG) o2 rfl rfl ?_
    refine Y_is4 i_238_18 rfl ?_
    refine Y_al0 i_238_20 ?_
    refine Y_gR i_238_21 ow_238 lf_10_88 (k_68 hG) (r_68_33 hG) ?_
    refine Y_iconst (v := 0) i_238_24 (by decide) ?_
    refine Y_il3 i_238_25 ?_
    refine Y_iast (k := 0) i_238_26 (k_86 hG) (l_86 hG) (by decide) (by decide) ?_
    refine Y_al0 i_238_27 ?_
    refine Y_gR i_238_28 ow_238 lf_10_88 (k_68 hG) (r_68_33 hG) ?_
    refine Y_iconst (v := 1) i_238_31 (by decide) ?_
    refine Y_al0 i_238_32 ?_
    refine Y_gR i_238_33 ow_238 lf_10_55 (k_68 hG) (r_68_9 hG) ?_
    refine Y_il4 i_238_36 ?_
    have o3 := h.1
    replace h := h.2
    refine Y_iaload (k := (A 81 x3.toNatClampNeg).toNatClampNeg) (v := (A 77 (A 81 x3.toNatClampNeg).toNatClampNeg)) i_238_38 (k_77 hG) (l_77 hG) o3 rfl (by simp [wF, wJ, va_up, cpR, bF, bA]) ?_
    refine Y_iast (k := 1) i_238_39 (k_86 hG) (l_86 hG) (by decide) (by decide) ?_
    refine Y_al0 i_238_40 ?_
    refine Y_gR i_238_41 ow_238 lf_10_88 (k_68 hG) (r_68_33 hG) ?_
    refine Y_iconst (v := 2) i_238_44 (by decide) ?_
    refine Y_il2 i_238_45 ?_
    refine Y_iast (k := 2) i_238_46 (k_86 hG) (l_86 hG) (by decide) (by decide) ?_
    refine Y_al0 i_238_47 ?_
    refine Y_gR i_238_48 ow_238 lf_10_88 (k_68 hG) (r_68_33 hG) ?_
    refine Y_iconst (v := 3) i_238_51 (by decide) ?_
    refine Y_al0 i_238_52 ?_
    refine Y_gR i_238_53 ow_238 lf_10_45 (k_68 hG) (r_68_5 hG) ?_
    refine Y_il4 i_238_56 ?_
    refine Y_iaload (k := (A 81 x3.toNatClampNeg).toNatClampNeg) (v := (A 73 (A 81 x3.toNatClampNeg).toNatClampNeg)) i_238_58 (k_73 hG) (l_73 hG) o3 rfl (by simp [wF, wJ, va_up, cpR, bF, bA]) ?_
    refine Y_iast (k := 3) i_238_59 (k_86 hG) (l_86 hG) (by decide) (by decide) ?_
    refine Y_al0 i_238_60 ?_
    refine Y_gR i_238_61 ow_238 lf_10_88 (k_68 hG) (r_68_33 hG) ?_
    refine Y_iconst (v := 4) i_238_64 (by decide) ?_
    refine Y_al0 i_238_65 ?_
    refine Y_gI (v := (F 68 28)) i_238_66 ow_238 lf_10_150 (by decide) (k_68 hG) rfl ?_
    refine Y_iconst (v := 1) i_238_69 (by decide) ?_
    refine Y_isub i_238_70 ?_
    refine Y_il3 i_238_71 ?_
    refine Y_isub i_238_72 ?_
    refine Y_iast (k := 4) i_238_73 (k_86 hG) (l_86 hG) (by decide) (by decide) ?_
    refine Y_al0 i_238_74 ?_
    refine Y_gR i_238_75 ow_238 lf_10_88 (k_68 hG) (r_68_33 hG) ?_
    refine Y_iconst (v := 5) i_238_78 (by decide) ?_
    refine Y_al0 i_238_79 ?_
    refine Y_gR i_238_80 ow_238 lf_10_47 (k_68 hG) (r_68_6 hG) ?_
    refine Y_il4 i_238_83 ?_
    refine Y_iaload (k := (A 81 x3.toNatClampNeg).toNatClampNeg) (v := (A 74 (A 81 x3.toNatClampNeg).toNatClampNeg)) i_238_85 (k_74 hG) (l_74 hG) o3 rfl (by simp [wF, wJ, va_up, cpR, bF, bA]) ?_
    refine Y_iast (k := 5) i_238_86 (k_86 hG) (l_86 hG) (by decide) (by decide) ?_
    refine Y_al0 i_238_87 ?_
    refine Y_gR i_238_88 ow_238 lf_10_42 (k_68 hG) (r_68_4 hG) ?_
    refine Y_iconst (v := 3) i_238_91 (by decide) ?_
    refine Y_iaload (k := 3) (v := (A 72 3)) i_238_92 (k_72 hG) (l_72 hG) (by decide) (by decide) (by simp [wF, wJ, va_up, cpR, bF, bA]) ?_
    refine Y_zne i_238_93 (fun e4 => ?_) (fun e4 => ?_)
    · replace h := h.1 e4
      refine Y_al0 i_238_96 ?_
      refine Y_gR i_238_97 ow_238 lf_10_55 (k_68 hG) (r_68_9 hG) ?_
      refine Y_il4 i_238_100 ?_
      refine Y_iaload (k := (A 81 x3.toNatClampNeg).toNatClampNeg) (v := (A 77 (A 81 x3.toNatClampNeg).toNatClampNeg)) i_238_102 (k_77 hG) (l_77 hG) o3 rfl (by simp [wF, wJ, va_up, cpR, bF, bA]) ?_
      refine Y_goto i_238_103 ?_
      refine Y_is5 i_238_110 rfl ?_
      refine Y_al0 i_238_112 ?_
      refine Y_gR i_238_113 ow_238 lf_10_73 (k_68 hG) (r_68_24 hG) ?_
      refine Y_il4 i_238_116 ?_
      refine Y_iconst (v := 0) i_238_118 (by decide) ?_
      refine Y_il2 i_238_119 ?_
      refine Y_il5 i_238_120 ?_
      refine Y_min i_238_122 ow_238 lm_10_183 rfl ?_
      refine Y_max i_238_125 ow_238 lm_10_298 rfl ?_
      have o5 := h.1
      replace h := h.2
      refine Y_iast i_238_128 (k_82 hG) (l_82 hG) o5 rfl ?_
      refine Y_il2 i_238_129 ?_
      refine Y_al0 i_238_130 ?_
      refine Y_gR i_238_131 ow_238 lf_10_73 (k_68 hG) (r_68_24 hG) ?_
      refine Y_il4 i_238_134 ?_
      refine Y_iaload (k := (A 81 x3.toNatClampNeg).toNatClampNeg) (v := ((wF (wF (wF (wF (wF (wF (wF A 86 0 x3) 86 1 (A 77 (A 81 x3.toNatClampNeg).toNatClampNeg)) 86 2 x2) 86 3 (A 73 (A 81 x3.toNatClampNeg).toNatClampNeg)) 86 4 (((F 68 28) - 1) - x3)) 86 5 (A 74 (A 81 x3.toNatClampNeg).toNatClampNeg)) 82 (A 81 x3.toNatClampNeg).toNatClampNeg (jmax 0 (jmin x2 (A 77 (A 81 x3.toNatClampNeg).toNatClampNeg)))) 82 (A 81 x3.toNatClampNeg).toNatClampNeg)) i_238_136 (k_82 hG) (l_82 hG) o5 rfl rfl ?_
      refine Y_isub i_238_137 ?_
      refine Y_is2 i_238_138 rfl ?_
      refine Y_ii3 (v := 1) i_238_139 (by decide) rfl ?_
      refine Y_goto i_238_142 ?_
      exact h
    · replace h := h.2 e4
      refine Y_al0 i_238_106 ?_
      exact Y_iv0 (L0 := [.ref 68, .null, .null, .null]) i_238_107 ow_238 lm_10_378 ((k_68 hG).trans ow_237.symm) rfl mx_237 rfl rfl hd_238 h
  · replace h := h.2 e1
    refine Y_il2 i_238_145 ?_
    exact Y_iret i_238_146 rt_238 h
theorem k_238_110 {d : Nat} {F A : Nat → Nat → Int32} {J : Nat → Nat → Int64} {G : pG} {Q : pR → pM → Prop} {SL p q : Nat} {x1 x2 x3 x4 r : Int32} {v5 : Value} (hG : Geo G SL p q) (h : inB x4 10 = true ∧ (X (d + 2) 238 4 [.ref 68, .int x1, .int (x2 - ((wF A 82 x4.toNatClampNeg (jmax 0 (jmin x2 r))) 82 x4.toNatClampNeg)), .int (x3 + 1), .int x4, .int r] [] (F, (wF A 82 x4.toNatClampNeg (jmax 0 (jmin x2 r))), J, G) Q)) : KK (d + 2) 238 110 [.ref 68, .int x1, .int x2, .int x3, .int x4, v5] [] Q (.inl (some (.int r))) (F, A, J, G) := by
  refine KKi ?_
  refine Y_is5 i_238_110 rfl ?_
  refine Y_al0 i_238_112 ?_
  refine Y_gR i_238_113 ow_238 lf_10_73 (k_68 hG) (r_68_24 hG) ?_
  refine Y_il4 i_238_116 ?_
  refine Y_iconst (v := 0) i_238_118 (by decide) ?_
  refine Y_il2 i_238_119 ?_
  refine Y_il5 i_238_120 ?_
  refine Y_min i_238_122 ow_238 lm_10_183 rfl ?_
  refine Y_max i_238_125 ow_238 lm_10_298 rfl ?_
  have o1 := h.1
  replace h := h.2
  refine Y_iast i_238_128 (k_82 hG) (l_82 hG) o1 rfl ?_
  refine Y_il2 i_238_129 ?_
  refine Y_al0 i_238_130 ?_
  refine Y_gR i_238_131 ow_238 lf_10_73 (k_68 hG) (r_68_24 hG) ?_
  refine Y_il4 i_238_134 ?_
  refine Y_iaload (k := x4.toNatClampNeg) (v := ((wF A 82 x4.toNatClampNeg (jmax 0 (jmin x2 r))) 82 x4.toNatClampNeg)) i_238_136 (k_82 hG) (l_82 hG) o1 rfl rfl ?_
  refine Y_isub i_238_137 ?_
  refine Y_is2 i_238_138 rfl ?_
  refine Y_ii3 (v := 1) i_238_139 (by decide) rfl ?_
  refine Y_goto i_238_142 ?_
  exact h
/- 239 Model.supper()I -/
theorem t_239_0 {d : Nat} {F A : Nat → Nat → Int32} {J : Nat → Nat → Int64} {G : pG} {Q : pR → pM → Prop} {SL p q : Nat} (hG : Geo G SL p q) (h : X (d + 2) 228 0 [.ref 68, .null] [] ((wF F 68 3 0), A, J, G) (KK (d + 3) 239 9 [.ref 68] [] Q)) : X (d + 3) 239 0 [.ref 68] [] (F, A, J, G) Q := by
  refine Y_al0 i_239_0 ?_
  refine Y_iconst (v := 0) i_239_1 (by decide) ?_
  refine Y_pI i_239_2 ow_239 lf_10_143 (k_68 hG) ?_
  refine Y_al0 i_239_5 ?_
  exact Y_iv0 (L0 := [.ref 68, .null]) i_239_6 ow_239 lm_10_354 ((k_68 hG).trans ow_228.symm) rfl mx_228 rfl rfl hd_239 h
theorem k_239_9 {d : Nat} {F A : Nat → Nat → Int32} {J : Nat → Nat → Int64} {G : pG} {Q : pR → pM → Prop} {SL p q : Nat} (hG : Geo G SL p q) (h : X (d + 2) 238 0 [.ref 68, .int (A 72 2), .null, .null, .null, .null] [] (F, A, J, G) (KK (d + 3) 239 20 [.ref 68] [.ref 68] Q)) : KK (d + 3) 239 9 [.ref 68] [] Q (.inl none) (F, A, J, G) := by
  refine KKv ?_
  refine Y_al0 i_239_9 ?_
  refine Y_al0 i_239_10 ?_
  refine Y_al0 i_239_11 ?_
  refine Y_gR i_239_12 ow_239 lf_10_42 (k_68 hG) (r_68_4 hG) ?_
  refine Y_iconst (v := 2) i_239_15 (by decide) ?_
  refine Y_iaload (k := 2) (v := (A 72 2)) i_239_16 (k_72 hG) (l_72 hG) (by decide) (by decide) rfl ?_
  exact Y_iv1 (L0 := [.ref 68, .int (A 72 2), .null, .null, .null, .null]) i_239_17 ow_239 lm_10_381 ((k_68 hG).trans ow_238.symm) rfl mx_238 rfl rfl hd_239 h
theorem k_239_20 {d : Nat} {F A : Nat → Nat → Int32} {J : Nat → Nat → Int64} {G : pG} {Q : pR → pM → Prop} {SL p q : Nat} {r : Int32} (hG : Geo G SL p q) (h : Q (.inl (some (.int r))) ((wF F 68 30 r), A, J, G)) : KK (d + 3) 239 20 [.ref 68] [.ref 68] Q (.inl (some (.int r))) (F, A, J, G) := by
  refine KKi ?_
  refine Y_pI i_239_20 ow_239 lf_10_85 (k_68 hG) ?_
  refine Y_al0 i_239_23 ?_
  refine Y_gI (v := r) i_239_24 ow_239 lf_10_85 (by decide) (k_68 hG) (by simp [wF, wJ, va_up, cpR, bF, bA]) ?_
  exact Y_iret i_239_27 rt_239 h
/- 240 Model.years(I)I -/
theorem t_240_0 {d : Nat} {F A : Nat → Nat → Int32} {J : Nat → Nat → Int64} {G : pG} {Q : pR → pM → Prop} {SL p q : Nat} {x1 : Int32} (hG : Geo G SL p q) (h : (((inL x1.toInt64 1 30) = true → ((999 < ((F 68 29) + x1) → Q (.inl (some (.int (-1)))) ((wF F 68 3 0), (wF A 79 1 ((A 79 1) + 1)), J, G)) ∧ (¬ 999 < ((F 68 29) + x1) → X (d + 1) 228 0 [.ref 68, .null] [] ((wF F 68 3 0), A, J, G) (KK (d + 2) 240 39 [.ref 68, .int x1] [] Q)))) ∧ ((inL x1.toInt64 1 30) = false → Q (.inl (some (.int (-1)))) ((wF F 68 3 0), (wF A 79 1 ((A 79 1) + 1)), J, G)))) : X (d + 2) 240 0 [.ref 68, .int x1] [] (F, A, J, G) Q := by
  refine Y_al0 i_240_0 ?_
  refine Y_iconst (v := 0) i_240_1 (by decide) ?_
  refine Y_pI i_240_2 ow_240 lf_10_143 (k_68 hG) ?_
  refine Y_il1 i_240_5 ?_
  refine Y_i2l i_240_6 ?_
  refine Y_lconst (v := 1) i_240_7 (by decide) ?_
  refine Y_ldcL i_240_8 ow_240 lj_10_384 ?_
  refine Y_is_3 (L0 := [.long x1.toInt64, .null, .long 1, .null, .long 30, .null]) i_240_11 ow_240 lm_10_146 rfl mx_178 rfl rfl hd_240 ?_
  refine c_178 hG (KKi ?_)
  refine Y_beq i_240_14 (fun e1 => ?_) (fun e1 => ?_)
  · replace h := h.1 e1
    refine Y_al0 i_240_17 ?_
    refine Y_gI (v := (F 68 29)) i_240_18 ow_240 lf_10_282 (by decide) (k_68 hG) (by simp [wF, wJ, va_up, cpR, bF, bA]) ?_
    refine Y_il1 i_240_21 ?_
    refine Y_iadd i_240_22 ?_
    refine Y_sipush (v := 999) i_240_23 (by decide) ?_
    refine Y_cle i_240_26 (fun e2 => ?_) (fun e2 => ?_)
    · replace h := h.1 e2
      refine Y_al0 i_240_29 ?_
      refine Y_iconst (v := 1) i_240_30 (by decide) ?_
      refine Y_iv1 (L0 := [.ref 68, .int 1]) i_240_31 ow_240 lm_10_351 ((k_68 hG).trans ow_226.symm) rfl mx_226 rfl rfl hd_240 ?_
      refine Y_al0 i_226_0 ?_
      refine Y_gR i_226_1 ow_226 lf_10_60 (k_68 hG) (r_68_11 hG) ?_
      refine Y_il1 i_226_4 ?_
      refine Y_dup2 i_226_5 rfl rfl ?_
      refine Y_iaload (k := 1) (v := (A 79 1)) i_226_6 (k_79 hG) (l_79 hG) (by decide) (by decide) rfl ?_
      refine Y_iconst (v := 1) i_226_7 (by decide) ?_
      refine Y_iadd i_226_8 ?_
      refine Y_iast (k := 1) i_226_9 (k_79 hG) (l_79 hG) (by decide) (by decide) ?_
      refine Y_iconst (v := (-1)) i_226_10 (by decide) ?_
      refine Y_iret i_226_11 rt_226 (KKi ?_)
      exact Y_iret i_240_34 rt_240 h
    · replace h := h.2 e2
      refine Y_al0 i_240_35 ?_
      exact Y_iv0 (L0 := [.ref 68, .null]) i_240_36 ow_240 lm_10_354 ((k_68 hG).trans ow_228.symm) rfl mx_228 rfl rfl hd_240 h
  · replace h := h.2 e1
    refine Y_al0 i_240_29 ?_
    refine Y_iconst (v := 1) i_240_30 (by decide) ?_
    refine Y_iv1 (L0 := [.ref 68, .int 1]) i_240_31 ow_240 lm_10_351 ((k_68 hG).trans ow_226.symm) rfl mx_226 rfl rfl hd_240 ?_
    refine Y_al0 i_226_0 ?_
    refine Y_gR i_226_1 ow_226 lf_10_60 (k_68 hG) (r_68_11 hG) ?_
    refine Y_il1 i_226_4 ?_
    refine Y_dup2 i_226_5 rfl rfl ?_
    refine Y_iaload (k := 1) (v := (A 79 1)) i_226_6 (k_79 hG) (l_79 hG) (by decide) (by decide) rfl ?_
    refine Y_iconst (v := 1) i_226_7 (by decide) ?_
    refine Y_iadd i_226_8 ?_
    refine Y_iast (k := 1) i_226_9 (k_79 hG) (l_79 hG) (by decide) (by decide) ?_
    refine Y_iconst (v := (-1)) i_226_10 (by decide) ?_
    refine Y_iret i_226_11 rt_226 (KKi ?_)
    exact Y_iret i_240_34 rt_240 h
theorem k_240_39 {d : Nat} {F A : Nat → Nat → Int32} {J : Nat → Nat → Int64} {G : pG} {Q : pR → pM → Prop} {SL p q : Nat} {x1 : Int32} (hG : Geo G SL p q) (h : Q (.inl (some (.int ((F 68 29) + x1)))) ((wF F 68 29 ((F 68 29) + x1)), A, J, G)) : KK (d + 2) 240 39 [.ref 68, .int x1] [] Q (.inl none) (F, A, J, G) := by
  refine KKv ?_
  refine Y_al0 i_240_39 ?_
  refine Y_dup i_240_40 rfl ?_
  refine Y_gI (v := (F 68 29)) i_240_41 ow_240 lf_10_282 (by decide) (k_68 hG) rfl ?_
  refine Y_il1 i_240_44 ?_
  refine Y_iadd i_240_45 ?_
  refine Y_pI i_240_46 ow_240 lf_10_282 (k_68 hG) ?_
  refine Y_al0 i_240_49 ?_
  refine Y_gI (v := ((F 68 29) + x1)) i_240_50 ow_240 lf_10_282 (by decide) (k_68 hG) (by simp [wF, wJ, va_up, cpR, bF, bA]) ?_
  exact Y_iret i_240_53 rt_240 h
/- 241 Model.undo()I -/
theorem t_241_0 {d : Nat} {F A : Nat → Nat → Int32} {J : Nat → Nat → Int64} {G : pG} {Q : pR → pM → Prop} {SL p q : Nat} (hG : Geo G SL p q) (h : (((F 68 31) = 0 → Q (.inl (some (.int (-1)))) ((wF F 68 3 0), A, J, G)) ∧ (¬ (F 68 31) = 0 → X d 208 0 [.ref 68, .ref 85, .int ((43 : Int32) * ((F 68 31) - 1)), .null] [] ((wF (wF F 68 3 0) 68 31 ((F 68 31) - 1)), A, J, G) (KK (d + 1) 241 39 [.ref 68] [] Q)))) : X (d + 1) 241 0 [.ref 68] [] (F, A, J, G) Q := by
  refine Y_al0 i_241_0 ?_
  refine Y_iconst (v := 0) i_241_1 (by decide) ?_
  refine Y_pI i_241_2 ow_241 lf_10_143 (k_68 hG) ?_
  refine Y_al0 i_241_5 ?_
  refine Y_gI (v := (F 68 31)) i_241_6 ow_241 lf_10_285 (by decide) (k_68 hG) (by simp [wF, wJ, va_up, cpR, bF, bA]) ?_
  refine Y_zne i_241_9 (fun e1 => ?_) (fun e1 => ?_)
  · replace h := h.1 e1
    refine Y_iconst (v := (-1)) i_241_12 (by decide) ?_
    exact Y_iret i_241_13 rt_241 h
  · replace h := h.2 e1
    refine Y_al0 i_241_14 ?_
    refine Y_dup i_241_15 rfl ?_
    refine Y_gI (v := (F 68 31)) i_241_16 ow_241 lf_10_285 (by decide) (k_68 hG) (by simp [wF, wJ, va_up, cpR, bF, bA]) ?_
    refine Y_iconst (v := 1) i_241_19 (by decide) ?_
    refine Y_isub i_241_20 ?_
    refine Y_pI i_241_21 ow_241 lf_10_285 (k_68 hG) ?_
    refine Y_al0 i_241_24 ?_
    refine Y_al0 i_241_25 ?_
    refine Y_gR i_241_26 ow_241 lf_10_82 (k_68 hG) (r_68_27 hG) ?_
    refine Y_bipush (v := 43) i_241_29 (by decide) ?_
    refine Y_al0 i_241_31 ?_
    refine Y_gI (v := ((F 68 31) - 1)) i_241_32 ow_241 lf_10_285 (by decide) (k_68 hG) (by simp [wF, wJ, va_up, cpR, bF, bA]) ?_
    refine Y_imul i_241_35 ?_
    exact Y_iv2 (L0 := [.ref 68, .ref 85, .int ((43 : Int32) * ((F 68 31) - 1)), .null]) i_241_36 ow_241 lm_10_386 ((k_68 hG).trans ow_208.symm) rfl mx_208 rfl rfl hd_241 h
theorem k_241_39 {d : Nat} {F A : Nat → Nat → Int32} {J : Nat → Nat → Int64} {G : pG} {Q : pR → pM → Prop} {SL p q : Nat} (hG : Geo G SL p q) (h : Q (.inl (some (.int (F 68 31)))) (F, A, J, G)) : KK (d + 1) 241 39 [.ref 68] [] Q (.inl none) (F, A, J, G) := by
  refine KKv ?_
  refine Y_al0 i_241_39 ?_
  refine Y_gI (v := (F 68 31)) i_241_40 ow_241 lf_10_285 (by decide) (k_68 hG) rfl ?_
  exact Y_iret i_241_43 rt_241 h
/- 242 Model.more()I -/
theorem t_242_0 {d : Nat} {F A : Nat → Nat → Int32} {J : Nat → Nat → Int64} {G : pG} {Q : pR → pM → Prop} {SL p q : Nat} (hG : Geo G SL p q) (h : X (d + 6) 219 0 [.ref 68, .null, .null] [] ((wF F 68 3 0), A, J, G) (KK (d + 7) 242 9 [.ref 68] [] Q)) : X (d + 7) 242 0 [.ref 68] [] (F, A, J, G) Q := by
  refine Y_al0 i_242_0 ?_
  refine Y_iconst (v := 0) i_242_1 (by decide) ?_
  refine Y_pI i_242_2 ow_242 lf_10_143 (k_68 hG) ?_
  refine Y_al0 i_242_5 ?_
  exact Y_iv0 (L0 := [.ref 68, .null, .null]) i_242_6 ow_242 lm_10_389 ((k_68 hG).trans ow_219.symm) rfl mx_219 rfl rfl hd_242 h
theorem k_242_9 {d : Nat} {F A : Nat → Nat → Int32} {J : Nat → Nat → Int64} {G : pG} {Q : pR → pM → Prop} {SL p q : Nat} {r : Int32} (hG : Geo G SL p q) (h : Q (.inl (some (.int r))) (F, A, J, G)) : KK (d + 7) 242 9 [.ref 68] [] Q (.inl (some (.int r))) (F, A, J, G) := by
  refine KKi ?_
  exact Y_iret i_242_9 rt_242 h
/- 243 Model.without(I)Z -/
theorem t_243_0 {d : Nat} {F A : Nat → Nat → Int32} {J : Nat → Nat → Int64} {G : pG} {Q : pR → pM → Prop} {SL p q : Nat} {x1 : Int32} (hG : Geo G SL p q) (h : hB (A 72 0) = true ∧ (((inR x1 (A 72 0)) = true → hB ((wF F 68 3 0) 68 28) = true ∧ (((lvI (A 81) ((wF F 68 3 0) 68 28) x1) = (-1) → Q (.inl (some (.int 0))) ((wF F 68 3 0), A, J, G)) ∧ (¬ (lvI (A 81) ((wF F 68 3 0) 68 28) x1) = (-1) → X (d + 5) 207 0 [.ref 68, .ref 88, .int 0, .null] [] ((wF F 68 3 0), A, J, G) (KK (d + 6) 243 39 [.ref 68, .int x1, .null] [] Q)))) ∧ ((inR x1 (A 72 0)) = false → Q (.inl (some (.int 0))) ((wF (wF F 68 3 0) 68 3 1), A, J, G)))) : X (d + 6) 243 0 [.ref 68, .int x1, .null] [] (F, A, J, G) Q := by
  refine Y_al0 i_243_0 ?_
  refine Y_iconst (v := 0) i_243_1 (by decide) ?_
  refine Y_pI i_243_2 ow_243 lf_10_143 (k_68 hG) ?_
  refine Y_al0 i_243_5 ?_
  refine Y_il1 i_243_6 ?_
  have o1 := h.1
  replace h := h.2
  refine Y_iv1 (L0 := [.ref 68, .int x1]) i_243_7 ow_243 lm_10_333 ((k_68 hG).trans ow_180.symm) rfl mx_180 rfl rfl hd_243 ?_
  refine c_180 hG o1 (KKi ?_)
  refine Y_bne i_243_10 (fun e2 => ?_) (fun e2 => ?_)
  · replace h := h.1 e2
    refine Y_al0 i_243_19 ?_
    refine Y_il1 i_243_20 ?_
    have o3 := h.1
    replace h := h.2
    refine Y_iv1 (L0 := [.ref 68, .int x1, .null]) i_243_21 ow_243 lm_10_336 ((k_68 hG).trans ow_209.symm) rfl mx_209 rfl rfl hd_243 ?_
    refine c_209 hG o3 (KKi ?_)
    refine Y_iconst (v := (-1)) i_243_24 (by decide) ?_
    refine Y_cne i_243_25 (fun e4 => ?_) (fun e4 => ?_)
    · replace h := h.1 e4
      refine Y_iconst (v := 0) i_243_28 (by decide) ?_
      exact Y_bret i_243_29 rt_243 (by decide) h
    · replace h := h.2 e4
      refine Y_al0 i_243_30 ?_
      refine Y_al0 i_243_31 ?_
      refine Y_gR i_243_32 ow_243 lf_10_94 (k_68 hG) (r_68_35 hG) ?_
      refine Y_iconst (v := 0) i_243_35 (by decide) ?_
      exact Y_iv2 (L0 := [.ref 68, .ref 88, .int 0, .null]) i_243_36 ow_243 lm_10_347 ((k_68 hG).trans ow_207.symm) rfl mx_207 rfl rfl hd_243 h
  · replace h := h.2 e2
    refine Y_al0 i_243_13 ?_
    refine Y_iconst (v := 1) i_243_14 (by decide) ?_
    refine Y_iv1 (L0 := [.ref 68, .int 1]) i_243_15 ow_243 lm_10_360 ((k_68 hG).trans ow_177.symm) rfl mx_177 rfl rfl hd_243 ?_
    refine Y_al0 i_177_0 ?_
    refine Y_il1 i_177_1 ?_
    refine Y_pI i_177_2 ow_177 lf_10_143 (k_68 hG) ?_
    refine Y_iconst (v := 0) i_177_5 (by decide) ?_
    refine Y_bret i_177_6 rt_177 (by decide) (KKi ?_)
    exact Y_bret i_243_18 rt_243 (by decide) h
theorem k_243_39 {d : Nat} {F A : Nat → Nat → Int32} {J : Nat → Nat → Int64} {G : pG} {Q : pR → pM → Prop} {SL p q : Nat} {x1 : Int32} (hG : Geo G SL p q) (h : X (d + 5) 230 0 [.ref 68, .int x1, .null, .null] [] (F, A, J, G) (KK (d + 6) 243 44 [.ref 68, .int x1, .null] [] Q)) : KK (d + 6) 243 39 [.ref 68, .int x1, .null] [] Q (.inl none) (F, A, J, G) := by
  refine KKv ?_
  refine Y_al0 i_243_39 ?_
  refine Y_il1 i_243_40 ?_
  exact Y_iv1 (L0 := [.ref 68, .int x1, .null, .null]) i_243_41 ow_243 lm_10_357 ((k_68 hG).trans ow_230.symm) rfl mx_230 rfl rfl hd_243 h
theorem k_243_44 {d : Nat} {F A : Nat → Nat → Int32} {J : Nat → Nat → Int64} {G : pG} {Q : pR → pM → Prop} {SL p q : Nat} {x1 : Int32} (hG : Geo G SL p q) (h : X (d + 5) 218 0 [.ref 68] [] (F, A, J, G) (KK (d + 6) 243 48 [.ref 68, .int x1, .null] [] Q)) : KK (d + 6) 243 44 [.ref 68, .int x1, .null] [] Q (.inl none) (F, A, J, G) := by
  refine KKv ?_
  refine Y_al0 i_243_44 ?_
  exact Y_iv0 (L0 := [.ref 68]) i_243_45 ow_243 lm_10_326 ((k_68 hG).trans ow_218.symm) rfl mx_218 rfl rfl hd_243 h
theorem k_243_48 {d : Nat} {F A : Nat → Nat → Int32} {J : Nat → Nat → Int64} {G : pG} {Q : pR → pM → Prop} {SL p q : Nat} {x1 r : Int32} (hG : Geo G SL p q) (h : X (d + 5) 208 0 [.ref 68, .ref 88, .int 0, .null] [] (F, A, J, G) (KK (d + 6) 243 58 [.ref 68, .int x1, .int r] [] Q)) : KK (d + 6) 243 48 [.ref 68, .int x1, .null] [] Q (.inl (some (.int r))) (F, A, J, G) := by
  refine KKi ?_
  refine Y_is2 i_243_48 rfl ?_
  refine Y_al0 i_243_49 ?_
  refine Y_al0 i_243_50 ?_
  refine Y_gR i_243_51 ow_243 lf_10_94 (k_68 hG) (r_68_35 hG) ?_
  refine Y_iconst (v := 0) i_243_54 (by decide) ?_
  exact Y_iv2 (L0 := [.ref 68, .ref 88, .int 0, .null]) i_243_55 ow_243 lm_10_386 ((k_68 hG).trans ow_208.symm) rfl mx_208 rfl rfl hd_243 h
theorem k_243_58 {d : Nat} {F A : Nat → Nat → Int32} {J : Nat → Nat → Int64} {G : pG} {Q : pR → pM → Prop} {SL p q : Nat} {x1 x2 : Int32} (hG : Geo G SL p q) (h : (x2 = 0 ∨ x2 = 1) ∧ (Q (.inl (some (.int x2))) (F, A, J, G))) : KK (d + 6) 243 58 [.ref 68, .int x1, .int x2] [] Q (.inl none) (F, A, J, G) := by
  refine KKv ?_
  refine Y_il2 i_243_58 ?_
  have o1 := h.1
  replace h := h.2
  exact Y_bret i_243_59 rt_243 o1 h
/- 244 Model.tellSums()V -/
theorem t_244_0 {d : Nat} {F A : Nat → Nat → Int32} {J : Nat → Nat → Int64} {G : pG} {Q : pR → pM → Prop} {SL p q : Nat} (hG : Geo G SL p q) (h : X (d + 1) 244 16 [.ref 68, .int 0, .null] [] (F, (wF (wF A 89 0 0) 90 0 0), J, G) Q) : X (d + 1) 244 0 [.ref 68, .null, .null] [] (F, A, J, G) Q := by
  refine Y_al0 i_244_0 ?_
  refine Y_gR i_244_1 ow_244 lf_10_97 (k_68 hG) (r_68_36 hG) ?_
  refine Y_iconst (v := 0) i_244_4 (by decide) ?_
  refine Y_iconst (v := 0) i_244_5 (by decide) ?_
  refine Y_iast (k := 0) i_244_6 (k_89 hG) (l_89 hG) (by decide) (by decide) ?_
  refine Y_al0 i_244_7 ?_
  refine Y_gR i_244_8 ow_244 lf_10_100 (k_68 hG) (r_68_37 hG) ?_
  refine Y_iconst (v := 0) i_244_11 (by decide) ?_
  refine Y_iconst (v := 0) i_244_12 (by decide) ?_
  refine Y_iast (k := 0) i_244_13 (k_90 hG) (l_90 hG) (by decide) (by decide) ?_
  refine Y_iconst (v := 0) i_244_14 (by decide) ?_
  refine Y_is1 i_244_15 rfl ?_
  exact h
theorem t_244_16 {d : Nat} {F A : Nat → Nat → Int32} {J : Nat → Nat → Int64} {G : pG} {Q : pR → pM → Prop} {SL p q : Nat} {x1 : Int32} {v2 : Value} (hG : Geo G SL p q) (h : ((x1 < (A 72 0) → X (d + 1) 244 28 [.ref 68, .int x1, .int 0] [] (F, A, J, G) Q) ∧ (¬ x1 < (A 72 0) → Q (.inl none) (F, A, J, G)))) : X (d + 1) 244 16 [.ref 68, .int x1, v2] [] (F, A, J, G) Q := by
  refine Y_il1 i_244_16 ?_
  refine Y_al0 i_244_17 ?_
  refine Y_gR i_244_18 ow_244 lf_10_42 (k_68 hG) (r_68_4 hG) ?_
  refine Y_iconst (v := 0) i_244_21 (by decide) ?_
  refine Y_iaload (k := 0) (v := (A 72 0)) i_244_22 (k_72 hG) (l_72 hG) (by decide) (by decide) rfl ?_
  refine Y_cge i_244_23 (fun e1 => ?_) (fun e1 => ?_)
  · replace h := h.1 e1
    refine Y_iconst (v := 0) i_244_26 (by decide) ?_
    refine Y_is2 i_244_27 rfl ?_
    exact h
  · replace h := h.2 e1
    exact Y_vret i_244_99 rt_244 h
theorem t_244_28 {d : Nat} {F A : Nat → Nat → Int32} {J : Nat → Nat → Int64} {G : pG} {Q : pR → pM → Prop} {SL p q : Nat} {x1 x2 : Int32} (hG : Geo G SL p q) (h : ((x2 < ((1 : Int32) <<< (x1 &&& 31)) → inB x2 1024 = true ∧ inB x1 20 = true ∧ inB x1 10 = true ∧ inB (x2 ||| ((1 : Int32) <<< (x1 &&& 31))) 1024 = true ∧ (X (d + 1) 244 28 [.ref 68, .int x1, .int (x2 + 1)] [] (F, (wF (wF A 89 (x2 ||| ((1 : Int32) <<< (x1 &&& 31))).toNatClampNeg (((A 89 x2.toNatClampNeg) + (A 74 x1.toNatClampNeg)) + (A 82 x1.toNatClampNeg))) 90 (x2 ||| ((1 : Int32) <<< (x1 &&& 31))).toNatClampNeg ((A 90 x2.toNatClampNeg) + (lnS (A 73 x1.toNatClampNeg) (A 84 x1.toNatClampNeg) (A 83 x1.toNatClampNeg)))), J, G) Q)) ∧ (¬ x2 < ((1 : Int32) <<< (x1 &&& 31)) → X (d + 1) 244 16 [.ref 68, .int (x1 + 1), .int x2] [] (F, A, J, G) Q))) : X (d + 1) 244 28 [.ref 68, .int x1, .int x2] [] (F, A, J, G) Q := by
  refine Y_il2 i_244_28 ?_
  refine Y_iconst (v := 1) i_244_29 (by decide) ?_
  refine Y_il1 i_244_30 ?_
  refine Y_ishl i_244_31 ?_
  refine Y_cge i_244_32 (fun e1 => ?_) (fun e1 => ?_)
  · replace h := h.1 e1
    refine Y_al0 i_244_35 ?_
    refine Y_gR i_244_36 ow_244 lf_10_97 (k_68 hG) (r_68_36 hG) ?_
    refine Y_il2 i_244_39 ?_
    refine Y_iconst (v := 1) i_244_40 (by decide) ?_
    refine Y_il1 i_244_41 ?_
    refine Y_ishl i_244_42 ?_
    refine Y_ior i_244_43 ?_
    refine Y_al0 i_244_44 ?_
    refine Y_gR i_244_45 ow_244 lf_10_97 (k_68 hG) (r_68_36 hG) ?_
    refine Y_il2 i_244_48 ?_
    have o2 := h.1
    replace h := h.2
    refine Y_iaload (k := x2.toNatClampNeg) (v := (A 89 x2.toNatClampNeg)) i_244_49 (k_89 hG) (l_89 hG) o2 rfl rfl ?_
    refine Y_al0 i_244_50 ?_
    refine Y_gR i_244_51 ow_244 lf_10_47 (k_68 hG) (r_68_6 hG) ?_
    refine Y_il1 i_244_54 ?_
    have o3 := h.1
    replace h := h.2
    refine Y_iaload (k := x1.toNatClampNeg) (v := (A 74 x1.toNatClampNeg)) i_244_55 (k_74 hG) (l_74 hG) o3 rfl rfl ?_
    refine Y_iadd i_244_56 ?_
    refine Y_al0 i_244_57 ?_
    refine Y_gR i_244_58 ow_244 lf_10_73 (k_68 hG) (r_68_24 hG) ?_
    refine Y_il1 i_244_61 ?_
    have o4 := h.1
    replace h := h.2
    refine Y_iaload (k := x1.toNatClampNeg) (v := (A 82 x1.toNatClampNeg)) i_244_62 (k_82 hG) (l_82 hG) o4 rfl rfl ?_
    refine Y_iadd i_244_63 ?_
    have o5 := h.1
    replace h := h.2
    refine Y_iast i_244_64 (k_89 hG) (l_89 hG) o5 rfl ?_
    refine Y_al0 i_244_65 ?_
    refine Y_gR i_244_66 ow_244 lf_10_100 (k_68 hG) (r_68_37 hG) ?_
    refine Y_il2 i_244_69 ?_
    refine Y_iconst (v := 1) i_244_70 (by decide) ?_
    refine Y_il1 i_244_71 ?_
    refine Y_ishl i_244_72 ?_
    refine Y_ior i_244_73 ?_
    refine Y_al0 i_244_74 ?_
    refine Y_gR i_244_75 ow_244 lf_10_100 (k_68 hG) (r_68_37 hG) ?_
    refine Y_il2 i_244_78 ?_
    refine Y_iaload (k := x2.toNatClampNeg) (v := (A 90 x2.toNatClampNeg)) i_244_79 (k_90 hG) (l_90 hG) o2 rfl (by simp [wF, wJ, va_up, cpR, bF, bA]) ?_
    refine Y_al0 i_244_80 ?_
    refine Y_il1 i_244_81 ?_
    refine Y_iv1 (L0 := [.ref 68, .int x1]) i_244_82 ow_244 lm_10_305 ((k_68 hG).trans ow_212.symm) rfl mx_212 rfl rfl hd_244 ?_
    refine c_212 hG o4 (KKi' (v' := (lnS (A 73 x1.toNatClampNeg) (A 84 x1.toNatClampNeg) (A 83 x1.toNatClampNeg))) (by simp [wF, wJ, va_up, cpR, bF, bA]) ?_)
    refine Y_iadd i_244_85 ?_
    refine Y_iast i_244_86 (k_90 hG) (l_90 hG) o5 rfl ?_
    refine Y_ii2 (v := 1) i_244_87 (by decide) rfl ?_
    refine Y_goto i_244_90 ?_
    exact h
  · replace h := h.2 e1
    refine Y_ii1 (v := 1) i_244_93 (by decide) rfl ?_
    refine Y_goto i_244_96 ?_
    exact h
/- 246 Model.fits(III)Z -/
theorem t_246_0 {d : Nat} {F A : Nat → Nat → Int32} {J : Nat → Nat → Int64} {G : pG} {Q : pR → pM → Prop} {SL p q : Nat} {x1 x2 x3 : Int32} (hG : Geo G SL p q) (h : (((isO (F 68 39) x2) = true → inB x1 1024 = true ∧ (((nI (pcn x1.toNatClampNeg)) < (F 68 40) → Q (.inl (some (.int 0))) (F, A, J, G)) ∧ (¬ (nI (pcn x1.toNatClampNeg)) < (F 68 40) → inB x3 1024 = true ∧ inB (x1 ||| ((1 : Int32) <<< (x2 &&& 31))) 1024 = true ∧ inB x2 10 = true ∧ (((x1 ||| ((1 : Int32) <<< (x2 &&& 31))) = x3 → inB x2 20 = true ∧ inB (A 73 x2.toNatClampNeg) 4 = true ∧ Wrm A ∧ (((carS (A 73 x2.toNatClampNeg) (A 75 x2.toNatClampNeg) (F 68 29) 1) < (((A 89 x3.toNatClampNeg) - (A 89 (x1 ||| ((1 : Int32) <<< (x2 &&& 31))).toNatClampNeg)) + (A 82 x2.toNatClampNeg)) → Q (.inl (some (.int 0))) (F, A, J, G)) ∧ (¬ (carS (A 73 x2.toNatClampNeg) (A 75 x2.toNatClampNeg) (F 68 29) 1) < (((A 89 x3.toNatClampNeg) - (A 89 (x1 ||| ((1 : Int32) <<< (x2 &&& 31))).toNatClampNeg)) + (A 82 x2.toNatClampNeg)) → (((A 72 1) < (jabs (A 90 (x1 ||| ((1 : Int32) <<< (x2 &&& 31))).toNatClampNeg)) → Q (.inl (some (.int 0))) (F, A, J, G)) ∧ (¬ (A 72 1) < (jabs (A 90 (x1 ||| ((1 : Int32) <<< (x2 &&& 31))).toNatClampNeg)) → Q (.inl (some (.int 1))) (F, A, J, G)))))) ∧ (¬ (x1 ||| ((1 : Int32) <<< (x2 &&& 31))) = x3 → inB x2 20 = true ∧ inB (A 73 x2.toNatClampNeg) 4 = true ∧ Wrm A ∧ (((carS (A 73 x2.toNatClampNeg) (A 75 x2.toNatClampNeg) (F 68 29) 0) < (((A 89 x3.toNatClampNeg) - (A 89 (x1 ||| ((1 : Int32) <<< (x2 &&& 31))).toNatClampNeg)) + (A 82 x2.toNatClampNeg)) → Q (.inl (some (.int 0))) (F, A, J, G)) ∧ (¬ (carS (A 73 x2.toNatClampNeg) (A 75 x2.toNatClampNeg) (F 68 29) 0) < (((A 89 x3.toNatClampNeg) - (A 89 (x1 ||| ((1 : Int32) <<< (x2 &&& 31))).toNatClampNeg)) + (A 82 x2.toNatClampNeg)) → (((A 72 1) < (jabs (A 90 (x1 ||| ((1 : Int32) <<< (x2 &&& 31))).toNatClampNeg)) → Q (.inl (some (.int 0))) (F, A, J, G)) ∧ (¬ (A 72 1) < (jabs (A 90 (x1 ||| ((1 : Int32) <<< (x2 &&& 31))).toNatClampNeg)) → Q (.inl (some (.int 1))) (F, A, J, G)))))))))) ∧ ((isO (F 68 39) x2) = false → inB x3 1024 = true ∧ inB (x1 ||| ((1 : Int32) <<< (x2 &&& 31))) 1024 = true ∧ inB x2 10 = true ∧ (((x1 ||| ((1 : Int32) <<< (x2 &&& 31))) = x3 → inB x2 20 = true ∧ inB (A 73 x2.toNatClampNeg) 4 = true ∧ Wrm A ∧ (((carS (A 73 x2.toNatClampNeg) (A 75 x2.toNatClampNeg) (F 68 29) 1) < (((A 89 x3.toNatClampNeg) - (A 89 (x1 ||| ((1 : Int32) <<< (x2 &&& 31))).toNatClampNeg)) + (A 82 x2.toNatClampNeg)) → Q (.inl (some (.int 0))) (F, A, J, G)) ∧ (¬ (carS (A 73 x2.toNatClampNeg) (A 75 x2.toNatClampNeg) (F 68 29) 1) < (((A 89 x3.toNatClampNeg) - (A 89 (x1 ||| ((1 : Int32) <<< (x2 &&& 31))).toNatClampNeg)) + (A 82 x2.toNatClampNeg)) → (((A 72 1) < (jabs (A 90 (x1 ||| ((1 : Int32) <<< (x2 &&& 31))).toNatClampNeg)) → Q (.inl (some (.int 0))) (F, A, J, G)) ∧ (¬ (A 72 1) < (jabs (A 90 (x1 ||| ((1 : Int32) <<< (x2 &&& 31))).toNatClampNeg)) → Q (.inl (some (.int 1))) (F, A, J, G)))))) ∧ (¬ (x1 ||| ((1 : Int32) <<< (x2 &&& 31))) = x3 → inB x2 20 = true ∧ inB (A 73 x2.toNatClampNeg) 4 = true ∧ Wrm A ∧ (((carS (A 73 x2.toNatClampNeg) (A 75 x2.toNatClampNeg) (F 68 29) 0) < (((A 89 x3.toNatClampNeg) - (A 89 (x1 ||| ((1 : Int32) <<< (x2 &&& 31))).toNatClampNeg)) + (A 82 x2.toNatClampNeg)) → Q (.inl (some (.int 0))) (F, A, J, G)) ∧ (¬ (carS (A 73 x2.toNatClampNeg) (A 75 x2.toNatClampNeg) (F 68 29) 0) < (((A 89 x3.toNatClampNeg) - (A 89 (x1 ||| ((1 : Int32) <<< (x2 &&& 31))).toNatClampNeg)) + (A 82 x2.toNatClampNeg)) → (((A 72 1) < (jabs (A 90 (x1 ||| ((1 : Int32) <<< (x2 &&& 31))).toNatClampNeg)) → Q (.inl (some (.int 0))) (F, A, J, G)) ∧ (¬ (A 72 1) < (jabs (A 90 (x1 ||| ((1 : Int32) <<< (x2 &&& 31))).toNatClampNeg)) → Q (.inl (some (.int 1))) (F, A, J, G)))))))))) : X (d + 2) 246 0 [.ref 68, .int x1, .int x2, .int x3, .null] [] (F, A, J, G) Q := by
  refine Y_il1 i_246_0 ?_
  refine Y_iconst (v := 1) i_246_1 (by decide) ?_
  refine Y_il2 i_246_2 ?_
  refine Y_ishl i_246_3 ?_
  refine Y_ior i_246_4 ?_
  refine Y_is4 i_246_5 rfl ?_
  refine Y_al0 i_246_7 ?_
  refine Y_gI (v := (F 68 39)) i_246_8 ow_246 lf_10_392 (by decide) (k_68 hG) rfl ?_
  refine Y_il2 i_246_11 ?_
  refine Y_is_2 (L0 := [.int (F 68 39), .int x2]) i_246_12 ow_246 lm_10_395 rfl mx_179 rfl rfl hd_246 ?_
  refine c_179 hG (KKi ?_)
  refine Y_beq i_246_15 (fun e1 => ?_) (fun e1 => ?_)
  · replace h := h.1 e1
    refine Y_il1 i_246_18 ?_
    have o2 := h.1
    replace h := h.2
    refine Y_is_1 (L0 := [.int x1, .null, .null]) i_246_19 ow_246 lm_10_399 rfl mx_245 rfl rfl hd_246 ?_
    refine c_245 hG o2 (KKi ?_)
    refine Y_al0 i_246_22 ?_
    refine Y_gI (v := (F 68 40)) i_246_23 ow_246 lf_10_402 (by decide) (k_68 hG) rfl ?_
    refine Y_cge i_246_26 (fun e3 => ?_) (fun e3 => ?_)
    · replace h := h.1 e3
      refine Y_iconst (v := 0) i_246_29 (by decide) ?_
      exact Y_bret i_246_30 rt_246 (by decide) h
    · replace h := h.2 e3
      refine Y_al0 i_246_31 ?_
      refine Y_gR i_246_32 ow_246 lf_10_97 (k_68 hG) (r_68_36 hG) ?_
      refine Y_il3 i_246_35 ?_
      have o4 := h.1
      replace h := h.2
      refine Y_iaload (k := x3.toNatClampNeg) (v := (A 89 x3.toNatClampNeg)) i_246_36 (k_89 hG) (l_89 hG) o4 rfl rfl ?_
      refine Y_al0 i_246_37 ?_
      refine Y_gR i_246_38 ow_246 lf_10_97 (k_68 hG) (r_68_36 hG) ?_
      refine Y_il4 i_246_41 ?_
      have o5 := h.1
      replace h := h.2
      refine Y_iaload (k := (x1 ||| ((1 : Int32) <<< (x2 &&& 31))).toNatClampNeg) (v := (A 89 (x1 ||| ((1 : Int32) <<< (x2 &&& 31))).toNatClampNeg)) i_246_43 (k_89 hG) (l_89 hG) o5 rfl rfl ?_
      refine Y_isub i_246_44 ?_
      refine Y_al0 i_246_45 ?_
      refine Y_gR i_246_46 ow_246 lf_10_73 (k_68 hG) (r_68_24 hG) ?_
      refine Y_il2 i_246_49 ?_
      have o6 := h.1
      replace h := h.2
      refine Y_iaload (k := x2.toNatClampNeg) (v := (A 82 x2.toNatClampNeg)) i_246_50 (k_82 hG) (l_82 hG) o6 rfl rfl ?_
      refine Y_iadd i_246_51 ?_
      refine Y_al0 i_246_52 ?_
      refine Y_il2 i_246_53 ?_
      refine Y_il4 i_246_54 ?_
      refine Y_il3 i_246_56 ?_
      refine Y_cne i_246_57 (fun e7 => ?_) (fun e7 => ?_)
      · replace h := h.1 e7
        refine Y_iconst (v := 1) i_246_60 (by decide) ?_
        refine Y_goto i_246_61 ?_
        have o8 := h.1
        replace h := h.2
        have o9 := h.1
        replace h := h.2
        have o10 := h.1
        replace h := h.2
        refine Y_iv2 (L0 := [.ref 68, .int x2, .int 1, .null]) i_246_65 ow_246 lm_10_301 ((k_68 hG).trans ow_211.symm) rfl mx_211 rfl rfl hd_246 ?_
        refine c_211 hG o8 o9 o10 (KKi ?_)
        refine Y_cgt i_246_68 (fun e11 => ?_) (fun e11 => ?_)
        · replace h := h.1 e11
          refine Y_iconst (v := 0) i_246_94 (by decide) ?_
          exact Y_bret i_246_95 rt_246 (by decide) h
        · replace h := h.2 e11
          refine Y_al0 i_246_71 ?_
          refine Y_gR i_246_72 ow_246 lf_10_100 (k_68 hG) (r_68_37 hG) ?_
          refine Y_il4 i_246_75 ?_
          refine Y_iaload (k := (x1 ||| ((1 : Int32) <<< (x2 &&& 31))).toNatClampNeg) (v := (A 90 (x1 ||| ((1 : Int32) <<< (x2 &&& 31))).toNatClampNeg)) i_246_77 (k_90 hG) (l_90 hG) o5 rfl rfl ?_
          refine Y_abs i_246_78 ow_246 lm_10_317 rfl ?_
          refine Y_al0 i_246_81 ?_
          refine Y_gR i_246_82 ow_246 lf_10_42 (k_68 hG) (r_68_4 hG) ?_
          refine Y_iconst (v := 1) i_246_85 (by decide) ?_
          refine Y_iaload (k := 1) (v := (A 72 1)) i_246_86 (k_72 hG) (l_72 hG) (by decide) (by decide) rfl ?_
          refine Y_cgt i_246_87 (fun e12 => ?_) (fun e12 => ?_)
          · replace h := h.1 e12
            refine Y_iconst (v := 0) i_246_94 (by decide) ?_
            exact Y_bret i_246_95 rt_246 (by decide) h
          · replace h := h.2 e12
            refine Y_iconst (v := 1) i_246_90 (by decide) ?_
            refine Y_goto i_246_91 ?_
            exact Y_bret i_246_95 rt_246 (by decide) h
      · replace h := h.2 e7
        refine Y_iconst (v := 0) i_246_64 (by decide) ?_
        have o13 := h.1
        replace h := h.2
        have o14 := h.1
        replace h := h.2
        have o15 := h.1
        replace h := h.2
        refine Y_iv2 (L0 := [.ref 68, .int x2, .int 0, .null]) i_246_65 ow_246 lm_10_301 ((k_68 hG).trans ow_211.symm) rfl mx_211 rfl rfl hd_246 ?_
        refine c_211 hG o13 o14 o15 (KKi ?_)
        refine Y_cgt i_246_68 (fun e16 => ?_) (fun e16 => ?_)
        · replace h := h.1 e16
          refine Y_iconst (v := 0) i_246_94 (by decide) ?_
          exact Y_bret i_246_95 rt_246 (by decide) h
        · replace h := h.2 e16
          refine Y_al0 i_246_71 ?_
          refine Y_gR i_246_72 ow_246 lf_10_100 (k_68 hG) (r_68_37 hG) ?_
          refine Y_il4 i_246_75 ?_
          refine Y_iaload (k := (x1 ||| ((1 : Int32) <<< (x2 &&& 31))).toNatClampNeg) (v := (A 90 (x1 ||| ((1 : Int32) <<< (x2 &&& 31))).toNatClampNeg)) i_246_77 (k_90 hG) (l_90 hG) o5 rfl rfl ?_
          refine Y_abs i_246_78 ow_246 lm_10_317 rfl ?_
          refine Y_al0 i_246_81 ?_
          refine Y_gR i_246_82 ow_246 lf_10_42 (k_68 hG) (r_68_4 hG) ?_
          refine Y_iconst (v := 1) i_246_85 (by decide) ?_
          refine Y_iaload (k := 1) (v := (A 72 1)) i_246_86 (k_72 hG) (l_72 hG) (by decide) (by decide) rfl ?_
          refine Y_cgt i_246_87 (fun e17 => ?_) (fun e17 => ?_)
          · replace h := h.1 e17
            refine Y_iconst (v := 0) i_246_94 (by decide) ?_
            exact Y_bret i_246_95 rt_246 (by decide) h
          · replace h := h.2 e17
            refine Y_iconst (v := 1) i_246_90 (by decide) ?_
            refine Y_goto i_246_91 ?_
            exact Y_bret i_246_95 rt_246 (by decide) h
  · replace h := h.2 e1
    refine Y_al0 i_246_31 ?_
    refine Y_gR i_246_32 ow_246 lf_10_97 (k_68 hG) (r_68_36 hG) ?_
    refine Y_il3 i_246_35 ?_
    have o18 := h.1
    replace h := h.2
    refine Y_iaload (k := x3.toNatClampNeg) (v := (A 89 x3.toNatClampNeg)) i_246_36 (k_89 hG) (l_89 hG) o18 rfl rfl ?_
    refine Y_al0 i_246_37 ?_
    refine Y_gR i_246_38 ow_246 lf_10_97 (k_68 hG) (r_68_36 hG) ?_
    refine Y_il4 i_246_41 ?_
    have o19 := h.1
    replace h := h.2
    refine Y_iaload (k := (x1 ||| ((1 : Int32) <<< (x2 &&& 31))).toNatClampNeg) (v := (A 89 (x1 ||| ((1 : Int32) <<< (x2 &&& 31))).toNatClampNeg)) i_246_43 (k_89 hG) (l_89 hG) o19 rfl rfl ?_
    refine Y_isub i_246_44 ?_
    refine Y_al0 i_246_45 ?_
    refine Y_gR i_246_46 ow_246 lf_10_73 (k_68 hG) (r_68_24 hG) ?_
    refine Y_il2 i_246_49 ?_
    have o20 := h.1
    replace h := h.2
    refine Y_iaload (k := x2.toNatClampNeg) (v := (A 82 x2.toNatClampNeg)) i_246_50 (k_82 hG) (l_82 hG) o20 rfl rfl ?_
    refine Y_iadd i_246_51 ?_
    refine Y_al0 i_246_52 ?_
    refine Y_il2 i_246_53 ?_
    refine Y_il4 i_246_54 ?_
    refine Y_il3 i_246_56 ?_
    refine Y_cne i_246_57 (fun e21 => ?_) (fun e21 => ?_)
    · replace h := h.1 e21
      refine Y_iconst (v := 1) i_246_60 (by decide) ?_
      refine Y_goto i_246_61 ?_
      have o22 := h.1
      replace h := h.2
      have o23 := h.1
      replace h := h.2
      have o24 := h.1
      replace h := h.2
      refine Y_iv2 (L0 := [.ref 68, .int x2, .int 1, .null]) i_246_65 ow_246 lm_10_301 ((k_68 hG).trans ow_211.symm) rfl mx_211 rfl rfl hd_246 ?_
      refine c_211 hG o22 o23 o24 (KKi ?_)
      refine Y_cgt i_246_68 (fun e25 => ?_) (fun e25 => ?_)
      · replace h := h.1 e25
        refine Y_iconst (v := 0) i_246_94 (by decide) ?_
        exact Y_bret i_246_95 rt_246 (by decide) h
      · replace h := h.2 e25
        refine Y_al0 i_246_71 ?_
        refine Y_gR i_246_72 ow_246 lf_10_100 (k_68 hG) (r_68_37 hG) ?_
        refine Y_il4 i_246_75 ?_
        refine Y_iaload (k := (x1 ||| ((1 : Int32) <<< (x2 &&& 31))).toNatClampNeg) (v := (A 90 (x1 ||| ((1 : Int32) <<< (x2 &&& 31))).toNatClampNeg)) i_246_77 (k_90 hG) (l_90 hG) o19 rfl rfl ?_
        refine Y_abs i_246_78 ow_246 lm_10_317 rfl ?_
        refine Y_al0 i_246_81 ?_
        refine Y_gR i_246_82 ow_246 lf_10_42 (k_68 hG) (r_68_4 hG) ?_
        refine Y_iconst (v := 1) i_246_85 (by decide) ?_
        refine Y_iaload (k := 1) (v := (A 72 1)) i_246_86 (k_72 hG) (l_72 hG) (by decide) (by decide) rfl ?_
        refine Y_cgt i_246_87 (fun e26 => ?_) (fun e26 => ?_)
        · replace h := h.1 e26
          refine Y_iconst (v := 0) i_246_94 (by decide) ?_
          exact Y_bret i_246_95 rt_246 (by decide) h
        · replace h := h.2 e26
          refine Y_iconst (v := 1) i_246_90 (by decide) ?_
          refine Y_goto i_246_91 ?_
          exact Y_bret i_246_95 rt_246 (by decide) h
    · replace h := h.2 e21
      refine Y_iconst (v := 0) i_246_64 (by decide) ?_
      have o27 := h.1
      replace h := h.2
      have o28 := h.1
      replace h := h.2
      have o29 := h.1
      replace h := h.2
      refine Y_iv2 (L0 := [.ref 68, .int x2, .int 0, .null]) i_246_65 ow_246 lm_10_301 ((k_68 hG).trans ow_211.symm) rfl mx_211 rfl rfl hd_246 ?_
      refine c_211 hG o27 o28 o29 (KKi ?_)
      refine Y_cgt i_246_68 (fun e30 => ?_) (fun e30 => ?_)
      · replace h := h.1 e30
        refine Y_iconst (v := 0) i_246_94 (by decide) ?_
        exact Y_bret i_246_95 rt_246 (by decide) h
      · replace h := h.2 e30
        refine Y_al0 i_246_71 ?_
        refine Y_gR i_246_72 ow_246 lf_10_100 (k_68 hG) (r_68_37 hG) ?_
        refine Y_il4 i_246_75 ?_
        refine Y_iaload (k := (x1 ||| ((1 : Int32) <<< (x2 &&& 31))).toNatClampNeg) (v := (A 90 (x1 ||| ((1 : Int32) <<< (x2 &&& 31))).toNatClampNeg)) i_246_77 (k_90 hG) (l_90 hG) o19 rfl rfl ?_
        refine Y_abs i_246_78 ow_246 lm_10_317 rfl ?_
        refine Y_al0 i_246_81 ?_
        refine Y_gR i_246_82 ow_246 lf_10_42 (k_68 hG) (r_68_4 hG) ?_
        refine Y_iconst (v := 1) i_246_85 (by decide) ?_
        refine Y_iaload (k := 1) (v := (A 72 1)) i_246_86 (k_72 hG) (l_72 hG) (by decide) (by decide) rfl ?_
        refine Y_cgt i_246_87 (fun e31 => ?_) (fun e31 => ?_)
        · replace h := h.1 e31
          refine Y_iconst (v := 0) i_246_94 (by decide) ?_
          exact Y_bret i_246_95 rt_246 (by decide) h
        · replace h := h.2 e31
          refine Y_iconst (v := 1) i_246_90 (by decide) ?_
          refine Y_goto i_246_91 ?_
          exact Y_bret i_246_95 rt_246 (by decide) h
/- 247 Model.tellWays(I)V -/
theorem t_247_0 {d : Nat} {F A : Nat → Nat → Int32} {J : Nat → Nat → Int64} {G : pG} {Q : pR → pM → Prop} {SL p q : Nat} {x1 : Int32} (hG : Geo G SL p q) (h : inB x1 1024 = true ∧ (X (d + 3) 247 9 [.ref 68, .int x1, .int x1, .null] [] (F, A, (wJ J 91 x1.toNatClampNeg 1), G) Q)) : X (d + 3) 247 0 [.ref 68, .int x1, .null, .null] [] (F, A, J, G) Q := by
  refine Y_al0 i_247_0 ?_
  refine Y_gR i_247_1 ow_247 lf_10_103 (k_68 hG) (r_68_38 hG) ?_
  refine Y_il1 i_247_4 ?_
  refine Y_lconst (v := 1) i_247_5 (by decide) ?_
  have o1 := h.1
  replace h := h.2
  refine Y_last i_247_6 (k_91 hG) (l_91 hG) o1 rfl ?_
  refine Y_il1 i_247_7 ?_
  refine Y_is2 i_247_8 rfl ?_
  exact h
theorem t_247_9 {d : Nat} {F A : Nat → Nat → Int32} {J : Nat → Nat → Int64} {G : pG} {Q : pR → pM → Prop} {SL p q : Nat} {x1 x2 : Int32} {v3 : Value} (hG : Geo G SL p q) (h : ((x2 = 0 → Q (.inl none) (F, A, J, G)) ∧ (¬ x2 = 0 → inB ((x2 - 1) &&& x1) 1024 = true ∧ (X (d + 3) 247 28 [.ref 68, .int x1, .int ((x2 - 1) &&& x1), .int 0] [] (F, A, (wJ J 91 ((x2 - 1) &&& x1).toNatClampNeg 0), G) Q)))) : X (d + 3) 247 9 [.ref 68, .int x1, .int x2, v3] [] (F, A, J, G) Q := by
  refine Y_il2 i_247_9 ?_
  refine Y_zeq i_247_10 (fun e1 => ?_) (fun e1 => ?_)
  · replace h := h.1 e1
    exact Y_vret i_247_103 rt_247 h
  · replace h := h.2 e1
    refine Y_il2 i_247_13 ?_
    refine Y_iconst (v := 1) i_247_14 (by decide) ?_
    refine Y_isub i_247_15 ?_
    refine Y_il1 i_247_16 ?_
    refine Y_iand i_247_17 ?_
    refine Y_is2 i_247_18 rfl ?_
    refine Y_al0 i_247_19 ?_
    refine Y_gR i_247_20 ow_247 lf_10_103 (k_68 hG) (r_68_38 hG) ?_
    refine Y_il2 i_247_23 ?_
    refine Y_lconst (v := 0) i_247_24 (by decide) ?_
    have o2 := h.1
    replace h := h.2
    refine Y_last i_247_25 (k_91 hG) (l_91 hG) o2 rfl ?_
    refine Y_iconst (v := 0) i_247_26 (by decide) ?_
    refine Y_is3 i_247_27 rfl ?_
    exact h
theorem t_247_28 {d : Nat} {F A : Nat → Nat → Int32} {J : Nat → Nat → Int64} {G : pG} {Q : pR → pM → Prop} {SL p q : Nat} {x1 x2 x3 : Int32} (hG : Geo G SL p q) (h : ((x3 < (A 72 0) → (((isO (x1 &&& (x2 ^^^ (-1))) x3) = true → inB (x2 ||| ((1 : Int32) <<< (x3 &&& 31))) 1024 = true ∧ ((0 < (J 91 (x2 ||| ((1 : Int32) <<< (x3 &&& 31))).toNatClampNeg) → (((isO (F 68 39) x3) = true → inB x2 1024 = true ∧ (((nI (pcn x2.toNatClampNeg)) < (F 68 40) → X (d + 3) 247 28 [.ref 68, .int x1, .int x2, .int (x3 + 1)] [] (F, A, J, G) Q) ∧ (¬ (nI (pcn x2.toNatClampNeg)) < (F 68 40) → inB x1 1024 = true ∧ inB x3 10 = true ∧ (((x2 ||| ((1 : Int32) <<< (x3 &&& 31))) = x1 → inB x3 20 = true ∧ inB (A 73 x3.toNatClampNeg) 4 = true ∧ Wrm A ∧ (((carS (A 73 x3.toNatClampNeg) (A 75 x3.toNatClampNeg) (F 68 29) 1) < (((A 89 x1.toNatClampNeg) - (A 89 (x2 ||| ((1 : Int32) <<< (x3 &&& 31))).toNatClampNeg)) + (A 82 x3.toNatClampNeg)) → X (d + 3) 247 28 [.ref 68, .int x1, .int x2, .int (x3 + 1)] [] (F, A, J, G) Q) ∧ (¬ (carS (A 73 x3.toNatClampNeg) (A 75 x3.toNatClampNeg) (F 68 29) 1) < (((A 89 x1.toNatClampNeg) - (A 89 (x2 ||| ((1 : Int32) <<< (x3 &&& 31))).toNatClampNeg)) + (A 82 x3.toNatClampNeg)) → (((A 72 1) < (jabs (A 90 (x2 ||| ((1 : Int32) <<< (x3 &&& 31))).toNatClampNeg)) → X (d + 3) 247 28 [.ref 68, .int x1, .int x2, .int (x3 + 1)] [] (F, A, J, G) Q) ∧ (¬ (A 72 1) < (jabs (A 90 (x2 ||| ((1 : Int32) <<< (x3 &&& 31))).toNatClampNeg)) → X (d + 3) 247 28 [.ref 68, .int x1, .int x2, .int (x3 + 1)] [] (F, A, (wJ J 91 x2.toNatClampNeg ((J 91 x2.toNatClampNeg) + (J 91 (x2 ||| ((1 : Int32) <<< (x3 &&& 31))).toNatClampNeg))), G) Q))))) ∧ (¬ (x2 ||| ((1 : Int32) <<< (x3 &&& 31))) = x1 → inB x3 20 = true ∧ inB (A 73 x3.toNatClampNeg) 4 = true ∧ Wrm A ∧ (((carS (A 73 x3.toNatClampNeg) (A 75 x3.toNatClampNeg) (F 68 29) 0) < (((A 89 x1.toNatClampNeg) - (A 89 (x2 ||| ((1 : Int32) <<< (x3 &&& 31))).toNatClampNeg)) + (A 82 x3.toNatClampNeg)) → X (d + 3) 247 28 [.ref 68, .int x1, .int x2, .int (x3 + 1)] [] (F, A, J, G) Q) ∧ (¬ (carS (A 73 x3.toNatClampNeg) (A 75 x3.toNatClampNeg) (F 68 29) 0) < (((A 89 x1.toNatClampNeg) - (A 89 (x2 ||| ((1 : Int32) <<< (x3 &&& 31))).toNatClampNeg)) + (A 82 x3.toNatClampNeg)) → (((A 72 1) < (jabs (A 90 (x2 ||| ((1 : Int32) <<< (x3 &&& 31))).toNatClampNeg)) → X (d + 3) 247 28 [.ref 68, .int x1, .int x2, .int (x3 + 1)] [] (F, A, J, G) Q) ∧ (¬ (A 72 1) < (jabs (A 90 (x2 ||| ((1 : Int32) <<< (x3 &&& 31))).toNatClampNeg)) → X (d + 3) 247 28 [.ref 68, .int x1, .int x2, .int (x3 + 1)] [] (F, A, (wJ J 91 x2.toNatClampNeg ((J 91 x2.toNatClampNeg) + (J 91 (x2 ||| ((1 : Int32) <<< (x3 &&& 31))).toNatClampNeg))), G) Q))))))))) ∧ ((isO (F 68 39) x3) = false → inB x1 1024 = true ∧ inB x3 10 = true ∧ (((x2 ||| ((1 : Int32) <<< (x3 &&& 31))) = x1 → inB x3 20 = true ∧ inB (A 73 x3.toNatClampNeg) 4 = true ∧ Wrm A ∧ (((carS (A 73 x3.toNatClampNeg) (A 75 x3.toNatClampNeg) (F 68 29) 1) < (((A 89 x1.toNatClampNeg) - (A 89 (x2 ||| ((1 : Int32) <<< (x3 &&& 31))).toNatClampNeg)) + (A 82 x3.toNatClampNeg)) → X (d + 3) 247 28 [.ref 68, .int x1, .int x2, .int (x3 + 1)] [] (F, A, J, G) Q) ∧ (¬ (carS (A 73 x3.toNatClampNeg) (A 75 x3.toNatClampNeg) (F 68 29) 1) < (((A 89 x1.toNatClampNeg) - (A 89 (x2 ||| ((1 : Int32) <<< (x3 &&& 31))).toNatClampNeg)) + (A 82 x3.toNatClampNeg)) → (((A 72 1) < (jabs (A 90 (x2 ||| ((1 : Int32) <<< (x3 &&& 31))).toNatClampNeg)) → X (d + 3) 247 28 [.ref 68, .int x1, .int x2, .int (x3 + 1)] [] (F, A, J, G) Q) ∧ (¬ (A 72 1) < (jabs (A 90 (x2 ||| ((1 : Int32) <<< (x3 &&& 31))).toNatClampNeg)) → inB x2 1024 = true ∧ (X (d + 3) 247 28 [.ref 68, .int x1, .int x2, .int (x3 + 1)] [] (F, A, (wJ J 91 x2.toNatClampNeg ((J 91 x2.toNatClampNeg) + (J 91 (x2 ||| ((1 : Int32) <<< (x3 &&& 31))).toNatClampNeg))), G) Q)))))) ∧ (¬ (x2 ||| ((1 : Int32) <<< (x3 &&& 31))) = x1 → inB x3 20 = true ∧ inB (A 73 x3.toNatClampNeg) 4 = true ∧ Wrm A ∧ (((carS (A 73 x3.toNatClampNeg) (A 75 x3.toNatClampNeg) (F 68 29) 0) < (((A 89 x1.toNatClampNeg) - (A 89 (x2 ||| ((1 : Int32) <<< (x3 &&& 31))).toNatClampNeg)) + (A 82 x3.toNatClampNeg)) → X (d + 3) 247 28 [.ref 68, .int x1, .int x2, .int (x3 + 1)] [] (F, A, J, G) Q) ∧ (¬ (carS (A 73 x3.toNatClampNeg) (A 75 x3.toNatClampNeg) (F 68 29) 0) < (((A 89 x1.toNatClampNeg) - (A 89 (x2 ||| ((1 : Int32) <<< (x3 &&& 31))).toNatClampNeg)) + (A 82 x3.toNatClampNeg)) → (((A 72 1) < (jabs (A 90 (x2 ||| ((1 : Int32) <<< (x3 &&& 31))).toNatClampNeg)) → X (d + 3) 247 28 [.ref 68, .int x1, .int x2, .int (x3 + 1)] [] (F, A, J, G) Q) ∧ (¬ (A 72 1) < (jabs (A 90 (x2 ||| ((1 : Int32) <<< (x3 &&& 31))).toNatClampNeg)) → inB x2 1024 = true ∧ (X (d + 3) 247 28 [.ref 68, .int x1, .int x2, .int (x3 + 1)] [] (F, A, (wJ J 91 x2.toNatClampNeg ((J 91 x2.toNatClampNeg) + (J 91 (x2 ||| ((1 : Int32) <<< (x3 &&& 31))).toNatClampNeg))), G) Q)))))))))) ∧ (¬ 0 < (J 91 (x2 ||| ((1 : Int32) <<< (x3 &&& 31))).toNatClampNeg) → X (d + 3) 247 28 [.ref 68, .int x1, .int x2, .int (x3 + 1)] [] (F, A, J, G) Q))) ∧ ((isO (x1 &&& (x2 ^^^ (-1))) x3) = false → X (d + 3) 247 28 [.ref 68, .int x1, .int x2, .int (x3 + 1)] [] (F, A, J, G) Q))) ∧ (¬ x3 < (A 72 0) → X (d + 3) 247 9 [.ref 68, .int x1, .int x2, .int x3] [] (F, A, J, G) Q))) : X (d + 3) 247 28 [.ref 68, .int x1, .int x2, .int x3] [] (F, A, J, G) Q := by
  refine Y_il3 i_247_28 ?_
  refine Y_al0 i_247_29 ?_
  refine Y_gR i_247_30 ow_247 lf_10_42 (k_68 hG) (r_68_4 hG) ?_
  refine Y_iconst (v := 0) i_247_33 (by decide) ?_
  refine Y_iaload (k := 0) (v := (A 72 0)) i_247_34 (k_72 hG) (l_72 hG) (by decide) (by decide) rfl ?_
  refine Y_cge i_247_35 (fun e1 => ?_) (fun e1 => ?_)
  · replace h := h.1 e1
    refine Y_il1 i_247_38 ?_
    refine Y_il2 i_247_39 ?_
    refine Y_iconst (v := (-1)) i_247_40 (by decide) ?_
    refine Y_ixor i_247_41 ?_
    refine Y_iand i_247_42 ?_
    refine Y_il3 i_247_43 ?_
    refine Y_is_2 (L0 := [.int (x1 &&& (x2 ^^^ (-1))), .int x3]) i_247_44 ow_247 lm_10_395 rfl mx_179 rfl rfl hd_247 ?_
    refine c_179 hG (KKi ?_)
    refine Y_beq i_247_47 (fun e2 => ?_) (fun e2 => ?_)
    · replace h := h.1 e2
      refine Y_al0 i_247_50 ?_
      refine Y_gR i_247_51 ow_247 lf_10_103 (k_68 hG) (r_68_38 hG) ?_
      refine Y_il2 i_247_54 ?_
      refine Y_iconst (v := 1) i_247_55 (by decide) ?_
      refine Y_il3 i_247_56 ?_
      refine Y_ishl i_247_57 ?_
      refine Y_ior i_247_58 ?_
      have o3 := h.1
      replace h := h.2
      refine Y_laload (k := (x2 ||| ((1 : Int32) <<< (x3 &&& 31))).toNatClampNeg) (v := (J 91 (x2 ||| ((1 : Int32) <<< (x3 &&& 31))).toNatClampNeg)) i_247_59 (k_91 hG) (l_91 hG) o3 rfl rfl ?_
      refine Y_lconst (v := 0) i_247_60 (by decide) ?_
      refine Y_lcmp i_247_61 ?_
      refine Y_wle i_247_62 (fun e4 => ?_) (fun e4 => ?_)
      · replace h := h.1 e4
        refine Y_al0 i_247_65 ?_
        refine Y_il2 i_247_66 ?_
        refine Y_il3 i_247_67 ?_
        refine Y_il1 i_247_68 ?_
        refine Y_iv3 (L0 := [.ref 68, .int x2, .int x3, .int x1, .null]) i_247_69 ow_247 lm_10_405 ((k_68 hG).trans ow_246.symm) rfl mx_246 rfl rfl hd_247 ?_
        refine Y_il1 i_246_0 ?_
        refine Y_iconst (v := 1) i_246_1 (by decide) ?_
        refine Y_il2 i_246_2 ?_
        refine Y_ishl i_246_3 ?_
        refine Y_ior i_246_4 ?_
        refine Y_is4 i_246_5 rfl ?_
        refine Y_al0 i_246_7 ?_
        refine Y_gI (v := (F 68 39)) i_246_8 ow_246 lf_10_392 (by decide) (k_68 hG) rfl ?_
        refine Y_il2 i_246_11 ?_
        refine Y_is_2 (L0 := [.int (F 68 39), .int x3]) i_246_12 ow_246 lm_10_395 rfl mx_179 rfl rfl hd_246 ?_
        refine c_179 hG (KKi ?_)
        refine Y_beq i_246_15 (fun e5 => ?_) (fun e5 => ?_)
        · replace h := h.1 e5
          refine Y_il1 i_246_18 ?_
          have o6 := h.1
          replace h := h.2
          refine Y_is_1 (L0 := [.int x2, .null, .null]) i_246_19 ow_246 lm_10_399 rfl mx_245 rfl rfl hd_246 ?_
          refine c_245 hG o6 (KKi ?_)
          refine Y_al0 i_246_22 ?_
          refine Y_gI (v := (F 68 40)) i_246_23 ow_246 lf_10_402 (by decide) (k_68 hG) rfl ?_
          refine Y_cge i_246_26 (fun e7 => ?_) (fun e7 => ?_)
          · replace h := h.1 e7
            refine Y_iconst (v := 0) i_246_29 (by decide) ?_
            refine Y_bret i_246_30 rt_246 (by decide) (KKi ?_)
            refine Y_zT i_247_72 (by decide) ?_
            refine Y_ii3 (v := 1) i_247_94 (by decide) rfl ?_
            refine Y_goto i_247_97 ?_
            exact h
          · replace h := h.2 e7
            refine Y_al0 i_246_31 ?_
            refine Y_gR i_246_32 ow_246 lf_10_97 (k_68 hG) (r_68_36 hG) ?_
            refine Y_il3 i_246_35 ?_
            have o8 := h.1
            replace h := h.2
            refine Y_iaload (k := x1.toNatClampNeg) (v := (A 89 x1.toNatClampNeg)) i_246_36 (k_89 hG) (l_89 hG) o8 rfl rfl ?_
            refine Y_al0 i_246_37 ?_
            refine Y_gR i_246_38 ow_246 lf_10_97 (k_68 hG) (r_68_36 hG) ?_
            refine Y_il4 i_246_41 ?_
            refine Y_iaload (k := (x2 ||| ((1 : Int32) <<< (x3 &&& 31))).toNatClampNeg) (v := (A 89 (x2 ||| ((1 : Int32) <<< (x3 &&& 31))).toNatClampNeg)) i_246_43 (k_89 hG) (l_89 hG) o3 rfl rfl ?_
            refine Y_isub i_246_44 ?_
            refine Y_al0 i_246_45 ?_
            refine Y_gR i_246_46 ow_246 lf_10_73 (k_68 hG) (r_68_24 hG) ?_
            refine Y_il2 i_246_49 ?_
            have o9 := h.1
            replace h := h.2
            refine Y_iaload (k := x3.toNatClampNeg) (v := (A 82 x3.toNatClampNeg)) i_246_50 (k_82 hG) (l_82 hG) o9 rfl rfl ?_
            refine Y_iadd i_246_51 ?_
            refine Y_al0 i_246_52 ?_
            refine Y_il2 i_246_53 ?_
            refine Y_il4 i_246_54 ?_
            refine Y_il3 i_246_56 ?_
            refine Y_cne i_246_57 (fun e10 => ?_) (fun e10 => ?_)
            · replace h := h.1 e10
              refine Y_iconst (v := 1) i_246_60 (by decide) ?_
              refine Y_goto i_246_61 ?_
              have o11 := h.1
              replace h := h.2
              have o12 := h.1
              replace h := h.2
              have o13 := h.1
              replace h := h.2
              refine Y_iv2 (L0 := [.ref 68, .int x3, .int 1, .null]) i_246_65 ow_246 lm_10_301 ((k_68 hG).trans ow_211.symm) rfl mx_211 rfl rfl hd_246 ?_
              refine c_211 hG o11 o12 o13 (KKi ?_)
              refine Y_cgt i_246_68 (fun e14 => ?_) (fun e14 => ?_)
              · replace h := h.1 e14
                refine Y_iconst (v := 0) i_246_94 (by decide) ?_
                refine Y_bret i_246_95 rt_246 (by decide) (KKi ?_)
                refine Y_zT i_247_72 (by decide) ?_
                refine Y_ii3 (v := 1) i_247_94 (by decide) rfl ?_
                refine Y_goto i_247_97 ?_
                exact h
              · replace h := h.2 e14
                refine Y_al0 i_246_71 ?_
                refine Y_gR i_246_72 ow_246 lf_10_100 (k_68 hG) (r_68_37 hG) ?_
                refine Y_il4 i_246_75 ?_
                refine Y_iaload (k := (x2 ||| ((1 : Int32) <<< (x3 &&& 31))).toNatClampNeg) (v := (A 90 (x2 ||| ((1 : Int32) <<< (x3 &&& 31))).toNatClampNeg)) i_246_77 (k_90 hG) (l_90 hG) o3 rfl rfl ?_
                refine Y_abs i_246_78 ow_246 lm_10_317 rfl ?_
                refine Y_al0 i_246_81 ?_
                refine Y_gR i_246_82 ow_246 lf_10_42 (k_68 hG) (r_68_4 hG) ?_
                refine Y_iconst (v := 1) i_246_85 (by decide) ?_
                refine Y_iaload (k := 1) (v := (A 72 1)) i_246_86 (k_72 hG) (l_72 hG) (by decide) (by decide) rfl ?_
                refine Y_cgt i_246_87 (fun e15 => ?_) (fun e15 => ?_)
                · replace h := h.1 e15
                  refine Y_iconst (v := 0) i_246_94 (by decide) ?_
                  refine Y_bret i_246_95 rt_246 (by decide) (KKi ?_)
                  refine Y_zT i_247_72 (by decide) ?_
                  refine Y_ii3 (v := 1) i_247_94 (by decide) rfl ?_
                  refine Y_goto i_247_97 ?_
                  exact h
                · replace h := h.2 e15
                  refine Y_iconst (v := 1) i_246_90 (by decide) ?_
                  refine Y_goto i_246_91 ?_
                  refine Y_bret i_246_95 rt_246 (by decide) (KKi ?_)
                  refine Y_zF i_247_72 (by decide) ?_
                  refine Y_al0 i_247_75 ?_
                  refine Y_gR i_247_76 ow_247 lf_10_103 (k_68 hG) (r_68_38 hG) ?_
                  refine Y_il2 i_247_79 ?_
                  refine Y_dup2 i_247_80 rfl rfl ?_
                  refine Y_laload (k := x2.toNatClampNeg) (v := (J 91 x2.toNatClampNeg)) i_247_81 (k_91 hG) (l_91 hG) o6 rfl rfl ?_
                  refine Y_al0 i_247_82 ?_
                  refine Y_gR i_247_83 ow_247 lf_10_103 (k_68 hG) (r_68_38 hG) ?_
                  refine Y_il2 i_247_86 ?_
                  refine Y_iconst (v := 1) i_247_87 (by decide) ?_
                  refine Y_il3 i_247_88 ?_
                  refine Y_ishl i_247_89 ?_
                  refine Y_ior i_247_90 ?_
                  refine Y_laload (k := (x2 ||| ((1 : Int32) <<< (x3 &&& 31))).toNatClampNeg) (v := (J 91 (x2 ||| ((1 : Int32) <<< (x3 &&& 31))).toNatClampNeg)) i_247_91 (k_91 hG) (l_91 hG) o3 rfl rfl ?_
                  refine Y_ladd i_247_92 ?_
                  refine Y_last i_247_93 (k_91 hG) (l_91 hG) o6 rfl ?_
                  refine Y_ii3 (v := 1) i_247_94 (by decide) rfl ?_
                  refine Y_goto i_247_97 ?_
                  exact h
            · replace h := h.2 e10
              refine Y_iconst (v := 0) i_246_64 (by decide) ?_
              have o16 := h.1
              replace h := h.2
              have o17 := h.1
              replace h := h.2
              have o18 := h.1
              replace h := h.2
              refine Y_iv2 (L0 := [.ref 68, .int x3, .int 0, .null]) i_246_65 ow_246 lm_10_301 ((k_68 hG).trans ow_211.symm) rfl mx_211 rfl rfl hd_246 ?_
              refine c_211 hG o16 o17 o18 (KKi ?_)
              refine Y_cgt i_246_68 (fun e19 => ?_) (fun e19 => ?_)
              · replace h := h.1 e19
                refine Y_iconst (v := 0) i_246_94 (by decide) ?_
                refine Y_bret i_246_95 rt_246 (by decide) (KKi ?_)
                refine Y_zT i_247_72 (by decide) ?_
                refine Y_ii3 (v := 1) i_247_94 (by decide) rfl ?_
                refine Y_goto i_247_97 ?_
                exact h
              · replace h := h.2 e19
                refine Y_al0 i_246_71 ?_
                refine Y_gR i_246_72 ow_246 lf_10_100 (k_68 hG) (r_68_37 hG) ?_
                refine Y_il4 i_246_75 ?_
                refine Y_iaload (k := (x2 ||| ((1 : Int32) <<< (x3 &&& 31))).toNatClampNeg) (v := (A 90 (x2 ||| ((1 : Int32) <<< (x3 &&& 31))).toNatClampNeg)) i_246_77 (k_90 hG) (l_90 hG) o3 rfl rfl ?_
                refine Y_abs i_246_78 ow_246 lm_10_317 rfl ?_
                refine Y_al0 i_246_81 ?_
                refine Y_gR i_246_82 ow_246 lf_10_42 (k_68 hG) (r_68_4 hG) ?_
                refine Y_iconst (v := 1) i_246_85 (by decide) ?_
                refine Y_iaload (k := 1) (v := (A 72 1)) i_246_86 (k_72 hG) (l_72 hG) (by decide) (by decide) rfl ?_
                refine Y_cgt i_246_87 (fun e20 => ?_) (fun e20 => ?_)
                · replace h := h.1 e20
                  refine Y_iconst (v := 0) i_246_94 (by decide) ?_
                  refine Y_bret i_246_95 rt_246 (by decide) (KKi ?_)
                  refine Y_zT i_247_72 (by decide) ?_
                  refine Y_ii3 (v := 1) i_247_94 (by decide) rfl ?_
                  refine Y_goto i_247_97 ?_
                  exact h
                · replace h := h.2 e20
                  refine Y_iconst (v := 1) i_246_90 (by decide) ?_
                  refine Y_goto i_246_91 ?_
                  refine Y_bret i_246_95 rt_246 (by decide) (KKi ?_)
                  refine Y_zF i_247_72 (by decide) ?_
                  refine Y_al0 i_247_75 ?_
                  refine Y_gR i_247_76 ow_247 lf_10_103 (k_68 hG) (r_68_38 hG) ?_
                  refine Y_il2 i_247_79 ?_
                  refine Y_dup2 i_247_80 rfl rfl ?_
                  refine Y_laload (k := x2.toNatClampNeg) (v := (J 91 x2.toNatClampNeg)) i_247_81 (k_91 hG) (l_91 hG) o6 rfl rfl ?_
                  refine Y_al0 i_247_82 ?_
                  refine Y_gR i_247_83 ow_247 lf_10_103 (k_68 hG) (r_68_38 hG) ?_
                  refine Y_il2 i_247_86 ?_
                  refine Y_iconst (v := 1) i_247_87 (by decide) ?_
                  refine Y_il3 i_247_88 ?_
                  refine Y_ishl i_247_89 ?_
                  refine Y_ior i_247_90 ?_
                  refine Y_laload (k := (x2 ||| ((1 : Int32) <<< (x3 &&& 31))).toNatClampNeg) (v := (J 91 (x2 ||| ((1 : Int32) <<< (x3 &&& 31))).toNatClampNeg)) i_247_91 (k_91 hG) (l_91 hG) o3 rfl rfl ?_
                  refine Y_ladd i_247_92 ?_
                  refine Y_last i_247_93 (k_91 hG) (l_91 hG) o6 rfl ?_
                  refine Y_ii3 (v := 1) i_247_94 (by decide) rfl ?_
                  refine Y_goto i_247_97 ?_
                  exact h
        · replace h := h.2 e5
          refine Y_al0 i_246_31 ?_
          refine Y_gR i_246_32 ow_246 lf_10_97 (k_68 hG) (r_68_36 hG) ?_
          refine Y_il3 i_246_35 ?_
          have o21 := h.1
          replace h := h.2
          refine Y_iaload (k := x1.toNatClampNeg) (v := (A 89 x1.toNatClampNeg)) i_246_36 (k_89 hG) (l_89 hG) o21 rfl rfl ?_
          refine Y_al0 i_246_37 ?_
          refine Y_gR i_246_38 ow_246 lf_10_97 (k_68 hG) (r_68_36 hG) ?_
          refine Y_il4 i_246_41 ?_
          refine Y_iaload (k := (x2 ||| ((1 : Int32) <<< (x3 &&& 31))).toNatClampNeg) (v := (A 89 (x2 ||| ((1 : Int32) <<< (x3 &&& 31))).toNatClampNeg)) i_246_43 (k_89 hG) (l_89 hG) o3 rfl rfl ?_
          refine Y_isub i_246_44 ?_
          refine Y_al0 i_246_45 ?_
          refine Y_gR i_246_46 ow_246 lf_10_73 (k_68 hG) (r_68_24 hG) ?_
          refine Y_il2 i_246_49 ?_
          have o22 := h.1
          replace h := h.2
          refine Y_iaload (k := x3.toNatClampNeg) (v := (A 82 x3.toNatClampNeg)) i_246_50 (k_82 hG) (l_82 hG) o22 rfl rfl ?_
          refine Y_iadd i_246_51 ?_
          refine Y_al0 i_246_52 ?_
          refine Y_il2 i_246_53 ?_
          refine Y_il4 i_246_54 ?_
          refine Y_il3 i_246_56 ?_
          refine Y_cne i_246_57 (fun e23 => ?_) (fun e23 => ?_)
          · replace h := h.1 e23
            refine Y_iconst (v := 1) i_246_60 (by decide) ?_
            refine Y_goto i_246_61 ?_
            have o24 := h.1
            replace h := h.2
            have o25 := h.1
            replace h := h.2
            have o26 := h.1
            replace h := h.2
            refine Y_iv2 (L0 := [.ref 68, .int x3, .int 1, .null]) i_246_65 ow_246 lm_10_301 ((k_68 hG).trans ow_211.symm) rfl mx_211 rfl rfl hd_246 ?_
            refine c_211 hG o24 o25 o26 (KKi ?_)
            refine Y_cgt i_246_68 (fun e27 => ?_) (fun e27 => ?_)
            · replace h := h.1 e27
              refine Y_iconst (v := 0) i_246_94 (by decide) ?_
              refine Y_bret i_246_95 rt_246 (by decide) (KKi ?_)
              refine Y_zT i_247_72 (by decide) ?_
              refine Y_ii3 (v := 1) i_247_94 (by decide) rfl ?_
              refine Y_goto i_247_97 ?_
              exact h
            · replace h := h.2 e27
              refine Y_al0 i_246_71 ?_
              refine Y_gR i_246_72 ow_246 lf_10_100 (k_68 hG) (r_68_37 hG) ?_
              refine Y_il4 i_246_75 ?_
              refine Y_iaload (k := (x2 ||| ((1 : Int32) <<< (x3 &&& 31))).toNatClampNeg) (v := (A 90 (x2 ||| ((1 : Int32) <<< (x3 &&& 31))).toNatClampNeg)) i_246_77 (k_90 hG) (l_90 hG) o3 rfl rfl ?_
              refine Y_abs i_246_78 ow_246 lm_10_317 rfl ?_
              refine Y_al0 i_246_81 ?_
              refine Y_gR i_246_82 ow_246 lf_10_42 (k_68 hG) (r_68_4 hG) ?_
              refine Y_iconst (v := 1) i_246_85 (by decide) ?_
              refine Y_iaload (k := 1) (v := (A 72 1)) i_246_86 (k_72 hG) (l_72 hG) (by decide) (by decide) rfl ?_
              refine Y_cgt i_246_87 (fun e28 => ?_) (fun e28 => ?_)
              · replace h := h.1 e28
                refine Y_iconst (v := 0) i_246_94 (by decide) ?_
                refine Y_bret i_246_95 rt_246 (by decide) (KKi ?_)
                refine Y_zT i_247_72 (by decide) ?_
                refine Y_ii3 (v := 1) i_247_94 (by decide) rfl ?_
                refine Y_goto i_247_97 ?_
                exact h
              · replace h := h.2 e28
                refine Y_iconst (v := 1) i_246_90 (by decide) ?_
                refine Y_goto i_246_91 ?_
                refine Y_bret i_246_95 rt_246 (by decide) (KKi ?_)
                refine Y_zF i_247_72 (by decide) ?_
                refine Y_al0 i_247_75 ?_
                refine Y_gR i_247_76 ow_247 lf_10_103 (k_68 hG) (r_68_38 hG) ?_
                refine Y_il2 i_247_79 ?_
                refine Y_dup2 i_247_80 rfl rfl ?_
                have o29 := h.1
                replace h := h.2
                refine Y_laload (k := x2.toNatClampNeg) (v := (J 91 x2.toNatClampNeg)) i_247_81 (k_91 hG) (l_91 hG) o29 rfl rfl ?_
                refine Y_al0 i_247_82 ?_
                refine Y_gR i_247_83 ow_247 lf_10_103 (k_68 hG) (r_68_38 hG) ?_
                refine Y_il2 i_247_86 ?_
                refine Y_iconst (v := 1) i_247_87 (by decide) ?_
                refine Y_il3 i_247_88 ?_
                refine Y_ishl i_247_89 ?_
                refine Y_ior i_247_90 ?_
                refine Y_laload (k := (x2 ||| ((1 : Int32) <<< (x3 &&& 31))).toNatClampNeg) (v := (J 91 (x2 ||| ((1 : Int32) <<< (x3 &&& 31))).toNatClampNeg)) i_247_91 (k_91 hG) (l_91 hG) o3 rfl rfl ?_
                refine Y_ladd i_247_92 ?_
                refine Y_last i_247_93 (k_91 hG) (l_91 hG) o29 rfl ?_
                refine Y_ii3 (v := 1) i_247_94 (by decide) rfl ?_
                refine Y_goto i_247_97 ?_
                exact h
          · replace h := h.2 e23
            refine Y_iconst (v := 0) i_246_64 (by decide) ?_
            have o30 := h.1
            replace h := h.2
            have o31 := h.1
            replace h := h.2
            have o32 := h.1
            replace h := h.2
            refine Y_iv2 (L0 := [.ref 68, .int x3, .int 0, .null]) i_246_65 ow_246 lm_10_301 ((k_68 hG).trans ow_211.symm) rfl mx_211 rfl rfl hd_246 ?_
            refine c_211 hG o30 o31 o32 (KKi ?_)
            refine Y_cgt i_246_68 (fun e33 => ?_) (fun e33 => ?_)
            · replace h := h.1 e33
              refine Y_iconst (v := 0) i_246_94 (by decide) ?_
              refine Y_bret i_246_95 rt_246 (by decide) (KKi ?_)
              refine Y_zT i_247_72 (by decide) ?_
              refine Y_ii3 (v := 1) i_247_94 (by decide) rfl ?_
              refine Y_goto i_247_97 ?_
              exact h
            · replace h := h.2 e33
              refine Y_al0 i_246_71 ?_
              refine Y_gR i_246_72 ow_246 lf_10_100 (k_68 hG) (r_68_37 hG) ?_
              refine Y_il4 i_246_75 ?_
              refine Y_iaload (k := (x2 ||| ((1 : Int32) <<< (x3 &&& 31))).toNatClampNeg) (v := (A 90 (x2 ||| ((1 : Int32) <<< (x3 &&& 31))).toNatClampNeg)) i_246_77 (k_90 hG) (l_90 hG) o3 rfl rfl ?_
              refine Y_abs i_246_78 ow_246 lm_10_317 rfl ?_
              refine Y_al0 i_246_81 ?_
              refine Y_gR i_246_82 ow_246 lf_10_42 (k_68 hG) (r_68_4 hG) ?_
              refine Y_iconst (v := 1) i_246_85 (by decide) ?_
              refine Y_iaload (k := 1) (v := (A 72 1)) i_246_86 (k_72 hG) (l_72 hG) (by decide) (by decide) rfl ?_
              refine Y_cgt i_246_87 (fun e34 => ?_) (fun e34 => ?_)
              · replace h := h.1 e34
                refine Y_iconst (v := 0) i_246_94 (by decide) ?_
                refine Y_bret i_246_95 rt_246 (by decide) (KKi ?_)
                refine Y_zT i_247_72 (by decide) ?_
                refine Y_ii3 (v := 1) i_247_94 (by decide) rfl ?_
                refine Y_goto i_247_97 ?_
                exact h
              · replace h := h.2 e34
                refine Y_iconst (v := 1) i_246_90 (by decide) ?_
                refine Y_goto i_246_91 ?_
                refine Y_bret i_246_95 rt_246 (by decide) (KKi ?_)
                refine Y_zF i_247_72 (by decide) ?_
                refine Y_al0 i_247_75 ?_
                refine Y_gR i_247_76 ow_247 lf_10_103 (k_68 hG) (r_68_38 hG) ?_
                refine Y_il2 i_247_79 ?_
                refine Y_dup2 i_247_80 rfl rfl ?_
                have o35 := h.1
                replace h := h.2
                refine Y_laload (k := x2.toNatClampNeg) (v := (J 91 x2.toNatClampNeg)) i_247_81 (k_91 hG) (l_91 hG) o35 rfl rfl ?_
                refine Y_al0 i_247_82 ?_
                refine Y_gR i_247_83 ow_247 lf_10_103 (k_68 hG) (r_68_38 hG) ?_
                refine Y_il2 i_247_86 ?_
                refine Y_iconst (v := 1) i_247_87 (by decide) ?_
                refine Y_il3 i_247_88 ?_
                refine Y_ishl i_247_89 ?_
                refine Y_ior i_247_90 ?_
                refine Y_laload (k := (x2 ||| ((1 : Int32) <<< (x3 &&& 31))).toNatClampNeg) (v := (J 91 (x2 ||| ((1 : Int32) <<< (x3 &&& 31))).toNatClampNeg)) i_247_91 (k_91 hG) (l_91 hG) o3 rfl rfl ?_
                refine Y_ladd i_247_92 ?_
                refine Y_last i_247_93 (k_91 hG) (l_91 hG) o35 rfl ?_
                refine Y_ii3 (v := 1) i_247_94 (by decide) rfl ?_
                refine Y_goto i_247_97 ?_
                exact h
      · replace h := h.2 e4
        refine Y_ii3 (v := 1) i_247_94 (by decide) rfl ?_
        refine Y_goto i_247_97 ?_
        exact h
    · replace h := h.2 e2
      refine Y_ii3 (v := 1) i_247_94 (by decide) rfl ?_
      refine Y_goto i_247_97 ?_
      exact h
  · replace h := h.2 e1
    refine Y_goto i_247_100 ?_
    exact h
/- 248 Model.mostSet()I -/
theorem t_248_0 {d : Nat} {F A : Nat → Nat → Int32} {J : Nat → Nat → Int64} {G : pG} {Q : pR → pM → Prop} {SL p q : Nat} (hG : Geo G SL p q) (h : X (d + 3) 244 0 [.ref 68, .null, .null] [] ((wF F 68 39 0), A, J, G) (KK (d + 4) 248 9 [.ref 68, .null, .null] [] Q)) : X (d + 4) 248 0 [.ref 68, .null, .null] [] (F, A, J, G) Q := by
  refine Y_al0 i_248_0 ?_
  refine Y_iconst (v := 0) i_248_1 (by decide) ?_
  refine Y_pI i_248_2 ow_248 lf_10_392 (k_68 hG) ?_
  refine Y_al0 i_248_5 ?_
  exact Y_iv0 (L0 := [.ref 68, .null, .null]) i_248_6 ow_248 lm_10_409 ((k_68 hG).trans ow_244.symm) rfl mx_244 rfl rfl hd_248 h
theorem k_248_9 {d : Nat} {F A : Nat → Nat → Int32} {J : Nat → Nat → Int64} {G : pG} {Q : pR → pM → Prop} {SL p q : Nat} (hG : Geo G SL p q) (h : X (d + 4) 248 13 [.ref 68, .int 0, .int 1] [] (F, A, J, G) Q) : KK (d + 4) 248 9 [.ref 68, .null, .null] [] Q (.inl none) (F, A, J, G) := by
  refine KKv ?_
  refine Y_iconst (v := 0) i_248_9 (by decide) ?_
  refine Y_is1 i_248_10 rfl ?_
  refine Y_iconst (v := 1) i_248_11 (by decide) ?_
  refine Y_is2 i_248_12 rfl ?_
  exact h
theorem t_248_13 {d : Nat} {F A : Nat → Nat → Int32} {J : Nat → Nat → Int64} {G : pG} {Q : pR → pM → Prop} {SL p q : Nat} {x1 x2 : Int32} (hG : Geo G SL p q) (h : ((x2 < ((1 : Int32) <<< ((A 72 0) &&& 31)) → inB x2 1024 = true ∧ inB x1 1024 = true ∧ (((nI (pcn x1.toNatClampNeg)) < (nI (pcn x2.toNatClampNeg)) → X (d + 3) 247 0 [.ref 68, .int x2, .null, .null] [] (F, A, J, G) (KK (d + 4) 248 44 [.ref 68, .int x1, .int x2] [] Q)) ∧ (¬ (nI (pcn x1.toNatClampNeg)) < (nI (pcn x2.toNatClampNeg)) → X (d + 4) 248 13 [.ref 68, .int x1, .int (x2 + 1)] [] (F, A, J, G) Q))) ∧ (¬ x2 < ((1 : Int32) <<< ((A 72 0) &&& 31)) → Q (.inl (some (.int x1))) (F, A, J, G)))) : X (d + 4) 248 13 [.ref 68, .int x1, .int x2] [] (F, A, J, G) Q := by
  refine Y_il2 i_248_13 ?_
  refine Y_iconst (v := 1) i_248_14 (by decide) ?_
  refine Y_al0 i_248_15 ?_
  refine Y_gR i_248_16 ow_248 lf_10_42 (k_68 hG) (r_68_4 hG) ?_
  refine Y_iconst (v := 0) i_248_19 (by decide) ?_
  refine Y_iaload (k := 0) (v := (A 72 0)) i_248_20 (k_72 hG) (l_72 hG) (by decide) (by decide) rfl ?_
  refine Y_ishl i_248_21 ?_
  refine Y_cge i_248_22 (fun e1 => ?_) (fun e1 => ?_)
  · replace h := h.1 e1
    refine Y_il2 i_248_25 ?_
    have o2 := h.1
    replace h := h.2
    refine Y_is_1 (L0 := [.int x2, .null, .null]) i_248_26 ow_248 lm_10_399 rfl mx_245 rfl rfl hd_248 ?_
    refine c_245 hG o2 (KKi ?_)
    refine Y_il1 i_248_29 ?_
    have o3 := h.1
    replace h := h.2
    refine Y_is_1 (L0 := [.int x1, .null, .null]) i_248_30 ow_248 lm_10_399 rfl mx_245 rfl rfl hd_248 ?_
    refine c_245 hG o3 (KKi ?_)
    refine Y_cgt i_248_33 (fun e4 => ?_) (fun e4 => ?_)
    · replace h := h.1 e4
      refine Y_al0 i_248_39 ?_
      refine Y_il2 i_248_40 ?_
      exact Y_iv1 (L0 := [.ref 68, .int x2, .null, .null]) i_248_41 ow_248 lm_10_412 ((k_68 hG).trans ow_247.symm) rfl mx_247 rfl rfl hd_248 h
    · replace h := h.2 e4
      refine Y_goto i_248_36 ?_
      refine Y_ii2 (v := 1) i_248_57 (by decide) rfl ?_
      refine Y_goto i_248_60 ?_
      exact h
  · replace h := h.2 e1
    refine Y_il1 i_248_63 ?_
    exact Y_iret i_248_64 rt_248 h
theorem k_248_44 {d : Nat} {F A : Nat → Nat → Int32} {J : Nat → Nat → Int64} {G : pG} {Q : pR → pM → Prop} {SL p q : Nat} {x1 x2 : Int32} (hG : Geo G SL p q) (h : ((0 < (J 91 0) → X (d + 4) 248 13 [.ref 68, .int x2, .int (x2 + 1)] [] (F, A, J, G) Q) ∧ (¬ 0 < (J 91 0) → X (d + 4) 248 13 [.ref 68, .int x1, .int (x2 + 1)] [] (F, A, J, G) Q))) : KK (d + 4) 248 44 [.ref 68, .int x1, .int x2] [] Q (.inl none) (F, A, J, G) := by
  refine KKv ?_
  refine Y_al0 i_248_44 ?_
  refine Y_gR i_248_45 ow_248 lf_10_103 (k_68 hG) (r_68_38 hG) ?_
  refine Y_iconst (v := 0) i_248_48 (by decide) ?_
  refine Y_laload (k := 0) (v := (J 91 0)) i_248_49 (k_91 hG) (l_91 hG) (by decide) (by decide) rfl ?_
  refine Y_lconst (v := 0) i_248_50 (by decide) ?_
  refine Y_lcmp i_248_51 ?_
  refine Y_wle i_248_52 (fun e1 => ?_) (fun e1 => ?_)
  · replace h := h.1 e1
    refine Y_il2 i_248_55 ?_
    refine Y_is1 i_248_56 rfl ?_
    refine Y_ii2 (v := 1) i_248_57 (by decide) rfl ?_
    refine Y_goto i_248_60 ?_
    exact h
  · replace h := h.2 e1
    refine Y_ii2 (v := 1) i_248_57 (by decide) rfl ?_
    refine Y_goto i_248_60 ?_
    exact h
/- 249 Model.most(I)I -/
theorem t_249_0 {d : Nat} {F A : Nat → Nat → Int32} {J : Nat → Nat → Int64} {G : pG} {Q : pR → pM → Prop} {SL p q : Nat} {x1 : Int32} (hG : Geo G SL p q) (h : ((x1 < 0 → Q (.inl (some (.int 0))) ((wF (wF F 68 3 0) 68 3 1), A, J, G)) ∧ (¬ x1 < 0 → ((1 < x1 → Q (.inl (some (.int 0))) ((wF (wF F 68 3 0) 68 3 1), A, J, G)) ∧ (¬ 1 < x1 → X (d + 4) 248 0 [.ref 68, .null, .null] [] ((wF F 68 3 0), A, J, G) (KK (d + 5) 249 24 [.ref 68, .int x1, .null] [] Q)))))) : X (d + 5) 249 0 [.ref 68, .int x1, .null] [] (F, A, J, G) Q := by
  refine Y_al0 i_249_0 ?_
  refine Y_iconst (v := 0) i_249_1 (by decide) ?_
  refine Y_pI i_249_2 ow_249 lf_10_143 (k_68 hG) ?_
  refine Y_il1 i_249_5 ?_
  refine Y_zlt i_249_6 (fun e1 => ?_) (fun e1 => ?_)
  · replace h := h.1 e1
    refine Y_al0 i_249_14 ?_
    refine Y_iconst (v := 1) i_249_15 (by decide) ?_
    refine Y_iv1 (L0 := [.ref 68, .int 1]) i_249_16 ow_249 lm_10_269 ((k_68 hG).trans ow_176.symm) rfl mx_176 rfl rfl hd_249 ?_
    refine Y_al0 i_176_0 ?_
    refine Y_il1 i_176_1 ?_
    refine Y_pI i_176_2 ow_176 lf_10_143 (k_68 hG) ?_
    refine Y_iconst (v := 0) i_176_5 (by decide) ?_
    refine Y_iret i_176_6 rt_176 (KKi ?_)
    exact Y_iret i_249_19 rt_249 h
  · replace h := h.2 e1
    refine Y_il1 i_249_9 ?_
    refine Y_iconst (v := 1) i_249_10 (by decide) ?_
    refine Y_cle i_249_11 (fun e2 => ?_) (fun e2 => ?_)
    · replace h := h.1 e2
      refine Y_al0 i_249_14 ?_
      refine Y_iconst (v := 1) i_249_15 (by decide) ?_
      refine Y_iv1 (L0 := [.ref 68, .int 1]) i_249_16 ow_249 lm_10_269 ((k_68 hG).trans ow_176.symm) rfl mx_176 rfl rfl hd_249 ?_
      refine Y_al0 i_176_0 ?_
      refine Y_il1 i_176_1 ?_
      refine Y_pI i_176_2 ow_176 lf_10_143 (k_68 hG) ?_
      refine Y_iconst (v := 0) i_176_5 (by decide) ?_
      refine Y_iret i_176_6 rt_176 (KKi ?_)
      exact Y_iret i_249_19 rt_249 h
    · replace h := h.2 e2
      refine Y_al0 i_249_20 ?_
      exact Y_iv0 (L0 := [.ref 68, .null, .null]) i_249_21 ow_249 lm_10_415 ((k_68 hG).trans ow_248.symm) rfl mx_248 rfl rfl hd_249 h
theorem k_249_24 {d : Nat} {F A : Nat → Nat → Int32} {J : Nat → Nat → Int64} {G : pG} {Q : pR → pM → Prop} {SL p q : Nat} {x1 r : Int32} (hG : Geo G SL p q) (h : ((x1 = 0 → inB r 1024 = true ∧ (Q (.inl (some (.int (nI (pcn r.toNatClampNeg))))) (F, A, J, G))) ∧ (¬ x1 = 0 → Q (.inl (some (.int r))) (F, A, J, G)))) : KK (d + 5) 249 24 [.ref 68, .int x1, .null] [] Q (.inl (some (.int r))) (F, A, J, G) := by
  refine KKi ?_
  refine Y_is2 i_249_24 rfl ?_
  refine Y_il1 i_249_25 ?_
  refine Y_zne i_249_26 (fun e1 => ?_) (fun e1 => ?_)
  · replace h := h.1 e1
    refine Y_il2 i_249_29 ?_
    have o2 := h.1
    replace h := h.2
    refine Y_is_1 (L0 := [.int r, .null, .null]) i_249_30 ow_249 lm_10_399 rfl mx_245 rfl rfl hd_249 ?_
    refine c_245 hG o2 (KKi ?_)
    refine Y_goto i_249_33 ?_
    exact Y_iret i_249_37 rt_249 h
  · replace h := h.2 e1
    refine Y_il2 i_249_36 ?_
    exact Y_iret i_249_37 rt_249 h
end Tr14g
