section Tr14d
/- 114 Trials.leastFood()I -/
theorem t_114_0 {d : Nat} {F A : Nat → Nat → Int32} {J : Nat → Nat → Int64} {G : pG} {Q : pR → pM → Prop} {SL p q : Nat} (hG : Geo G SL p q) (h : X (d + 4) 114 2 [.ref 49, .int 0] [] (F, A, J, G) Q) : X (d + 4) 114 0 [.ref 49, .null] [] (F, A, J, G) Q := by
  refine Y_iconst (v := 0) i_114_0 (by decide) ?_
  refine Y_is1 i_114_1 rfl ?_
  exact h
theorem t_114_2 {d : Nat} {F A : Nat → Nat → Int32} {J : Nat → Nat → Int64} {G : pG} {Q : pR → pM → Prop} {SL p q : Nat} {x1 : Int32} (hG : Geo G SL p q) (h : ((999 < x1 → Q (.inl (some (.int (-1)))) (F, A, J, G)) ∧ (¬ 999 < x1 → X (d + 3) 91 0 [.ref 27, .int x1, .null, .null, .null] [] (F, A, J, G) (KK (d + 4) 114 17 [.ref 49, .int x1] [] Q)))) : X (d + 4) 114 2 [.ref 49, .int x1] [] (F, A, J, G) Q := by
  refine Y_il1 i_114_2 ?_
  refine Y_sipush (v := 999) i_114_3 (by decide) ?_
  refine Y_cgt i_114_6 (fun e1 => ?_) (fun e1 => ?_)
  · replace h := h.1 e1
    refine Y_iconst (v := (-1)) i_114_28 (by decide) ?_
    exact Y_iret i_114_29 rt_114 h
  · replace h := h.2 e1
    refine Y_al0 i_114_9 ?_
    refine Y_gR i_114_10 ow_114 lf_8_25 (k_49 hG) (r_49_1 hG) ?_
    refine Y_il1 i_114_13 ?_
    exact Y_iv1 (L0 := [.ref 27, .int x1, .null, .null, .null]) i_114_14 ow_114 lm_8_103 ((k_27 hG).trans ow_91.symm) rfl mx_91 rfl rfl hd_114 h
theorem k_114_17 {d : Nat} {F A : Nat → Nat → Int32} {J : Nat → Nat → Int64} {G : pG} {Q : pR → pM → Prop} {SL p q : Nat} {x1 r : Int32} (hG : Geo G SL p q) (h : ((r = 0 → X (d + 4) 114 2 [.ref 49, .int (x1 + 1)] [] (F, A, J, G) Q) ∧ (¬ r = 0 → Q (.inl (some (.int x1))) (F, A, J, G)))) : KK (d + 4) 114 17 [.ref 49, .int x1] [] Q (.inl (some (.int r))) (F, A, J, G) := by
  refine KKi ?_
  refine Y_zeq i_114_17 (fun e1 => ?_) (fun e1 => ?_)
  · replace h := h.1 e1
    refine Y_ii1 (v := 1) i_114_22 (by decide) rfl ?_
    refine Y_goto i_114_25 ?_
    exact h
  · replace h := h.2 e1
    refine Y_il1 i_114_20 ?_
    exact Y_iret i_114_21 rt_114 h
/- 115 Trials.firstWedge()I -/
theorem t_115_0 {d : Nat} {F A : Nat → Nat → Int32} {J : Nat → Nat → Int64} {G : pG} {Q : pR → pM → Prop} {SL p q : Nat} (hG : Geo G SL p q) (h : X (d + 4) 88 0 [.ref 27] [] (F, A, J, G) (KK (d + 5) 115 7 [.ref 49, .null, .null, .null] [] Q)) : X (d + 5) 115 0 [.ref 49, .null, .null, .null] [] (F, A, J, G) Q := by
  refine Y_al0 i_115_0 ?_
  refine Y_gR i_115_1 ow_115 lf_8_25 (k_49 hG) (r_49_1 hG) ?_
  exact Y_iv0 (L0 := [.ref 27]) i_115_4 ow_115 lm_8_80 ((k_27 hG).trans ow_88.symm) rfl mx_88 rfl rfl hd_115 h
theorem k_115_7 {d : Nat} {F A : Nat → Nat → Int32} {J : Nat → Nat → Int64} {G : pG} {Q : pR → pM → Prop} {SL p q : Nat} {r : Int32} (hG : Geo G SL p q) (h : ((r = 0 → X (d + 5) 115 25 [.ref 49, .int 0, .null, .null] [] ((bF F 53 27), (bA A 53 27), J, G) Q) ∧ (¬ r = 0 → Q (.inl (some (.int (-1)))) (F, A, J, G)))) : KK (d + 5) 115 7 [.ref 49, .null, .null, .null] [] Q (.inl (some (.int r))) (F, A, J, G) := by
  refine KKi ?_
  refine Y_zeq i_115_7 (fun e1 => ?_) (fun e1 => ?_)
  · replace h := h.1 e1
    refine Y_al0 i_115_12 ?_
    refine Y_gR i_115_13 ow_115 lf_8_34 (k_49 hG) (r_49_2 hG) ?_
    refine Y_al0 i_115_16 ?_
    refine Y_gR i_115_17 ow_115 lf_8_25 (k_49 hG) (r_49_1 hG) ?_
    refine Y_iv1 (L0 := [.ref 53, .ref 27]) i_115_20 ow_115 lm_8_37 ((k_53 hG).trans ow_76.symm) rfl mx_76 rfl rfl hd_115 ?_
    refine c_76_53_27 hG tw_53 (KKv ?_)
    refine Y_iconst (v := 0) i_115_23 (by decide) ?_
    refine Y_is1 i_115_24 rfl ?_
    exact h
  · replace h := h.2 e1
    refine Y_iconst (v := (-1)) i_115_10 (by decide) ?_
    exact Y_iret i_115_11 rt_115 h
theorem t_115_25 {d : Nat} {F A : Nat → Nat → Int32} {J : Nat → Nat → Int64} {G : pG} {Q : pR → pM → Prop} {SL p q : Nat} {x1 : Int32} {v2 v3 : Value} (hG : Geo G SL p q) (h : ((x1 < (F 27 1) → inB x1 10 = true ∧ (X (d + 5) 115 49 [.ref 49, .int x1, .int (A 28 x1.toNatClampNeg), .int (-9)] [] (F, A, J, G) Q)) ∧ (¬ x1 < (F 27 1) → Q (.inl (some (.int (-1)))) (F, A, J, G)))) : X (d + 5) 115 25 [.ref 49, .int x1, v2, v3] [] (F, A, J, G) Q := by
  refine Y_il1 i_115_25 ?_
  refine Y_al0 i_115_26 ?_
  refine Y_gR i_115_27 ow_115 lf_8_25 (k_49 hG) (r_49_1 hG) ?_
  refine Y_gI (v := (F 27 1)) i_115_30 ow_115 lf_8_74 (by decide) (k_27 hG) rfl ?_
  refine Y_cge i_115_33 (fun e1 => ?_) (fun e1 => ?_)
  · replace h := h.1 e1
    refine Y_al0 i_115_36 ?_
    refine Y_gR i_115_37 ow_115 lf_8_25 (k_49 hG) (r_49_1 hG) ?_
    refine Y_gR i_115_40 ow_115 lf_8_77 (k_27 hG) (r_27_4 hG) ?_
    refine Y_il1 i_115_43 ?_
    have o2 := h.1
    replace h := h.2
    refine Y_iaload (k := x1.toNatClampNeg) (v := (A 28 x1.toNatClampNeg)) i_115_44 (k_28 hG) (l_28 hG) o2 rfl rfl ?_
    refine Y_is2 i_115_45 rfl ?_
    refine Y_bipush (v := (-9)) i_115_46 (by decide) ?_
    refine Y_is3 i_115_48 rfl ?_
    exact h
  · replace h := h.2 e1
    refine Y_iconst (v := (-1)) i_115_128 (by decide) ?_
    exact Y_iret i_115_129 rt_115 h
theorem t_115_49 {d : Nat} {F A : Nat → Nat → Int32} {J : Nat → Nat → Int64} {G : pG} {Q : pR → pM → Prop} {SL p q : Nat} {x1 x2 x3 : Int32} (hG : Geo G SL p q) (h : ((9 < x3 → inB x2 10 = true ∧ (X (d + 5) 115 25 [.ref 49, .int (x1 + 1), .int x2, .int x3] [] (F, (wF A 56 x2.toNatClampNeg (A 30 x2.toNatClampNeg)), J, G) Q)) ∧ (¬ 9 < x3 → inB x2 10 = true ∧ ((x3 = (A 30 x2.toNatClampNeg) → X (d + 5) 115 49 [.ref 49, .int x1, .int x2, .int (x3 + 1)] [] (F, (wF A 56 x2.toNatClampNeg x3), J, G) Q) ∧ (¬ x3 = (A 30 x2.toNatClampNeg) → X (d + 4) 88 0 [.ref 53] [] (F, (wF A 56 x2.toNatClampNeg x3), J, G) (KK (d + 5) 115 85 [.ref 49, .int x1, .int x2, .int x3] [] Q)))))) : X (d + 5) 115 49 [.ref 49, .int x1, .int x2, .int x3] [] (F, A, J, G) Q := by
  refine Y_il3 i_115_49 ?_
  refine Y_bipush (v := 9) i_115_50 (by decide) ?_
  refine Y_cgt i_115_52 (fun e1 => ?_) (fun e1 => ?_)
  · replace h := h.1 e1
    refine Y_al0 i_115_104 ?_
    refine Y_gR i_115_105 ow_115 lf_8_34 (k_49 hG) (r_49_2 hG) ?_
    refine Y_gR i_115_108 ow_115 lf_8_106 (k_53 hG) (r_53_6 hG) ?_
    refine Y_il2 i_115_111 ?_
    refine Y_al0 i_115_112 ?_
    refine Y_gR i_115_113 ow_115 lf_8_25 (k_49 hG) (r_49_1 hG) ?_
    refine Y_gR i_115_116 ow_115 lf_8_106 (k_27 hG) (r_27_6 hG) ?_
    refine Y_il2 i_115_119 ?_
    have o2 := h.1
    replace h := h.2
    refine Y_iaload (k := x2.toNatClampNeg) (v := (A 30 x2.toNatClampNeg)) i_115_120 (k_30 hG) (l_30 hG) o2 rfl rfl ?_
    refine Y_iast i_115_121 (k_56 hG) (l_56 hG) o2 rfl ?_
    refine Y_ii1 (v := 1) i_115_122 (by decide) rfl ?_
    refine Y_goto i_115_125 ?_
    exact h
  · replace h := h.2 e1
    refine Y_al0 i_115_55 ?_
    refine Y_gR i_115_56 ow_115 lf_8_34 (k_49 hG) (r_49_2 hG) ?_
    refine Y_gR i_115_59 ow_115 lf_8_106 (k_53 hG) (r_53_6 hG) ?_
    refine Y_il2 i_115_62 ?_
    refine Y_il3 i_115_63 ?_
    have o3 := h.1
    replace h := h.2
    refine Y_iast i_115_64 (k_56 hG) (l_56 hG) o3 rfl ?_
    refine Y_il3 i_115_65 ?_
    refine Y_al0 i_115_66 ?_
    refine Y_gR i_115_67 ow_115 lf_8_25 (k_49 hG) (r_49_1 hG) ?_
    refine Y_gR i_115_70 ow_115 lf_8_106 (k_27 hG) (r_27_6 hG) ?_
    refine Y_il2 i_115_73 ?_
    refine Y_iaload (k := x2.toNatClampNeg) (v := (A 30 x2.toNatClampNeg)) i_115_74 (k_30 hG) (l_30 hG) o3 rfl (by simp [wF, wJ, va_up, cpR, bF, bA]) ?_
    refine Y_ceq i_115_75 (fun e4 => ?_) (fun e4 => ?_)
    · replace h := h.1 e4
      refine Y_ii3 (v := 1) i_115_98 (by decide) rfl ?_
      refine Y_goto i_115_101 ?_
      exact h
    · replace h := h.2 e4
      refine Y_al0 i_115_78 ?_
      refine Y_gR i_115_79 ow_115 lf_8_34 (k_49 hG) (r_49_2 hG) ?_
      exact Y_iv0 (L0 := [.ref 53]) i_115_82 ow_115 lm_8_80 ((k_53 hG).trans ow_88.symm) rfl mx_88 rfl rfl hd_115 h
theorem k_115_85 {d : Nat} {F A : Nat → Nat → Int32} {J : Nat → Nat → Int64} {G : pG} {Q : pR → pM → Prop} {SL p q : Nat} {x1 x2 x3 r : Int32} (hG : Geo G SL p q) (h : ((r = 0 → X (d + 5) 115 49 [.ref 49, .int x1, .int x2, .int (x3 + 1)] [] (F, A, J, G) Q) ∧ (¬ r = 0 → Q (.inl (some (.int ((((100 : Int32) * x2) + x3) + 50)))) (F, A, J, G)))) : KK (d + 5) 115 85 [.ref 49, .int x1, .int x2, .int x3] [] Q (.inl (some (.int r))) (F, A, J, G) := by
  refine KKi ?_
  refine Y_zeq i_115_85 (fun e1 => ?_) (fun e1 => ?_)
  · replace h := h.1 e1
    refine Y_ii3 (v := 1) i_115_98 (by decide) rfl ?_
    refine Y_goto i_115_101 ?_
    exact h
  · replace h := h.2 e1
    refine Y_bipush (v := 100) i_115_88 (by decide) ?_
    refine Y_il2 i_115_90 ?_
    refine Y_imul i_115_91 ?_
    refine Y_il3 i_115_92 ?_
    refine Y_iadd i_115_93 ?_
    refine Y_bipush (v := 50) i_115_94 (by decide) ?_
    refine Y_iadd i_115_96 ?_
    exact Y_iret i_115_97 rt_115 h
/- 116 Trials.fewestWedges()I -/
theorem t_116_0 {d : Nat} {F A : Nat → Nat → Int32} {J : Nat → Nat → Int64} {G : pG} {Q : pR → pM → Prop} {SL p q : Nat} (hG : Geo G SL p q) (h : X (d + 2) 116 2 [.ref 49, .int 0, .null] [] (F, A, J, G) Q) : X (d + 2) 116 0 [.ref 49, .null, .null] [] (F, A, J, G) Q := by
  refine Y_iconst (v := 0) i_116_0 (by decide) ?_
  refine Y_is1 i_116_1 rfl ?_
  exact h
theorem t_116_2 {d : Nat} {F A : Nat → Nat → Int32} {J : Nat → Nat → Int64} {G : pG} {Q : pR → pM → Prop} {SL p q : Nat} {x1 : Int32} (hG : Geo G SL p q) (h : ((x1 < 81 → ((x1 = 40 → inB x1 81 = true ∧ (X (d + 2) 116 2 [.ref 49, .int (x1 + 1), .null] [] (F, (wF A p x1.toNatClampNeg 0), J, G) Q)) ∧ (¬ x1 = 40 → inB x1 81 = true ∧ (X (d + 2) 116 2 [.ref 49, .int (x1 + 1), .null] [] (F, (wF A p x1.toNatClampNeg 1000000), J, G) Q)))) ∧ (¬ x1 < 81 → X (d + 2) 116 34 [.ref 49, .int 0, .null] [] (F, A, J, G) Q))) : X (d + 2) 116 2 [.ref 49, .int x1, .null] [] (F, A, J, G) Q := by
  refine Y_il1 i_116_2 ?_
  refine Y_bipush (v := 81) i_116_3 (by decide) ?_
  refine Y_cge i_116_5 (fun e1 => ?_) (fun e1 => ?_)
  · replace h := h.1 e1
    refine Y_al0 i_116_8 ?_
    refine Y_gR i_116_9 ow_116 lf_8_11 (k_49 hG) (r_49_9 hG) ?_
    refine Y_il1 i_116_12 ?_
    refine Y_il1 i_116_13 ?_
    refine Y_bipush (v := 40) i_116_14 (by decide) ?_
    refine Y_cne i_116_16 (fun e2 => ?_) (fun e2 => ?_)
    · replace h := h.1 e2
      refine Y_iconst (v := 0) i_116_19 (by decide) ?_
      refine Y_goto i_116_20 ?_
      have o3 := h.1
      replace h := h.2
      refine Y_iast i_116_25 (k_p hG) (l_p hG) o3 rfl ?_
      refine Y_ii1 (v := 1) i_116_26 (by decide) rfl ?_
      refine Y_goto i_116_29 ?_
      exact h
    · replace h := h.2 e2
      refine Y_ldcI i_116_23 ow_116 li_8_109 ?_
      have o4 := h.1
      replace h := h.2
      refine Y_iast i_116_25 (k_p hG) (l_p hG) o4 rfl ?_
      refine Y_ii1 (v := 1) i_116_26 (by decide) rfl ?_
      refine Y_goto i_116_29 ?_
      exact h
  · replace h := h.2 e1
    refine Y_iconst (v := 0) i_116_32 (by decide) ?_
    refine Y_is1 i_116_33 rfl ?_
    exact h
theorem t_116_34 {d : Nat} {F A : Nat → Nat → Int32} {J : Nat → Nat → Int64} {G : pG} {Q : pR → pM → Prop} {SL p q : Nat} {x1 : Int32} (hG : Geo G SL p q) (h : ((x1 < (F 27 1) → inB x1 10 = true ∧ (X (d + 1) 117 0 [.ref 49, .int (A 28 x1.toNatClampNeg), .null, .null, .null, .null] [] (F, A, J, G) (KK (d + 2) 116 58 [.ref 49, .int x1, .null] [] Q))) ∧ (¬ x1 < (F 27 1) → X (d + 2) 116 69 [.ref 49, .int 1000000, .int 0] [] (F, A, J, G) Q))) : X (d + 2) 116 34 [.ref 49, .int x1, .null] [] (F, A, J, G) Q := by
  refine Y_il1 i_116_34 ?_
  refine Y_al0 i_116_35 ?_
  refine Y_gR i_116_36 ow_116 lf_8_25 (k_49 hG) (r_49_1 hG) ?_
  refine Y_gI (v := (F 27 1)) i_116_39 ow_116 lf_8_74 (by decide) (k_27 hG) rfl ?_
  refine Y_cge i_116_42 (fun e1 => ?_) (fun e1 => ?_)
  · replace h := h.1 e1
    refine Y_al0 i_116_45 ?_
    refine Y_al0 i_116_46 ?_
    refine Y_gR i_116_47 ow_116 lf_8_25 (k_49 hG) (r_49_1 hG) ?_
    refine Y_gR i_116_50 ow_116 lf_8_77 (k_27 hG) (r_27_4 hG) ?_
    refine Y_il1 i_116_53 ?_
    have o2 := h.1
    replace h := h.2
    refine Y_iaload (k := x1.toNatClampNeg) (v := (A 28 x1.toNatClampNeg)) i_116_54 (k_28 hG) (l_28 hG) o2 rfl rfl ?_
    exact Y_iv1 (L0 := [.ref 49, .int (A 28 x1.toNatClampNeg), .null, .null, .null, .null]) i_116_55 ow_116 lm_8_110 ((k_49 hG).trans ow_117.symm) rfl mx_117 rfl rfl hd_116 h
  · replace h := h.2 e1
    refine Y_ldcI i_116_64 ow_116 li_8_109 ?_
    refine Y_is1 i_116_66 rfl ?_
    refine Y_iconst (v := 0) i_116_67 (by decide) ?_
    refine Y_is2 i_116_68 rfl ?_
    exact h
theorem k_116_58 {d : Nat} {F A : Nat → Nat → Int32} {J : Nat → Nat → Int64} {G : pG} {Q : pR → pM → Prop} {SL p q : Nat} {x1 : Int32} (hG : Geo G SL p q) (h : X (d + 2) 116 34 [.ref 49, .int (x1 + 1), .null] [] (F, A, J, G) Q) : KK (d + 2) 116 58 [.ref 49, .int x1, .null] [] Q (.inl none) (F, A, J, G) := by
  refine KKv ?_
  refine Y_ii1 (v := 1) i_116_58 (by decide) rfl ?_
  refine Y_goto i_116_61 ?_
  exact h
theorem t_116_69 {d : Nat} {F A : Nat → Nat → Int32} {J : Nat → Nat → Int64} {G : pG} {Q : pR → pM → Prop} {SL p q : Nat} {x1 x2 : Int32} (hG : Geo G SL p q) (h : ((x2 < 81 → inB x2 81 = true ∧ (X (d + 2) 116 69 [.ref 49, .int (jmin x1 (A p x2.toNatClampNeg)), .int (x2 + 1)] [] (F, A, J, G) Q)) ∧ (¬ x2 < 81 → ((x1 < 1000000 → Q (.inl (some (.int x1))) (F, A, J, G)) ∧ (¬ x1 < 1000000 → Q (.inl (some (.int (-1)))) (F, A, J, G)))))) : X (d + 2) 116 69 [.ref 49, .int x1, .int x2] [] (F, A, J, G) Q := by
  refine Y_il2 i_116_69 ?_
  refine Y_bipush (v := 81) i_116_70 (by decide) ?_
  refine Y_cge i_116_72 (fun e1 => ?_) (fun e1 => ?_)
  · replace h := h.1 e1
    refine Y_il1 i_116_75 ?_
    refine Y_al0 i_116_76 ?_
    refine Y_gR i_116_77 ow_116 lf_8_11 (k_49 hG) (r_49_9 hG) ?_
    refine Y_il2 i_116_80 ?_
    have o2 := h.1
    replace h := h.2
    refine Y_iaload (k := x2.toNatClampNeg) (v := (A p x2.toNatClampNeg)) i_116_81 (k_p hG) (l_p hG) o2 rfl rfl ?_
    refine Y_min i_116_82 ow_116 lm_8_113 rfl ?_
    refine Y_is1 i_116_85 rfl ?_
    refine Y_ii2 (v := 1) i_116_86 (by decide) rfl ?_
    refine Y_goto i_116_89 ?_
    exact h
  · replace h := h.2 e1
    refine Y_il1 i_116_92 ?_
    refine Y_ldcI i_116_93 ow_116 li_8_109 ?_
    refine Y_clt i_116_95 (fun e3 => ?_) (fun e3 => ?_)
    · replace h := h.1 e3
      refine Y_il1 i_116_102 ?_
      exact Y_iret i_116_103 rt_116 h
    · replace h := h.2 e3
      refine Y_iconst (v := (-1)) i_116_98 (by decide) ?_
      refine Y_goto i_116_99 ?_
      exact Y_iret i_116_103 rt_116 h
/- 117 Trials.wedgeOne(I)V -/
theorem t_117_0 {d : Nat} {F A : Nat → Nat → Int32} {J : Nat → Nat → Int64} {G : pG} {Q : pR → pM → Prop} {SL p q : Nat} {x1 : Int32} (hG : Geo G SL p q) (h : X (d + 1) 117 2 [.ref 49, .int x1, .int 0, .null, .null, .null] [] (F, A, J, G) Q) : X (d + 1) 117 0 [.ref 49, .int x1, .null, .null, .null, .null] [] (F, A, J, G) Q := by
  refine Y_iconst (v := 0) i_117_0 (by decide) ?_
  refine Y_is2 i_117_1 rfl ?_
  exact h
theorem t_117_2 {d : Nat} {F A : Nat → Nat → Int32} {J : Nat → Nat → Int64} {G : pG} {Q : pR → pM → Prop} {SL p q : Nat} {x1 x2 : Int32} (hG : Geo G SL p q) (h : ((x2 < 81 → inB x2 81 = true ∧ (X (d + 1) 117 2 [.ref 49, .int x1, .int (x2 + 1), .null, .null, .null] [] (F, (wF A q x2.toNatClampNeg 1000000), J, G) Q)) ∧ (¬ x2 < 81 → X (d + 1) 117 24 [.ref 49, .int x1, .int 0, .null, .null, .null] [] (F, A, J, G) Q))) : X (d + 1) 117 2 [.ref 49, .int x1, .int x2, .null, .null, .null] [] (F, A, J, G) Q := by
  refine Y_il2 i_117_2 ?_
  refine Y_bipush (v := 81) i_117_3 (by decide) ?_
  refine Y_cge i_117_5 (fun e1 => ?_) (fun e1 => ?_)
  · replace h := h.1 e1
    refine Y_al0 i_117_8 ?_
    refine Y_gR i_117_9 ow_117 lf_8_15 (k_49 hG) (r_49_10 hG) ?_
    refine Y_il2 i_117_12 ?_
    refine Y_ldcI i_117_13 ow_117 li_8_109 ?_
    have o2 := h.1
    replace h := h.2
    refine Y_iast i_117_15 (k_q hG) (l_q hG) o2 rfl ?_
    refine Y_ii2 (v := 1) i_117_16 (by decide) rfl ?_
    refine Y_goto i_117_19 ?_
    exact h
  · replace h := h.2 e1
    refine Y_iconst (v := 0) i_117_22 (by decide) ?_
    refine Y_is2 i_117_23 rfl ?_
    exact h
theorem t_117_24 {d : Nat} {F A : Nat → Nat → Int32} {J : Nat → Nat → Int64} {G : pG} {Q : pR → pM → Prop} {SL p q : Nat} {x1 x2 : Int32} {v3 v4 v5 : Value} (hG : Geo G SL p q) (h : ((x2 < 81 → X (d + 1) 117 33 [.ref 49, .int x1, .int x2, .int (-9), v4, v5] [] (F, A, J, G) Q) ∧ (¬ x2 < 81 → Q (.inl none) (F, A, J, (gSetR (gSetR G 49 9 (q + 1)) 49 10 (p + 1)))))) : X (d + 1) 117 24 [.ref 49, .int x1, .int x2, v3, v4, v5] [] (F, A, J, G) Q := by
  refine Y_il2 i_117_24 ?_
  refine Y_bipush (v := 81) i_117_25 (by decide) ?_
  refine Y_cge i_117_27 (fun e1 => ?_) (fun e1 => ?_)
  · replace h := h.1 e1
    refine Y_bipush (v := (-9)) i_117_30 (by decide) ?_
    refine Y_is3 i_117_32 rfl ?_
    exact h
  · replace h := h.2 e1
    refine Y_al0 i_117_136 ?_
    refine Y_gR i_117_137 ow_117 lf_8_11 (k_49 hG) (r_49_9 hG) ?_
    refine Y_as2 i_117_140 rfl ?_
    refine Y_al0 i_117_141 ?_
    refine Y_al0 i_117_142 ?_
    refine Y_gR i_117_143 ow_117 lf_8_15 (k_49 hG) (r_49_10 hG) ?_
    refine Y_pR i_117_146 ow_117 lf_8_11 (k_49 (G := G) hG) (n_q (G := G) hG) ?_
    refine Y_al0 i_117_149 ?_
    refine Y_al2 i_117_150 ?_
    refine Y_pR i_117_151 ow_117 lf_8_15 (k_49 (G := G) hG) (n_p (G := G) hG) ?_
    exact Y_vret i_117_154 rt_117 h
theorem t_117_33 {d : Nat} {F A : Nat → Nat → Int32} {J : Nat → Nat → Int64} {G : pG} {Q : pR → pM → Prop} {SL p q : Nat} {x1 x2 x3 : Int32} {v4 v5 : Value} (hG : Geo G SL p q) (h : ((9 < x3 → X (d + 1) 117 24 [.ref 49, .int x1, .int (x2 + 1), .int x3, v4, v5] [] (F, A, J, G) Q) ∧ (¬ 9 < x3 → inB x2 81 = true ∧ (((A p x2.toNatClampNeg) < 1000000 → inB x1 10 = true ∧ (((limB (F 12 1) ((x2 - 40) + ((ltm (A 13 x1.toNatClampNeg)) * ((A 31 x1.toNatClampNeg) + x3)))) = true → inB (((x2 - 40) + ((ltm (A 13 x1.toNatClampNeg)) * ((A 31 x1.toNatClampNeg) + x3))) + 40) 81 = true ∧ (X (d + 1) 117 33 [.ref 49, .int x1, .int x2, .int (x3 + 1), .int ((x2 - 40) + ((ltm (A 13 x1.toNatClampNeg)) * ((A 31 x1.toNatClampNeg) + x3))), .int (((x2 - 40) + ((ltm (A 13 x1.toNatClampNeg)) * ((A 31 x1.toNatClampNeg) + x3))) + 40)] [] (F, (wF A q (((x2 - 40) + ((ltm (A 13 x1.toNatClampNeg)) * ((A 31 x1.toNatClampNeg) + x3))) + 40).toNatClampNeg (jmin (A q (((x2 - 40) + ((ltm (A 13 x1.toNatClampNeg)) * ((A 31 x1.toNatClampNeg) + x3))) + 40).toNatClampNeg) ((A p x2.toNatClampNeg) + (jabs x3)))), J, G) Q)) ∧ ((limB (F 12 1) ((x2 - 40) + ((ltm (A 13 x1.toNatClampNeg)) * ((A 31 x1.toNatClampNeg) + x3)))) = false → X (d + 1) 117 33 [.ref 49, .int x1, .int x2, .int (x3 + 1), .int ((x2 - 40) + ((ltm (A 13 x1.toNatClampNeg)) * ((A 31 x1.toNatClampNeg) + x3))), v5] [] (F, A, J, G) Q))) ∧ (¬ (A p x2.toNatClampNeg) < 1000000 → X (d + 1) 117 24 [.ref 49, .int x1, .int (x2 + 1), .int x3, v4, v5] [] (F, A, J, G) Q))))) : X (d + 1) 117 33 [.ref 49, .int x1, .int x2, .int x3, v4, v5] [] (F, A, J, G) Q := by
  refine Y_il3 i_117_33 ?_
  refine Y_bipush (v := 9) i_117_34 (by decide) ?_
  refine Y_cgt i_117_36 (fun e1 => ?_) (fun e1 => ?_)
  · replace h := h.1 e1
    refine Y_ii2 (v := 1) i_117_130 (by decide) rfl ?_
    refine Y_goto i_117_133 ?_
    exact h
  · replace h := h.2 e1
    refine Y_al0 i_117_39 ?_
    refine Y_gR i_117_40 ow_117 lf_8_11 (k_49 hG) (r_49_9 hG) ?_
    refine Y_il2 i_117_43 ?_
    have o2 := h.1
    replace h := h.2
    refine Y_iaload (k := x2.toNatClampNeg) (v := (A p x2.toNatClampNeg)) i_117_44 (k_p hG) (l_p hG) o2 rfl rfl ?_
    refine Y_ldcI i_117_45 ow_117 li_8_109 ?_
    refine Y_cge i_117_47 (fun e3 => ?_) (fun e3 => ?_)
    · replace h := h.1 e3
      refine Y_il2 i_117_50 ?_
      refine Y_bipush (v := 40) i_117_51 (by decide) ?_
      refine Y_isub i_117_53 ?_
      refine Y_al0 i_117_54 ?_
      refine Y_gR i_117_55 ow_117 lf_8_21 (k_49 hG) (r_49_0 hG) ?_
      refine Y_il1 i_117_58 ?_
      have o4 := h.1
      replace h := h.2
      refine Y_iv1 (L0 := [.ref 12, .int x1]) i_117_59 ow_117 lm_8_119 ((k_12 hG).trans ow_102.symm) rfl mx_102 rfl rfl hd_117 ?_
      refine c_102 hG o4 (KKi ?_)
      refine Y_al0 i_117_62 ?_
      refine Y_gR i_117_63 ow_117 lf_8_25 (k_49 hG) (r_49_1 hG) ?_
      refine Y_gR i_117_66 ow_117 lf_8_122 (k_27 hG) (r_27_7 hG) ?_
      refine Y_il1 i_117_69 ?_
      refine Y_iaload (k := x1.toNatClampNeg) (v := (A 31 x1.toNatClampNeg)) i_117_70 (k_31 hG) (l_31 hG) o4 rfl rfl ?_
      refine Y_il3 i_117_71 ?_
      refine Y_iadd i_117_72 ?_
      refine Y_imul i_117_73 ?_
      refine Y_iadd i_117_74 ?_
      refine Y_is4 i_117_75 rfl ?_
      refine Y_al0 i_117_77 ?_
      refine Y_gR i_117_78 ow_117 lf_8_21 (k_49 hG) (r_49_0 hG) ?_
      refine Y_il4 i_117_81 ?_
      refine Y_iv1 (L0 := [.ref 12, .int ((x2 - 40) + ((ltm (A 13 x1.toNatClampNeg)) * ((A 31 x1.toNatClampNeg) + x3)))]) i_117_83 ow_117 lm_8_125 ((k_12 hG).trans ow_103.symm) rfl mx_103 rfl rfl hd_117 ?_
      refine c_103 hG (KKi ?_)
      refine Y_beq i_117_86 (fun e5 => ?_) (fun e5 => ?_)
      · replace h := h.1 e5
        refine Y_il4 i_117_89 ?_
        refine Y_bipush (v := 40) i_117_91 (by decide) ?_
        refine Y_iadd i_117_93 ?_
        refine Y_is5 i_117_94 rfl ?_
        refine Y_al0 i_117_96 ?_
        refine Y_gR i_117_97 ow_117 lf_8_15 (k_49 hG) (r_49_10 hG) ?_
        refine Y_il5 i_117_100 ?_
        refine Y_al0 i_117_102 ?_
        refine Y_gR i_117_103 ow_117 lf_8_15 (k_49 hG) (r_49_10 hG) ?_
        refine Y_il5 i_117_106 ?_
        have o6 := h.1
        replace h := h.2
        refine Y_iaload (k := (((x2 - 40) + ((ltm (A 13 x1.toNatClampNeg)) * ((A 31 x1.toNatClampNeg) + x3))) + 40).toNatClampNeg) (v := (A q (((x2 - 40) + ((ltm (A 13 x1.toNatClampNeg)) * ((A 31 x1.toNatClampNeg) + x3))) + 40).toNatClampNeg)) i_117_108 (k_q hG) (l_q hG) o6 rfl rfl ?_
        refine Y_al0 i_117_109 ?_
        refine Y_gR i_117_110 ow_117 lf_8_11 (k_49 hG) (r_49_9 hG) ?_
        refine Y_il2 i_117_113 ?_
        refine Y_iaload (k := x2.toNatClampNeg) (v := (A p x2.toNatClampNeg)) i_117_114 (k_p hG) (l_p hG) o2 rfl rfl ?_
        refine Y_il3 i_117_115 ?_
        refine Y_abs i_117_116 ow_117 lm_8_128 rfl ?_
        refine Y_iadd i_117_119 ?_
        refine Y_min i_117_120 ow_117 lm_8_113 rfl ?_
        refine Y_iast i_117_123 (k_q hG) (l_q hG) o6 rfl ?_
        refine Y_ii3 (v := 1) i_117_124 (by decide) rfl ?_
        refine Y_goto i_117_127 ?_
        exact h
      · replace h := h.2 e5
        refine Y_ii3 (v := 1) i_117_124 (by decide) rfl ?_
        refine Y_goto i_117_127 ?_
        exact h
    · replace h := h.2 e3
      refine Y_ii2 (v := 1) i_117_130 (by decide) rfl ?_
      refine Y_goto i_117_133 ?_
      exact h
/- 118 Trials.play()V -/
theorem t_118_0 {d : Nat} {F A : Nat → Nat → Int32} {J : Nat → Nat → Int64} {G : pG} {Q : pR → pM → Prop} {SL p q : Nat} (hG : Geo G SL p q) (h : (((F 27 1) < 2 → Q (.inl none) ((wF (wF F 49 3 0) 49 4 (-1)), A, J, G)) ∧ (¬ (F 27 1) < 2 → X (d + 5) 119 0 [.ref 49, .null, .null] [] ((wF (wF F 49 3 0) 49 4 (-1)), A, J, G) (KK (d + 6) 118 26 [.ref 49, .null, .null] [] Q)))) : X (d + 6) 118 0 [.ref 49, .null, .null] [] (F, A, J, G) Q := by
  refine Y_al0 i_118_0 ?_
  refine Y_iconst (v := 0) i_118_1 (by decide) ?_
  refine Y_pI i_118_2 ow_118 lf_8_131 (k_49 hG) ?_
  refine Y_al0 i_118_5 ?_
  refine Y_iconst (v := (-1)) i_118_6 (by decide) ?_
  refine Y_pI i_118_7 ow_118 lf_8_134 (k_49 hG) ?_
  refine Y_al0 i_118_10 ?_
  refine Y_gR i_118_11 ow_118 lf_8_25 (k_49 hG) (r_49_1 hG) ?_
  refine Y_gI (v := (F 27 1)) i_118_14 ow_118 lf_8_74 (by decide) (k_27 hG) (by simp [wF, wJ, va_up, cpR, bF, bA]) ?_
  refine Y_iconst (v := 2) i_118_17 (by decide) ?_
  refine Y_cge i_118_18 (fun e1 => ?_) (fun e1 => ?_)
  · replace h := h.1 e1
    exact Y_vret i_118_21 rt_118 h
  · replace h := h.2 e1
    refine Y_al0 i_118_22 ?_
    exact Y_iv0 (L0 := [.ref 49, .null, .null]) i_118_23 ow_118 lm_8_137 ((k_49 hG).trans ow_119.symm) rfl mx_119 rfl rfl hd_118 h
theorem k_118_26 {d : Nat} {F A : Nat → Nat → Int32} {J : Nat → Nat → Int64} {G : pG} {Q : pR → pM → Prop} {SL p q : Nat} (hG : Geo G SL p q) (h : X (d + 6) 118 28 [.ref 49, .int 0, .null] [] (F, A, J, G) Q) : KK (d + 6) 118 26 [.ref 49, .null, .null] [] Q (.inl none) (F, A, J, G) := by
  refine KKv ?_
  refine Y_iconst (v := 0) i_118_26 (by decide) ?_
  refine Y_is1 i_118_27 rfl ?_
  exact h
theorem t_118_28 {d : Nat} {F A : Nat → Nat → Int32} {J : Nat → Nat → Int64} {G : pG} {Q : pR → pM → Prop} {SL p q : Nat} {x1 : Int32} {v2 : Value} (hG : Geo G SL p q) (h : ((9 < x1 → Q (.inl none) (F, A, J, G)) ∧ (¬ 9 < x1 → X (d + 6) 118 36 [.ref 49, .int x1, .int 0] [] (F, A, J, G) Q))) : X (d + 6) 118 28 [.ref 49, .int x1, v2] [] (F, A, J, G) Q := by
  refine Y_il1 i_118_28 ?_
  refine Y_bipush (v := 9) i_118_29 (by decide) ?_
  refine Y_cgt i_118_31 (fun e1 => ?_) (fun e1 => ?_)
  · replace h := h.1 e1
    exact Y_vret i_118_97 rt_118 h
  · replace h := h.2 e1
    refine Y_iconst (v := 0) i_118_34 (by decide) ?_
    refine Y_is2 i_118_35 rfl ?_
    exact h
theorem t_118_36 {d : Nat} {F A : Nat → Nat → Int32} {J : Nat → Nat → Int64} {G : pG} {Q : pR → pM → Prop} {SL p q : Nat} {x1 x2 : Int32} (hG : Geo G SL p q) (h : ((9 < x2 → X (d + 6) 118 28 [.ref 49, .int (x1 + 1), .int x2] [] (F, A, J, G) Q) ∧ (¬ 9 < x2 → X (d + 5) 120 0 [.ref 49, .int x1, .int x2, .null, .null, .null] [] (F, A, J, G) (KK (d + 6) 118 48 [.ref 49, .int x1, .int x2] [] Q)))) : X (d + 6) 118 36 [.ref 49, .int x1, .int x2] [] (F, A, J, G) Q := by
  refine Y_il2 i_118_36 ?_
  refine Y_bipush (v := 9) i_118_37 (by decide) ?_
  refine Y_cgt i_118_39 (fun e1 => ?_) (fun e1 => ?_)
  · replace h := h.1 e1
    refine Y_ii1 (v := 1) i_118_91 (by decide) rfl ?_
    refine Y_goto i_118_94 ?_
    exact h
  · replace h := h.2 e1
    refine Y_al0 i_118_42 ?_
    refine Y_il1 i_118_43 ?_
    refine Y_il2 i_118_44 ?_
    exact Y_iv2 (L0 := [.ref 49, .int x1, .int x2, .null, .null, .null]) i_118_45 ow_118 lm_8_140 ((k_49 hG).trans ow_120.symm) rfl mx_120 rfl rfl hd_118 h
theorem k_118_48 {d : Nat} {F A : Nat → Nat → Int32} {J : Nat → Nat → Int64} {G : pG} {Q : pR → pM → Prop} {SL p q : Nat} {x1 x2 r : Int32} (hG : Geo G SL p q) (h : ((r = 0 → X (d + 6) 118 36 [.ref 49, .int x1, .int (x2 + 1)] [] (F, A, J, G) Q) ∧ (¬ r = 0 → (((F 49 3) = 0 → X (d + 6) 118 36 [.ref 49, .int x1, .int (x2 + 1)] [] ((wF (wF F 49 4 (((10 : Int32) * x1) + x2)) 49 3 ((F 49 3) + 1)), A, J, G) Q) ∧ (¬ (F 49 3) = 0 → X (d + 6) 118 36 [.ref 49, .int x1, .int (x2 + 1)] [] ((wF (wF F 49 4 (F 49 4)) 49 3 ((F 49 3) + 1)), A, J, G) Q))))) : KK (d + 6) 118 48 [.ref 49, .int x1, .int x2] [] Q (.inl (some (.int r))) (F, A, J, G) := by
  refine KKi ?_
  refine Y_zeq i_118_48 (fun e1 => ?_) (fun e1 => ?_)
  · replace h := h.1 e1
    refine Y_ii2 (v := 1) i_118_85 (by decide) rfl ?_
    refine Y_goto i_118_88 ?_
    exact h
  · replace h := h.2 e1
    refine Y_al0 i_118_51 ?_
    refine Y_al0 i_118_52 ?_
    refine Y_gI (v := (F 49 3)) i_118_53 ow_118 lf_8_131 (by decide) (k_49 hG) rfl ?_
    refine Y_zne i_118_56 (fun e2 => ?_) (fun e2 => ?_)
    · replace h := h.1 e2
      refine Y_bipush (v := 10) i_118_59 (by decide) ?_
      refine Y_il1 i_118_61 ?_
      refine Y_imul i_118_62 ?_
      refine Y_il2 i_118_63 ?_
      refine Y_iadd i_118_64 ?_
      refine Y_goto i_118_65 ?_
      refine Y_pI i_118_72 ow_118 lf_8_134 (k_49 hG) ?_
      refine Y_al0 i_118_75 ?_
      refine Y_dup i_118_76 rfl ?_
      refine Y_gI (v := (F 49 3)) i_118_77 ow_118 lf_8_131 (by decide) (k_49 hG) (by simp [wF, wJ, va_up, cpR, bF, bA]) ?_
      refine Y_iconst (v := 1) i_118_80 (by decide) ?_
      refine Y_iadd i_118_81 ?_
      refine Y_pI i_118_82 ow_118 lf_8_131 (k_49 hG) ?_
      refine Y_ii2 (v := 1) i_118_85 (by decide) rfl ?_
      refine Y_goto i_118_88 ?_
      exact h
    · replace h := h.2 e2
      refine Y_al0 i_118_68 ?_
      refine Y_gI (v := (F 49 4)) i_118_69 ow_118 lf_8_134 (by decide) (k_49 hG) rfl ?_
      refine Y_pI i_118_72 ow_118 lf_8_134 (k_49 hG) ?_
      refine Y_al0 i_118_75 ?_
      refine Y_dup i_118_76 rfl ?_
      refine Y_gI (v := (F 49 3)) i_118_77 ow_118 lf_8_131 (by decide) (k_49 hG) (by simp [wF, wJ, va_up, cpR, bF, bA]) ?_
      refine Y_iconst (v := 1) i_118_80 (by decide) ?_
      refine Y_iadd i_118_81 ?_
      refine Y_pI i_118_82 ow_118 lf_8_131 (k_49 hG) ?_
      refine Y_ii2 (v := 1) i_118_85 (by decide) rfl ?_
      refine Y_goto i_118_88 ?_
      exact h
/- 119 Trials.fillEatable()V -/
theorem t_119_0 {d : Nat} {F A : Nat → Nat → Int32} {J : Nat → Nat → Int64} {G : pG} {Q : pR → pM → Prop} {SL p q : Nat} (hG : Geo G SL p q) (h : X (d + 5) 119 23 [.ref 49, .int (A 28 0), .int 0] [] ((bF F 53 27), (bA A 53 27), J, G) Q) : X (d + 5) 119 0 [.ref 49, .null, .null] [] (F, A, J, G) Q := by
  refine Y_al0 i_119_0 ?_
  refine Y_gR i_119_1 ow_119 lf_8_25 (k_49 hG) (r_49_1 hG) ?_
  refine Y_gR i_119_4 ow_119 lf_8_77 (k_27 hG) (r_27_4 hG) ?_
  refine Y_iconst (v := 0) i_119_7 (by decide) ?_
  refine Y_iaload (k := 0) (v := (A 28 0)) i_119_8 (k_28 hG) (l_28 hG) (by decide) (by decide) rfl ?_
  refine Y_is1 i_119_9 rfl ?_
  refine Y_al0 i_119_10 ?_
  refine Y_gR i_119_11 ow_119 lf_8_34 (k_49 hG) (r_49_2 hG) ?_
  refine Y_al0 i_119_14 ?_
  refine Y_gR i_119_15 ow_119 lf_8_25 (k_49 hG) (r_49_1 hG) ?_
  refine Y_iv1 (L0 := [.ref 53, .ref 27]) i_119_18 ow_119 lm_8_37 ((k_53 hG).trans ow_76.symm) rfl mx_76 rfl rfl hd_119 ?_
  refine c_76_53_27 hG tw_53 (KKv ?_)
  refine Y_iconst (v := 0) i_119_21 (by decide) ?_
  refine Y_is2 i_119_22 rfl ?_
  exact h
theorem t_119_23 {d : Nat} {F A : Nat → Nat → Int32} {J : Nat → Nat → Int64} {G : pG} {Q : pR → pM → Prop} {SL p q : Nat} {x1 x2 : Int32} (hG : Geo G SL p q) (h : ((9 < x2 → Q (.inl none) (F, A, J, G)) ∧ (¬ 9 < x2 → inB x1 10 = true ∧ (X (d + 4) 89 0 [.ref 53, .null, .null] [] (F, (wF A 55 x1.toNatClampNeg ((A 29 x1.toNatClampNeg) + x2)), J, G) (KK (d + 5) 119 61 [.ref 49, .int x1, .int x2] [.int x2, .ref 52] Q))))) : X (d + 5) 119 23 [.ref 49, .int x1, .int x2] [] (F, A, J, G) Q := by
  refine Y_il2 i_119_23 ?_
  refine Y_bipush (v := 9) i_119_24 (by decide) ?_
  refine Y_cgt i_119_26 (fun e1 => ?_) (fun e1 => ?_)
  · replace h := h.1 e1
    exact Y_vret i_119_68 rt_119 h
  · replace h := h.2 e1
    refine Y_al0 i_119_29 ?_
    refine Y_gR i_119_30 ow_119 lf_8_34 (k_49 hG) (r_49_2 hG) ?_
    refine Y_gR i_119_33 ow_119 lf_8_88 (k_53 hG) (r_53_5 hG) ?_
    refine Y_il1 i_119_36 ?_
    refine Y_al0 i_119_37 ?_
    refine Y_gR i_119_38 ow_119 lf_8_25 (k_49 hG) (r_49_1 hG) ?_
    refine Y_gR i_119_41 ow_119 lf_8_88 (k_27 hG) (r_27_5 hG) ?_
    refine Y_il1 i_119_44 ?_
    have o2 := h.1
    replace h := h.2
    refine Y_iaload (k := x1.toNatClampNeg) (v := (A 29 x1.toNatClampNeg)) i_119_45 (k_29 hG) (l_29 hG) o2 rfl rfl ?_
    refine Y_il2 i_119_46 ?_
    refine Y_iadd i_119_47 ?_
    refine Y_iast i_119_48 (k_55 hG) (l_55 hG) o2 rfl ?_
    refine Y_al0 i_119_49 ?_
    refine Y_gR i_119_50 ow_119 lf_8_18 (k_49 hG) (r_49_11 hG) ?_
    refine Y_il2 i_119_53 ?_
    refine Y_al0 i_119_54 ?_
    refine Y_gR i_119_55 ow_119 lf_8_34 (k_49 hG) (r_49_2 hG) ?_
    exact Y_iv0 (L0 := [.ref 53, .null, .null]) i_119_58 ow_119 lm_8_49 ((k_53 hG).trans ow_89.symm) rfl mx_89 rfl rfl hd_119 h
theorem k_119_61 {d : Nat} {F A : Nat → Nat → Int32} {J : Nat → Nat → Int64} {G : pG} {Q : pR → pM → Prop} {SL p q : Nat} {x1 x2 r s0 : Int32} (hG : Geo G SL p q) (h : inB s0 10 = true ∧ (X (d + 5) 119 23 [.ref 49, .int x1, .int (x2 + 1)] [] (F, (wF A 52 s0.toNatClampNeg r), J, G) Q)) : KK (d + 5) 119 61 [.ref 49, .int x1, .int x2] [.int s0, .ref 52] Q (.inl (some (.int r))) (F, A, J, G) := by
  refine KKi ?_
  have o1 := h.1
  replace h := h.2
  refine Y_iast i_119_61 (k_52 hG) (l_52 hG) o1 rfl ?_
  refine Y_ii2 (v := 1) i_119_62 (by decide) rfl ?_
  refine Y_goto i_119_65 ?_
  exact h
/- 120 Trials.rests(II)Z -/
theorem t_120_0 {d : Nat} {F A : Nat → Nat → Int32} {J : Nat → Nat → Int64} {G : pG} {Q : pR → pM → Prop} {SL p q : Nat} {x1 x2 : Int32} (hG : Geo G SL p q) (h : inB x1 10 = true ∧ (((A 52 x1.toNatClampNeg) < x2 → (((A 52 x1.toNatClampNeg) < x2 → X (d + 1) 120 20 [.ref 49, .int x1, .int x2, .int (x1 - 20), .int (x2 - 20), .int 0] [] (F, A, J, G) Q) ∧ (¬ (A 52 x1.toNatClampNeg) < x2 → X (d + 1) 120 20 [.ref 49, .int x1, .int x2, .int (x1 - 20), .int x2, .int 0] [] (F, A, J, G) Q))) ∧ (¬ (A 52 x1.toNatClampNeg) < x2 → (((A 52 x1.toNatClampNeg) < x2 → X (d + 1) 120 20 [.ref 49, .int x1, .int x2, .int x1, .int (x2 - 20), .int 0] [] (F, A, J, G) Q) ∧ (¬ (A 52 x1.toNatClampNeg) < x2 → X (d + 1) 120 20 [.ref 49, .int x1, .int x2, .int x1, .int x2, .int 0] [] (F, A, J, G) Q))))) : X (d + 1) 120 0 [.ref 49, .int x1, .int x2, .null, .null, .null] [] (F, A, J, G) Q := by
  refine Y_al0 i_120_0 ?_
  refine Y_il1 i_120_1 ?_
  refine Y_il1 i_120_2 ?_
  refine Y_il2 i_120_3 ?_
  refine Y_iv3 (L0 := [.ref 49, .int x1, .int x1, .int x2]) i_120_4 ow_120 lm_8_144 ((k_49 hG).trans ow_121.symm) rfl mx_121 rfl rfl hd_120 ?_
  refine Y_il3 i_121_0 ?_
  refine Y_al0 i_121_1 ?_
  refine Y_gR i_121_2 ow_121 lf_8_18 (k_49 hG) (r_49_11 hG) ?_
  refine Y_il2 i_121_5 ?_
  have o1 := h.1
  replace h := h.2
  refine Y_iaload (k := x1.toNatClampNeg) (v := (A 52 x1.toNatClampNeg)) i_121_6 (k_52 hG) (l_52 hG) o1 rfl rfl ?_
  refine Y_cgt i_121_7 (fun e2 => ?_) (fun e2 => ?_)
  · replace h := h.1 e2
    refine Y_il1 i_121_14 ?_
    refine Y_bipush (v := 20) i_121_15 (by decide) ?_
    refine Y_isub i_121_17 ?_
    refine Y_iret i_121_18 rt_121 (KKi ?_)
    refine Y_is3 i_120_7 rfl ?_
    refine Y_al0 i_120_8 ?_
    refine Y_il2 i_120_9 ?_
    refine Y_il1 i_120_10 ?_
    refine Y_il2 i_120_11 ?_
    refine Y_iv3 (L0 := [.ref 49, .int x2, .int x1, .int x2]) i_120_12 ow_120 lm_8_144 ((k_49 hG).trans ow_121.symm) rfl mx_121 rfl rfl hd_120 ?_
    refine Y_il3 i_121_0 ?_
    refine Y_al0 i_121_1 ?_
    refine Y_gR i_121_2 ow_121 lf_8_18 (k_49 hG) (r_49_11 hG) ?_
    refine Y_il2 i_121_5 ?_
    refine Y_iaload (k := x1.toNatClampNeg) (v := (A 52 x1.toNatClampNeg)) i_121_6 (k_52 hG) (l_52 hG) o1 rfl rfl ?_
    refine Y_cgt i_121_7 (fun e3 => ?_) (fun e3 => ?_)
    · replace h := h.1 e3
      refine Y_il1 i_121_14 ?_
      refine Y_bipush (v := 20) i_121_15 (by decide) ?_
      refine Y_isub i_121_17 ?_
      refine Y_iret i_121_18 rt_121 (KKi ?_)
      refine Y_is4 i_120_15 rfl ?_
      refine Y_iconst (v := 0) i_120_17 (by decide) ?_
      refine Y_is5 i_120_18 rfl ?_
      exact h
    · replace h := h.2 e3
      refine Y_il1 i_121_10 ?_
      refine Y_goto i_121_11 ?_
      refine Y_iret i_121_18 rt_121 (KKi ?_)
      refine Y_is4 i_120_15 rfl ?_
      refine Y_iconst (v := 0) i_120_17 (by decide) ?_
      refine Y_is5 i_120_18 rfl ?_
      exact h
  · replace h := h.2 e2
    refine Y_il1 i_121_10 ?_
    refine Y_goto i_121_11 ?_
    refine Y_iret i_121_18 rt_121 (KKi ?_)
    refine Y_is3 i_120_7 rfl ?_
    refine Y_al0 i_120_8 ?_
    refine Y_il2 i_120_9 ?_
    refine Y_il1 i_120_10 ?_
    refine Y_il2 i_120_11 ?_
    refine Y_iv3 (L0 := [.ref 49, .int x2, .int x1, .int x2]) i_120_12 ow_120 lm_8_144 ((k_49 hG).trans ow_121.symm) rfl mx_121 rfl rfl hd_120 ?_
    refine Y_il3 i_121_0 ?_
    refine Y_al0 i_121_1 ?_
    refine Y_gR i_121_2 ow_121 lf_8_18 (k_49 hG) (r_49_11 hG) ?_
    refine Y_il2 i_121_5 ?_
    refine Y_iaload (k := x1.toNatClampNeg) (v := (A 52 x1.toNatClampNeg)) i_121_6 (k_52 hG) (l_52 hG) o1 rfl rfl ?_
    refine Y_cgt i_121_7 (fun e4 => ?_) (fun e4 => ?_)
    · replace h := h.1 e4
      refine Y_il1 i_121_14 ?_
      refine Y_bipush (v := 20) i_121_15 (by decide) ?_
      refine Y_isub i_121_17 ?_
      refine Y_iret i_121_18 rt_121 (KKi ?_)
      refine Y_is4 i_120_15 rfl ?_
      refine Y_iconst (v := 0) i_120_17 (by decide) ?_
      refine Y_is5 i_120_18 rfl ?_
      exact h
    · replace h := h.2 e4
      refine Y_il1 i_121_10 ?_
      refine Y_goto i_121_11 ?_
      refine Y_iret i_121_18 rt_121 (KKi ?_)
      refine Y_is4 i_120_15 rfl ?_
      refine Y_iconst (v := 0) i_120_17 (by decide) ?_
      refine Y_is5 i_120_18 rfl ?_
      exact h
theorem t_120_20 {d : Nat} {F A : Nat → Nat → Int32} {J : Nat → Nat → Int64} {G : pG} {Q : pR → pM → Prop} {SL p q : Nat} {x1 x2 x3 x4 x5 : Int32} (hG : Geo G SL p q) (h : ((9 < x5 → Q (.inl (some (.int 1))) (F, A, J, G)) ∧ (¬ 9 < x5 → inB x5 10 = true ∧ (((A 52 x5.toNatClampNeg) < x2 → ((x3 < (x5 - 20) → Q (.inl (some (.int 0))) (F, A, J, G)) ∧ (¬ x3 < (x5 - 20) → inB x1 10 = true ∧ (((A 52 x1.toNatClampNeg) < x5 → ((x4 < (x5 - 20) → Q (.inl (some (.int 0))) (F, A, J, G)) ∧ (¬ x4 < (x5 - 20) → X (d + 1) 120 20 [.ref 49, .int x1, .int x2, .int x3, .int x4, .int (x5 + 1)] [] (F, A, J, G) Q))) ∧ (¬ (A 52 x1.toNatClampNeg) < x5 → ((x4 < x5 → Q (.inl (some (.int 0))) (F, A, J, G)) ∧ (¬ x4 < x5 → X (d + 1) 120 20 [.ref 49, .int x1, .int x2, .int x3, .int x4, .int (x5 + 1)] [] (F, A, J, G) Q))))))) ∧ (¬ (A 52 x5.toNatClampNeg) < x2 → ((x3 < x5 → Q (.inl (some (.int 0))) (F, A, J, G)) ∧ (¬ x3 < x5 → inB x1 10 = true ∧ (((A 52 x1.toNatClampNeg) < x5 → ((x4 < (x5 - 20) → Q (.inl (some (.int 0))) (F, A, J, G)) ∧ (¬ x4 < (x5 - 20) → X (d + 1) 120 20 [.ref 49, .int x1, .int x2, .int x3, .int x4, .int (x5 + 1)] [] (F, A, J, G) Q))) ∧ (¬ (A 52 x1.toNatClampNeg) < x5 → ((x4 < x5 → Q (.inl (some (.int 0))) (F, A, J, G)) ∧ (¬ x4 < x5 → X (d + 1) 120 20 [.ref 49, .int x1, .int x2, .int x3, .int x4, .int (x5 + 1)] [] (F, A, J, G) Q))))))))))) : X (d + 1) 120 20 [.ref 49, .int x1, .int x2, .int x3, .int x4, .int x5] [] (F, A, J, G) Q := by
  refine Y_il5 i_120_20 ?_
  refine Y_bipush (v := 9) i_120_22 (by decide) ?_
  refine Y_cgt i_120_24 (fun e1 => ?_) (fun e1 => ?_)
  · replace h := h.1 e1
    refine Y_iconst (v := 1) i_120_62 (by decide) ?_
    exact Y_bret i_120_63 rt_120 (by decide) h
  · replace h := h.2 e1
    refine Y_al0 i_120_27 ?_
    refine Y_il5 i_120_28 ?_
    refine Y_il5 i_120_30 ?_
    refine Y_il2 i_120_32 ?_
    refine Y_iv3 (L0 := [.ref 49, .int x5, .int x5, .int x2]) i_120_33 ow_120 lm_8_144 ((k_49 hG).trans ow_121.symm) rfl mx_121 rfl rfl hd_120 ?_
    refine Y_il3 i_121_0 ?_
    refine Y_al0 i_121_1 ?_
    refine Y_gR i_121_2 ow_121 lf_8_18 (k_49 hG) (r_49_11 hG) ?_
    refine Y_il2 i_121_5 ?_
    have o2 := h.1
    replace h := h.2
    refine Y_iaload (k := x5.toNatClampNeg) (v := (A 52 x5.toNatClampNeg)) i_121_6 (k_52 hG) (l_52 hG) o2 rfl rfl ?_
    refine Y_cgt i_121_7 (fun e3 => ?_) (fun e3 => ?_)
    · replace h := h.1 e3
      refine Y_il1 i_121_14 ?_
      refine Y_bipush (v := 20) i_121_15 (by decide) ?_
      refine Y_isub i_121_17 ?_
      refine Y_iret i_121_18 rt_121 (KKi ?_)
      refine Y_il3 i_120_36 ?_
      refine Y_cgt i_120_37 (fun e4 => ?_) (fun e4 => ?_)
      · replace h := h.1 e4
        refine Y_iconst (v := 0) i_120_54 (by decide) ?_
        exact Y_bret i_120_55 rt_120 (by decide) h
      · replace h := h.2 e4
        refine Y_al0 i_120_40 ?_
        refine Y_il5 i_120_41 ?_
        refine Y_il1 i_120_43 ?_
        refine Y_il5 i_120_44 ?_
        refine Y_iv3 (L0 := [.ref 49, .int x5, .int x1, .int x5]) i_120_46 ow_120 lm_8_144 ((k_49 hG).trans ow_121.symm) rfl mx_121 rfl rfl hd_120 ?_
        refine Y_il3 i_121_0 ?_
        refine Y_al0 i_121_1 ?_
        refine Y_gR i_121_2 ow_121 lf_8_18 (k_49 hG) (r_49_11 hG) ?_
        refine Y_il2 i_121_5 ?_
        have o5 := h.1
        replace h := h.2
        refine Y_iaload (k := x1.toNatClampNeg) (v := (A 52 x1.toNatClampNeg)) i_121_6 (k_52 hG) (l_52 hG) o5 rfl rfl ?_
        refine Y_cgt i_121_7 (fun e6 => ?_) (fun e6 => ?_)
        · replace h := h.1 e6
          refine Y_il1 i_121_14 ?_
          refine Y_bipush (v := 20) i_121_15 (by decide) ?_
          refine Y_isub i_121_17 ?_
          refine Y_iret i_121_18 rt_121 (KKi ?_)
          refine Y_il4 i_120_49 ?_
          refine Y_cle i_120_51 (fun e7 => ?_) (fun e7 => ?_)
          · replace h := h.1 e7
            refine Y_iconst (v := 0) i_120_54 (by decide) ?_
            exact Y_bret i_120_55 rt_120 (by decide) h
          · replace h := h.2 e7
            refine Y_ii5 (v := 1) i_120_56 (by decide) rfl ?_
            refine Y_goto i_120_59 ?_
            exact h
        · replace h := h.2 e6
          refine Y_il1 i_121_10 ?_
          refine Y_goto i_121_11 ?_
          refine Y_iret i_121_18 rt_121 (KKi ?_)
          refine Y_il4 i_120_49 ?_
          refine Y_cle i_120_51 (fun e8 => ?_) (fun e8 => ?_)
          · replace h := h.1 e8
            refine Y_iconst (v := 0) i_120_54 (by decide) ?_
            exact Y_bret i_120_55 rt_120 (by decide) h
          · replace h := h.2 e8
            refine Y_ii5 (v := 1) i_120_56 (by decide) rfl ?_
            refine Y_goto i_120_59 ?_
            exact h
    · replace h := h.2 e3
      refine Y_il1 i_121_10 ?_
      refine Y_goto i_121_11 ?_
      refine Y_iret i_121_18 rt_121 (KKi ?_)
      refine Y_il3 i_120_36 ?_
      refine Y_cgt i_120_37 (fun e9 => ?_) (fun e9 => ?_)
      · replace h := h.1 e9
        refine Y_iconst (v := 0) i_120_54 (by decide) ?_
        exact Y_bret i_120_55 rt_120 (by decide) h
      · replace h := h.2 e9
        refine Y_al0 i_120_40 ?_
        refine Y_il5 i_120_41 ?_
        refine Y_il1 i_120_43 ?_
        refine Y_il5 i_120_44 ?_
        refine Y_iv3 (L0 := [.ref 49, .int x5, .int x1, .int x5]) i_120_46 ow_120 lm_8_144 ((k_49 hG).trans ow_121.symm) rfl mx_121 rfl rfl hd_120 ?_
        refine Y_il3 i_121_0 ?_
        refine Y_al0 i_121_1 ?_
        refine Y_gR i_121_2 ow_121 lf_8_18 (k_49 hG) (r_49_11 hG) ?_
        refine Y_il2 i_121_5 ?_
        have o10 := h.1
        replace h := h.2
        refine Y_iaload (k := x1.toNatClampNeg) (v := (A 52 x1.toNatClampNeg)) i_121_6 (k_52 hG) (l_52 hG) o10 rfl rfl ?_
        refine Y_cgt i_121_7 (fun e11 => ?_) (fun e11 => ?_)
        · replace h := h.1 e11
          refine Y_il1 i_121_14 ?_
          refine Y_bipush (v := 20) i_121_15 (by decide) ?_
          refine Y_isub i_121_17 ?_
          refine Y_iret i_121_18 rt_121 (KKi ?_)
          refine Y_il4 i_120_49 ?_
          refine Y_cle i_120_51 (fun e12 => ?_) (fun e12 => ?_)
          · replace h := h.1 e12
            refine Y_iconst (v := 0) i_120_54 (by decide) ?_
            exact Y_bret i_120_55 rt_120 (by decide) h
          · replace h := h.2 e12
            refine Y_ii5 (v := 1) i_120_56 (by decide) rfl ?_
            refine Y_goto i_120_59 ?_
            exact h
        · replace h := h.2 e11
          refine Y_il1 i_121_10 ?_
          refine Y_goto i_121_11 ?_
          refine Y_iret i_121_18 rt_121 (KKi ?_)
          refine Y_il4 i_120_49 ?_
          refine Y_cle i_120_51 (fun e13 => ?_) (fun e13 => ?_)
          · replace h := h.1 e13
            refine Y_iconst (v := 0) i_120_54 (by decide) ?_
            exact Y_bret i_120_55 rt_120 (by decide) h
          · replace h := h.2 e13
            refine Y_ii5 (v := 1) i_120_56 (by decide) rfl ?_
            refine Y_goto i_120_59 ?_
            exact h
/- 121 Trials.gain(III)I -/
theorem t_121_0 {d : Nat} {F A : Nat → Nat → Int32} {J : Nat → Nat → Int64} {G : pG} {Q : pR → pM → Prop} {SL p q : Nat} {x1 x2 x3 : Int32} (hG : Geo G SL p q) (h : inB x2 10 = true ∧ (((A 52 x2.toNatClampNeg) < x3 → Q (.inl (some (.int (x1 - 20)))) (F, A, J, G)) ∧ (¬ (A 52 x2.toNatClampNeg) < x3 → Q (.inl (some (.int x1))) (F, A, J, G)))) : X d 121 0 [.ref 49, .int x1, .int x2, .int x3] [] (F, A, J, G) Q := by
  refine Y_il3 i_121_0 ?_
  refine Y_al0 i_121_1 ?_
  refine Y_gR i_121_2 ow_121 lf_8_18 (k_49 hG) (r_49_11 hG) ?_
  refine Y_il2 i_121_5 ?_
  have o1 := h.1
  replace h := h.2
  refine Y_iaload (k := x2.toNatClampNeg) (v := (A 52 x2.toNatClampNeg)) i_121_6 (k_52 hG) (l_52 hG) o1 rfl rfl ?_
  refine Y_cgt i_121_7 (fun e2 => ?_) (fun e2 => ?_)
  · replace h := h.1 e2
    refine Y_il1 i_121_14 ?_
    refine Y_bipush (v := 20) i_121_15 (by decide) ?_
    refine Y_isub i_121_17 ?_
    exact Y_iret i_121_18 rt_121 h
  · replace h := h.2 e2
    refine Y_il1 i_121_10 ?_
    refine Y_goto i_121_11 ?_
    exact Y_iret i_121_18 rt_121 h
/- 122 Trials.live(II)V -/
theorem t_122_0 {d : Nat} {F A : Nat → Nat → Int32} {J : Nat → Nat → Int64} {G : pG} {Q : pR → pM → Prop} {SL p q : Nat} {x1 x2 : Int32} (hG : Geo G SL p q) (h : X (d + 5) 122 28 [.ref 49, .int x1, .int x2, .int 1] [] ((bF (wF (wF (wF F 49 8 x1) 49 5 0) 49 6 (-1)) 53 27), (bA A 53 27), J, G) Q) : X (d + 5) 122 0 [.ref 49, .int x1, .int x2, .null] [] (F, A, J, G) Q := by
  refine Y_al0 i_122_0 ?_
  refine Y_il1 i_122_1 ?_
  refine Y_pI i_122_2 ow_122 lf_8_148 (k_49 hG) ?_
  refine Y_al0 i_122_5 ?_
  refine Y_iconst (v := 0) i_122_6 (by decide) ?_
  refine Y_pI i_122_7 ow_122 lf_8_151 (k_49 hG) ?_
  refine Y_al0 i_122_10 ?_
  refine Y_iconst (v := (-1)) i_122_11 (by decide) ?_
  refine Y_pI i_122_12 ow_122 lf_8_154 (k_49 hG) ?_
  refine Y_al0 i_122_15 ?_
  refine Y_gR i_122_16 ow_122 lf_8_34 (k_49 hG) (r_49_2 hG) ?_
  refine Y_al0 i_122_19 ?_
  refine Y_gR i_122_20 ow_122 lf_8_25 (k_49 hG) (r_49_1 hG) ?_
  refine Y_iv1 (L0 := [.ref 53, .ref 27]) i_122_23 ow_122 lm_8_37 ((k_53 hG).trans ow_76.symm) rfl mx_76 rfl rfl hd_122 ?_
  refine c_76_53_27 hG tw_53 (KKv ?_)
  refine Y_iconst (v := 1) i_122_26 (by decide) ?_
  refine Y_is3 i_122_27 rfl ?_
  exact h
theorem t_122_28 {d : Nat} {F A : Nat → Nat → Int32} {J : Nat → Nat → Int64} {G : pG} {Q : pR → pM → Prop} {SL p q : Nat} {x1 x2 x3 : Int32} (hG : Geo G SL p q) (h : ((x2 < x3 → X (d + 4) 84 0 [.ref 53, .null, .null, .null] [] (F, A, J, G) (KK (d + 5) 122 86 [.ref 49, .int x1, .int x2, .int x3] [] Q)) ∧ (¬ x2 < x3 → X (d + 4) 123 0 [.ref 49, .null, .null] [] (F, A, J, G) (KK (d + 5) 122 37 [.ref 49, .int x1, .int x2, .int x3] [] Q)))) : X (d + 5) 122 28 [.ref 49, .int x1, .int x2, .int x3] [] (F, A, J, G) Q := by
  refine Y_il3 i_122_28 ?_
  refine Y_il2 i_122_29 ?_
  refine Y_cgt i_122_30 (fun e1 => ?_) (fun e1 => ?_)
  · replace h := h.1 e1
    refine Y_al0 i_122_79 ?_
    refine Y_gR i_122_80 ow_122 lf_8_34 (k_49 hG) (r_49_2 hG) ?_
    exact Y_iv0 (L0 := [.ref 53, .null, .null, .null]) i_122_83 ow_122 lm_8_160 ((k_53 hG).trans ow_84.symm) rfl mx_84 rfl rfl hd_122 h
  · replace h := h.2 e1
    refine Y_al0 i_122_33 ?_
    exact Y_iv0 (L0 := [.ref 49, .null, .null]) i_122_34 ow_122 lm_8_157 ((k_49 hG).trans ow_123.symm) rfl mx_123 rfl rfl hd_122 h
theorem k_122_37 {d : Nat} {F A : Nat → Nat → Int32} {J : Nat → Nat → Int64} {G : pG} {Q : pR → pM → Prop} {SL p q : Nat} {x1 x2 x3 : Int32} (hG : Geo G SL p q) (h : X (d + 4) 88 0 [.ref 53] [] (F, A, J, G) (KK (d + 5) 122 44 [.ref 49, .int x1, .int x2, .int x3] [] Q)) : KK (d + 5) 122 37 [.ref 49, .int x1, .int x2, .int x3] [] Q (.inl none) (F, A, J, G) := by
  refine KKv ?_
  refine Y_al0 i_122_37 ?_
  refine Y_gR i_122_38 ow_122 lf_8_34 (k_49 hG) (r_49_2 hG) ?_
  exact Y_iv0 (L0 := [.ref 53]) i_122_41 ow_122 lm_8_80 ((k_53 hG).trans ow_88.symm) rfl mx_88 rfl rfl hd_122 h
theorem k_122_44 {d : Nat} {F A : Nat → Nat → Int32} {J : Nat → Nat → Int64} {G : pG} {Q : pR → pM → Prop} {SL p q : Nat} {x1 x2 x3 r : Int32} (hG : Geo G SL p q) (h : ((r = 0 → (((F 49 6) = (-1) → X (d + 5) 122 28 [.ref 49, .int x1, .int x2, .int (x3 + 1)] [] ((wF F 49 6 x3), A, J, G) Q) ∧ (¬ (F 49 6) = (-1) → X (d + 5) 122 28 [.ref 49, .int x1, .int x2, .int (x3 + 1)] [] (F, A, J, G) Q))) ∧ (¬ r = 0 → X (d + 5) 122 28 [.ref 49, .int x1, .int x2, .int (x3 + 1)] [] ((wF F 49 5 ((F 49 5) + 1)), A, J, G) Q))) : KK (d + 5) 122 44 [.ref 49, .int x1, .int x2, .int x3] [] Q (.inl (some (.int r))) (F, A, J, G) := by
  refine KKi ?_
  refine Y_zeq i_122_44 (fun e1 => ?_) (fun e1 => ?_)
  · replace h := h.1 e1
    refine Y_al0 i_122_60 ?_
    refine Y_gI (v := (F 49 6)) i_122_61 ow_122 lf_8_154 (by decide) (k_49 hG) rfl ?_
    refine Y_iconst (v := (-1)) i_122_64 (by decide) ?_
    refine Y_cne i_122_65 (fun e2 => ?_) (fun e2 => ?_)
    · replace h := h.1 e2
      refine Y_al0 i_122_68 ?_
      refine Y_il3 i_122_69 ?_
      refine Y_pI i_122_70 ow_122 lf_8_154 (k_49 hG) ?_
      refine Y_ii3 (v := 1) i_122_73 (by decide) rfl ?_
      refine Y_goto i_122_76 ?_
      exact h
    · replace h := h.2 e2
      refine Y_ii3 (v := 1) i_122_73 (by decide) rfl ?_
      refine Y_goto i_122_76 ?_
      exact h
  · replace h := h.2 e1
    refine Y_al0 i_122_47 ?_
    refine Y_dup i_122_48 rfl ?_
    refine Y_gI (v := (F 49 5)) i_122_49 ow_122 lf_8_151 (by decide) (k_49 hG) rfl ?_
    refine Y_iconst (v := 1) i_122_52 (by decide) ?_
    refine Y_iadd i_122_53 ?_
    refine Y_pI i_122_54 ow_122 lf_8_151 (k_49 hG) ?_
    refine Y_goto i_122_57 ?_
    refine Y_ii3 (v := 1) i_122_73 (by decide) rfl ?_
    refine Y_goto i_122_76 ?_
    exact h
theorem k_122_86 {d : Nat} {F A : Nat → Nat → Int32} {J : Nat → Nat → Int64} {G : pG} {Q : pR → pM → Prop} {SL p q : Nat} {x1 x2 x3 : Int32} (hG : Geo G SL p q) (h : (((F 53 1) = 0 → Q (.inl none) ((wF F 49 7 0), A, J, G)) ∧ (¬ (F 53 1) = 0 → Q (.inl none) ((wF F 49 7 (A 58 0)), A, J, G)))) : KK (d + 5) 122 86 [.ref 49, .int x1, .int x2, .int x3] [] Q (.inl none) (F, A, J, G) := by
  refine KKv ?_
  refine Y_al0 i_122_86 ?_
  refine Y_al0 i_122_87 ?_
  refine Y_gR i_122_88 ow_122 lf_8_34 (k_49 hG) (r_49_2 hG) ?_
  refine Y_gI (v := (F 53 1)) i_122_91 ow_122 lf_8_74 (by decide) (k_53 hG) rfl ?_
  refine Y_zne i_122_94 (fun e1 => ?_) (fun e1 => ?_)
  · replace h := h.1 e1
    refine Y_iconst (v := 0) i_122_97 (by decide) ?_
    refine Y_goto i_122_98 ?_
    refine Y_pI i_122_110 ow_122 lf_8_166 (k_49 hG) ?_
    exact Y_vret i_122_113 rt_122 h
  · replace h := h.2 e1
    refine Y_al0 i_122_101 ?_
    refine Y_gR i_122_102 ow_122 lf_8_34 (k_49 hG) (r_49_2 hG) ?_
    refine Y_gR i_122_105 ow_122 lf_8_163 (k_53 hG) (r_53_8 hG) ?_
    refine Y_iconst (v := 0) i_122_108 (by decide) ?_
    refine Y_iaload (k := 0) (v := (A 58 0)) i_122_109 (k_58 hG) (l_58 hG) (by decide) (by decide) rfl ?_
    refine Y_pI i_122_110 ow_122 lf_8_166 (k_49 hG) ?_
    exact Y_vret i_122_113 rt_122 h
/- 123 Trials.liveAYear()V -/
theorem t_123_0 {d : Nat} {F A : Nat → Nat → Int32} {J : Nat → Nat → Int64} {G : pG} {Q : pR → pM → Prop} {SL p q : Nat} (hG : Geo G SL p q) (h : (((F 12 0) = 0 → Q (.inl none) ((wF F 53 2 ((F 53 2) + 1)), A, J, G)) ∧ (¬ (F 12 0) = 0 → X d 124 0 [.ref 49, .int (F 12 0)] [] ((wF F 53 2 ((F 53 2) + 1)), A, J, G) (KK (d + 1) 123 35 [.ref 49, .null, .null] [] Q)))) : X (d + 1) 123 0 [.ref 49, .null, .null] [] (F, A, J, G) Q := by
  refine Y_al0 i_123_0 ?_
  refine Y_gR i_123_1 ow_123 lf_8_34 (k_49 hG) (r_49_2 hG) ?_
  refine Y_dup i_123_4 rfl ?_
  refine Y_gI (v := (F 53 2)) i_123_5 ow_123 lf_8_94 (by decide) (k_53 hG) rfl ?_
  refine Y_iconst (v := 1) i_123_8 (by decide) ?_
  refine Y_iadd i_123_9 ?_
  refine Y_pI i_123_10 ow_123 lf_8_94 (k_53 hG) ?_
  refine Y_al0 i_123_13 ?_
  refine Y_gR i_123_14 ow_123 lf_8_21 (k_49 hG) (r_49_0 hG) ?_
  refine Y_gI (v := (F 12 0)) i_123_17 ow_123 lf_8_53 (by decide) (k_12 hG) (by simp [wF, wJ, va_up, cpR, bF, bA]) ?_
  refine Y_zne i_123_20 (fun e1 => ?_) (fun e1 => ?_)
  · replace h := h.1 e1
    exact Y_vret i_123_23 rt_123 h
  · replace h := h.2 e1
    refine Y_al0 i_123_24 ?_
    refine Y_al0 i_123_25 ?_
    refine Y_gR i_123_26 ow_123 lf_8_21 (k_49 hG) (r_49_0 hG) ?_
    refine Y_gI (v := (F 12 0)) i_123_29 ow_123 lf_8_53 (by decide) (k_12 hG) (by simp [wF, wJ, va_up, cpR, bF, bA]) ?_
    exact Y_iv1 (L0 := [.ref 49, .int (F 12 0)]) i_123_32 ow_123 lm_8_169 ((k_49 hG).trans ow_124.symm) rfl mx_124 rfl rfl hd_123 h
theorem k_123_35 {d : Nat} {F A : Nat → Nat → Int32} {J : Nat → Nat → Int64} {G : pG} {Q : pR → pM → Prop} {SL p q : Nat} {r : Int32} (hG : Geo G SL p q) (h : X d 124 0 [.ref 49, .int 5] [] (F, A, J, G) (KK (d + 1) 123 41 [.ref 49, .int r, .null] [] Q)) : KK (d + 1) 123 35 [.ref 49, .null, .null] [] Q (.inl (some (.int r))) (F, A, J, G) := by
  refine KKi ?_
  refine Y_is1 i_123_35 rfl ?_
  refine Y_al0 i_123_36 ?_
  refine Y_iconst (v := 5) i_123_37 (by decide) ?_
  exact Y_iv1 (L0 := [.ref 49, .int 5]) i_123_38 ow_123 lm_8_169 ((k_49 hG).trans ow_124.symm) rfl mx_124 rfl rfl hd_123 h
theorem k_123_41 {d : Nat} {F A : Nat → Nat → Int32} {J : Nat → Nat → Int64} {G : pG} {Q : pR → pM → Prop} {SL p q : Nat} {x1 r : Int32} (hG : Geo G SL p q) (h : ((r = 0 → inB x1 10 = true ∧ (Q (.inl none) (F, (wF A 57 x1.toNatClampNeg (jmin 9 ((A 57 x1.toNatClampNeg) + 1))), J, G))) ∧ (¬ r = 0 → ((r = 1 → inB x1 10 = true ∧ (Q (.inl none) (F, (wF A 57 x1.toNatClampNeg (jmax (-9) ((A 57 x1.toNatClampNeg) - 1))), J, G))) ∧ (¬ r = 1 → ((r = 2 → hB (F 53 1) = true ∧ (((lvI (A 54) (F 53 1) x1) = (-1) → Q (.inl none) (F, A, J, G)) ∧ (¬ (lvI (A 54) (F 53 1) x1) = (-1) → inB x1 10 = true ∧ (Q (.inl none) (F, (wF A 55 x1.toNatClampNeg ((A 55 x1.toNatClampNeg) + (A 17 x1.toNatClampNeg))), J, G))))) ∧ (¬ r = 2 → Q (.inl none) (F, A, J, G)))))))) : KK (d + 1) 123 41 [.ref 49, .int x1, .null] [] Q (.inl (some (.int r))) (F, A, J, G) := by
  refine KKi ?_
  refine Y_is2 i_123_41 rfl ?_
  refine Y_il2 i_123_42 ?_
  refine Y_zne i_123_43 (fun e1 => ?_) (fun e1 => ?_)
  · replace h := h.1 e1
    refine Y_al0 i_123_46 ?_
    refine Y_gR i_123_47 ow_123 lf_8_34 (k_49 hG) (r_49_2 hG) ?_
    refine Y_gR i_123_50 ow_123 lf_8_122 (k_53 hG) (r_53_7 hG) ?_
    refine Y_il1 i_123_53 ?_
    refine Y_bipush (v := 9) i_123_54 (by decide) ?_
    refine Y_al0 i_123_56 ?_
    refine Y_gR i_123_57 ow_123 lf_8_34 (k_49 hG) (r_49_2 hG) ?_
    refine Y_gR i_123_60 ow_123 lf_8_122 (k_53 hG) (r_53_7 hG) ?_
    refine Y_il1 i_123_63 ?_
    have o2 := h.1
    replace h := h.2
    refine Y_iaload (k := x1.toNatClampNeg) (v := (A 57 x1.toNatClampNeg)) i_123_64 (k_57 hG) (l_57 hG) o2 rfl rfl ?_
    refine Y_iconst (v := 1) i_123_65 (by decide) ?_
    refine Y_iadd i_123_66 ?_
    refine Y_min i_123_67 ow_123 lm_8_113 rfl ?_
    refine Y_iast i_123_70 (k_57 hG) (l_57 hG) o2 rfl ?_
    refine Y_goto i_123_71 ?_
    exact Y_vret i_123_145 rt_123 h
  · replace h := h.2 e1
    refine Y_il2 i_123_74 ?_
    refine Y_iconst (v := 1) i_123_75 (by decide) ?_
    refine Y_cne i_123_76 (fun e3 => ?_) (fun e3 => ?_)
    · replace h := h.1 e3
      refine Y_al0 i_123_79 ?_
      refine Y_gR i_123_80 ow_123 lf_8_34 (k_49 hG) (r_49_2 hG) ?_
      refine Y_gR i_123_83 ow_123 lf_8_122 (k_53 hG) (r_53_7 hG) ?_
      refine Y_il1 i_123_86 ?_
      refine Y_bipush (v := (-9)) i_123_87 (by decide) ?_
      refine Y_al0 i_123_89 ?_
      refine Y_gR i_123_90 ow_123 lf_8_34 (k_49 hG) (r_49_2 hG) ?_
      refine Y_gR i_123_93 ow_123 lf_8_122 (k_53 hG) (r_53_7 hG) ?_
      refine Y_il1 i_123_96 ?_
      have o4 := h.1
      replace h := h.2
      refine Y_iaload (k := x1.toNatClampNeg) (v := (A 57 x1.toNatClampNeg)) i_123_97 (k_57 hG) (l_57 hG) o4 rfl rfl ?_
      refine Y_iconst (v := 1) i_123_98 (by decide) ?_
      refine Y_isub i_123_99 ?_
      refine Y_max i_123_100 ow_123 lm_8_172 rfl ?_
      refine Y_iast i_123_103 (k_57 hG) (l_57 hG) o4 rfl ?_
      refine Y_goto i_123_104 ?_
      exact Y_vret i_123_145 rt_123 h
    · replace h := h.2 e3
      refine Y_il2 i_123_107 ?_
      refine Y_iconst (v := 2) i_123_108 (by decide) ?_
      refine Y_cne i_123_109 (fun e5 => ?_) (fun e5 => ?_)
      · replace h := h.1 e5
        refine Y_al0 i_123_112 ?_
        refine Y_gR i_123_113 ow_123 lf_8_34 (k_49 hG) (r_49_2 hG) ?_
        refine Y_il1 i_123_116 ?_
        have o6 := h.1
        replace h := h.2
        refine Y_iv1 (L0 := [.ref 53, .int x1, .null]) i_123_117 ow_123 lm_8_41 ((k_53 hG).trans ow_77.symm) rfl mx_77 rfl rfl hd_123 ?_
        refine c_77 hG tw_53 o6 (KKi' (v' := (lvI (A 54) (F 53 1) x1)) (by simp [wF, wJ, va_up, cpR, bF, bA]) ?_)
        refine Y_iconst (v := (-1)) i_123_120 (by decide) ?_
        refine Y_ceq i_123_121 (fun e7 => ?_) (fun e7 => ?_)
        · replace h := h.1 e7
          exact Y_vret i_123_145 rt_123 h
        · replace h := h.2 e7
          refine Y_al0 i_123_124 ?_
          refine Y_gR i_123_125 ow_123 lf_8_34 (k_49 hG) (r_49_2 hG) ?_
          refine Y_gR i_123_128 ow_123 lf_8_88 (k_53 hG) (r_53_5 hG) ?_
          refine Y_il1 i_123_131 ?_
          refine Y_dup2 i_123_132 rfl rfl ?_
          have o8 := h.1
          replace h := h.2
          refine Y_iaload (k := x1.toNatClampNeg) (v := (A 55 x1.toNatClampNeg)) i_123_133 (k_55 hG) (l_55 hG) o8 rfl rfl ?_
          refine Y_al0 i_123_134 ?_
          refine Y_gR i_123_135 ow_123 lf_8_21 (k_49 hG) (r_49_0 hG) ?_
          refine Y_gR i_123_138 ow_123 lf_8_175 (k_12 hG) (r_12_7 hG) ?_
          refine Y_il1 i_123_141 ?_
          refine Y_iaload (k := x1.toNatClampNeg) (v := (A 17 x1.toNatClampNeg)) i_123_142 (k_17 hG) (l_17 hG) o8 rfl rfl ?_
          refine Y_iadd i_123_143 ?_
          refine Y_iast i_123_144 (k_55 hG) (l_55 hG) o8 rfl ?_
          exact Y_vret i_123_145 rt_123 h
      · replace h := h.2 e5
        exact Y_vret i_123_145 rt_123 h
/- 124 Trials.draw(I)I -/
theorem t_124_0 {d : Nat} {F A : Nat → Nat → Int32} {J : Nat → Nat → Int64} {G : pG} {Q : pR → pM → Prop} {SL p q : Nat} {x1 : Int32} (hG : Geo G SL p q) (h : ((0 < x1 → ¬ x1 = 0 ∧ (Q (.inl (some (.int (jrem ((jushr (((F 49 8) * 1103515245) + 12345) 16) &&& 32767) x1)))) ((wF F 49 8 (((F 49 8) * 1103515245) + 12345)), A, J, G))) ∧ (¬ 0 < x1 → Q (.inl (some (.int 0))) ((wF F 49 8 (((F 49 8) * 1103515245) + 12345)), A, J, G)))) : X d 124 0 [.ref 49, .int x1] [] (F, A, J, G) Q := by
  refine Y_al0 i_124_0 ?_
  refine Y_al0 i_124_1 ?_
  refine Y_gI (v := (F 49 8)) i_124_2 ow_124 lf_8_148 (by decide) (k_49 hG) rfl ?_
  refine Y_ldcI i_124_5 ow_124 li_8_178 ?_
  refine Y_imul i_124_7 ?_
  refine Y_sipush (v := 12345) i_124_8 (by decide) ?_
  refine Y_iadd i_124_11 ?_
  refine Y_pI i_124_12 ow_124 lf_8_148 (k_49 hG) ?_
  refine Y_il1 i_124_15 ?_
  refine Y_zgt i_124_16 (fun e1 => ?_) (fun e1 => ?_)
  · replace h := h.1 e1
    refine Y_al0 i_124_23 ?_
    refine Y_gI (v := (((F 49 8) * 1103515245) + 12345)) i_124_24 ow_124 lf_8_148 (by decide) (k_49 hG) (by simp [wF, wJ, va_up, cpR, bF, bA]) ?_
    refine Y_bipush (v := 16) i_124_27 (by decide) ?_
    refine Y_iushr i_124_29 ?_
    refine Y_sipush (v := 32767) i_124_30 (by decide) ?_
    refine Y_iand i_124_33 ?_
    refine Y_il1 i_124_34 ?_
    have o2 := h.1
    replace h := h.2
    refine Y_irem i_124_35 o2 ?_
    exact Y_iret i_124_36 rt_124 h
  · replace h := h.2 e1
    refine Y_iconst (v := 0) i_124_19 (by decide) ?_
    refine Y_goto i_124_20 ?_
    exact Y_iret i_124_36 rt_124 h
/- 126 TableTower.feed(IIIII)I -/
theorem t_126_0 {d : Nat} {F A : Nat → Nat → Int32} {J : Nat → Nat → Int64} {G : pG} {Q : pR → pM → Prop} {SL p q : Nat} {x1 x2 x3 x4 x5 : Int32} (hG : Geo G SL p q) (h : ((600 < ((F 0 1) + 20) → Q (.inl (some (.int (-1)))) (F, A, J, G)) ∧ (¬ 600 < ((F 0 1) + 20) → X d 170 0 [.ref 0, .int x1, .null] [] (F, A, J, G) (KK (d + 1) 126 20 [.ref 0, .int x1, .int x2, .int x3, .int x4, .int x5] [] Q)))) : X (d + 1) 126 0 [.ref 0, .int x1, .int x2, .int x3, .int x4, .int x5] [] (F, A, J, G) Q := by
  refine Y_al0 i_126_0 ?_
  refine Y_gI (v := (F 0 1)) i_126_1 ow_126 lf_9_13 (by decide) (k_0 hG) rfl ?_
  refine Y_bipush (v := 20) i_126_4 (by decide) ?_
  refine Y_iadd i_126_6 ?_
  refine Y_sipush (v := 600) i_126_7 (by decide) ?_
  refine Y_cle i_126_10 (fun e1 => ?_) (fun e1 => ?_)
  · replace h := h.1 e1
    refine Y_iconst (v := (-1)) i_126_13 (by decide) ?_
    exact Y_iret i_126_14 rt_126 h
  · replace h := h.2 e1
    refine Y_al0 i_126_15 ?_
    refine Y_il1 i_126_16 ?_
    exact Y_iv1 (L0 := [.ref 0, .int x1, .null]) i_126_17 ow_126 lm_9_84 ((k_0 hG).trans ow_170.symm) rfl mx_170 rfl rfl hd_126 h
theorem k_126_20 {d : Nat} {F A : Nat → Nat → Int32} {J : Nat → Nat → Int64} {G : pG} {Q : pR → pM → Prop} {SL p q : Nat} {x1 x2 x3 x4 x5 : Int32} (hG : Geo G SL p q) (h : X d 170 0 [.ref 0, .int x2, .null] [] (F, A, J, G) (KK (d + 1) 126 25 [.ref 0, .int x1, .int x2, .int x3, .int x4, .int x5] [] Q)) : KK (d + 1) 126 20 [.ref 0, .int x1, .int x2, .int x3, .int x4, .int x5] [] Q (.inl none) (F, A, J, G) := by
  refine KKv ?_
  refine Y_al0 i_126_20 ?_
  refine Y_il2 i_126_21 ?_
  exact Y_iv1 (L0 := [.ref 0, .int x2, .null]) i_126_22 ow_126 lm_9_84 ((k_0 hG).trans ow_170.symm) rfl mx_170 rfl rfl hd_126 h
theorem k_126_25 {d : Nat} {F A : Nat → Nat → Int32} {J : Nat → Nat → Int64} {G : pG} {Q : pR → pM → Prop} {SL p q : Nat} {x1 x2 x3 x4 x5 : Int32} (hG : Geo G SL p q) (h : X d 170 0 [.ref 0, .int x3, .null] [] (F, A, J, G) (KK (d + 1) 126 30 [.ref 0, .int x1, .int x2, .int x3, .int x4, .int x5] [] Q)) : KK (d + 1) 126 25 [.ref 0, .int x1, .int x2, .int x3, .int x4, .int x5] [] Q (.inl none) (F, A, J, G) := by
  refine KKv ?_
  refine Y_al0 i_126_25 ?_
  refine Y_il3 i_126_26 ?_
  exact Y_iv1 (L0 := [.ref 0, .int x3, .null]) i_126_27 ow_126 lm_9_84 ((k_0 hG).trans ow_170.symm) rfl mx_170 rfl rfl hd_126 h
theorem k_126_30 {d : Nat} {F A : Nat → Nat → Int32} {J : Nat → Nat → Int64} {G : pG} {Q : pR → pM → Prop} {SL p q : Nat} {x1 x2 x3 x4 x5 : Int32} (hG : Geo G SL p q) (h : X d 170 0 [.ref 0, .int x4, .null] [] (F, A, J, G) (KK (d + 1) 126 36 [.ref 0, .int x1, .int x2, .int x3, .int x4, .int x5] [] Q)) : KK (d + 1) 126 30 [.ref 0, .int x1, .int x2, .int x3, .int x4, .int x5] [] Q (.inl none) (F, A, J, G) := by
  refine KKv ?_
  refine Y_al0 i_126_30 ?_
  refine Y_il4 i_126_31 ?_
  exact Y_iv1 (L0 := [.ref 0, .int x4, .null]) i_126_33 ow_126 lm_9_84 ((k_0 hG).trans ow_170.symm) rfl mx_170 rfl rfl hd_126 h
theorem k_126_36 {d : Nat} {F A : Nat → Nat → Int32} {J : Nat → Nat → Int64} {G : pG} {Q : pR → pM → Prop} {SL p q : Nat} {x1 x2 x3 x4 x5 : Int32} (hG : Geo G SL p q) (h : X d 170 0 [.ref 0, .int x5, .null] [] (F, A, J, G) (KK (d + 1) 126 42 [.ref 0, .int x1, .int x2, .int x3, .int x4, .int x5] [] Q)) : KK (d + 1) 126 36 [.ref 0, .int x1, .int x2, .int x3, .int x4, .int x5] [] Q (.inl none) (F, A, J, G) := by
  refine KKv ?_
  refine Y_al0 i_126_36 ?_
  refine Y_il5 i_126_37 ?_
  exact Y_iv1 (L0 := [.ref 0, .int x5, .null]) i_126_39 ow_126 lm_9_84 ((k_0 hG).trans ow_170.symm) rfl mx_170 rfl rfl hd_126 h
theorem k_126_42 {d : Nat} {F A : Nat → Nat → Int32} {J : Nat → Nat → Int64} {G : pG} {Q : pR → pM → Prop} {SL p q : Nat} {x1 x2 x3 x4 x5 : Int32} (hG : Geo G SL p q) (h : Q (.inl (some (.int (F 0 1)))) (F, A, J, G)) : KK (d + 1) 126 42 [.ref 0, .int x1, .int x2, .int x3, .int x4, .int x5] [] Q (.inl none) (F, A, J, G) := by
  refine KKv ?_
  refine Y_al0 i_126_42 ?_
  refine Y_gI (v := (F 0 1)) i_126_43 ow_126 lf_9_13 (by decide) (k_0 hG) rfl ?_
  exact Y_iret i_126_46 rt_126 h
/- 127 TableTower.town(I)I -/
theorem t_127_0 {d : Nat} {F A : Nat → Nat → Int32} {J : Nat → Nat → Int64} {G : pG} {Q : pR → pM → Prop} {SL p q : Nat} {x1 : Int32} (hG : Geo G SL p q) (h : ((x1 < 0 → Q (.inr 100) (F, A, J, gThr G)) ∧ (¬ x1 < 0 → (((F 0 1) < x1 → Q (.inr 100) (F, A, J, gThr G)) ∧ (¬ (F 0 1) < x1 → X (d + 5) 29 0 [.ref 11, .int x1, .null] [] (F, A, J, G) (KK (d + 6) 127 30 [.ref 0, .int x1, .null] [] Q)))))) : X (d + 6) 127 0 [.ref 0, .int x1, .null] [] (F, A, J, G) Q := by
  refine Y_il1 i_127_0 ?_
  refine Y_zlt i_127_1 (fun e1 => ?_) (fun e1 => ?_)
  · replace h := h.1 e1
    exact Y_thr i_127_12 ow_127 lc_9_88 (by decide +kernel) rfl h
  · replace h := h.2 e1
    refine Y_il1 i_127_4 ?_
    refine Y_al0 i_127_5 ?_
    refine Y_gI (v := (F 0 1)) i_127_6 ow_127 lf_9_13 (by decide) (k_0 hG) rfl ?_
    refine Y_cle i_127_9 (fun e2 => ?_) (fun e2 => ?_)
    · replace h := h.1 e2
      exact Y_thr i_127_12 ow_127 lc_9_88 (by decide +kernel) rfl h
    · replace h := h.2 e2
      refine Y_al0 i_127_22 ?_
      refine Y_gR i_127_23 ow_127 lf_9_36 (k_0 hG) (r_0_4 hG) ?_
      refine Y_il1 i_127_26 ?_
      exact Y_iv1 (L0 := [.ref 11, .int x1, .null]) i_127_27 ow_127 lm_9_95 ((k_11 hG).trans ow_29.symm) rfl mx_29 rfl rfl hd_127 h
theorem k_127_30 {d : Nat} {F A : Nat → Nat → Int32} {J : Nat → Nat → Int64} {G : pG} {Q : pR → pM → Prop} {SL p q : Nat} {x1 r : Int32} (hG : Geo G SL p q) (h : ((r = 0 → ((r = 0 → (¬ (0 : Int32) < 0 ∧ ¬ (0 : Int32) < 0 ∧ ¬ (F 8 1) < 0 ∧ (0 : Int32).toNatClampNeg + (F 8 1).toNatClampNeg ≤ 600 ∧ (0 : Int32).toNatClampNeg + (F 8 1).toNatClampNeg ≤ 600) ∧ (X (d + 5) 61 0 [.ref 21] [] ((wF (wF (wF (wF (wF (wF F 0 1 0) 0 2 (-1)) 12 0 (F 2 0)) 12 1 (F 2 1)) 12 2 (F 2 2)) 18 1 (F 8 1)), (cpR (cpR (cpR (cpR (cpR (cpR A 13 3 0 0 10) 14 4 0 0 10) 15 5 0 0 10) 16 6 0 0 10) 17 7 0 0 10) 19 9 0 0 (F 8 1).toNatClampNeg), J, G) (KK (d + 6) 127 88 [.ref 0, .int x1, .int r] [] Q))) ∧ (¬ r = 0 → Q (.inl (some (.int r))) ((wF (wF F 0 1 0) 0 2 (-1)), (wF A 26 0 ((A 26 0) + 1)), J, G)))) ∧ (¬ r = 0 → ((r = 0 → (¬ (0 : Int32) < 0 ∧ ¬ (0 : Int32) < 0 ∧ ¬ (F 8 1) < 0 ∧ (0 : Int32).toNatClampNeg + (F 8 1).toNatClampNeg ≤ 600 ∧ (0 : Int32).toNatClampNeg + (F 8 1).toNatClampNeg ≤ 600) ∧ (X (d + 5) 61 0 [.ref 21] [] ((wF (wF (wF (wF (wF (wF F 0 1 0) 0 2 (F 11 0)) 12 0 (F 2 0)) 12 1 (F 2 1)) 12 2 (F 2 2)) 18 1 (F 8 1)), (cpR (cpR (cpR (cpR (cpR (cpR A 13 3 0 0 10) 14 4 0 0 10) 15 5 0 0 10) 16 6 0 0 10) 17 7 0 0 10) 19 9 0 0 (F 8 1).toNatClampNeg), J, G) (KK (d + 6) 127 88 [.ref 0, .int x1, .int r] [] Q))) ∧ (¬ r = 0 → Q (.inl (some (.int r))) ((wF (wF F 0 1 0) 0 2 (F 11 0)), (wF A 26 0 ((A 26 0) + 1)), J, G)))))) : KK (d + 6) 127 30 [.ref 0, .int x1, .null] [] Q (.inl (some (.int r))) (F, A, J, G) := by
  refine KKi ?_
  refine Y_is2 i_127_30 rfl ?_
  refine Y_al0 i_127_31 ?_
  refine Y_iconst (v := 0) i_127_32 (by decide) ?_
  refine Y_pI i_127_33 ow_127 lf_9_13 (k_0 hG) ?_
  refine Y_al0 i_127_36 ?_
  refine Y_il2 i_127_37 ?_
  refine Y_zne i_127_38 (fun e1 => ?_) (fun e1 => ?_)
  · replace h := h.1 e1
    refine Y_iconst (v := (-1)) i_127_41 (by decide) ?_
    refine Y_goto i_127_42 ?_
    refine Y_pI i_127_52 ow_127 lf_9_17 (k_0 hG) ?_
    refine Y_il2 i_127_55 ?_
    refine Y_zeq i_127_56 (fun e2 => ?_) (fun e2 => ?_)
    · replace h := h.1 e2
      refine Y_al0 i_127_70 ?_
      refine Y_gR i_127_71 ow_127 lf_9_40 (k_0 hG) (r_0_6 hG) ?_
      refine Y_al0 i_127_74 ?_
      refine Y_gR i_127_75 ow_127 lf_9_27 (k_0 hG) (r_0_5 hG) ?_
      refine Y_iv1 (L0 := [.ref 12, .ref 2]) i_127_78 ow_127 lm_9_105 ((k_12 hG).trans ow_99.symm) rfl mx_99 rfl rfl hd_127 ?_
      refine Y_al0 i_99_0 ?_
      refine Y_al1 i_99_1 ?_
      refine Y_gI (v := (F 2 0)) i_99_2 ow_99 lf_7_37 (by decide) (k_2 hG) (by simp [wF, wJ, va_up, cpR, bF, bA]) ?_
      refine Y_pI i_99_5 ow_99 lf_7_37 (k_12 hG) ?_
      refine Y_al0 i_99_8 ?_
      refine Y_al1 i_99_9 ?_
      refine Y_gI (v := (F 2 1)) i_99_10 ow_99 lf_7_41 (by decide) (k_2 hG) (by simp [wF, wJ, va_up, cpR, bF, bA]) ?_
      refine Y_pI i_99_13 ow_99 lf_7_41 (k_12 hG) ?_
      refine Y_al0 i_99_16 ?_
      refine Y_al1 i_99_17 ?_
      refine Y_gI (v := (F 2 2)) i_99_18 ow_99 lf_7_44 (by decide) (k_2 hG) (by simp [wF, wJ, va_up, cpR, bF, bA]) ?_
      refine Y_pI i_99_21 ow_99 lf_7_44 (k_12 hG) ?_
      refine Y_al1 i_99_24 ?_
      refine Y_gR i_99_25 ow_99 lf_7_9 (k_2 hG) (r_2_3 hG) ?_
      refine Y_iconst (v := 0) i_99_28 (by decide) ?_
      refine Y_al0 i_99_29 ?_
      refine Y_gR i_99_30 ow_99 lf_7_9 (k_12 hG) (r_12_3 hG) ?_
      refine Y_iconst (v := 0) i_99_33 (by decide) ?_
      refine Y_bipush (v := 10) i_99_34 (by decide) ?_
      refine Y_acp (ksp := 0) (kdp := 0) (kn := 10) i_99_36 ow_99 lm_7_50 rfl (k_13 hG) (k_3 hG) (l_13 hG) (l_3 hG) (by decide) (by decide) (by decide) (by decide) ?_
      refine Y_al1 i_99_39 ?_
      refine Y_gR i_99_40 ow_99 lf_7_15 (k_2 hG) (r_2_4 hG) ?_
      refine Y_iconst (v := 0) i_99_43 (by decide) ?_
      refine Y_al0 i_99_44 ?_
      refine Y_gR i_99_45 ow_99 lf_7_15 (k_12 hG) (r_12_4 hG) ?_
      refine Y_iconst (v := 0) i_99_48 (by decide) ?_
      refine Y_bipush (v := 10) i_99_49 (by decide) ?_
      refine Y_acp (ksp := 0) (kdp := 0) (kn := 10) i_99_51 ow_99 lm_7_50 rfl (k_14 hG) (k_4 hG) (l_14 hG) (l_4 hG) (by decide) (by decide) (by decide) (by decide) ?_
      refine Y_al1 i_99_54 ?_
      refine Y_gR i_99_55 ow_99 lf_7_18 (k_2 hG) (r_2_5 hG) ?_
      refine Y_iconst (v := 0) i_99_58 (by decide) ?_
      refine Y_al0 i_99_59 ?_
      refine Y_gR i_99_60 ow_99 lf_7_18 (k_12 hG) (r_12_5 hG) ?_
      refine Y_iconst (v := 0) i_99_63 (by decide) ?_
      refine Y_bipush (v := 10) i_99_64 (by decide) ?_
      refine Y_acp (ksp := 0) (kdp := 0) (kn := 10) i_99_66 ow_99 lm_7_50 rfl (k_15 hG) (k_5 hG) (l_15 hG) (l_5 hG) (by decide) (by decide) (by decide) (by decide) ?_
      refine Y_al1 i_99_69 ?_
      refine Y_gR i_99_70 ow_99 lf_7_21 (k_2 hG) (r_2_6 hG) ?_
      refine Y_iconst (v := 0) i_99_73 (by decide) ?_
      refine Y_al0 i_99_74 ?_
      refine Y_gR i_99_75 ow_99 lf_7_21 (k_12 hG) (r_12_6 hG) ?_
      refine Y_iconst (v := 0) i_99_78 (by decide) ?_
      refine Y_bipush (v := 10) i_99_79 (by decide) ?_
      refine Y_acp (ksp := 0) (kdp := 0) (kn := 10) i_99_81 ow_99 lm_7_50 rfl (k_16 hG) (k_6 hG) (l_16 hG) (l_6 hG) (by decide) (by decide) (by decide) (by decide) ?_
      refine Y_al1 i_99_84 ?_
      refine Y_gR i_99_85 ow_99 lf_7_24 (k_2 hG) (r_2_7 hG) ?_
      refine Y_iconst (v := 0) i_99_88 (by decide) ?_
      refine Y_al0 i_99_89 ?_
      refine Y_gR i_99_90 ow_99 lf_7_24 (k_12 hG) (r_12_7 hG) ?_
      refine Y_iconst (v := 0) i_99_93 (by decide) ?_
      refine Y_bipush (v := 10) i_99_94 (by decide) ?_
      refine Y_acp (ksp := 0) (kdp := 0) (kn := 10) i_99_96 ow_99 lm_7_50 rfl (k_17 hG) (k_7 hG) (l_17 hG) (l_7 hG) (by decide) (by decide) (by decide) (by decide) ?_
      refine Y_al0 i_99_99 ?_
      refine Y_gR i_99_100 ow_99 lf_7_30 (k_12 hG) (r_12_8 hG) ?_
      refine Y_al1 i_99_103 ?_
      refine Y_gR i_99_104 ow_99 lf_7_30 (k_2 hG) (r_2_8 hG) ?_
      refine Y_iv1 (L0 := [.ref 18, .ref 8]) i_99_107 ow_99 lm_7_56 ((k_18 hG).trans ow_53.symm) rfl mx_53 rfl rfl hd_99 ?_
      refine Y_al0 i_53_0 ?_
      refine Y_al1 i_53_1 ?_
      refine Y_gI (v := (F 8 1)) i_53_2 ow_53 lf_4_18 (by decide) (k_8 hG) (by simp [wF, wJ, va_up, cpR, bF, bA]) ?_
      refine Y_pI i_53_5 ow_53 lf_4_18 (k_18 hG) ?_
      refine Y_al1 i_53_8 ?_
      refine Y_gR i_53_9 ow_53 lf_4_9 (k_8 hG) (r_8_0 hG) ?_
      refine Y_iconst (v := 0) i_53_12 (by decide) ?_
      refine Y_al0 i_53_13 ?_
      refine Y_gR i_53_14 ow_53 lf_4_9 (k_18 hG) (r_18_0 hG) ?_
      refine Y_iconst (v := 0) i_53_17 (by decide) ?_
      refine Y_al0 i_53_18 ?_
      refine Y_gI (v := (F 8 1)) i_53_19 ow_53 lf_4_18 (by decide) (k_18 hG) (by simp [wF, wJ, va_up, cpR, bF, bA]) ?_
      have o3 := h.1
      replace h := h.2
      refine Y_acp (ksp := 0) (kdp := 0) (kn := (F 8 1).toNatClampNeg) i_53_22 ow_53 lm_4_22 rfl (k_19 hG) (k_9 hG) (l_19 hG) (l_9 hG) o3 (by decide) (by decide) rfl ?_
      refine Y_vret i_53_25 rt_53 (KKv ?_)
      refine Y_vret i_99_110 rt_99 (KKv ?_)
      refine Y_al0 i_127_81 ?_
      refine Y_gR i_127_82 ow_127 lf_9_48 (k_0 hG) (r_0_7 hG) ?_
      exact Y_iv0 (L0 := [.ref 21]) i_127_85 ow_127 lm_9_108 ((k_21 hG).trans ow_61.symm) rfl mx_61 rfl rfl hd_127 h
    · replace h := h.2 e2
      refine Y_al0 i_127_59 ?_
      refine Y_gR i_127_60 ow_127 lf_9_48 (k_0 hG) (r_0_7 hG) ?_
      refine Y_iconst (v := 0) i_127_63 (by decide) ?_
      refine Y_iv1 (L0 := [.ref 21, .int 0]) i_127_64 ow_127 lm_9_102 ((k_21 hG).trans ow_63.symm) rfl mx_63 rfl rfl hd_127 ?_
      refine Y_al0 i_63_0 ?_
      refine Y_gR i_63_1 ow_63 lf_5_25 (k_21 hG) (r_21_5 hG) ?_
      refine Y_il1 i_63_4 ?_
      refine Y_dup2 i_63_5 rfl rfl ?_
      refine Y_iaload (k := 0) (v := (A 26 0)) i_63_6 (k_26 hG) (l_26 hG) (by decide) (by decide) rfl ?_
      refine Y_iconst (v := 1) i_63_7 (by decide) ?_
      refine Y_iadd i_63_8 ?_
      refine Y_iast (k := 0) i_63_9 (k_26 hG) (l_26 hG) (by decide) (by decide) ?_
      refine Y_iconst (v := (-1)) i_63_10 (by decide) ?_
      refine Y_iret i_63_11 rt_63 (KKi ?_)
      refine Y_pop i_127_67 rfl ?_
      refine Y_il2 i_127_68 ?_
      exact Y_iret i_127_69 rt_127 h
  · replace h := h.2 e1
    refine Y_al0 i_127_45 ?_
    refine Y_gR i_127_46 ow_127 lf_9_36 (k_0 hG) (r_0_4 hG) ?_
    refine Y_gI (v := (F 11 0)) i_127_49 ow_127 lf_9_99 (by decide) (k_11 hG) (by simp [wF, wJ, va_up, cpR, bF, bA]) ?_
    refine Y_pI i_127_52 ow_127 lf_9_17 (k_0 hG) ?_
    refine Y_il2 i_127_55 ?_
    refine Y_zeq i_127_56 (fun e4 => ?_) (fun e4 => ?_)
    · replace h := h.1 e4
      refine Y_al0 i_127_70 ?_
      refine Y_gR i_127_71 ow_127 lf_9_40 (k_0 hG) (r_0_6 hG) ?_
      refine Y_al0 i_127_74 ?_
      refine Y_gR i_127_75 ow_127 lf_9_27 (k_0 hG) (r_0_5 hG) ?_
      refine Y_iv1 (L0 := [.ref 12, .ref 2]) i_127_78 ow_127 lm_9_105 ((k_12 hG).trans ow_99.symm) rfl mx_99 rfl rfl hd_127 ?_
      refine Y_al0 i_99_0 ?_
      refine Y_al1 i_99_1 ?_
      refine Y_gI (v := (F 2 0)) i_99_2 ow_99 lf_7_37 (by decide) (k_2 hG) (by simp [wF, wJ, va_up, cpR, bF, bA]) ?_
      refine Y_pI i_99_5 ow_99 lf_7_37 (k_12 hG) ?_
      refine Y_al0 i_99_8 ?_
      refine Y_al1 i_99_9 ?_
      refine Y_gI (v := (F 2 1)) i_99_10 ow_99 lf_7_41 (by decide) (k_2 hG) (by simp [wF, wJ, va_up, cpR, bF, bA]) ?_
      refine Y_pI i_99_13 ow_99 lf_7_41 (k_12 hG) ?_
      refine Y_al0 i_99_16 ?_
      refine Y_al1 i_99_17 ?_
      refine Y_gI (v := (F 2 2)) i_99_18 ow_99 lf_7_44 (by decide) (k_2 hG) (by simp [wF, wJ, va_up, cpR, bF, bA]) ?_
      refine Y_pI i_99_21 ow_99 lf_7_44 (k_12 hG) ?_
      refine Y_al1 i_99_24 ?_
      refine Y_gR i_99_25 ow_99 lf_7_9 (k_2 hG) (r_2_3 hG) ?_
      refine Y_iconst (v := 0) i_99_28 (by decide) ?_
      refine Y_al0 i_99_29 ?_
      refine Y_gR i_99_30 ow_99 lf_7_9 (k_12 hG) (r_12_3 hG) ?_
      refine Y_iconst (v := 0) i_99_33 (by decide) ?_
      refine Y_bipush (v := 10) i_99_34 (by decide) ?_
      refine Y_acp (ksp := 0) (kdp := 0) (kn := 10) i_99_36 ow_99 lm_7_50 rfl (k_13 hG) (k_3 hG) (l_13 hG) (l_3 hG) (by decide) (by decide) (by decide) (by decide) ?_
      refine Y_al1 i_99_39 ?_
      refine Y_gR i_99_40 ow_99 lf_7_15 (k_2 hG) (r_2_4 hG) ?_
      refine Y_iconst (v := 0) i_99_43 (by decide) ?_
      refine Y_al0 i_99_44 ?_
      refine Y_gR i_99_45 ow_99 lf_7_15 (k_12 hG) (r_12_4 hG) ?_
      refine Y_iconst (v := 0) i_99_48 (by decide) ?_
      refine Y_bipush (v := 10) i_99_49 (by decide) ?_
      refine Y_acp (ksp := 0) (kdp := 0) (kn := 10) i_99_51 ow_99 lm_7_50 rfl (k_14 hG) (k_4 hG) (l_14 hG) (l_4 hG) (by decide) (by decide) (by decide) (by decide) ?_
      refine Y_al1 i_99_54 ?_
      refine Y_gR i_99_55 ow_99 lf_7_18 (k_2 hG) (r_2_5 hG) ?_
      refine Y_iconst (v := 0) i_99_58 (by decide) ?_
      refine Y_al0 i_99_59 ?_
      refine Y_gR i_99_60 ow_99 lf_7_18 (k_12 hG) (r_12_5 hG) ?_
      refine Y_iconst (v := 0) i_99_63 (by decide) ?_
      refine Y_bipush (v := 10) i_99_64 (by decide) ?_
      refine Y_acp (ksp := 0) (kdp := 0) (kn := 10) i_99_66 ow_99 lm_7_50 rfl (k_15 hG) (k_5 hG) (l_15 hG) (l_5 hG) (by decide) (by decide) (by decide) (by decide) ?_
      refine Y_al1 i_99_69 ?_
      refine Y_gR i_99_70 ow_99 lf_7_21 (k_2 hG) (r_2_6 hG) ?_
      refine Y_iconst (v := 0) i_99_73 (by decide) ?_
      refine Y_al0 i_99_74 ?_
      refine Y_gR i_99_75 ow_99 lf_7_21 (k_12 hG) (r_12_6 hG) ?_
      refine Y_iconst (v := 0) i_99_78 (by decide) ?_
      refine Y_bipush (v := 10) i_99_79 (by decide) ?_
      refine Y_acp (ksp := 0) (kdp := 0) (kn := 10) i_99_81 ow_99 lm_7_50 rfl (k_16 hG) (k_6 hG) (l_16 hG) (l_6 hG) (by decide) (by decide) (by decide) (by decide) ?_
      refine Y_al1 i_99_84 ?_
      refine Y_gR i_99_85 ow_99 lf_7_24 (k_2 hG) (r_2_7 hG) ?_
      refine Y_iconst (v := 0) i_99_88 (by decide) ?_
      refine Y_al0 i_99_89 ?_
      refine Y_gR i_99_90 ow_99 lf_7_24 (k_12 hG) (r_12_7 hG) ?_
      refine Y_iconst (v := 0) i_99_93 (by decide) ?_
      refine Y_bipush (v := 10) i_99_94 (by decide) ?_
      refine Y_acp (ksp := 0) (kdp := 0) (kn := 10) i_99_96 ow_99 lm_7_50 rfl (k_17 hG) (k_7 hG) (l_17 hG) (l_7 hG) (by decide) (by decide) (by decide) (by decide) ?_
      refine Y_al0 i_99_99 ?_
      refine Y_gR i_99_100 ow_99 lf_7_30 (k_12 hG) (r_12_8 hG) ?_
      refine Y_al1 i_99_103 ?_
      refine Y_gR i_99_104 ow_99 lf_7_30 (k_2 hG) (r_2_8 hG) ?_
      refine Y_iv1 (L0 := [.ref 18, .ref 8]) i_99_107 ow_99 lm_7_56 ((k_18 hG).trans ow_53.symm) rfl mx_53 rfl rfl hd_99 ?_
      refine Y_al0 i_53_0 ?_
      refine Y_al1 i_53_1 ?_
      refine Y_gI (v := (F 8 1)) i_53_2 ow_53 lf_4_18 (by decide) (k_8 hG) (by simp [wF, wJ, va_up, cpR, bF, bA]) ?_
      refine Y_pI i_53_5 ow_53 lf_4_18 (k_18 hG) ?_
      refine Y_al1 i_53_8 ?_
      refine Y_gR i_53_9 ow_53 lf_4_9 (k_8 hG) (r_8_0 hG) ?_
      refine Y_iconst (v := 0) i_53_12 (by decide) ?_
      refine Y_al0 i_53_13 ?_
      refine Y_gR i_53_14 ow_53 lf_4_9 (k_18 hG) (r_18_0 hG) ?_
      refine Y_iconst (v := 0) i_53_17 (by decide) ?_
      refine Y_al0 i_53_18 ?_
      refine Y_gI (v := (F 8 1)) i_53_19 ow_53 lf_4_18 (by decide) (k_18 hG) (by simp [wF, wJ, va_up, cpR, bF, bA]) ?_
      have o5 := h.1
      replace h := h.2
      refine Y_acp (ksp := 0) (kdp := 0) (kn := (F 8 1).toNatClampNeg) i_53_22 ow_53 lm_4_22 rfl (k_19 hG) (k_9 hG) (l_19 hG) (l_9 hG) o5 (by decide) (by decide) rfl ?_
      refine Y_vret i_53_25 rt_53 (KKv ?_)
      refine Y_vret i_99_110 rt_99 (KKv ?_)
      refine Y_al0 i_127_81 ?_
      refine Y_gR i_127_82 ow_127 lf_9_48 (k_0 hG) (r_0_7 hG) ?_
      exact Y_iv0 (L0 := [.ref 21]) i_127_85 ow_127 lm_9_108 ((k_21 hG).trans ow_61.symm) rfl mx_61 rfl rfl hd_127 h
    · replace h := h.2 e4
      refine Y_al0 i_127_59 ?_
      refine Y_gR i_127_60 ow_127 lf_9_48 (k_0 hG) (r_0_7 hG) ?_
      refine Y_iconst (v := 0) i_127_63 (by decide) ?_
      refine Y_iv1 (L0 := [.ref 21, .int 0]) i_127_64 ow_127 lm_9_102 ((k_21 hG).trans ow_63.symm) rfl mx_63 rfl rfl hd_127 ?_
      refine Y_al0 i_63_0 ?_
      refine Y_gR i_63_1 ow_63 lf_5_25 (k_21 hG) (r_21_5 hG) ?_
      refine Y_il1 i_63_4 ?_
      refine Y_dup2 i_63_5 rfl rfl ?_
      refine Y_iaload (k := 0) (v := (A 26 0)) i_63_6 (k_26 hG) (l_26 hG) (by decide) (by decide) rfl ?_
      refine Y_iconst (v := 1) i_63_7 (by decide) ?_
      refine Y_iadd i_63_8 ?_
      refine Y_iast (k := 0) i_63_9 (k_26 hG) (l_26 hG) (by decide) (by decide) ?_
      refine Y_iconst (v := (-1)) i_63_10 (by decide) ?_
      refine Y_iret i_63_11 rt_63 (KKi ?_)
      refine Y_pop i_127_67 rfl ?_
      refine Y_il2 i_127_68 ?_
      exact Y_iret i_127_69 rt_127 h
theorem k_127_88 {d : Nat} {F A : Nat → Nat → Int32} {J : Nat → Nat → Int64} {G : pG} {Q : pR → pM → Prop} {SL p q : Nat} {x1 x2 : Int32} (hG : Geo G SL p q) (h : Q (.inl (some (.int 0))) ((wF F 0 3 0), A, J, G)) : KK (d + 6) 127 88 [.ref 0, .int x1, .int x2] [] Q (.inl none) (F, A, J, G) := by
  refine KKv ?_
  refine Y_al0 i_127_88 ?_
  refine Y_iconst (v := 0) i_127_89 (by decide) ?_
  refine Y_pB i_127_90 ow_127 lf_9_20 (k_0 hG) (by decide) ?_
  refine Y_iconst (v := 0) i_127_93 (by decide) ?_
  exact Y_iret i_127_94 rt_127 h
/- 128 TableTower.fault()I -/
theorem t_128_0 {d : Nat} {F A : Nat → Nat → Int32} {J : Nat → Nat → Int64} {G : pG} {Q : pR → pM → Prop} {SL p q : Nat} (hG : Geo G SL p q) (h : Q (.inl (some (.int (F 0 2)))) (F, A, J, G)) : X d 128 0 [.ref 0] [] (F, A, J, G) Q := by
  refine Y_al0 i_128_0 ?_
  refine Y_gI (v := (F 0 2)) i_128_1 ow_128 lf_9_17 (by decide) (k_0 hG) rfl ?_
  exact Y_iret i_128_4 rt_128 h
/- 129 TableTower.count(I)I -/
theorem t_129_0 {d : Nat} {F A : Nat → Nat → Int32} {J : Nat → Nat → Int64} {G : pG} {Q : pR → pM → Prop} {SL p q : Nat} {x1 : Int32} (hG : Geo G SL p q) (h : ((x1 = 0 → Q (.inl (some (.int (F 12 0)))) (F, A, J, G)) ∧ (x1 = 1 → Q (.inl (some (.int (F 27 1)))) (F, A, J, G)) ∧ (x1 = 2 → Q (.inl (some (.int (F 12 1)))) (F, A, J, G)) ∧ (x1 = 3 → Q (.inl (some (.int (F 12 2)))) (F, A, J, G)) ∧ (x1 = 4 → X (d + 4) 88 0 [.ref 27] [] (F, A, J, G) (KK (d + 5) 129 117 [.ref 0, .int x1, .ref 27] [] Q)) ∧ (x1 = 5 → X (d + 4) 87 0 [.ref 27, .null] [] (F, A, J, G) (KK (d + 5) 129 130 [.ref 0, .int x1, .ref 27] [] Q)) ∧ (x1 = 6 → Q (.inl (some (.int (F 27 3)))) (F, A, J, G)) ∧ (x1 = 7 → X (d + 4) 93 0 [.ref 27, .null, .null, .null] [] (F, A, J, G) (KK (d + 5) 129 140 [.ref 0, .int x1, .ref 27] [] Q)) ∧ (x1 = 8 → Q (.inl (some (.int (F 27 2)))) (F, A, J, G)) ∧ (x1 = 9 → Q (.inl (some (.int (F 22 0)))) (F, A, J, G)) ∧ (x1 = 10 → Q (.inl (some (.int (F 21 2)))) (F, A, J, G)) ∧ (x1 = 11 → Q (.inl (some (.int (F 0 1)))) (F, A, J, G)) ∧ (x1 = 12 → Q (.inl (some (.int (A 26 0)))) (F, A, J, G)) ∧ (x1 = 13 → Q (.inl (some (.int (A 26 1)))) (F, A, J, G)) ∧ (x1 = 14 → Q (.inl (some (.int (A 26 2)))) (F, A, J, G)) ∧ (((x1 : Int32).toInt < 0 ∨ 14 < (x1 : Int32).toInt) → Q (.inr 101) (F, A, J, gThr G)))) : X (d + 5) 129 0 [.ref 0, .int x1, .null] [] (F, A, J, G) Q := by
  refine Y_al0 i_129_0 ?_
  refine Y_gR i_129_1 ow_129 lf_9_48 (k_0 hG) (r_0_7 hG) ?_
  refine Y_gR i_129_4 ow_129 lf_9_57 (k_21 hG) (r_21_0 hG) ?_
  refine Y_as2 i_129_7 rfl ?_
  refine Y_il1 i_129_8 ?_
  by_cases f0 : x1 = 0
  · replace h := h.1 f0
    refine Y_sw (t := 84) f0 i_129_9 (fun _ => rfl) rfl (fun _ => rfl) (fun _ => rfl) ?_
    refine Y_al0 i_129_84 ?_
    refine Y_gR i_129_85 ow_129 lf_9_40 (k_0 hG) (r_0_6 hG) ?_
    refine Y_gI (v := (F 12 0)) i_129_88 ow_129 lf_9_111 (by decide) (k_12 hG) rfl ?_
    exact Y_iret i_129_91 rt_129 h
  by_cases f1 : x1 = 1
  · replace h := h.2.1 f1
    refine Y_sw (t := 92) f1 i_129_9 (fun _ => rfl) rfl (fun _ => rfl) (fun _ => rfl) ?_
    refine Y_al2 i_129_92 ?_
    refine Y_gI (v := (F 27 1)) i_129_93 ow_129 lf_9_114 (by decide) (k_27 hG) rfl ?_
    exact Y_iret i_129_96 rt_129 h
  by_cases f2 : x1 = 2
  · replace h := h.2.2.1 f2
    refine Y_sw (t := 97) f2 i_129_9 (fun _ => rfl) rfl (fun _ => rfl) (fun _ => rfl) ?_
    refine Y_al0 i_129_97 ?_
    refine Y_gR i_129_98 ow_129 lf_9_40 (k_0 hG) (r_0_6 hG) ?_
    refine Y_gI (v := (F 12 1)) i_129_101 ow_129 lf_9_119 (by decide) (k_12 hG) rfl ?_
    exact Y_iret i_129_104 rt_129 h
  by_cases f3 : x1 = 3
  · replace h := h.2.2.2.1 f3
    refine Y_sw (t := 105) f3 i_129_9 (fun _ => rfl) rfl (fun _ => rfl) (fun _ => rfl) ?_
    refine Y_al0 i_129_105 ?_
    refine Y_gR i_129_106 ow_129 lf_9_40 (k_0 hG) (r_0_6 hG) ?_
    refine Y_gI (v := (F 12 2)) i_129_109 ow_129 lf_9_122 (by decide) (k_12 hG) rfl ?_
    exact Y_iret i_129_112 rt_129 h
  by_cases f4 : x1 = 4
  · replace h := h.2.2.2.2.1 f4
    refine Y_sw (t := 113) f4 i_129_9 (fun _ => rfl) rfl (fun _ => rfl) (fun _ => rfl) ?_
    refine Y_al2 i_129_113 ?_
    exact Y_iv0 (L0 := [.ref 27]) i_129_114 ow_129 lm_9_125 ((k_27 hG).trans ow_88.symm) rfl mx_88 rfl rfl hd_129 h
  by_cases f5 : x1 = 5
  · replace h := h.2.2.2.2.2.1 f5
    refine Y_sw (t := 126) f5 i_129_9 (fun _ => rfl) rfl (fun _ => rfl) (fun _ => rfl) ?_
    refine Y_al2 i_129_126 ?_
    exact Y_iv0 (L0 := [.ref 27, .null]) i_129_127 ow_129 lm_9_129 ((k_27 hG).trans ow_87.symm) rfl mx_87 rfl rfl hd_129 h
  by_cases f6 : x1 = 6
  · replace h := h.2.2.2.2.2.2.1 f6
    refine Y_sw (t := 131) f6 i_129_9 (fun _ => rfl) rfl (fun _ => rfl) (fun _ => rfl) ?_
    refine Y_al2 i_129_131 ?_
    refine Y_gI (v := (F 27 3)) i_129_132 ow_129 lf_9_133 (by decide) (k_27 hG) rfl ?_
    exact Y_iret i_129_135 rt_129 h
  by_cases f7 : x1 = 7
  · replace h := h.2.2.2.2.2.2.2.1 f7
    refine Y_sw (t := 136) f7 i_129_9 (fun _ => rfl) rfl (fun _ => rfl) (fun _ => rfl) ?_
    refine Y_al2 i_129_136 ?_
    exact Y_iv0 (L0 := [.ref 27, .null, .null, .null]) i_129_137 ow_129 lm_9_136 ((k_27 hG).trans ow_93.symm) rfl mx_93 rfl rfl hd_129 h
  by_cases f8 : x1 = 8
  · replace h := h.2.2.2.2.2.2.2.2.1 f8
    refine Y_sw (t := 141) f8 i_129_9 (fun _ => rfl) rfl (fun _ => rfl) (fun _ => rfl) ?_
    refine Y_al2 i_129_141 ?_
    refine Y_gI (v := (F 27 2)) i_129_142 ow_129 lf_9_139 (by decide) (k_27 hG) rfl ?_
    exact Y_iret i_129_145 rt_129 h
  by_cases f9 : x1 = 9
  · replace h := h.2.2.2.2.2.2.2.2.2.1 f9
    refine Y_sw (t := 146) f9 i_129_9 (fun _ => rfl) rfl (fun _ => rfl) (fun _ => rfl) ?_
    refine Y_al0 i_129_146 ?_
    refine Y_gR i_129_147 ow_129 lf_9_48 (k_0 hG) (r_0_7 hG) ?_
    refine Y_gR i_129_150 ow_129 lf_9_142 (k_21 hG) (r_21_1 hG) ?_
    refine Y_gI (v := (F 22 0)) i_129_153 ow_129 lf_9_146 (by decide) (k_22 hG) rfl ?_
    exact Y_iret i_129_156 rt_129 h
  by_cases f10 : x1 = 10
  · replace h := h.2.2.2.2.2.2.2.2.2.2.1 f10
    refine Y_sw (t := 157) f10 i_129_9 (fun _ => rfl) rfl (fun _ => rfl) (fun _ => rfl) ?_
    refine Y_al0 i_129_157 ?_
    refine Y_gR i_129_158 ow_129 lf_9_48 (k_0 hG) (r_0_7 hG) ?_
    refine Y_gI (v := (F 21 2)) i_129_161 ow_129 lf_9_150 (by decide) (k_21 hG) rfl ?_
    exact Y_iret i_129_164 rt_129 h
  by_cases f11 : x1 = 11
  · replace h := h.2.2.2.2.2.2.2.2.2.2.2.1 f11
    refine Y_sw (t := 165) f11 i_129_9 (fun _ => rfl) rfl (fun _ => rfl) (fun _ => rfl) ?_
    refine Y_al0 i_129_165 ?_
    refine Y_gI (v := (F 0 1)) i_129_166 ow_129 lf_9_13 (by decide) (k_0 hG) rfl ?_
    exact Y_iret i_129_169 rt_129 h
  by_cases f12 : x1 = 12
  · replace h := h.2.2.2.2.2.2.2.2.2.2.2.2.1 f12
    refine Y_sw (t := 170) f12 i_129_9 (fun _ => rfl) rfl (fun _ => rfl) (fun _ => rfl) ?_
    refine Y_al0 i_129_170 ?_
    refine Y_gR i_129_171 ow_129 lf_9_48 (k_0 hG) (r_0_7 hG) ?_
    refine Y_gR i_129_174 ow_129 lf_9_153 (k_21 hG) (r_21_5 hG) ?_
    refine Y_iconst (v := 0) i_129_177 (by decide) ?_
    refine Y_iaload (k := 0) (v := (A 26 0)) i_129_178 (k_26 hG) (l_26 hG) (by decide) (by decide) rfl ?_
    exact Y_iret i_129_179 rt_129 h
  by_cases f13 : x1 = 13
  · replace h := h.2.2.2.2.2.2.2.2.2.2.2.2.2.1 f13
    refine Y_sw (t := 180) f13 i_129_9 (fun _ => rfl) rfl (fun _ => rfl) (fun _ => rfl) ?_
    refine Y_al0 i_129_180 ?_
    refine Y_gR i_129_181 ow_129 lf_9_48 (k_0 hG) (r_0_7 hG) ?_
    refine Y_gR i_129_184 ow_129 lf_9_153 (k_21 hG) (r_21_5 hG) ?_
    refine Y_iconst (v := 1) i_129_187 (by decide) ?_
    refine Y_iaload (k := 1) (v := (A 26 1)) i_129_188 (k_26 hG) (l_26 hG) (by decide) (by decide) rfl ?_
    exact Y_iret i_129_189 rt_129 h
  by_cases f14 : x1 = 14
  · replace h := h.2.2.2.2.2.2.2.2.2.2.2.2.2.2.1 f14
    refine Y_sw (t := 190) f14 i_129_9 (fun _ => rfl) rfl (fun _ => rfl) (fun _ => rfl) ?_
    refine Y_al0 i_129_190 ?_
    refine Y_gR i_129_191 ow_129 lf_9_48 (k_0 hG) (r_0_7 hG) ?_
    refine Y_gR i_129_194 ow_129 lf_9_153 (k_21 hG) (r_21_5 hG) ?_
    refine Y_iconst (v := 2) i_129_197 (by decide) ?_
    refine Y_iaload (k := 2) (v := (A 26 2)) i_129_198 (k_26 hG) (l_26 hG) (by decide) (by decide) rfl ?_
    exact Y_iret i_129_199 rt_129 h
  have eD : (x1 : Int32).toInt < 0 ∨ 14 < (x1 : Int32).toInt := by
    have q := ts_out (x := x1) (lo := 0) (n := 15) (by
      intro j hj
      have : j = 0 ∨ j = 1 ∨ j = 2 ∨ j = 3 ∨ j = 4 ∨ j = 5 ∨ j = 6 ∨ j = 7 ∨ j = 8 ∨ j = 9 ∨ j = 10 ∨ j = 11 ∨ j = 12 ∨ j = 13 ∨ j = 14 := by omega
      rcases this with rfl | rfl | rfl | rfl | rfl | rfl | rfl | rfl | rfl | rfl | rfl | rfl | rfl | rfl | rfl
      · exact ne_toInt f0 (by decide)
      · exact ne_toInt f1 (by decide)
      · exact ne_toInt f2 (by decide)
      · exact ne_toInt f3 (by decide)
      · exact ne_toInt f4 (by decide)
      · exact ne_toInt f5 (by decide)
      · exact ne_toInt f6 (by decide)
      · exact ne_toInt f7 (by decide)
      · exact ne_toInt f8 (by decide)
      · exact ne_toInt f9 (by decide)
      · exact ne_toInt f10 (by decide)
      · exact ne_toInt f11 (by decide)
      · exact ne_toInt f12 (by decide)
      · exact ne_toInt f13 (by decide)
      · exact ne_toInt f14 (by decide)
      )
    omega
  replace h := h.2.2.2.2.2.2.2.2.2.2.2.2.2.2.2 eD
  refine Y_tsD (t := 200) eD i_129_9 (by decide) ?_
  exact Y_thr i_129_200 ow_129 lc_9_157 (by decide +kernel) rfl h
theorem k_129_117 {d : Nat} {F A : Nat → Nat → Int32} {J : Nat → Nat → Int64} {G : pG} {Q : pR → pM → Prop} {SL p q : Nat} {x1 r : Int32} (hG : Geo G SL p q) (h : ((r = 0 → Q (.inl (some (.int 0))) (F, A, J, G)) ∧ (¬ r = 0 → Q (.inl (some (.int 1))) (F, A, J, G)))) : KK (d + 5) 129 117 [.ref 0, .int x1, .ref 27] [] Q (.inl (some (.int r))) (F, A, J, G) := by
  refine KKi ?_
  refine Y_zeq i_129_117 (fun e1 => ?_) (fun e1 => ?_)
  · replace h := h.1 e1
    refine Y_iconst (v := 0) i_129_124 (by decide) ?_
    exact Y_iret i_129_125 rt_129 h
  · replace h := h.2 e1
    refine Y_iconst (v := 1) i_129_120 (by decide) ?_
    refine Y_goto i_129_121 ?_
    exact Y_iret i_129_125 rt_129 h
theorem k_129_130 {d : Nat} {F A : Nat → Nat → Int32} {J : Nat → Nat → Int64} {G : pG} {Q : pR → pM → Prop} {SL p q : Nat} {x1 r : Int32} (hG : Geo G SL p q) (h : Q (.inl (some (.int r))) (F, A, J, G)) : KK (d + 5) 129 130 [.ref 0, .int x1, .ref 27] [] Q (.inl (some (.int r))) (F, A, J, G) := by
  refine KKi ?_
  exact Y_iret i_129_130 rt_129 h
theorem k_129_140 {d : Nat} {F A : Nat → Nat → Int32} {J : Nat → Nat → Int64} {G : pG} {Q : pR → pM → Prop} {SL p q : Nat} {x1 r : Int32} (hG : Geo G SL p q) (h : Q (.inl (some (.int r))) (F, A, J, G)) : KK (d + 5) 129 140 [.ref 0, .int x1, .ref 27] [] Q (.inl (some (.int r))) (F, A, J, G) := by
  refine KKi ?_
  exact Y_iret i_129_140 rt_129 h
/- 130 TableTower.table(II)I -/
theorem t_130_0 {d : Nat} {F A : Nat → Nat → Int32} {J : Nat → Nat → Int64} {G : pG} {Q : pR → pM → Prop} {SL p q : Nat} {x1 x2 : Int32} (hG : Geo G SL p q) (h : ((x1 < 0 → Q (.inr 101) (F, A, J, gThr G)) ∧ (¬ x1 < 0 → ((x1 < (F 12 0) → ((x2 = 0 → inB x1 10 = true ∧ (Q (.inl (some (.int (A 13 x1.toNatClampNeg)))) (F, A, J, G))) ∧ (x2 = 1 → inB x1 10 = true ∧ (Q (.inl (some (.int (A 14 x1.toNatClampNeg)))) (F, A, J, G))) ∧ (x2 = 2 → inB x1 10 = true ∧ (Q (.inl (some (.int (carS (A 13 x1.toNatClampNeg) (A 15 x1.toNatClampNeg) (F 27 2) 1)))) (F, A, J, G))) ∧ (x2 = 3 → inB x1 10 = true ∧ (Q (.inl (some (.int (A 31 x1.toNatClampNeg)))) (F, A, J, G))) ∧ (x2 = 4 → inB x1 10 = true ∧ (Q (.inl (some (.int (A 17 x1.toNatClampNeg)))) (F, A, J, G))) ∧ (x2 = 5 → inB x1 10 = true ∧ (Q (.inl (some (.int (A 29 x1.toNatClampNeg)))) (F, A, J, G))) ∧ (x2 = 6 → inB x1 10 = true ∧ (Q (.inl (some (.int (A 30 x1.toNatClampNeg)))) (F, A, J, G))) ∧ (x2 = 7 → hB (F 27 1) = true ∧ (Q (.inl (some (.int (lvI (A 28) (F 27 1) x1)))) (F, A, J, G))) ∧ (((x2 : Int32).toInt < 0 ∨ 7 < (x2 : Int32).toInt) → Q (.inr 101) (F, A, J, gThr G)))) ∧ (¬ x1 < (F 12 0) → Q (.inr 101) (F, A, J, gThr G)))))) : X (d + 2) 130 0 [.ref 0, .int x1, .int x2, .null] [] (F, A, J, G) Q := by
  refine Y_al0 i_130_0 ?_
  refine Y_il1 i_130_1 ?_
  refine Y_iv1 (L0 := [.ref 0, .int x1]) i_130_2 ow_130 lm_9_162 ((k_0 hG).trans ow_171.symm) rfl mx_171 rfl rfl hd_130 ?_
  refine Y_il1 i_171_0 ?_
  refine Y_zlt i_171_1 (fun e1 => ?_) (fun e1 => ?_)
  · replace h := h.1 e1
    exact Y_thr i_171_15 ow_171 lc_9_157 (by decide +kernel) rfl (KKe h)
  · replace h := h.2 e1
    refine Y_il1 i_171_4 ?_
    refine Y_al0 i_171_5 ?_
    refine Y_gR i_171_6 ow_171 lf_9_40 (k_0 hG) (r_0_6 hG) ?_
    refine Y_gI (v := (F 12 0)) i_171_9 ow_171 lf_9_111 (by decide) (k_12 hG) rfl ?_
    refine Y_clt i_171_12 (fun e2 => ?_) (fun e2 => ?_)
    · replace h := h.1 e2
      refine Y_vret i_171_26 rt_171 (KKv ?_)
      refine Y_al0 i_130_5 ?_
      refine Y_gR i_130_6 ow_130 lf_9_48 (k_0 hG) (r_0_7 hG) ?_
      refine Y_gR i_130_9 ow_130 lf_9_57 (k_21 hG) (r_21_0 hG) ?_
      refine Y_as3 i_130_12 rfl ?_
      refine Y_il2 i_130_13 ?_
      by_cases f0 : x2 = 0
      · replace h := h.1 f0
        refine Y_sw (t := 60) f0 i_130_14 (fun _ => rfl) rfl (fun _ => rfl) (fun _ => rfl) ?_
        refine Y_al0 i_130_60 ?_
        refine Y_gR i_130_61 ow_130 lf_9_40 (k_0 hG) (r_0_6 hG) ?_
        refine Y_gR i_130_64 ow_130 lf_9_165 (k_12 hG) (r_12_3 hG) ?_
        refine Y_il1 i_130_67 ?_
        have o3 := h.1
        replace h := h.2
        refine Y_iaload (k := x1.toNatClampNeg) (v := (A 13 x1.toNatClampNeg)) i_130_68 (k_13 hG) (l_13 hG) o3 rfl rfl ?_
        exact Y_iret i_130_69 rt_130 h
      by_cases f1 : x2 = 1
      · replace h := h.2.1 f1
        refine Y_sw (t := 70) f1 i_130_14 (fun _ => rfl) rfl (fun _ => rfl) (fun _ => rfl) ?_
        refine Y_al0 i_130_70 ?_
        refine Y_gR i_130_71 ow_130 lf_9_40 (k_0 hG) (r_0_6 hG) ?_
        refine Y_gR i_130_74 ow_130 lf_9_168 (k_12 hG) (r_12_4 hG) ?_
        refine Y_il1 i_130_77 ?_
        have o4 := h.1
        replace h := h.2
        refine Y_iaload (k := x1.toNatClampNeg) (v := (A 14 x1.toNatClampNeg)) i_130_78 (k_14 hG) (l_14 hG) o4 rfl rfl ?_
        exact Y_iret i_130_79 rt_130 h
      by_cases f2 : x2 = 2
      · replace h := h.2.2.1 f2
        refine Y_sw (t := 80) f2 i_130_14 (fun _ => rfl) rfl (fun _ => rfl) (fun _ => rfl) ?_
        refine Y_al3 i_130_80 ?_
        refine Y_il1 i_130_81 ?_
        refine Y_iconst (v := 1) i_130_82 (by decide) ?_
        have o5 := h.1
        replace h := h.2
        refine Y_iv2 (L0 := [.ref 27, .int x1, .int 1, .null]) i_130_83 ow_130 lm_9_171 ((k_27 hG).trans ow_82.symm) rfl mx_82 rfl rfl hd_130 ?_
        refine c_82 hG tw_27 o5 (KKi ?_)
        exact Y_iret i_130_86 rt_130 h
      by_cases f3 : x2 = 3
      · replace h := h.2.2.2.1 f3
        refine Y_sw (t := 87) f3 i_130_14 (fun _ => rfl) rfl (fun _ => rfl) (fun _ => rfl) ?_
        refine Y_al3 i_130_87 ?_
        refine Y_gR i_130_88 ow_130 lf_9_175 (k_27 hG) (r_27_7 hG) ?_
        refine Y_il1 i_130_91 ?_
        have o6 := h.1
        replace h := h.2
        refine Y_iaload (k := x1.toNatClampNeg) (v := (A 31 x1.toNatClampNeg)) i_130_92 (k_31 hG) (l_31 hG) o6 rfl rfl ?_
        exact Y_iret i_130_93 rt_130 h
      by_cases f4 : x2 = 4
      · replace h := h.2.2.2.2.1 f4
        refine Y_sw (t := 94) f4 i_130_14 (fun _ => rfl) rfl (fun _ => rfl) (fun _ => rfl) ?_
        refine Y_al0 i_130_94 ?_
        refine Y_gR i_130_95 ow_130 lf_9_40 (k_0 hG) (r_0_6 hG) ?_
        refine Y_gR i_130_98 ow_130 lf_9_178 (k_12 hG) (r_12_7 hG) ?_
        refine Y_il1 i_130_101 ?_
        have o7 := h.1
        replace h := h.2
        refine Y_iaload (k := x1.toNatClampNeg) (v := (A 17 x1.toNatClampNeg)) i_130_102 (k_17 hG) (l_17 hG) o7 rfl rfl ?_
        exact Y_iret i_130_103 rt_130 h
      by_cases f5 : x2 = 5
      · replace h := h.2.2.2.2.2.1 f5
        refine Y_sw (t := 104) f5 i_130_14 (fun _ => rfl) rfl (fun _ => rfl) (fun _ => rfl) ?_
        refine Y_al3 i_130_104 ?_
        refine Y_gR i_130_105 ow_130 lf_9_181 (k_27 hG) (r_27_5 hG) ?_
        refine Y_il1 i_130_108 ?_
        have o8 := h.1
        replace h := h.2
        refine Y_iaload (k := x1.toNatClampNeg) (v := (A 29 x1.toNatClampNeg)) i_130_109 (k_29 hG) (l_29 hG) o8 rfl rfl ?_
        exact Y_iret i_130_110 rt_130 h
      by_cases f6 : x2 = 6
      · replace h := h.2.2.2.2.2.2.1 f6
        refine Y_sw (t := 111) f6 i_130_14 (fun _ => rfl) rfl (fun _ => rfl) (fun _ => rfl) ?_
        refine Y_al3 i_130_111 ?_
        refine Y_gR i_130_112 ow_130 lf_9_184 (k_27 hG) (r_27_6 hG) ?_
        refine Y_il1 i_130_115 ?_
        have o9 := h.1
        replace h := h.2
        refine Y_iaload (k := x1.toNatClampNeg) (v := (A 30 x1.toNatClampNeg)) i_130_116 (k_30 hG) (l_30 hG) o9 rfl rfl ?_
        exact Y_iret i_130_117 rt_130 h
      by_cases f7 : x2 = 7
      · replace h := h.2.2.2.2.2.2.2.1 f7
        refine Y_sw (t := 118) f7 i_130_14 (fun _ => rfl) rfl (fun _ => rfl) (fun _ => rfl) ?_
        refine Y_al3 i_130_118 ?_
        refine Y_il1 i_130_119 ?_
        have o10 := h.1
        replace h := h.2
        refine Y_iv1 (L0 := [.ref 27, .int x1, .null]) i_130_120 ow_130 lm_9_187 ((k_27 hG).trans ow_77.symm) rfl mx_77 rfl rfl hd_130 ?_
        refine c_77 hG tw_27 o10 (KKi' (v' := (lvI (A 28) (F 27 1) x1)) (by simp [wF, wJ, va_up, cpR, bF, bA]) ?_)
        exact Y_iret i_130_123 rt_130 h
      have eD : (x2 : Int32).toInt < 0 ∨ 7 < (x2 : Int32).toInt := by
        have q := ts_out (x := x2) (lo := 0) (n := 8) (by
          intro j hj
          have : j = 0 ∨ j = 1 ∨ j = 2 ∨ j = 3 ∨ j = 4 ∨ j = 5 ∨ j = 6 ∨ j = 7 := by omega
          rcases this with rfl | rfl | rfl | rfl | rfl | rfl | rfl | rfl
          · exact ne_toInt f0 (by decide)
          · exact ne_toInt f1 (by decide)
          · exact ne_toInt f2 (by decide)
          · exact ne_toInt f3 (by decide)
          · exact ne_toInt f4 (by decide)
          · exact ne_toInt f5 (by decide)
          · exact ne_toInt f6 (by decide)
          · exact ne_toInt f7 (by decide)
          )
        omega
      replace h := h.2.2.2.2.2.2.2.2 eD
      refine Y_tsD (t := 124) eD i_130_14 (by decide) ?_
      exact Y_thr i_130_124 ow_130 lc_9_157 (by decide +kernel) rfl h
    · replace h := h.2 e2
      exact Y_thr i_171_15 ow_171 lc_9_157 (by decide +kernel) rfl (KKe h)
/- 131 TableTower.level(II)I -/
theorem t_131_0 {d : Nat} {F A : Nat → Nat → Int32} {J : Nat → Nat → Int64} {G : pG} {Q : pR → pM → Prop} {SL p q : Nat} {x1 x2 : Int32} (hG : Geo G SL p q) (h : ((x1 < 0 → Q (.inr 101) (F, A, J, gThr G)) ∧ (¬ x1 < 0 → ((x1 < (F 27 1) → X (d + 2) 84 0 [.ref 27, .null, .null, .null] [] (F, A, J, G) (KK (d + 3) 131 17 [.ref 0, .int x1, .int x2, .ref 27] [] Q)) ∧ (¬ x1 < (F 27 1) → Q (.inr 101) (F, A, J, gThr G)))))) : X (d + 3) 131 0 [.ref 0, .int x1, .int x2, .null] [] (F, A, J, G) Q := by
  refine Y_al0 i_131_0 ?_
  refine Y_il1 i_131_1 ?_
  refine Y_iv1 (L0 := [.ref 0, .int x1]) i_131_2 ow_131 lm_9_192 ((k_0 hG).trans ow_173.symm) rfl mx_173 rfl rfl hd_131 ?_
  refine Y_il1 i_173_0 ?_
  refine Y_zlt i_173_1 (fun e1 => ?_) (fun e1 => ?_)
  · replace h := h.1 e1
    exact Y_thr i_173_18 ow_173 lc_9_157 (by decide +kernel) rfl (KKe h)
  · replace h := h.2 e1
    refine Y_il1 i_173_4 ?_
    refine Y_al0 i_173_5 ?_
    refine Y_gR i_173_6 ow_173 lf_9_48 (k_0 hG) (r_0_7 hG) ?_
    refine Y_gR i_173_9 ow_173 lf_9_57 (k_21 hG) (r_21_0 hG) ?_
    refine Y_gI (v := (F 27 1)) i_173_12 ow_173 lf_9_114 (by decide) (k_27 hG) rfl ?_
    refine Y_clt i_173_15 (fun e2 => ?_) (fun e2 => ?_)
    · replace h := h.1 e2
      refine Y_vret i_173_29 rt_173 (KKv ?_)
      refine Y_al0 i_131_5 ?_
      refine Y_gR i_131_6 ow_131 lf_9_48 (k_0 hG) (r_0_7 hG) ?_
      refine Y_gR i_131_9 ow_131 lf_9_57 (k_21 hG) (r_21_0 hG) ?_
      refine Y_as3 i_131_12 rfl ?_
      refine Y_al3 i_131_13 ?_
      exact Y_iv0 (L0 := [.ref 27, .null, .null, .null]) i_131_14 ow_131 lm_9_195 ((k_27 hG).trans ow_84.symm) rfl mx_84 rfl rfl hd_131 h
    · replace h := h.2 e2
      exact Y_thr i_173_18 ow_173 lc_9_157 (by decide +kernel) rfl (KKe h)
theorem k_131_17 {d : Nat} {F A : Nat → Nat → Int32} {J : Nat → Nat → Int64} {G : pG} {Q : pR → pM → Prop} {SL p q : Nat} {x1 x2 : Int32} (hG : Geo G SL p q) (h : ((x2 = 0 → inB x1 10 = true ∧ (Q (.inl (some (.int (A 28 x1.toNatClampNeg)))) (F, A, J, G))) ∧ (x2 = 1 → inB x1 10 = true ∧ (Q (.inl (some (.int (A 32 x1.toNatClampNeg)))) (F, A, J, G))) ∧ (x2 = 2 → inB x1 10 = true ∧ (Q (.inl (some (.int (A 33 x1.toNatClampNeg)))) (F, A, J, G))) ∧ (x2 = 3 → inB x1 10 = true ∧ (Q (.inl (some (.int (A 34 x1.toNatClampNeg)))) (F, A, J, G))) ∧ (x2 = 4 → inB x1 10 = true ∧ ((((A 33 x1.toNatClampNeg) - (A 32 x1.toNatClampNeg)) < 0 → Q (.inl (some (.int 0))) (F, A, J, G)) ∧ (¬ ((A 33 x1.toNatClampNeg) - (A 32 x1.toNatClampNeg)) < 0 → (((limB (F 12 1) (A 34 x1.toNatClampNeg)) = true → Q (.inl (some (.int 1))) (F, A, J, G)) ∧ ((limB (F 12 1) (A 34 x1.toNatClampNeg)) = false → Q (.inl (some (.int 0))) (F, A, J, G)))))) ∧ (((x2 : Int32).toInt < 0 ∨ 4 < (x2 : Int32).toInt) → Q (.inr 101) (F, A, J, gThr G)))) : KK (d + 3) 131 17 [.ref 0, .int x1, .int x2, .ref 27] [] Q (.inl none) (F, A, J, G) := by
  refine KKv ?_
  refine Y_il2 i_131_17 ?_
  by_cases f0 : x2 = 0
  · replace h := h.1 f0
    refine Y_sw (t := 52) f0 i_131_18 (fun _ => rfl) rfl (fun _ => rfl) (fun _ => rfl) ?_
    refine Y_al3 i_131_52 ?_
    refine Y_gR i_131_53 ow_131 lf_9_198 (k_27 hG) (r_27_4 hG) ?_
    refine Y_il1 i_131_56 ?_
    have o1 := h.1
    replace h := h.2
    refine Y_iaload (k := x1.toNatClampNeg) (v := (A 28 x1.toNatClampNeg)) i_131_57 (k_28 hG) (l_28 hG) o1 rfl rfl ?_
    exact Y_iret i_131_58 rt_131 h
  by_cases f1 : x2 = 1
  · replace h := h.2.1 f1
    refine Y_sw (t := 59) f1 i_131_18 (fun _ => rfl) rfl (fun _ => rfl) (fun _ => rfl) ?_
    refine Y_al3 i_131_59 ?_
    refine Y_gR i_131_60 ow_131 lf_9_201 (k_27 hG) (r_27_8 hG) ?_
    refine Y_il1 i_131_63 ?_
    have o2 := h.1
    replace h := h.2
    refine Y_iaload (k := x1.toNatClampNeg) (v := (A 32 x1.toNatClampNeg)) i_131_64 (k_32 hG) (l_32 hG) o2 rfl rfl ?_
    exact Y_iret i_131_65 rt_131 h
  by_cases f2 : x2 = 2
  · replace h := h.2.2.1 f2
    refine Y_sw (t := 66) f2 i_131_18 (fun _ => rfl) rfl (fun _ => rfl) (fun _ => rfl) ?_
    refine Y_al3 i_131_66 ?_
    refine Y_gR i_131_67 ow_131 lf_9_204 (k_27 hG) (r_27_9 hG) ?_
    refine Y_il1 i_131_70 ?_
    have o3 := h.1
    replace h := h.2
    refine Y_iaload (k := x1.toNatClampNeg) (v := (A 33 x1.toNatClampNeg)) i_131_71 (k_33 hG) (l_33 hG) o3 rfl rfl ?_
    exact Y_iret i_131_72 rt_131 h
  by_cases f3 : x2 = 3
  · replace h := h.2.2.2.1 f3
    refine Y_sw (t := 73) f3 i_131_18 (fun _ => rfl) rfl (fun _ => rfl) (fun _ => rfl) ?_
    refine Y_al3 i_131_73 ?_
    refine Y_gR i_131_74 ow_131 lf_9_207 (k_27 hG) (r_27_10 hG) ?_
    refine Y_il1 i_131_77 ?_
    have o4 := h.1
    replace h := h.2
    refine Y_iaload (k := x1.toNatClampNeg) (v := (A 34 x1.toNatClampNeg)) i_131_78 (k_34 hG) (l_34 hG) o4 rfl rfl ?_
    exact Y_iret i_131_79 rt_131 h
  by_cases f4 : x2 = 4
  · replace h := h.2.2.2.2.1 f4
    refine Y_sw (t := 80) f4 i_131_18 (fun _ => rfl) rfl (fun _ => rfl) (fun _ => rfl) ?_
    refine Y_al3 i_131_80 ?_
    refine Y_il1 i_131_81 ?_
    refine Y_iv1 (L0 := [.ref 27, .int x1]) i_131_82 ow_131 lm_9_210 ((k_27 hG).trans ow_86.symm) rfl mx_86 rfl rfl hd_131 ?_
    refine Y_al0 i_86_0 ?_
    refine Y_il1 i_86_1 ?_
    refine Y_iv1 (L0 := [.ref 27, .int x1]) i_86_2 ow_86 lm_6_88 ((k_27 hG).trans ow_85.symm) rfl mx_85 rfl rfl hd_86 ?_
    refine Y_al0 i_85_0 ?_
    refine Y_gR i_85_1 ow_85 lf_6_27 (k_27 hG) (r_27_9 hG) ?_
    refine Y_il1 i_85_4 ?_
    have o5 := h.1
    replace h := h.2
    refine Y_iaload (k := x1.toNatClampNeg) (v := (A 33 x1.toNatClampNeg)) i_85_5 (k_33 hG) (l_33 hG) o5 rfl rfl ?_
    refine Y_al0 i_85_6 ?_
    refine Y_gR i_85_7 ow_85 lf_6_24 (k_27 hG) (r_27_8 hG) ?_
    refine Y_il1 i_85_10 ?_
    refine Y_iaload (k := x1.toNatClampNeg) (v := (A 32 x1.toNatClampNeg)) i_85_11 (k_32 hG) (l_32 hG) o5 rfl rfl ?_
    refine Y_isub i_85_12 ?_
    refine Y_iret i_85_13 rt_85 (KKi ?_)
    refine Y_zlt i_86_5 (fun e6 => ?_) (fun e6 => ?_)
    · replace h := h.1 e6
      refine Y_iconst (v := 0) i_86_28 (by decide) ?_
      refine Y_bret i_86_29 rt_86 (by decide) (KKi ?_)
      refine Y_zT i_131_85 (by decide) ?_
      refine Y_iconst (v := 0) i_131_92 (by decide) ?_
      exact Y_iret i_131_93 rt_131 h
    · replace h := h.2 e6
      refine Y_al0 i_86_8 ?_
      refine Y_gR i_86_9 ow_86 lf_6_33 (k_27 hG) (r_27_0 hG) ?_
      refine Y_al0 i_86_12 ?_
      refine Y_gR i_86_13 ow_86 lf_6_30 (k_27 hG) (r_27_10 hG) ?_
      refine Y_il1 i_86_16 ?_
      refine Y_iaload (k := x1.toNatClampNeg) (v := (A 34 x1.toNatClampNeg)) i_86_17 (k_34 hG) (l_34 hG) o5 rfl rfl ?_
      refine Y_iv1 (L0 := [.ref 12, .int (A 34 x1.toNatClampNeg)]) i_86_18 ow_86 lm_6_91 ((k_12 hG).trans ow_103.symm) rfl mx_103 rfl rfl hd_86 ?_
      refine c_103 hG (KKi ?_)
      refine Y_beq i_86_21 (fun e7 => ?_) (fun e7 => ?_)
      · replace h := h.1 e7
        refine Y_iconst (v := 1) i_86_24 (by decide) ?_
        refine Y_goto i_86_25 ?_
        refine Y_bret i_86_29 rt_86 (by decide) (KKi ?_)
        refine Y_zF i_131_85 (by decide) ?_
        refine Y_iconst (v := 1) i_131_88 (by decide) ?_
        refine Y_goto i_131_89 ?_
        exact Y_iret i_131_93 rt_131 h
      · replace h := h.2 e7
        refine Y_iconst (v := 0) i_86_28 (by decide) ?_
        refine Y_bret i_86_29 rt_86 (by decide) (KKi ?_)
        refine Y_zT i_131_85 (by decide) ?_
        refine Y_iconst (v := 0) i_131_92 (by decide) ?_
        exact Y_iret i_131_93 rt_131 h
  have eD : (x2 : Int32).toInt < 0 ∨ 4 < (x2 : Int32).toInt := by
    have q := ts_out (x := x2) (lo := 0) (n := 5) (by
      intro j hj
      have : j = 0 ∨ j = 1 ∨ j = 2 ∨ j = 3 ∨ j = 4 := by omega
      rcases this with rfl | rfl | rfl | rfl | rfl
      · exact ne_toInt f0 (by decide)
      · exact ne_toInt f1 (by decide)
      · exact ne_toInt f2 (by decide)
      · exact ne_toInt f3 (by decide)
      · exact ne_toInt f4 (by decide)
      )
    omega
  replace h := h.2.2.2.2.2 eD
  refine Y_tsD (t := 94) eD i_131_18 (by decide) ?_
  exact Y_thr i_131_94 ow_131 lc_9_157 (by decide +kernel) rfl h
/- 132 TableTower.by()I -/
theorem t_132_0 {d : Nat} {F A : Nat → Nat → Int32} {J : Nat → Nat → Int64} {G : pG} {Q : pR → pM → Prop} {SL p q : Nat} (hG : Geo G SL p q) (h : hB (F 27 1) = true ∧ (Q (.inl (some (.int ((((1 : Int32) <<< ((F 12 0) &&& 31)) - 1) &&& ((bitsI (A 28) (F 27 1)) ^^^ (-1)))))) (F, A, J, G))) : X (d + 1) 132 0 [.ref 0] [] (F, A, J, G) Q := by
  refine Y_al0 i_132_0 ?_
  refine Y_gR i_132_1 ow_132 lf_9_40 (k_0 hG) (r_0_6 hG) ?_
  refine Y_iv0 (L0 := [.ref 12]) i_132_4 ow_132 lm_9_216 ((k_12 hG).trans ow_100.symm) rfl mx_100 rfl rfl hd_132 ?_
  refine Y_iconst (v := 1) i_100_0 (by decide) ?_
  refine Y_al0 i_100_1 ?_
  refine Y_gI (v := (F 12 0)) i_100_2 ow_100 lf_7_37 (by decide) (k_12 hG) rfl ?_
  refine Y_ishl i_100_5 ?_
  refine Y_iconst (v := 1) i_100_6 (by decide) ?_
  refine Y_isub i_100_7 ?_
  refine Y_iret i_100_8 rt_100 (KKi ?_)
  refine Y_al0 i_132_7 ?_
  refine Y_gR i_132_8 ow_132 lf_9_48 (k_0 hG) (r_0_7 hG) ?_
  refine Y_gR i_132_11 ow_132 lf_9_57 (k_21 hG) (r_21_0 hG) ?_
  have o1 := h.1
  replace h := h.2
  refine Y_iv0 (L0 := [.ref 27, .null, .null]) i_132_14 ow_132 lm_9_219 ((k_27 hG).trans ow_78.symm) rfl mx_78 rfl rfl hd_132 ?_
  refine c_78 hG tw_27 o1 (KKi' (v' := (bitsI (A 28) (F 27 1))) (by simp [wF, wJ, va_up, cpR, bF, bA]) ?_)
  refine Y_iconst (v := (-1)) i_132_17 (by decide) ?_
  refine Y_ixor i_132_18 ?_
  refine Y_iand i_132_19 ?_
  exact Y_iret i_132_20 rt_132 h
/- 133 TableTower.put(II)I -/
theorem t_133_0 {d : Nat} {F A : Nat → Nat → Int32} {J : Nat → Nat → Int64} {G : pG} {Q : pR → pM → Prop} {SL p q : Nat} {x1 x2 : Int32} (hG : Geo G SL p q) (h : ((x1 < 0 → Q (.inr 101) (F, A, J, gThr G)) ∧ (¬ x1 < 0 → ((x1 < (F 12 0) → X (d + 2) 64 0 [.ref 21, .int x1, .int x2] [] (F, A, J, G) (KK (d + 3) 133 14 [.ref 0, .int x1, .int x2] [] Q)) ∧ (¬ x1 < (F 12 0) → Q (.inr 101) (F, A, J, gThr G)))))) : X (d + 3) 133 0 [.ref 0, .int x1, .int x2] [] (F, A, J, G) Q := by
  refine Y_al0 i_133_0 ?_
  refine Y_il1 i_133_1 ?_
  refine Y_iv1 (L0 := [.ref 0, .int x1]) i_133_2 ow_133 lm_9_162 ((k_0 hG).trans ow_171.symm) rfl mx_171 rfl rfl hd_133 ?_
  refine Y_il1 i_171_0 ?_
  refine Y_zlt i_171_1 (fun e1 => ?_) (fun e1 => ?_)
  · replace h := h.1 e1
    exact Y_thr i_171_15 ow_171 lc_9_157 (by decide +kernel) rfl (KKe h)
  · replace h := h.2 e1
    refine Y_il1 i_171_4 ?_
    refine Y_al0 i_171_5 ?_
    refine Y_gR i_171_6 ow_171 lf_9_40 (k_0 hG) (r_0_6 hG) ?_
    refine Y_gI (v := (F 12 0)) i_171_9 ow_171 lf_9_111 (by decide) (k_12 hG) rfl ?_
    refine Y_clt i_171_12 (fun e2 => ?_) (fun e2 => ?_)
    · replace h := h.1 e2
      refine Y_vret i_171_26 rt_171 (KKv ?_)
      refine Y_al0 i_133_5 ?_
      refine Y_gR i_133_6 ow_133 lf_9_48 (k_0 hG) (r_0_7 hG) ?_
      refine Y_il1 i_133_9 ?_
      refine Y_il2 i_133_10 ?_
      exact Y_iv2 (L0 := [.ref 21, .int x1, .int x2]) i_133_11 ow_133 lm_9_222 ((k_21 hG).trans ow_64.symm) rfl mx_64 rfl rfl hd_133 h
    · replace h := h.2 e2
      exact Y_thr i_171_15 ow_171 lc_9_157 (by decide +kernel) rfl (KKe h)
theorem k_133_14 {d : Nat} {F A : Nat → Nat → Int32} {J : Nat → Nat → Int64} {G : pG} {Q : pR → pM → Prop} {SL p q : Nat} {x1 x2 r : Int32} (hG : Geo G SL p q) (h : Q (.inl (some (.int r))) (F, A, J, G)) : KK (d + 3) 133 14 [.ref 0, .int x1, .int x2] [] Q (.inl (some (.int r))) (F, A, J, G) := by
  refine KKi ?_
  exact Y_iret i_133_14 rt_133 h
/- 134 TableTower.take(I)I -/
theorem t_134_0 {d : Nat} {F A : Nat → Nat → Int32} {J : Nat → Nat → Int64} {G : pG} {Q : pR → pM → Prop} {SL p q : Nat} {x1 : Int32} (hG : Geo G SL p q) (h : ((x1 < 0 → Q (.inr 101) (F, A, J, gThr G)) ∧ (¬ x1 < 0 → ((x1 < (F 12 0) → X (d + 2) 65 0 [.ref 21, .int x1, .null] [] (F, A, J, G) (KK (d + 3) 134 13 [.ref 0, .int x1] [] Q)) ∧ (¬ x1 < (F 12 0) → Q (.inr 101) (F, A, J, gThr G)))))) : X (d + 3) 134 0 [.ref 0, .int x1] [] (F, A, J, G) Q := by
  refine Y_al0 i_134_0 ?_
  refine Y_il1 i_134_1 ?_
  refine Y_iv1 (L0 := [.ref 0, .int x1]) i_134_2 ow_134 lm_9_162 ((k_0 hG).trans ow_171.symm) rfl mx_171 rfl rfl hd_134 ?_
  refine Y_il1 i_171_0 ?_
  refine Y_zlt i_171_1 (fun e1 => ?_) (fun e1 => ?_)
  · replace h := h.1 e1
    exact Y_thr i_171_15 ow_171 lc_9_157 (by decide +kernel) rfl (KKe h)
  · replace h := h.2 e1
    refine Y_il1 i_171_4 ?_
    refine Y_al0 i_171_5 ?_
    refine Y_gR i_171_6 ow_171 lf_9_40 (k_0 hG) (r_0_6 hG) ?_
    refine Y_gI (v := (F 12 0)) i_171_9 ow_171 lf_9_111 (by decide) (k_12 hG) rfl ?_
    refine Y_clt i_171_12 (fun e2 => ?_) (fun e2 => ?_)
    · replace h := h.1 e2
      refine Y_vret i_171_26 rt_171 (KKv ?_)
      refine Y_al0 i_134_5 ?_
      refine Y_gR i_134_6 ow_134 lf_9_48 (k_0 hG) (r_0_7 hG) ?_
      refine Y_il1 i_134_9 ?_
      exact Y_iv1 (L0 := [.ref 21, .int x1, .null]) i_134_10 ow_134 lm_9_226 ((k_21 hG).trans ow_65.symm) rfl mx_65 rfl rfl hd_134 h
    · replace h := h.2 e2
      exact Y_thr i_171_15 ow_171 lc_9_157 (by decide +kernel) rfl (KKe h)
theorem k_134_13 {d : Nat} {F A : Nat → Nat → Int32} {J : Nat → Nat → Int64} {G : pG} {Q : pR → pM → Prop} {SL p q : Nat} {x1 r : Int32} (hG : Geo G SL p q) (h : Q (.inl (some (.int r))) (F, A, J, G)) : KK (d + 3) 134 13 [.ref 0, .int x1] [] Q (.inl (some (.int r))) (F, A, J, G) := by
  refine KKi ?_
  exact Y_iret i_134_13 rt_134 h
/- 135 TableTower.change(II)Z -/
theorem t_135_0 {d : Nat} {F A : Nat → Nat → Int32} {J : Nat → Nat → Int64} {G : pG} {Q : pR → pM → Prop} {SL p q : Nat} {x1 x2 : Int32} (hG : Geo G SL p q) (h : ((x1 < 0 → Q (.inr 101) (F, A, J, gThr G)) ∧ (¬ x1 < 0 → ((x1 < (F 27 1) → ((x2 < 0 → Q (.inr 101) (F, A, J, gThr G)) ∧ (¬ x2 < 0 → ((x2 < (F 27 1) → ((x1 = x2 → Q (.inl (some (.int 0))) (F, (wF A 26 1 ((A 26 1) + 1)), J, G)) ∧ (¬ x1 = x2 → inB x1 10 = true ∧ inB x2 10 = true ∧ (((F 22 0) < 40 → inB ((F 22 0) * 14) 560 = true ∧ inB (((F 22 0) * 14) + 1) 560 = true ∧ inB (((F 22 0) * 14) + 2) 560 = true ∧ inB (((F 22 0) * 14) + 3) 560 = true ∧ (Q (.inl (some (.int 1))) ((wF (wF F 22 0 ((F 22 0) + 1)) 21 6 1), (wF (wF (wF (wF (wF (wF A 28 x1.toNatClampNeg (A 28 x2.toNatClampNeg)) 28 x2.toNatClampNeg (A 28 x1.toNatClampNeg)) 23 ((F 22 0) * 14).toNatClampNeg 2) 23 (((F 22 0) * 14) + 1).toNatClampNeg x1) 23 (((F 22 0) * 14) + 2).toNatClampNeg x2) 23 (((F 22 0) * 14) + 3).toNatClampNeg 0), J, G))) ∧ (¬ (F 22 0) < 40 → (¬ (14 : Int32) < 0 ∧ ¬ (0 : Int32) < 0 ∧ ¬ ((39 : Int32) * 14) < 0 ∧ (14 : Int32).toNatClampNeg + ((39 : Int32) * 14).toNatClampNeg ≤ 560 ∧ (0 : Int32).toNatClampNeg + ((39 : Int32) * 14).toNatClampNeg ≤ 560) ∧ inB ((39 : Int32) * 14) 560 = true ∧ inB (((39 : Int32) * 14) + 1) 560 = true ∧ inB (((39 : Int32) * 14) + 2) 560 = true ∧ inB (((39 : Int32) * 14) + 3) 560 = true ∧ (Q (.inl (some (.int 1))) ((wF (wF (wF F 22 0 39) 22 0 ((39 : Int32) + 1)) 21 6 1), (wF (wF (wF (wF (cpR (wF (wF A 28 x1.toNatClampNeg (A 28 x2.toNatClampNeg)) 28 x2.toNatClampNeg (A 28 x1.toNatClampNeg)) 23 23 14 0 ((39 : Int32) * 14).toNatClampNeg) 23 ((39 : Int32) * 14).toNatClampNeg 2) 23 (((39 : Int32) * 14) + 1).toNatClampNeg x1) 23 (((39 : Int32) * 14) + 2).toNatClampNeg x2) 23 (((39 : Int32) * 14) + 3).toNatClampNeg 0), J, G))))))) ∧ (¬ x2 < (F 27 1) → Q (.inr 101) (F, A, J, gThr G)))))) ∧ (¬ x1 < (F 27 1) → Q (.inr 101) (F, A, J, gThr G)))))) : X (d + 3) 135 0 [.ref 0, .int x1, .int x2] [] (F, A, J, G) Q := by
  refine Y_al0 i_135_0 ?_
  refine Y_il1 i_135_1 ?_
  refine Y_iv1 (L0 := [.ref 0, .int x1]) i_135_2 ow_135 lm_9_192 ((k_0 hG).trans ow_173.symm) rfl mx_173 rfl rfl hd_135 ?_
  refine Y_il1 i_173_0 ?_
  refine Y_zlt i_173_1 (fun e1 => ?_) (fun e1 => ?_)
  · replace h := h.1 e1
    exact Y_thr i_173_18 ow_173 lc_9_157 (by decide +kernel) rfl (KKe h)
  · replace h := h.2 e1
    refine Y_il1 i_173_4 ?_
    refine Y_al0 i_173_5 ?_
    refine Y_gR i_173_6 ow_173 lf_9_48 (k_0 hG) (r_0_7 hG) ?_
    refine Y_gR i_173_9 ow_173 lf_9_57 (k_21 hG) (r_21_0 hG) ?_
    refine Y_gI (v := (F 27 1)) i_173_12 ow_173 lf_9_114 (by decide) (k_27 hG) rfl ?_
    refine Y_clt i_173_15 (fun e2 => ?_) (fun e2 => ?_)
    · replace h := h.1 e2
      refine Y_vret i_173_29 rt_173 (KKv ?_)
      refine Y_al0 i_135_5 ?_
      refine Y_il2 i_135_6 ?_
      refine Y_iv1 (L0 := [.ref 0, .int x2]) i_135_7 ow_135 lm_9_192 ((k_0 hG).trans ow_173.symm) rfl mx_173 rfl rfl hd_135 ?_
      refine Y_il1 i_173_0 ?_
      refine Y_zlt i_173_1 (fun e3 => ?_) (fun e3 => ?_)
      · replace h := h.1 e3
        exact Y_thr i_173_18 ow_173 lc_9_157 (by decide +kernel) rfl (KKe h)
      · replace h := h.2 e3
        refine Y_il1 i_173_4 ?_
        refine Y_al0 i_173_5 ?_
        refine Y_gR i_173_6 ow_173 lf_9_48 (k_0 hG) (r_0_7 hG) ?_
        refine Y_gR i_173_9 ow_173 lf_9_57 (k_21 hG) (r_21_0 hG) ?_
        refine Y_gI (v := (F 27 1)) i_173_12 ow_173 lf_9_114 (by decide) (k_27 hG) rfl ?_
        refine Y_clt i_173_15 (fun e4 => ?_) (fun e4 => ?_)
        · replace h := h.1 e4
          refine Y_vret i_173_29 rt_173 (KKv ?_)
          refine Y_al0 i_135_10 ?_
          refine Y_gR i_135_11 ow_135 lf_9_48 (k_0 hG) (r_0_7 hG) ?_
          refine Y_il1 i_135_14 ?_
          refine Y_il2 i_135_15 ?_
          refine Y_iv2 (L0 := [.ref 21, .int x1, .int x2]) i_135_16 ow_135 lm_9_229 ((k_21 hG).trans ow_66.symm) rfl mx_66 rfl rfl hd_135 ?_
          refine Y_il1 i_66_0 ?_
          refine Y_il2 i_66_1 ?_
          refine Y_cne i_66_2 (fun e5 => ?_) (fun e5 => ?_)
          · replace h := h.1 e5
            refine Y_al0 i_66_5 ?_
            refine Y_iconst (v := 1) i_66_6 (by decide) ?_
            refine Y_iv1 (L0 := [.ref 21, .int 1]) i_66_7 ow_66 lm_5_71 ((k_21 hG).trans ow_63.symm) rfl mx_63 rfl rfl hd_66 ?_
            refine Y_al0 i_63_0 ?_
            refine Y_gR i_63_1 ow_63 lf_5_25 (k_21 hG) (r_21_5 hG) ?_
            refine Y_il1 i_63_4 ?_
            refine Y_dup2 i_63_5 rfl rfl ?_
            refine Y_iaload (k := 1) (v := (A 26 1)) i_63_6 (k_26 hG) (l_26 hG) (by decide) (by decide) rfl ?_
            refine Y_iconst (v := 1) i_63_7 (by decide) ?_
            refine Y_iadd i_63_8 ?_
            refine Y_iast (k := 1) i_63_9 (k_26 hG) (l_26 hG) (by decide) (by decide) ?_
            refine Y_iconst (v := (-1)) i_63_10 (by decide) ?_
            refine Y_iret i_63_11 rt_63 (KKi ?_)
            refine Y_pop i_66_10 rfl ?_
            refine Y_iconst (v := 0) i_66_11 (by decide) ?_
            refine Y_bret i_66_12 rt_66 (by decide) (KKi ?_)
            exact Y_bret i_135_19 rt_135 (by decide) h
          · replace h := h.2 e5
            refine Y_al0 i_66_13 ?_
            refine Y_gR i_66_14 ow_66 lf_5_33 (k_21 hG) (r_21_0 hG) ?_
            refine Y_il1 i_66_17 ?_
            refine Y_il2 i_66_18 ?_
            refine Y_iv2 (L0 := [.ref 27, .int x1, .int x2, .null]) i_66_19 ow_66 lm_5_89 ((k_27 hG).trans ow_81.symm) rfl mx_81 rfl rfl hd_66 ?_
            refine Y_al0 i_81_0 ?_
            refine Y_gR i_81_1 ow_81 lf_6_9 (k_27 hG) (r_27_4 hG) ?_
            refine Y_il1 i_81_4 ?_
            have o6 := h.1
            replace h := h.2
            refine Y_iaload (k := x1.toNatClampNeg) (v := (A 28 x1.toNatClampNeg)) i_81_5 (k_28 hG) (l_28 hG) o6 rfl rfl ?_
            refine Y_is3 i_81_6 rfl ?_
            refine Y_al0 i_81_7 ?_
            refine Y_gR i_81_8 ow_81 lf_6_9 (k_27 hG) (r_27_4 hG) ?_
            refine Y_il1 i_81_11 ?_
            refine Y_al0 i_81_12 ?_
            refine Y_gR i_81_13 ow_81 lf_6_9 (k_27 hG) (r_27_4 hG) ?_
            refine Y_il2 i_81_16 ?_
            have o7 := h.1
            replace h := h.2
            refine Y_iaload (k := x2.toNatClampNeg) (v := (A 28 x2.toNatClampNeg)) i_81_17 (k_28 hG) (l_28 hG) o7 rfl rfl ?_
            refine Y_iast i_81_18 (k_28 hG) (l_28 hG) o6 rfl ?_
            refine Y_al0 i_81_19 ?_
            refine Y_gR i_81_20 ow_81 lf_6_9 (k_27 hG) (r_27_4 hG) ?_
            refine Y_il2 i_81_23 ?_
            refine Y_il3 i_81_24 ?_
            refine Y_iast i_81_25 (k_28 hG) (l_28 hG) o7 rfl ?_
            refine Y_vret i_81_26 rt_81 (KKv ?_)
            refine Y_al0 i_66_22 ?_
            refine Y_iconst (v := 2) i_66_23 (by decide) ?_
            refine Y_il1 i_66_24 ?_
            refine Y_il2 i_66_25 ?_
            refine Y_iconst (v := 0) i_66_26 (by decide) ?_
            refine Y_iv4 (L0 := [.ref 21, .int 2, .int x1, .int x2, .int 0]) i_66_27 ow_66 lm_5_78 ((k_21 hG).trans ow_73.symm) rfl mx_73 rfl rfl hd_66 ?_
            refine Y_al0 i_73_0 ?_
            refine Y_gR i_73_1 ow_73 lf_5_12 (k_21 hG) (r_21_1 hG) ?_
            refine Y_il1 i_73_4 ?_
            refine Y_il2 i_73_5 ?_
            refine Y_il3 i_73_6 ?_
            refine Y_il4 i_73_7 ?_
            refine Y_iv4 (L0 := [.ref 22, .int 2, .int x1, .int x2, .int 0, .null]) i_73_9 ow_73 lm_5_114 ((k_22 hG).trans ow_2.symm) rfl mx_2 rfl rfl hd_73 ?_
            refine Y_al0 i_2_0 ?_
            refine Y_gI (v := (F 22 0)) i_2_1 ow_2 lf_0_15 (by decide) (k_22 hG) rfl ?_
            refine Y_bipush (v := 40) i_2_4 (by decide) ?_
            refine Y_clt i_2_6 (fun e8 => ?_) (fun e8 => ?_)
            · replace h := h.1 e8
              refine Y_al0 i_2_36 ?_
              refine Y_gI (v := (F 22 0)) i_2_37 ow_2 lf_0_15 (by decide) (k_22 hG) rfl ?_
              refine Y_bipush (v := 14) i_2_40 (by decide) ?_
              refine Y_imul i_2_42 ?_
              refine Y_is5 i_2_43 rfl ?_
              refine Y_al0 i_2_45 ?_
              refine Y_gR i_2_46 ow_2 lf_0_11 (k_22 hG) (r_22_1 hG) ?_
              refine Y_il5 i_2_49 ?_
              refine Y_il1 i_2_51 ?_
              have o9 := h.1
              replace h := h.2
              refine Y_iast i_2_52 (k_23 hG) (l_23 hG) o9 rfl ?_
              refine Y_al0 i_2_53 ?_
              refine Y_gR i_2_54 ow_2 lf_0_11 (k_22 hG) (r_22_1 hG) ?_
              refine Y_il5 i_2_57 ?_
              refine Y_iconst (v := 1) i_2_59 (by decide) ?_
              refine Y_iadd i_2_60 ?_
              refine Y_il2 i_2_61 ?_
              have o10 := h.1
              replace h := h.2
              refine Y_iast i_2_62 (k_23 hG) (l_23 hG) o10 rfl ?_
              refine Y_al0 i_2_63 ?_
              refine Y_gR i_2_64 ow_2 lf_0_11 (k_22 hG) (r_22_1 hG) ?_
              refine Y_il5 i_2_67 ?_
              refine Y_iconst (v := 2) i_2_69 (by decide) ?_
              refine Y_iadd i_2_70 ?_
              refine Y_il3 i_2_71 ?_
              have o11 := h.1
              replace h := h.2
              refine Y_iast i_2_72 (k_23 hG) (l_23 hG) o11 rfl ?_
              refine Y_al0 i_2_73 ?_
              refine Y_gR i_2_74 ow_2 lf_0_11 (k_22 hG) (r_22_1 hG) ?_
              refine Y_il5 i_2_77 ?_
              refine Y_iconst (v := 3) i_2_79 (by decide) ?_
              refine Y_iadd i_2_80 ?_
              refine Y_il4 i_2_81 ?_
              have o12 := h.1
              replace h := h.2
              refine Y_iast i_2_83 (k_23 hG) (l_23 hG) o12 rfl ?_
              refine Y_al0 i_2_84 ?_
              refine Y_dup i_2_85 rfl ?_
              refine Y_gI (v := (F 22 0)) i_2_86 ow_2 lf_0_15 (by decide) (k_22 hG) rfl ?_
              refine Y_iconst (v := 1) i_2_89 (by decide) ?_
              refine Y_iadd i_2_90 ?_
              refine Y_pI i_2_91 ow_2 lf_0_15 (k_22 hG) ?_
              refine Y_vret i_2_94 rt_2 (KKv ?_)
              refine Y_al0 i_73_12 ?_
              refine Y_iconst (v := 1) i_73_13 (by decide) ?_
              refine Y_pB i_73_14 ow_73 lf_5_37 (k_21 hG) (by decide) ?_
              refine Y_vret i_73_17 rt_73 (KKv ?_)
              refine Y_iconst (v := 1) i_66_30 (by decide) ?_
              refine Y_bret i_66_31 rt_66 (by decide) (KKi ?_)
              exact Y_bret i_135_19 rt_135 (by decide) h
            · replace h := h.2 e8
              refine Y_al0 i_2_9 ?_
              refine Y_bipush (v := 39) i_2_10 (by decide) ?_
              refine Y_pI i_2_12 ow_2 lf_0_15 (k_22 hG) ?_
              refine Y_al0 i_2_15 ?_
              refine Y_gR i_2_16 ow_2 lf_0_11 (k_22 hG) (r_22_1 hG) ?_
              refine Y_bipush (v := 14) i_2_19 (by decide) ?_
              refine Y_al0 i_2_21 ?_
              refine Y_gR i_2_22 ow_2 lf_0_11 (k_22 hG) (r_22_1 hG) ?_
              refine Y_iconst (v := 0) i_2_25 (by decide) ?_
              refine Y_al0 i_2_26 ?_
              refine Y_gI (v := 39) i_2_27 ow_2 lf_0_15 (by decide) (k_22 hG) (by simp [wF, wJ, va_up, cpR, bF, bA]) ?_
              refine Y_bipush (v := 14) i_2_30 (by decide) ?_
              refine Y_imul i_2_32 ?_
              have o13 := h.1
              replace h := h.2
              refine Y_acp (ksp := 14) (kdp := 0) (kn := ((39 : Int32) * 14).toNatClampNeg) i_2_33 ow_2 lm_0_19 rfl (k_23 hG) (k_23 hG) (l_23 hG) (l_23 hG) o13 (by decide) (by decide) rfl ?_
              refine Y_al0 i_2_36 ?_
              refine Y_gI (v := 39) i_2_37 ow_2 lf_0_15 (by decide) (k_22 hG) (by simp [wF, wJ, va_up, cpR, bF, bA]) ?_
              refine Y_bipush (v := 14) i_2_40 (by decide) ?_
              refine Y_imul i_2_42 ?_
              refine Y_is5 i_2_43 rfl ?_
              refine Y_al0 i_2_45 ?_
              refine Y_gR i_2_46 ow_2 lf_0_11 (k_22 hG) (r_22_1 hG) ?_
              refine Y_il5 i_2_49 ?_
              refine Y_il1 i_2_51 ?_
              have o14 := h.1
              replace h := h.2
              refine Y_iast i_2_52 (k_23 hG) (l_23 hG) o14 rfl ?_
              refine Y_al0 i_2_53 ?_
              refine Y_gR i_2_54 ow_2 lf_0_11 (k_22 hG) (r_22_1 hG) ?_
              refine Y_il5 i_2_57 ?_
              refine Y_iconst (v := 1) i_2_59 (by decide) ?_
              refine Y_iadd i_2_60 ?_
              refine Y_il2 i_2_61 ?_
              have o15 := h.1
              replace h := h.2
              refine Y_iast i_2_62 (k_23 hG) (l_23 hG) o15 rfl ?_
              refine Y_al0 i_2_63 ?_
              refine Y_gR i_2_64 ow_2 lf_0_11 (k_22 hG) (r_22_1 hG) ?_
              refine Y_il5 i_2_67 ?_
              refine Y_iconst (v := 2) i_2_69 (by decide) ?_
              refine Y_iadd i_2_70 ?_
              refine Y_il3 i_2_71 ?_
              have o16 := h.1
              replace h := h.2
              refine Y_iast i_2_72 (k_23 hG) (l_23 hG) o16 rfl ?_
              refine Y_al0 i_2_73 ?_
              refine Y_gR i_2_74 ow_2 lf_0_11 (k_22 hG) (r_22_1 hG) ?_
              refine Y_il5 i_2_77 ?_
              refine Y_iconst (v := 3) i_2_79 (by decide) ?_
              refine Y_iadd i_2_80 ?_
              refine Y_il4 i_2_81 ?_
              have o17 := h.1
              replace h := h.2
              refine Y_iast i_2_83 (k_23 hG) (l_23 hG) o17 rfl ?_
              refine Y_al0 i_2_84 ?_
              refine Y_dup i_2_85 rfl ?_
              refine Y_gI (v := 39) i_2_86 ow_2 lf_0_15 (by decide) (k_22 hG) (by simp [wF, wJ, va_up, cpR, bF, bA]) ?_
              refine Y_iconst (v := 1) i_2_89 (by decide) ?_
              refine Y_iadd i_2_90 ?_
              refine Y_pI i_2_91 ow_2 lf_0_15 (k_22 hG) ?_
              refine Y_vret i_2_94 rt_2 (KKv ?_)
              refine Y_al0 i_73_12 ?_
              refine Y_iconst (v := 1) i_73_13 (by decide) ?_
              refine Y_pB i_73_14 ow_73 lf_5_37 (k_21 hG) (by decide) ?_
              refine Y_vret i_73_17 rt_73 (KKv ?_)
              refine Y_iconst (v := 1) i_66_30 (by decide) ?_
              refine Y_bret i_66_31 rt_66 (by decide) (KKi ?_)
              exact Y_bret i_135_19 rt_135 (by decide) h
        · replace h := h.2 e4
          exact Y_thr i_173_18 ow_173 lc_9_157 (by decide +kernel) rfl (KKe h)
    · replace h := h.2 e2
      exact Y_thr i_173_18 ow_173 lc_9_157 (by decide +kernel) rfl (KKe h)
/- 136 TableTower.wedge(II)I -/
theorem t_136_0 {d : Nat} {F A : Nat → Nat → Int32} {J : Nat → Nat → Int64} {G : pG} {Q : pR → pM → Prop} {SL p q : Nat} {x1 x2 : Int32} (hG : Geo G SL p q) (h : ((x1 < 0 → Q (.inr 101) (F, A, J, gThr G)) ∧ (¬ x1 < 0 → ((x1 < (F 12 0) → ((x2 < (-9) → Q (.inl (some (.int (-99)))) (F, (wF A 26 1 ((A 26 1) + 1)), J, G)) ∧ (¬ x2 < (-9) → ((9 < x2 → Q (.inl (some (.int (-99)))) (F, (wF A 26 1 ((A 26 1) + 1)), J, G)) ∧ (¬ 9 < x2 → inB x1 10 = true ∧ (((F 22 0) < 40 → inB ((F 22 0) * 14) 560 = true ∧ inB (((F 22 0) * 14) + 1) 560 = true ∧ inB (((F 22 0) * 14) + 2) 560 = true ∧ inB (((F 22 0) * 14) + 3) 560 = true ∧ (Q (.inl (some (.int (A 30 x1.toNatClampNeg)))) ((wF (wF F 22 0 ((F 22 0) + 1)) 21 6 1), (wF (wF (wF (wF (wF A 30 x1.toNatClampNeg x2) 23 ((F 22 0) * 14).toNatClampNeg 3) 23 (((F 22 0) * 14) + 1).toNatClampNeg x1) 23 (((F 22 0) * 14) + 2).toNatClampNeg (A 30 x1.toNatClampNeg)) 23 (((F 22 0) * 14) + 3).toNatClampNeg 0), J, G))) ∧ (¬ (F 22 0) < 40 → (¬ (14 : Int32) < 0 ∧ ¬ (0 : Int32) < 0 ∧ ¬ ((39 : Int32) * 14) < 0 ∧ (14 : Int32).toNatClampNeg + ((39 : Int32) * 14).toNatClampNeg ≤ 560 ∧ (0 : Int32).toNatClampNeg + ((39 : Int32) * 14).toNatClampNeg ≤ 560) ∧ inB ((39 : Int32) * 14) 560 = true ∧ inB (((39 : Int32) * 14) + 1) 560 = true ∧ inB (((39 : Int32) * 14) + 2) 560 = true ∧ inB (((39 : Int32) * 14) + 3) 560 = true ∧ (Q (.inl (some (.int (A 30 x1.toNatClampNeg)))) ((wF (wF (wF F 22 0 39) 22 0 ((39 : Int32) + 1)) 21 6 1), (wF (wF (wF (wF (cpR (wF A 30 x1.toNatClampNeg x2) 23 23 14 0 ((39 : Int32) * 14).toNatClampNeg) 23 ((39 : Int32) * 14).toNatClampNeg 3) 23 (((39 : Int32) * 14) + 1).toNatClampNeg x1) 23 (((39 : Int32) * 14) + 2).toNatClampNeg (A 30 x1.toNatClampNeg)) 23 (((39 : Int32) * 14) + 3).toNatClampNeg 0), J, G))))))))) ∧ (¬ x1 < (F 12 0) → Q (.inr 101) (F, A, J, gThr G)))))) : X (d + 3) 136 0 [.ref 0, .int x1, .int x2] [] (F, A, J, G) Q := by
  refine Y_al0 i_136_0 ?_
  refine Y_il1 i_136_1 ?_
  refine Y_iv1 (L0 := [.ref 0, .int x1]) i_136_2 ow_136 lm_9_162 ((k_0 hG).trans ow_171.symm) rfl mx_171 rfl rfl hd_136 ?_
  refine Y_il1 i_171_0 ?_
  refine Y_zlt i_171_1 (fun e1 => ?_) (fun e1 => ?_)
  · replace h := h.1 e1
    exact Y_thr i_171_15 ow_171 lc_9_157 (by decide +kernel) rfl (KKe h)
  · replace h := h.2 e1
    refine Y_il1 i_171_4 ?_
    refine Y_al0 i_171_5 ?_
    refine Y_gR i_171_6 ow_171 lf_9_40 (k_0 hG) (r_0_6 hG) ?_
    refine Y_gI (v := (F 12 0)) i_171_9 ow_171 lf_9_111 (by decide) (k_12 hG) rfl ?_
    refine Y_clt i_171_12 (fun e2 => ?_) (fun e2 => ?_)
    · replace h := h.1 e2
      refine Y_vret i_171_26 rt_171 (KKv ?_)
      refine Y_al0 i_136_5 ?_
      refine Y_gR i_136_6 ow_136 lf_9_48 (k_0 hG) (r_0_7 hG) ?_
      refine Y_il1 i_136_9 ?_
      refine Y_il2 i_136_10 ?_
      refine Y_iv2 (L0 := [.ref 21, .int x1, .int x2, .null]) i_136_11 ow_136 lm_9_233 ((k_21 hG).trans ow_67.symm) rfl mx_67 rfl rfl hd_136 ?_
      refine Y_il2 i_67_0 ?_
      refine Y_bipush (v := (-9)) i_67_1 (by decide) ?_
      refine Y_clt i_67_3 (fun e3 => ?_) (fun e3 => ?_)
      · replace h := h.1 e3
        refine Y_al0 i_67_12 ?_
        refine Y_iconst (v := 1) i_67_13 (by decide) ?_
        refine Y_iv1 (L0 := [.ref 21, .int 1]) i_67_14 ow_67 lm_5_71 ((k_21 hG).trans ow_63.symm) rfl mx_63 rfl rfl hd_67 ?_
        refine Y_al0 i_63_0 ?_
        refine Y_gR i_63_1 ow_63 lf_5_25 (k_21 hG) (r_21_5 hG) ?_
        refine Y_il1 i_63_4 ?_
        refine Y_dup2 i_63_5 rfl rfl ?_
        refine Y_iaload (k := 1) (v := (A 26 1)) i_63_6 (k_26 hG) (l_26 hG) (by decide) (by decide) rfl ?_
        refine Y_iconst (v := 1) i_63_7 (by decide) ?_
        refine Y_iadd i_63_8 ?_
        refine Y_iast (k := 1) i_63_9 (k_26 hG) (l_26 hG) (by decide) (by decide) ?_
        refine Y_iconst (v := (-1)) i_63_10 (by decide) ?_
        refine Y_iret i_63_11 rt_63 (KKi ?_)
        refine Y_pop i_67_17 rfl ?_
        refine Y_bipush (v := (-99)) i_67_18 (by decide) ?_
        refine Y_iret i_67_20 rt_67 (KKi ?_)
        exact Y_iret i_136_14 rt_136 h
      · replace h := h.2 e3
        refine Y_il2 i_67_6 ?_
        refine Y_bipush (v := 9) i_67_7 (by decide) ?_
        refine Y_cle i_67_9 (fun e4 => ?_) (fun e4 => ?_)
        · replace h := h.1 e4
          refine Y_al0 i_67_12 ?_
          refine Y_iconst (v := 1) i_67_13 (by decide) ?_
          refine Y_iv1 (L0 := [.ref 21, .int 1]) i_67_14 ow_67 lm_5_71 ((k_21 hG).trans ow_63.symm) rfl mx_63 rfl rfl hd_67 ?_
          refine Y_al0 i_63_0 ?_
          refine Y_gR i_63_1 ow_63 lf_5_25 (k_21 hG) (r_21_5 hG) ?_
          refine Y_il1 i_63_4 ?_
          refine Y_dup2 i_63_5 rfl rfl ?_
          refine Y_iaload (k := 1) (v := (A 26 1)) i_63_6 (k_26 hG) (l_26 hG) (by decide) (by decide) rfl ?_
          refine Y_iconst (v := 1) i_63_7 (by decide) ?_
          refine Y_iadd i_63_8 ?_
          refine Y_iast (k := 1) i_63_9 (k_26 hG) (l_26 hG) (by decide) (by decide) ?_
          refine Y_iconst (v := (-1)) i_63_10 (by decide) ?_
          refine Y_iret i_63_11 rt_63 (KKi ?_)
          refine Y_pop i_67_17 rfl ?_
          refine Y_bipush (v := (-99)) i_67_18 (by decide) ?_
          refine Y_iret i_67_20 rt_67 (KKi ?_)
          exact Y_iret i_136_14 rt_136 h
        · replace h := h.2 e4
          refine Y_al0 i_67_21 ?_
          refine Y_gR i_67_22 ow_67 lf_5_33 (k_21 hG) (r_21_0 hG) ?_
          refine Y_gR i_67_25 ow_67 lf_5_92 (k_27 hG) (r_27_6 hG) ?_
          refine Y_il1 i_67_28 ?_
          have o5 := h.1
          replace h := h.2
          refine Y_iaload (k := x1.toNatClampNeg) (v := (A 30 x1.toNatClampNeg)) i_67_29 (k_30 hG) (l_30 hG) o5 rfl rfl ?_
          refine Y_is3 i_67_30 rfl ?_
          refine Y_al0 i_67_31 ?_
          refine Y_gR i_67_32 ow_67 lf_5_33 (k_21 hG) (r_21_0 hG) ?_
          refine Y_gR i_67_35 ow_67 lf_5_92 (k_27 hG) (r_27_6 hG) ?_
          refine Y_il1 i_67_38 ?_
          refine Y_il2 i_67_39 ?_
          refine Y_iast i_67_40 (k_30 hG) (l_30 hG) o5 rfl ?_
          refine Y_al0 i_67_41 ?_
          refine Y_iconst (v := 3) i_67_42 (by decide) ?_
          refine Y_il1 i_67_43 ?_
          refine Y_il3 i_67_44 ?_
          refine Y_iconst (v := 0) i_67_45 (by decide) ?_
          refine Y_iv4 (L0 := [.ref 21, .int 3, .int x1, .int (A 30 x1.toNatClampNeg), .int 0]) i_67_46 ow_67 lm_5_78 ((k_21 hG).trans ow_73.symm) rfl mx_73 rfl rfl hd_67 ?_
          refine Y_al0 i_73_0 ?_
          refine Y_gR i_73_1 ow_73 lf_5_12 (k_21 hG) (r_21_1 hG) ?_
          refine Y_il1 i_73_4 ?_
          refine Y_il2 i_73_5 ?_
          refine Y_il3 i_73_6 ?_
          refine Y_il4 i_73_7 ?_
          refine Y_iv4 (L0 := [.ref 22, .int 3, .int x1, .int (A 30 x1.toNatClampNeg), .int 0, .null]) i_73_9 ow_73 lm_5_114 ((k_22 hG).trans ow_2.symm) rfl mx_2 rfl rfl hd_73 ?_
          refine Y_al0 i_2_0 ?_
          refine Y_gI (v := (F 22 0)) i_2_1 ow_2 lf_0_15 (by decide) (k_22 hG) rfl ?_
          refine Y_bipush (v := 40) i_2_4 (by decide) ?_
          refine Y_clt i_2_6 (fun e6 => ?_) (fun e6 => ?_)
          · replace h := h.1 e6
            refine Y_al0 i_2_36 ?_
            refine Y_gI (v := (F 22 0)) i_2_37 ow_2 lf_0_15 (by decide) (k_22 hG) rfl ?_
            refine Y_bipush (v := 14) i_2_40 (by decide) ?_
            refine Y_imul i_2_42 ?_
            refine Y_is5 i_2_43 rfl ?_
            refine Y_al0 i_2_45 ?_
            refine Y_gR i_2_46 ow_2 lf_0_11 (k_22 hG) (r_22_1 hG) ?_
            refine Y_il5 i_2_49 ?_
            refine Y_il1 i_2_51 ?_
            have o7 := h.1
            replace h := h.2
            refine Y_iast i_2_52 (k_23 hG) (l_23 hG) o7 rfl ?_
            refine Y_al0 i_2_53 ?_
            refine Y_gR i_2_54 ow_2 lf_0_11 (k_22 hG) (r_22_1 hG) ?_
            refine Y_il5 i_2_57 ?_
            refine Y_iconst (v := 1) i_2_59 (by decide) ?_
            refine Y_iadd i_2_60 ?_
            refine Y_il2 i_2_61 ?_
            have o8 := h.1
            replace h := h.2
            refine Y_iast i_2_62 (k_23 hG) (l_23 hG) o8 rfl ?_
            refine Y_al0 i_2_63 ?_
            refine Y_gR i_2_64 ow_2 lf_0_11 (k_22 hG) (r_22_1 hG) ?_
            refine Y_il5 i_2_67 ?_
            refine Y_iconst (v := 2) i_2_69 (by decide) ?_
            refine Y_iadd i_2_70 ?_
            refine Y_il3 i_2_71 ?_
            have o9 := h.1
            replace h := h.2
            refine Y_iast i_2_72 (k_23 hG) (l_23 hG) o9 rfl ?_
            refine Y_al0 i_2_73 ?_
            refine Y_gR i_2_74 ow_2 lf_0_11 (k_22 hG) (r_22_1 hG) ?_
            refine Y_il5 i_2_77 ?_
            refine Y_iconst (v := 3) i_2_79 (by decide) ?_
            refine Y_iadd i_2_80 ?_
            refine Y_il4 i_2_81 ?_
            have o10 := h.1
            replace h := h.2
            refine Y_iast i_2_83 (k_23 hG) (l_23 hG) o10 rfl ?_
            refine Y_al0 i_2_84 ?_
            refine Y_dup i_2_85 rfl ?_
            refine Y_gI (v := (F 22 0)) i_2_86 ow_2 lf_0_15 (by decide) (k_22 hG) rfl ?_
            refine Y_iconst (v := 1) i_2_89 (by decide) ?_
            refine Y_iadd i_2_90 ?_
            refine Y_pI i_2_91 ow_2 lf_0_15 (k_22 hG) ?_
            refine Y_vret i_2_94 rt_2 (KKv ?_)
            refine Y_al0 i_73_12 ?_
            refine Y_iconst (v := 1) i_73_13 (by decide) ?_
            refine Y_pB i_73_14 ow_73 lf_5_37 (k_21 hG) (by decide) ?_
            refine Y_vret i_73_17 rt_73 (KKv ?_)
            refine Y_il3 i_67_49 ?_
            refine Y_iret i_67_50 rt_67 (KKi ?_)
            exact Y_iret i_136_14 rt_136 h
          · replace h := h.2 e6
            refine Y_al0 i_2_9 ?_
            refine Y_bipush (v := 39) i_2_10 (by decide) ?_
            refine Y_pI i_2_12 ow_2 lf_0_15 (k_22 hG) ?_
            refine Y_al0 i_2_15 ?_
            refine Y_gR i_2_16 ow_2 lf_0_11 (k_22 hG) (r_22_1 hG) ?_
            refine Y_bipush (v := 14) i_2_19 (by decide) ?_
            refine Y_al0 i_2_21 ?_
            refine Y_gR i_2_22 ow_2 lf_0_11 (k_22 hG) (r_22_1 hG) ?_
            refine Y_iconst (v := 0) i_2_25 (by decide) ?_
            refine Y_al0 i_2_26 ?_
            refine Y_gI (v := 39) i_2_27 ow_2 lf_0_15 (by decide) (k_22 hG) (by simp [wF, wJ, va_up, cpR, bF, bA]) ?_
            refine Y_bipush (v := 14) i_2_30 (by decide) ?_
            refine Y_imul i_2_32 ?_
            have o11 := h.1
            replace h := h.2
            refine Y_acp (ksp := 14) (kdp := 0) (kn := ((39 : Int32) * 14).toNatClampNeg) i_2_33 ow_2 lm_0_19 rfl (k_23 hG) (k_23 hG) (l_23 hG) (l_23 hG) o11 (by decide) (by decide) rfl ?_
            refine Y_al0 i_2_36 ?_
            refine Y_gI (v := 39) i_2_37 ow_2 lf_0_15 (by decide) (k_22 hG) (by simp [wF, wJ, va_up, cpR, bF, bA]) ?_
            refine Y_bipush (v := 14) i_2_40 (by decide) ?_
            refine Y_imul i_2_42 ?_
            refine Y_is5 i_2_43 rfl ?_
            refine Y_al0 i_2_45 ?_
            refine Y_gR i_2_46 ow_2 lf_0_11 (k_22 hG) (r_22_1 hG) ?_
            refine Y_il5 i_2_49 ?_
            refine Y_il1 i_2_51 ?_
            have o12 := h.1
            replace h := h.2
            refine Y_iast i_2_52 (k_23 hG) (l_23 hG) o12 rfl ?_
            refine Y_al0 i_2_53 ?_
            refine Y_gR i_2_54 ow_2 lf_0_11 (k_22 hG) (r_22_1 hG) ?_
            refine Y_il5 i_2_57 ?_
            refine Y_iconst (v := 1) i_2_59 (by decide) ?_
            refine Y_iadd i_2_60 ?_
            refine Y_il2 i_2_61 ?_
            have o13 := h.1
            replace h := h.2
            refine Y_iast i_2_62 (k_23 hG) (l_23 hG) o13 rfl ?_
            refine Y_al0 i_2_63 ?_
            refine Y_gR i_2_64 ow_2 lf_0_11 (k_22 hG) (r_22_1 hG) ?_
            refine Y_il5 i_2_67 ?_
            refine Y_iconst (v := 2) i_2_69 (by decide) ?_
            refine Y_iadd i_2_70 ?_
            refine Y_il3 i_2_71 ?_
            have o14 := h.1
            replace h := h.2
            refine Y_iast i_2_72 (k_23 hG) (l_23 hG) o14 rfl ?_
            refine Y_al0 i_2_73 ?_
            refine Y_gR i_2_74 ow_2 lf_0_11 (k_22 hG) (r_22_1 hG) ?_
            refine Y_il5 i_2_77 ?_
            refine Y_iconst (v := 3) i_2_79 (by decide) ?_
            refine Y_iadd i_2_80 ?_
            refine Y_il4 i_2_81 ?_
            have o15 := h.1
            replace h := h.2
            refine Y_iast i_2_83 (k_23 hG) (l_23 hG) o15 rfl ?_
            refine Y_al0 i_2_84 ?_
            refine Y_dup i_2_85 rfl ?_
            refine Y_gI (v := 39) i_2_86 ow_2 lf_0_15 (by decide) (k_22 hG) (by simp [wF, wJ, va_up, cpR, bF, bA]) ?_
            refine Y_iconst (v := 1) i_2_89 (by decide) ?_
            refine Y_iadd i_2_90 ?_
            refine Y_pI i_2_91 ow_2 lf_0_15 (k_22 hG) ?_
            refine Y_vret i_2_94 rt_2 (KKv ?_)
            refine Y_al0 i_73_12 ?_
            refine Y_iconst (v := 1) i_73_13 (by decide) ?_
            refine Y_pB i_73_14 ow_73 lf_5_37 (k_21 hG) (by decide) ?_
            refine Y_vret i_73_17 rt_73 (KKv ?_)
            refine Y_il3 i_67_49 ?_
            refine Y_iret i_67_50 rt_67 (KKi ?_)
            exact Y_iret i_136_14 rt_136 h
    · replace h := h.2 e2
      exact Y_thr i_171_15 ow_171 lc_9_157 (by decide +kernel) rfl (KKe h)
/- 137 TableTower.saw(II)I -/
theorem t_137_0 {d : Nat} {F A : Nat → Nat → Int32} {J : Nat → Nat → Int64} {G : pG} {Q : pR → pM → Prop} {SL p q : Nat} {x1 x2 : Int32} (hG : Geo G SL p q) (h : ((x1 < 0 → Q (.inr 101) (F, A, J, gThr G)) ∧ (¬ x1 < 0 → ((x1 < (F 12 0) → ((x2 < (-9) → Q (.inl (some (.int (-99)))) (F, (wF A 26 1 ((A 26 1) + 1)), J, G)) ∧ (¬ x2 < (-9) → ((9 < x2 → Q (.inl (some (.int (-99)))) (F, (wF A 26 1 ((A 26 1) + 1)), J, G)) ∧ (¬ 9 < x2 → inB x1 10 = true ∧ (((F 22 0) < 40 → inB ((F 22 0) * 14) 560 = true ∧ inB (((F 22 0) * 14) + 1) 560 = true ∧ inB (((F 22 0) * 14) + 2) 560 = true ∧ inB (((F 22 0) * 14) + 3) 560 = true ∧ (Q (.inl (some (.int (A 31 x1.toNatClampNeg)))) ((wF (wF F 22 0 ((F 22 0) + 1)) 21 6 1), (wF (wF (wF (wF (wF A 31 x1.toNatClampNeg x2) 23 ((F 22 0) * 14).toNatClampNeg 4) 23 (((F 22 0) * 14) + 1).toNatClampNeg x1) 23 (((F 22 0) * 14) + 2).toNatClampNeg (A 31 x1.toNatClampNeg)) 23 (((F 22 0) * 14) + 3).toNatClampNeg 0), J, G))) ∧ (¬ (F 22 0) < 40 → (¬ (14 : Int32) < 0 ∧ ¬ (0 : Int32) < 0 ∧ ¬ ((39 : Int32) * 14) < 0 ∧ (14 : Int32).toNatClampNeg + ((39 : Int32) * 14).toNatClampNeg ≤ 560 ∧ (0 : Int32).toNatClampNeg + ((39 : Int32) * 14).toNatClampNeg ≤ 560) ∧ inB ((39 : Int32) * 14) 560 = true ∧ inB (((39 : Int32) * 14) + 1) 560 = true ∧ inB (((39 : Int32) * 14) + 2) 560 = true ∧ inB (((39 : Int32) * 14) + 3) 560 = true ∧ (Q (.inl (some (.int (A 31 x1.toNatClampNeg)))) ((wF (wF (wF F 22 0 39) 22 0 ((39 : Int32) + 1)) 21 6 1), (wF (wF (wF (wF (cpR (wF A 31 x1.toNatClampNeg x2) 23 23 14 0 ((39 : Int32) * 14).toNatClampNeg) 23 ((39 : Int32) * 14).toNatClampNeg 4) 23 (((39 : Int32) * 14) + 1).toNatClampNeg x1) 23 (((39 : Int32) * 14) + 2).toNatClampNeg (A 31 x1.toNatClampNeg)) 23 (((39 : Int32) * 14) + 3).toNatClampNeg 0), J, G))))))))) ∧ (¬ x1 < (F 12 0) → Q (.inr 101) (F, A, J, gThr G)))))) : X (d + 3) 137 0 [.ref 0, .int x1, .int x2] [] (F, A, J, G) Q := by
  refine Y_al0 i_137_0 ?_
  refine Y_il1 i_137_1 ?_
  refine Y_iv1 (L0 := [.ref 0, .int x1]) i_137_2 ow_137 lm_9_162 ((k_0 hG).trans ow_171.symm) rfl mx_171 rfl rfl hd_137 ?_
  refine Y_il1 i_171_0 ?_
  refine Y_zlt i_171_1 (fun e1 => ?_) (fun e1 => ?_)
  · replace h := h.1 e1
    exact Y_thr i_171_15 ow_171 lc_9_157 (by decide +kernel) rfl (KKe h)
  · replace h := h.2 e1
    refine Y_il1 i_171_4 ?_
    refine Y_al0 i_171_5 ?_
    refine Y_gR i_171_6 ow_171 lf_9_40 (k_0 hG) (r_0_6 hG) ?_
    refine Y_gI (v := (F 12 0)) i_171_9 ow_171 lf_9_111 (by decide) (k_12 hG) rfl ?_
    refine Y_clt i_171_12 (fun e2 => ?_) (fun e2 => ?_)
    · replace h := h.1 e2
      refine Y_vret i_171_26 rt_171 (KKv ?_)
      refine Y_al0 i_137_5 ?_
      refine Y_gR i_137_6 ow_137 lf_9_48 (k_0 hG) (r_0_7 hG) ?_
      refine Y_il1 i_137_9 ?_
      refine Y_il2 i_137_10 ?_
      refine Y_iv2 (L0 := [.ref 21, .int x1, .int x2, .null]) i_137_11 ow_137 lm_9_236 ((k_21 hG).trans ow_68.symm) rfl mx_68 rfl rfl hd_137 ?_
      refine Y_il2 i_68_0 ?_
      refine Y_bipush (v := (-9)) i_68_1 (by decide) ?_
      refine Y_clt i_68_3 (fun e3 => ?_) (fun e3 => ?_)
      · replace h := h.1 e3
        refine Y_al0 i_68_12 ?_
        refine Y_iconst (v := 1) i_68_13 (by decide) ?_
        refine Y_iv1 (L0 := [.ref 21, .int 1]) i_68_14 ow_68 lm_5_71 ((k_21 hG).trans ow_63.symm) rfl mx_63 rfl rfl hd_68 ?_
        refine Y_al0 i_63_0 ?_
        refine Y_gR i_63_1 ow_63 lf_5_25 (k_21 hG) (r_21_5 hG) ?_
        refine Y_il1 i_63_4 ?_
        refine Y_dup2 i_63_5 rfl rfl ?_
        refine Y_iaload (k := 1) (v := (A 26 1)) i_63_6 (k_26 hG) (l_26 hG) (by decide) (by decide) rfl ?_
        refine Y_iconst (v := 1) i_63_7 (by decide) ?_
        refine Y_iadd i_63_8 ?_
        refine Y_iast (k := 1) i_63_9 (k_26 hG) (l_26 hG) (by decide) (by decide) ?_
        refine Y_iconst (v := (-1)) i_63_10 (by decide) ?_
        refine Y_iret i_63_11 rt_63 (KKi ?_)
        refine Y_pop i_68_17 rfl ?_
        refine Y_bipush (v := (-99)) i_68_18 (by decide) ?_
        refine Y_iret i_68_20 rt_68 (KKi ?_)
        exact Y_iret i_137_14 rt_137 h
      · replace h := h.2 e3
        refine Y_il2 i_68_6 ?_
        refine Y_bipush (v := 9) i_68_7 (by decide) ?_
        refine Y_cle i_68_9 (fun e4 => ?_) (fun e4 => ?_)
        · replace h := h.1 e4
          refine Y_al0 i_68_12 ?_
          refine Y_iconst (v := 1) i_68_13 (by decide) ?_
          refine Y_iv1 (L0 := [.ref 21, .int 1]) i_68_14 ow_68 lm_5_71 ((k_21 hG).trans ow_63.symm) rfl mx_63 rfl rfl hd_68 ?_
          refine Y_al0 i_63_0 ?_
          refine Y_gR i_63_1 ow_63 lf_5_25 (k_21 hG) (r_21_5 hG) ?_
          refine Y_il1 i_63_4 ?_
          refine Y_dup2 i_63_5 rfl rfl ?_
          refine Y_iaload (k := 1) (v := (A 26 1)) i_63_6 (k_26 hG) (l_26 hG) (by decide) (by decide) rfl ?_
          refine Y_iconst (v := 1) i_63_7 (by decide) ?_
          refine Y_iadd i_63_8 ?_
          refine Y_iast (k := 1) i_63_9 (k_26 hG) (l_26 hG) (by decide) (by decide) ?_
          refine Y_iconst (v := (-1)) i_63_10 (by decide) ?_
          refine Y_iret i_63_11 rt_63 (KKi ?_)
          refine Y_pop i_68_17 rfl ?_
          refine Y_bipush (v := (-99)) i_68_18 (by decide) ?_
          refine Y_iret i_68_20 rt_68 (KKi ?_)
          exact Y_iret i_137_14 rt_137 h
        · replace h := h.2 e4
          refine Y_al0 i_68_21 ?_
          refine Y_gR i_68_22 ow_68 lf_5_33 (k_21 hG) (r_21_0 hG) ?_
          refine Y_gR i_68_25 ow_68 lf_5_95 (k_27 hG) (r_27_7 hG) ?_
          refine Y_il1 i_68_28 ?_
          have o5 := h.1
          replace h := h.2
          refine Y_iaload (k := x1.toNatClampNeg) (v := (A 31 x1.toNatClampNeg)) i_68_29 (k_31 hG) (l_31 hG) o5 rfl rfl ?_
          refine Y_is3 i_68_30 rfl ?_
          refine Y_al0 i_68_31 ?_
          refine Y_gR i_68_32 ow_68 lf_5_33 (k_21 hG) (r_21_0 hG) ?_
          refine Y_gR i_68_35 ow_68 lf_5_95 (k_27 hG) (r_27_7 hG) ?_
          refine Y_il1 i_68_38 ?_
          refine Y_il2 i_68_39 ?_
          refine Y_iast i_68_40 (k_31 hG) (l_31 hG) o5 rfl ?_
          refine Y_al0 i_68_41 ?_
          refine Y_iconst (v := 4) i_68_42 (by decide) ?_
          refine Y_il1 i_68_43 ?_
          refine Y_il3 i_68_44 ?_
          refine Y_iconst (v := 0) i_68_45 (by decide) ?_
          refine Y_iv4 (L0 := [.ref 21, .int 4, .int x1, .int (A 31 x1.toNatClampNeg), .int 0]) i_68_46 ow_68 lm_5_78 ((k_21 hG).trans ow_73.symm) rfl mx_73 rfl rfl hd_68 ?_
          refine Y_al0 i_73_0 ?_
          refine Y_gR i_73_1 ow_73 lf_5_12 (k_21 hG) (r_21_1 hG) ?_
          refine Y_il1 i_73_4 ?_
          refine Y_il2 i_73_5 ?_
          refine Y_il3 i_73_6 ?_
          refine Y_il4 i_73_7 ?_
          refine Y_iv4 (L0 := [.ref 22, .int 4, .int x1, .int (A 31 x1.toNatClampNeg), .int 0, .null]) i_73_9 ow_73 lm_5_114 ((k_22 hG).trans ow_2.symm) rfl mx_2 rfl rfl hd_73 ?_
          refine Y_al0 i_2_0 ?_
          refine Y_gI (v := (F 22 0)) i_2_1 ow_2 lf_0_15 (by decide) (k_22 hG) rfl ?_
          refine Y_bipush (v := 40) i_2_4 (by decide) ?_
          refine Y_clt i_2_6 (fun e6 => ?_) (fun e6 => ?_)
          · replace h := h.1 e6
            refine Y_al0 i_2_36 ?_
            refine Y_gI (v := (F 22 0)) i_2_37 ow_2 lf_0_15 (by decide) (k_22 hG) rfl ?_
            refine Y_bipush (v := 14) i_2_40 (by decide) ?_
            refine Y_imul i_2_42 ?_
            refine Y_is5 i_2_43 rfl ?_
            refine Y_al0 i_2_45 ?_
            refine Y_gR i_2_46 ow_2 lf_0_11 (k_22 hG) (r_22_1 hG) ?_
            refine Y_il5 i_2_49 ?_
            refine Y_il1 i_2_51 ?_
            have o7 := h.1
            replace h := h.2
            refine Y_iast i_2_52 (k_23 hG) (l_23 hG) o7 rfl ?_
            refine Y_al0 i_2_53 ?_
            refine Y_gR i_2_54 ow_2 lf_0_11 (k_22 hG) (r_22_1 hG) ?_
            refine Y_il5 i_2_57 ?_
            refine Y_iconst (v := 1) i_2_59 (by decide) ?_
            refine Y_iadd i_2_60 ?_
            refine Y_il2 i_2_61 ?_
            have o8 := h.1
            replace h := h.2
            refine Y_iast i_2_62 (k_23 hG) (l_23 hG) o8 rfl ?_
            refine Y_al0 i_2_63 ?_
            refine Y_gR i_2_64 ow_2 lf_0_11 (k_22 hG) (r_22_1 hG) ?_
            refine Y_il5 i_2_67 ?_
            refine Y_iconst (v := 2) i_2_69 (by decide) ?_
            refine Y_iadd i_2_70 ?_
            refine Y_il3 i_2_71 ?_
            have o9 := h.1
            replace h := h.2
            refine Y_iast i_2_72 (k_23 hG) (l_23 hG) o9 rfl ?_
            refine Y_al0 i_2_73 ?_
            refine Y_gR i_2_74 ow_2 lf_0_11 (k_22 hG) (r_22_1 hG) ?_
            refine Y_il5 i_2_77 ?_
            refine Y_iconst (v := 3) i_2_79 (by decide) ?_
            refine Y_iadd i_2_80 ?_
            refine Y_il4 i_2_81 ?_
            have o10 := h.1
            replace h := h.2
            refine Y_iast i_2_83 (k_23 hG) (l_23 hG) o10 rfl ?_
            refine Y_al0 i_2_84 ?_
            refine Y_dup i_2_85 rfl ?_
            refine Y_gI (v := (F 22 0)) i_2_86 ow_2 lf_0_15 (by decide) (k_22 hG) rfl ?_
            refine Y_iconst (v := 1) i_2_89 (by decide) ?_
            refine Y_iadd i_2_90 ?_
            refine Y_pI i_2_91 ow_2 lf_0_15 (k_22 hG) ?_
            refine Y_vret i_2_94 rt_2 (KKv ?_)
            refine Y_al0 i_73_12 ?_
            refine Y_iconst (v := 1) i_73_13 (by decide) ?_
            refine Y_pB i_73_14 ow_73 lf_5_37 (k_21 hG) (by decide) ?_
            refine Y_vret i_73_17 rt_73 (KKv ?_)
            refine Y_il3 i_68_49 ?_
            refine Y_iret i_68_50 rt_68 (KKi ?_)
            exact Y_iret i_137_14 rt_137 h
          · replace h := h.2 e6
            refine Y_al0 i_2_9 ?_
            refine Y_bipush (v := 39) i_2_10 (by decide) ?_
            refine Y_pI i_2_12 ow_2 lf_0_15 (k_22 hG) ?_
            refine Y_al0 i_2_15 ?_
            refine Y_gR i_2_16 ow_2 lf_0_11 (k_22 hG) (r_22_1 hG) ?_
            refine Y_bipush (v := 14) i_2_19 (by decide) ?_
            refine Y_al0 i_2_21 ?_
            refine Y_gR i_2_22 ow_2 lf_0_11 (k_22 hG) (r_22_1 hG) ?_
            refine Y_iconst (v := 0) i_2_25 (by decide) ?_
            refine Y_al0 i_2_26 ?_
            refine Y_gI (v := 39) i_2_27 ow_2 lf_0_15 (by decide) (k_22 hG) (by simp [wF, wJ, va_up, cpR, bF, bA]) ?_
            refine Y_bipush (v := 14) i_2_30 (by decide) ?_
            refine Y_imul i_2_32 ?_
            have o11 := h.1
            replace h := h.2
            refine Y_acp (ksp := 14) (kdp := 0) (kn := ((39 : Int32) * 14).toNatClampNeg) i_2_33 ow_2 lm_0_19 rfl (k_23 hG) (k_23 hG) (l_23 hG) (l_23 hG) o11 (by decide) (by decide) rfl ?_
            refine Y_al0 i_2_36 ?_
            refine Y_gI (v := 39) i_2_37 ow_2 lf_0_15 (by decide) (k_22 hG) (by simp [wF, wJ, va_up, cpR, bF, bA]) ?_
            refine Y_bipush (v := 14) i_2_40 (by decide) ?_
            refine Y_imul i_2_42 ?_
            refine Y_is5 i_2_43 rfl ?_
            refine Y_al0 i_2_45 ?_
            refine Y_gR i_2_46 ow_2 lf_0_11 (k_22 hG) (r_22_1 hG) ?_
            refine Y_il5 i_2_49 ?_
            refine Y_il1 i_2_51 ?_
            have o12 := h.1
            replace h := h.2
            refine Y_iast i_2_52 (k_23 hG) (l_23 hG) o12 rfl ?_
            refine Y_al0 i_2_53 ?_
            refine Y_gR i_2_54 ow_2 lf_0_11 (k_22 hG) (r_22_1 hG) ?_
            refine Y_il5 i_2_57 ?_
            refine Y_iconst (v := 1) i_2_59 (by decide) ?_
            refine Y_iadd i_2_60 ?_
            refine Y_il2 i_2_61 ?_
            have o13 := h.1
            replace h := h.2
            refine Y_iast i_2_62 (k_23 hG) (l_23 hG) o13 rfl ?_
            refine Y_al0 i_2_63 ?_
            refine Y_gR i_2_64 ow_2 lf_0_11 (k_22 hG) (r_22_1 hG) ?_
            refine Y_il5 i_2_67 ?_
            refine Y_iconst (v := 2) i_2_69 (by decide) ?_
            refine Y_iadd i_2_70 ?_
            refine Y_il3 i_2_71 ?_
            have o14 := h.1
            replace h := h.2
            refine Y_iast i_2_72 (k_23 hG) (l_23 hG) o14 rfl ?_
            refine Y_al0 i_2_73 ?_
            refine Y_gR i_2_74 ow_2 lf_0_11 (k_22 hG) (r_22_1 hG) ?_
            refine Y_il5 i_2_77 ?_
            refine Y_iconst (v := 3) i_2_79 (by decide) ?_
            refine Y_iadd i_2_80 ?_
            refine Y_il4 i_2_81 ?_
            have o15 := h.1
            replace h := h.2
            refine Y_iast i_2_83 (k_23 hG) (l_23 hG) o15 rfl ?_
            refine Y_al0 i_2_84 ?_
            refine Y_dup i_2_85 rfl ?_
            refine Y_gI (v := 39) i_2_86 ow_2 lf_0_15 (by decide) (k_22 hG) (by simp [wF, wJ, va_up, cpR, bF, bA]) ?_
            refine Y_iconst (v := 1) i_2_89 (by decide) ?_
            refine Y_iadd i_2_90 ?_
            refine Y_pI i_2_91 ow_2 lf_0_15 (k_22 hG) ?_
            refine Y_vret i_2_94 rt_2 (KKv ?_)
            refine Y_al0 i_73_12 ?_
            refine Y_iconst (v := 1) i_73_13 (by decide) ?_
            refine Y_pB i_73_14 ow_73 lf_5_37 (k_21 hG) (by decide) ?_
            refine Y_vret i_73_17 rt_73 (KKv ?_)
            refine Y_il3 i_68_49 ?_
            refine Y_iret i_68_50 rt_68 (KKi ?_)
            exact Y_iret i_137_14 rt_137 h
    · replace h := h.2 e2
      exact Y_thr i_171_15 ow_171 lc_9_157 (by decide +kernel) rfl (KKe h)
/- 138 TableTower.supper()I -/
theorem t_138_0 {d : Nat} {F A : Nat → Nat → Int32} {J : Nat → Nat → Int64} {G : pG} {Q : pR → pM → Prop} {SL p q : Nat} (hG : Geo G SL p q) (h : X (d + 4) 69 0 [.ref 21, .int (F 12 2)] [] (F, A, J, G) (KK (d + 5) 138 14 [.ref 0] [] Q)) : X (d + 5) 138 0 [.ref 0] [] (F, A, J, G) Q := by
  refine Y_al0 i_138_0 ?_
  refine Y_gR i_138_1 ow_138 lf_9_48 (k_0 hG) (r_0_7 hG) ?_
  refine Y_al0 i_138_4 ?_
  refine Y_gR i_138_5 ow_138 lf_9_40 (k_0 hG) (r_0_6 hG) ?_
  refine Y_gI (v := (F 12 2)) i_138_8 ow_138 lf_9_122 (by decide) (k_12 hG) rfl ?_
  exact Y_iv1 (L0 := [.ref 21, .int (F 12 2)]) i_138_11 ow_138 lm_9_239 ((k_21 hG).trans ow_69.symm) rfl mx_69 rfl rfl hd_138 h
theorem k_138_14 {d : Nat} {F A : Nat → Nat → Int32} {J : Nat → Nat → Int64} {G : pG} {Q : pR → pM → Prop} {SL p q : Nat} {r : Int32} (hG : Geo G SL p q) (h : Q (.inl (some (.int r))) (F, A, J, G)) : KK (d + 5) 138 14 [.ref 0] [] Q (.inl (some (.int r))) (F, A, J, G) := by
  refine KKi ?_
  exact Y_iret i_138_14 rt_138 h
/- 139 TableTower.years(I)I -/
theorem t_139_0 {d : Nat} {F A : Nat → Nat → Int32} {J : Nat → Nat → Int64} {G : pG} {Q : pR → pM → Prop} {SL p q : Nat} {x1 : Int32} (hG : Geo G SL p q) (h : ((x1 < 1 → Q (.inl (some (.int (-1)))) (F, (wF A 26 1 ((A 26 1) + 1)), J, G)) ∧ (¬ x1 < 1 → ((30 < x1 → Q (.inl (some (.int (-1)))) (F, (wF A 26 1 ((A 26 1) + 1)), J, G)) ∧ (¬ 30 < x1 → ((999 < ((F 27 2) + x1) → Q (.inl (some (.int (-1)))) (F, (wF A 26 1 ((A 26 1) + 1)), J, G)) ∧ (¬ 999 < ((F 27 2) + x1) → (((F 22 0) < 40 → inB ((F 22 0) * 14) 560 = true ∧ inB (((F 22 0) * 14) + 1) 560 = true ∧ inB (((F 22 0) * 14) + 2) 560 = true ∧ inB (((F 22 0) * 14) + 3) 560 = true ∧ (Q (.inl (some (.int ((F 27 2) + x1)))) ((wF (wF (wF F 27 2 ((F 27 2) + x1)) 22 0 ((F 22 0) + 1)) 21 6 1), (wF (wF (wF (wF A 23 ((F 22 0) * 14).toNatClampNeg 6) 23 (((F 22 0) * 14) + 1).toNatClampNeg x1) 23 (((F 22 0) * 14) + 2).toNatClampNeg 0) 23 (((F 22 0) * 14) + 3).toNatClampNeg 0), J, G))) ∧ (¬ (F 22 0) < 40 → (¬ (14 : Int32) < 0 ∧ ¬ (0 : Int32) < 0 ∧ ¬ ((39 : Int32) * 14) < 0 ∧ (14 : Int32).toNatClampNeg + ((39 : Int32) * 14).toNatClampNeg ≤ 560 ∧ (0 : Int32).toNatClampNeg + ((39 : Int32) * 14).toNatClampNeg ≤ 560) ∧ inB ((39 : Int32) * 14) 560 = true ∧ inB (((39 : Int32) * 14) + 1) 560 = true ∧ inB (((39 : Int32) * 14) + 2) 560 = true ∧ inB (((39 : Int32) * 14) + 3) 560 = true ∧ (Q (.inl (some (.int ((F 27 2) + x1)))) ((wF (wF (wF (wF F 27 2 ((F 27 2) + x1)) 22 0 39) 22 0 ((39 : Int32) + 1)) 21 6 1), (wF (wF (wF (wF (cpR A 23 23 14 0 ((39 : Int32) * 14).toNatClampNeg) 23 ((39 : Int32) * 14).toNatClampNeg 6) 23 (((39 : Int32) * 14) + 1).toNatClampNeg x1) 23 (((39 : Int32) * 14) + 2).toNatClampNeg 0) 23 (((39 : Int32) * 14) + 3).toNatClampNeg 0), J, G))))))))))) : X (d + 3) 139 0 [.ref 0, .int x1] [] (F, A, J, G) Q := by
  refine Y_al0 i_139_0 ?_
  refine Y_gR i_139_1 ow_139 lf_9_48 (k_0 hG) (r_0_7 hG) ?_
  refine Y_il1 i_139_4 ?_
  refine Y_iv1 (L0 := [.ref 21, .int x1]) i_139_5 ow_139 lm_9_242 ((k_21 hG).trans ow_70.symm) rfl mx_70 rfl rfl hd_139 ?_
  refine Y_il1 i_70_0 ?_
  refine Y_iconst (v := 1) i_70_1 (by decide) ?_
  refine Y_clt i_70_2 (fun e1 => ?_) (fun e1 => ?_)
  · replace h := h.1 e1
    refine Y_al0 i_70_26 ?_
    refine Y_iconst (v := 1) i_70_27 (by decide) ?_
    refine Y_iv1 (L0 := [.ref 21, .int 1]) i_70_28 ow_70 lm_5_71 ((k_21 hG).trans ow_63.symm) rfl mx_63 rfl rfl hd_70 ?_
    refine Y_al0 i_63_0 ?_
    refine Y_gR i_63_1 ow_63 lf_5_25 (k_21 hG) (r_21_5 hG) ?_
    refine Y_il1 i_63_4 ?_
    refine Y_dup2 i_63_5 rfl rfl ?_
    refine Y_iaload (k := 1) (v := (A 26 1)) i_63_6 (k_26 hG) (l_26 hG) (by decide) (by decide) rfl ?_
    refine Y_iconst (v := 1) i_63_7 (by decide) ?_
    refine Y_iadd i_63_8 ?_
    refine Y_iast (k := 1) i_63_9 (k_26 hG) (l_26 hG) (by decide) (by decide) ?_
    refine Y_iconst (v := (-1)) i_63_10 (by decide) ?_
    refine Y_iret i_63_11 rt_63 (KKi ?_)
    refine Y_iret i_70_31 rt_70 (KKi ?_)
    exact Y_iret i_139_8 rt_139 h
  · replace h := h.2 e1
    refine Y_il1 i_70_5 ?_
    refine Y_bipush (v := 30) i_70_6 (by decide) ?_
    refine Y_cgt i_70_8 (fun e2 => ?_) (fun e2 => ?_)
    · replace h := h.1 e2
      refine Y_al0 i_70_26 ?_
      refine Y_iconst (v := 1) i_70_27 (by decide) ?_
      refine Y_iv1 (L0 := [.ref 21, .int 1]) i_70_28 ow_70 lm_5_71 ((k_21 hG).trans ow_63.symm) rfl mx_63 rfl rfl hd_70 ?_
      refine Y_al0 i_63_0 ?_
      refine Y_gR i_63_1 ow_63 lf_5_25 (k_21 hG) (r_21_5 hG) ?_
      refine Y_il1 i_63_4 ?_
      refine Y_dup2 i_63_5 rfl rfl ?_
      refine Y_iaload (k := 1) (v := (A 26 1)) i_63_6 (k_26 hG) (l_26 hG) (by decide) (by decide) rfl ?_
      refine Y_iconst (v := 1) i_63_7 (by decide) ?_
      refine Y_iadd i_63_8 ?_
      refine Y_iast (k := 1) i_63_9 (k_26 hG) (l_26 hG) (by decide) (by decide) ?_
      refine Y_iconst (v := (-1)) i_63_10 (by decide) ?_
      refine Y_iret i_63_11 rt_63 (KKi ?_)
      refine Y_iret i_70_31 rt_70 (KKi ?_)
      exact Y_iret i_139_8 rt_139 h
    · replace h := h.2 e2
      refine Y_al0 i_70_11 ?_
      refine Y_gR i_70_12 ow_70 lf_5_33 (k_21 hG) (r_21_0 hG) ?_
      refine Y_gI (v := (F 27 2)) i_70_15 ow_70 lf_5_107 (by decide) (k_27 hG) rfl ?_
      refine Y_il1 i_70_18 ?_
      refine Y_iadd i_70_19 ?_
      refine Y_sipush (v := 999) i_70_20 (by decide) ?_
      refine Y_cle i_70_23 (fun e3 => ?_) (fun e3 => ?_)
      · replace h := h.1 e3
        refine Y_al0 i_70_26 ?_
        refine Y_iconst (v := 1) i_70_27 (by decide) ?_
        refine Y_iv1 (L0 := [.ref 21, .int 1]) i_70_28 ow_70 lm_5_71 ((k_21 hG).trans ow_63.symm) rfl mx_63 rfl rfl hd_70 ?_
        refine Y_al0 i_63_0 ?_
        refine Y_gR i_63_1 ow_63 lf_5_25 (k_21 hG) (r_21_5 hG) ?_
        refine Y_il1 i_63_4 ?_
        refine Y_dup2 i_63_5 rfl rfl ?_
        refine Y_iaload (k := 1) (v := (A 26 1)) i_63_6 (k_26 hG) (l_26 hG) (by decide) (by decide) rfl ?_
        refine Y_iconst (v := 1) i_63_7 (by decide) ?_
        refine Y_iadd i_63_8 ?_
        refine Y_iast (k := 1) i_63_9 (k_26 hG) (l_26 hG) (by decide) (by decide) ?_
        refine Y_iconst (v := (-1)) i_63_10 (by decide) ?_
        refine Y_iret i_63_11 rt_63 (KKi ?_)
        refine Y_iret i_70_31 rt_70 (KKi ?_)
        exact Y_iret i_139_8 rt_139 h
      · replace h := h.2 e3
        refine Y_al0 i_70_32 ?_
        refine Y_gR i_70_33 ow_70 lf_5_33 (k_21 hG) (r_21_0 hG) ?_
        refine Y_dup i_70_36 rfl ?_
        refine Y_gI (v := (F 27 2)) i_70_37 ow_70 lf_5_107 (by decide) (k_27 hG) rfl ?_
        refine Y_il1 i_70_40 ?_
        refine Y_iadd i_70_41 ?_
        refine Y_pI i_70_42 ow_70 lf_5_107 (k_27 hG) ?_
        refine Y_al0 i_70_45 ?_
        refine Y_bipush (v := 6) i_70_46 (by decide) ?_
        refine Y_il1 i_70_48 ?_
        refine Y_iconst (v := 0) i_70_49 (by decide) ?_
        refine Y_iconst (v := 0) i_70_50 (by decide) ?_
        refine Y_iv4 (L0 := [.ref 21, .int 6, .int x1, .int 0, .int 0]) i_70_51 ow_70 lm_5_78 ((k_21 hG).trans ow_73.symm) rfl mx_73 rfl rfl hd_70 ?_
        refine Y_al0 i_73_0 ?_
        refine Y_gR i_73_1 ow_73 lf_5_12 (k_21 hG) (r_21_1 hG) ?_
        refine Y_il1 i_73_4 ?_
        refine Y_il2 i_73_5 ?_
        refine Y_il3 i_73_6 ?_
        refine Y_il4 i_73_7 ?_
        refine Y_iv4 (L0 := [.ref 22, .int 6, .int x1, .int 0, .int 0, .null]) i_73_9 ow_73 lm_5_114 ((k_22 hG).trans ow_2.symm) rfl mx_2 rfl rfl hd_73 ?_
        refine Y_al0 i_2_0 ?_
        refine Y_gI (v := (F 22 0)) i_2_1 ow_2 lf_0_15 (by decide) (k_22 hG) (by simp [wF, wJ, va_up, cpR, bF, bA]) ?_
        refine Y_bipush (v := 40) i_2_4 (by decide) ?_
        refine Y_clt i_2_6 (fun e4 => ?_) (fun e4 => ?_)
        · replace h := h.1 e4
          refine Y_al0 i_2_36 ?_
          refine Y_gI (v := (F 22 0)) i_2_37 ow_2 lf_0_15 (by decide) (k_22 hG) (by simp [wF, wJ, va_up, cpR, bF, bA]) ?_
          refine Y_bipush (v := 14) i_2_40 (by decide) ?_
          refine Y_imul i_2_42 ?_
          refine Y_is5 i_2_43 rfl ?_
          refine Y_al0 i_2_45 ?_
          refine Y_gR i_2_46 ow_2 lf_0_11 (k_22 hG) (r_22_1 hG) ?_
          refine Y_il5 i_2_49 ?_
          refine Y_il1 i_2_51 ?_
          have o5 := h.1
          replace h := h.2
          refine Y_iast i_2_52 (k_23 hG) (l_23 hG) o5 rfl ?_
          refine Y_al0 i_2_53 ?_
          refine Y_gR i_2_54 ow_2 lf_0_11 (k_22 hG) (r_22_1 hG) ?_
          refine Y_il5 i_2_57 ?_
          refine Y_iconst (v := 1) i_2_59 (by decide) ?_
          refine Y_iadd i_2_60 ?_
          refine Y_il2 i_2_61 ?_
          have o6 := h.1
          replace h := h.2
          refine Y_iast i_2_62 (k_23 hG) (l_23 hG) o6 rfl ?_
          refine Y_al0 i_2_63 ?_
          refine Y_gR i_2_64 ow_2 lf_0_11 (k_22 hG) (r_22_1 hG) ?_
          refine Y_il5 i_2_67 ?_
          refine Y_iconst (v := 2) i_2_69 (by decide) ?_
          refine Y_iadd i_2_70 ?_
          refine Y_il3 i_2_71 ?_
          have o7 := h.1
          replace h := h.2
          refine Y_iast i_2_72 (k_23 hG) (l_23 hG) o7 rfl ?_
          refine Y_al0 i_2_73 ?_
          refine Y_gR i_2_74 ow_2 lf_0_11 (k_22 hG) (r_22_1 hG) ?_
          refine Y_il5 i_2_77 ?_
          refine Y_iconst (v := 3) i_2_79 (by decide) ?_
          refine Y_iadd i_2_80 ?_
          refine Y_il4 i_2_81 ?_
          have o8 := h.1
          replace h := h.2
          refine Y_iast i_2_83 (k_23 hG) (l_23 hG) o8 rfl ?_
          refine Y_al0 i_2_84 ?_
          refine Y_dup i_2_85 rfl ?_
          refine Y_gI (v := (F 22 0)) i_2_86 ow_2 lf_0_15 (by decide) (k_22 hG) (by simp [wF, wJ, va_up, cpR, bF, bA]) ?_
          refine Y_iconst (v := 1) i_2_89 (by decide) ?_
          refine Y_iadd i_2_90 ?_
          refine Y_pI i_2_91 ow_2 lf_0_15 (k_22 hG) ?_
          refine Y_vret i_2_94 rt_2 (KKv ?_)
          refine Y_al0 i_73_12 ?_
          refine Y_iconst (v := 1) i_73_13 (by decide) ?_
          refine Y_pB i_73_14 ow_73 lf_5_37 (k_21 hG) (by decide) ?_
          refine Y_vret i_73_17 rt_73 (KKv ?_)
          refine Y_al0 i_70_54 ?_
          refine Y_gR i_70_55 ow_70 lf_5_33 (k_21 hG) (r_21_0 hG) ?_
          refine Y_gI (v := ((F 27 2) + x1)) i_70_58 ow_70 lf_5_107 (by decide) (k_27 hG) (by simp [wF, wJ, va_up, cpR, bF, bA]) ?_
          refine Y_iret i_70_61 rt_70 (KKi ?_)
          exact Y_iret i_139_8 rt_139 h
        · replace h := h.2 e4
          refine Y_al0 i_2_9 ?_
          refine Y_bipush (v := 39) i_2_10 (by decide) ?_
          refine Y_pI i_2_12 ow_2 lf_0_15 (k_22 hG) ?_
          refine Y_al0 i_2_15 ?_
          refine Y_gR i_2_16 ow_2 lf_0_11 (k_22 hG) (r_22_1 hG) ?_
          refine Y_bipush (v := 14) i_2_19 (by decide) ?_
          refine Y_al0 i_2_21 ?_
          refine Y_gR i_2_22 ow_2 lf_0_11 (k_22 hG) (r_22_1 hG) ?_
          refine Y_iconst (v := 0) i_2_25 (by decide) ?_
          refine Y_al0 i_2_26 ?_
          refine Y_gI (v := 39) i_2_27 ow_2 lf_0_15 (by decide) (k_22 hG) (by simp [wF, wJ, va_up, cpR, bF, bA]) ?_
          refine Y_bipush (v := 14) i_2_30 (by decide) ?_
          refine Y_imul i_2_32 ?_
          have o9 := h.1
          replace h := h.2
          refine Y_acp (ksp := 14) (kdp := 0) (kn := ((39 : Int32) * 14).toNatClampNeg) i_2_33 ow_2 lm_0_19 rfl (k_23 hG) (k_23 hG) (l_23 hG) (l_23 hG) o9 (by decide) (by decide) rfl ?_
          refine Y_al0 i_2_36 ?_
          refine Y_gI (v := 39) i_2_37 ow_2 lf_0_15 (by decide) (k_22 hG) (by simp [wF, wJ, va_up, cpR, bF, bA]) ?_
          refine Y_bipush (v := 14) i_2_40 (by decide) ?_
          refine Y_imul i_2_42 ?_
          refine Y_is5 i_2_43 rfl ?_
          refine Y_al0 i_2_45 ?_
          refine Y_gR i_2_46 ow_2 lf_0_11 (k_22 hG) (r_22_1 hG) ?_
          refine Y_il5 i_2_49 ?_
          refine Y_il1 i_2_51 ?_
          have o10 := h.1
          replace h := h.2
          refine Y_iast i_2_52 (k_23 hG) (l_23 hG) o10 rfl ?_
          refine Y_al0 i_2_53 ?_
          refine Y_gR i_2_54 ow_2 lf_0_11 (k_22 hG) (r_22_1 hG) ?_
          refine Y_il5 i_2_57 ?_
          refine Y_iconst (v := 1) i_2_59 (by decide) ?_
          refine Y_iadd i_2_60 ?_
          refine Y_il2 i_2_61 ?_
          have o11 := h.1
          replace h := h.2
          refine Y_iast i_2_62 (k_23 hG) (l_23 hG) o11 rfl ?_
          refine Y_al0 i_2_63 ?_
          refine Y_gR i_2_64 ow_2 lf_0_11 (k_22 hG) (r_22_1 hG) ?_
          refine Y_il5 i_2_67 ?_
          refine Y_iconst (v := 2) i_2_69 (by decide) ?_
          refine Y_iadd i_2_70 ?_
          refine Y_il3 i_2_71 ?_
          have o12 := h.1
          replace h := h.2
          refine Y_iast i_2_72 (k_23 hG) (l_23 hG) o12 rfl ?_
          refine Y_al0 i_2_73 ?_
          refine Y_gR i_2_74 ow_2 lf_0_11 (k_22 hG) (r_22_1 hG) ?_
          refine Y_il5 i_2_77 ?_
          refine Y_iconst (v := 3) i_2_79 (by decide) ?_
          refine Y_iadd i_2_80 ?_
          refine Y_il4 i_2_81 ?_
          have o13 := h.1
          replace h := h.2
          refine Y_iast i_2_83 (k_23 hG) (l_23 hG) o13 rfl ?_
          refine Y_al0 i_2_84 ?_
          refine Y_dup i_2_85 rfl ?_
          refine Y_gI (v := 39) i_2_86 ow_2 lf_0_15 (by decide) (k_22 hG) (by simp [wF, wJ, va_up, cpR, bF, bA]) ?_
          refine Y_iconst (v := 1) i_2_89 (by decide) ?_
          refine Y_iadd i_2_90 ?_
          refine Y_pI i_2_91 ow_2 lf_0_15 (k_22 hG) ?_
          refine Y_vret i_2_94 rt_2 (KKv ?_)
          refine Y_al0 i_73_12 ?_
          refine Y_iconst (v := 1) i_73_13 (by decide) ?_
          refine Y_pB i_73_14 ow_73 lf_5_37 (k_21 hG) (by decide) ?_
          refine Y_vret i_73_17 rt_73 (KKv ?_)
          refine Y_al0 i_70_54 ?_
          refine Y_gR i_70_55 ow_70 lf_5_33 (k_21 hG) (r_21_0 hG) ?_
          refine Y_gI (v := ((F 27 2) + x1)) i_70_58 ow_70 lf_5_107 (by decide) (k_27 hG) (by simp [wF, wJ, va_up, cpR, bF, bA]) ?_
          refine Y_iret i_70_61 rt_70 (KKi ?_)
          exact Y_iret i_139_8 rt_139 h
/- 140 TableTower.undo()I -/
theorem t_140_0 {d : Nat} {F A : Nat → Nat → Int32} {J : Nat → Nat → Int64} {G : pG} {Q : pR → pM → Prop} {SL p q : Nat} (hG : Geo G SL p q) (h : X (d + 3) 71 0 [.ref 21] [] (F, A, J, G) (KK (d + 4) 140 7 [.ref 0] [] Q)) : X (d + 4) 140 0 [.ref 0] [] (F, A, J, G) Q := by
  refine Y_al0 i_140_0 ?_
  refine Y_gR i_140_1 ow_140 lf_9_48 (k_0 hG) (r_0_7 hG) ?_
  exact Y_iv0 (L0 := [.ref 21]) i_140_4 ow_140 lm_9_245 ((k_21 hG).trans ow_71.symm) rfl mx_71 rfl rfl hd_140 h
theorem k_140_7 {d : Nat} {F A : Nat → Nat → Int32} {J : Nat → Nat → Int64} {G : pG} {Q : pR → pM → Prop} {SL p q : Nat} {r : Int32} (hG : Geo G SL p q) (h : Q (.inl (some (.int r))) (F, A, J, G)) : KK (d + 4) 140 7 [.ref 0] [] Q (.inl (some (.int r))) (F, A, J, G) := by
  refine KKi ?_
  exact Y_iret i_140_7 rt_140 h
/- 141 TableTower.more()I -/
theorem t_141_0 {d : Nat} {F A : Nat → Nat → Int32} {J : Nat → Nat → Int64} {G : pG} {Q : pR → pM → Prop} {SL p q : Nat} (hG : Geo G SL p q) (h : X (d + 4) 89 0 [.ref 27, .null, .null] [] (F, A, J, G) (KK (d + 5) 141 10 [.ref 0] [] Q)) : X (d + 5) 141 0 [.ref 0] [] (F, A, J, G) Q := by
  refine Y_al0 i_141_0 ?_
  refine Y_gR i_141_1 ow_141 lf_9_48 (k_0 hG) (r_0_7 hG) ?_
  refine Y_gR i_141_4 ow_141 lf_9_57 (k_21 hG) (r_21_0 hG) ?_
  exact Y_iv0 (L0 := [.ref 27, .null, .null]) i_141_7 ow_141 lm_9_248 ((k_27 hG).trans ow_89.symm) rfl mx_89 rfl rfl hd_141 h
theorem k_141_10 {d : Nat} {F A : Nat → Nat → Int32} {J : Nat → Nat → Int64} {G : pG} {Q : pR → pM → Prop} {SL p q : Nat} {r : Int32} (hG : Geo G SL p q) (h : Q (.inl (some (.int r))) (F, A, J, G)) : KK (d + 5) 141 10 [.ref 0] [] Q (.inl (some (.int r))) (F, A, J, G) := by
  refine KKi ?_
  exact Y_iret i_141_10 rt_141 h
/- 142 TableTower.without(I)Z -/
theorem t_142_0 {d : Nat} {F A : Nat → Nat → Int32} {J : Nat → Nat → Int64} {G : pG} {Q : pR → pM → Prop} {SL p q : Nat} {x1 : Int32} (hG : Geo G SL p q) (h : ((x1 < 0 → Q (.inr 101) (F, A, J, gThr G)) ∧ (¬ x1 < 0 → ((x1 < (F 12 0) → hB (F 27 1) = true ∧ (((lvI (A 28) (F 27 1) x1) = (-1) → Q (.inl (some (.int 0))) (F, A, J, G)) ∧ (¬ (lvI (A 28) (F 27 1) x1) = (-1) → X (d + 5) 105 0 [.ref 49, .int x1] [] (F, A, J, G) (KK (d + 6) 142 28 [.ref 0, .int x1] [] Q)))) ∧ (¬ x1 < (F 12 0) → Q (.inr 101) (F, A, J, gThr G)))))) : X (d + 6) 142 0 [.ref 0, .int x1] [] (F, A, J, G) Q := by
  refine Y_al0 i_142_0 ?_
  refine Y_il1 i_142_1 ?_
  refine Y_iv1 (L0 := [.ref 0, .int x1]) i_142_2 ow_142 lm_9_162 ((k_0 hG).trans ow_171.symm) rfl mx_171 rfl rfl hd_142 ?_
  refine Y_il1 i_171_0 ?_
  refine Y_zlt i_171_1 (fun e1 => ?_) (fun e1 => ?_)
  · replace h := h.1 e1
    exact Y_thr i_171_15 ow_171 lc_9_157 (by decide +kernel) rfl (KKe h)
  · replace h := h.2 e1
    refine Y_il1 i_171_4 ?_
    refine Y_al0 i_171_5 ?_
    refine Y_gR i_171_6 ow_171 lf_9_40 (k_0 hG) (r_0_6 hG) ?_
    refine Y_gI (v := (F 12 0)) i_171_9 ow_171 lf_9_111 (by decide) (k_12 hG) rfl ?_
    refine Y_clt i_171_12 (fun e2 => ?_) (fun e2 => ?_)
    · replace h := h.1 e2
      refine Y_vret i_171_26 rt_171 (KKv ?_)
      refine Y_al0 i_142_5 ?_
      refine Y_gR i_142_6 ow_142 lf_9_48 (k_0 hG) (r_0_7 hG) ?_
      refine Y_gR i_142_9 ow_142 lf_9_57 (k_21 hG) (r_21_0 hG) ?_
      refine Y_il1 i_142_12 ?_
      have o3 := h.1
      replace h := h.2
      refine Y_iv1 (L0 := [.ref 27, .int x1, .null]) i_142_13 ow_142 lm_9_187 ((k_27 hG).trans ow_77.symm) rfl mx_77 rfl rfl hd_142 ?_
      refine c_77 hG tw_27 o3 (KKi' (v' := (lvI (A 28) (F 27 1) x1)) (by simp [wF, wJ, va_up, cpR, bF, bA]) ?_)
      refine Y_iconst (v := (-1)) i_142_16 (by decide) ?_
      refine Y_ceq i_142_17 (fun e4 => ?_) (fun e4 => ?_)
      · replace h := h.1 e4
        refine Y_iconst (v := 0) i_142_36 (by decide) ?_
        exact Y_bret i_142_37 rt_142 (by decide) h
      · replace h := h.2 e4
        refine Y_al0 i_142_20 ?_
        refine Y_gR i_142_21 ow_142 lf_9_64 (k_0 hG) (r_0_9 hG) ?_
        refine Y_il1 i_142_24 ?_
        exact Y_iv1 (L0 := [.ref 49, .int x1]) i_142_25 ow_142 lm_9_251 ((k_49 hG).trans ow_105.symm) rfl mx_105 rfl rfl hd_142 h
    · replace h := h.2 e2
      exact Y_thr i_171_15 ow_171 lc_9_157 (by decide +kernel) rfl (KKe h)
theorem k_142_28 {d : Nat} {F A : Nat → Nat → Int32} {J : Nat → Nat → Int64} {G : pG} {Q : pR → pM → Prop} {SL p q : Nat} {x1 r : Int32} (hG : Geo G SL p q) (h : ((r = (-1) → Q (.inl (some (.int 0))) (F, A, J, G)) ∧ (¬ r = (-1) → Q (.inl (some (.int 1))) (F, A, J, G)))) : KK (d + 6) 142 28 [.ref 0, .int x1] [] Q (.inl (some (.int r))) (F, A, J, G) := by
  refine KKi ?_
  refine Y_iconst (v := (-1)) i_142_28 (by decide) ?_
  refine Y_ceq i_142_29 (fun e1 => ?_) (fun e1 => ?_)
  · replace h := h.1 e1
    refine Y_iconst (v := 0) i_142_36 (by decide) ?_
    exact Y_bret i_142_37 rt_142 (by decide) h
  · replace h := h.2 e1
    refine Y_iconst (v := 1) i_142_32 (by decide) ?_
    refine Y_goto i_142_33 ?_
    exact Y_bret i_142_37 rt_142 (by decide) h
/- 143 TableTower.most(I)I -/
theorem t_143_0 {d : Nat} {F A : Nat → Nat → Int32} {J : Nat → Nat → Int64} {G : pG} {Q : pR → pM → Prop} {SL p q : Nat} {x1 : Int32} (hG : Geo G SL p q) (h : ((x1 = 0 → X (d + 6) 18 0 [.ref 61] [] (F, A, J, G) (KK (d + 7) 143 26 [.ref 0, .int x1] [] Q)) ∧ (¬ x1 = 0 → ((x1 = 1 → X (d + 6) 18 0 [.ref 61] [] (F, A, J, G) (KK (d + 7) 143 26 [.ref 0, .int x1] [] Q)) ∧ (¬ x1 = 1 → Q (.inr 101) (F, A, J, gThr G)))))) : X (d + 7) 143 0 [.ref 0, .int x1] [] (F, A, J, G) Q := by
  refine Y_il1 i_143_0 ?_
  refine Y_zeq i_143_1 (fun e1 => ?_) (fun e1 => ?_)
  · replace h := h.1 e1
    refine Y_al0 i_143_19 ?_
    refine Y_gR i_143_20 ow_143 lf_9_73 (k_0 hG) (r_0_10 hG) ?_
    exact Y_iv0 (L0 := [.ref 61]) i_143_23 ow_143 lm_9_256 ((k_61 hG).trans ow_18.symm) rfl mx_18 rfl rfl hd_143 h
  · replace h := h.2 e1
    refine Y_il1 i_143_4 ?_
    refine Y_iconst (v := 1) i_143_5 (by decide) ?_
    refine Y_ceq i_143_6 (fun e2 => ?_) (fun e2 => ?_)
    · replace h := h.1 e2
      refine Y_al0 i_143_19 ?_
      refine Y_gR i_143_20 ow_143 lf_9_73 (k_0 hG) (r_0_10 hG) ?_
      exact Y_iv0 (L0 := [.ref 61]) i_143_23 ow_143 lm_9_256 ((k_61 hG).trans ow_18.symm) rfl mx_18 rfl rfl hd_143 h
    · replace h := h.2 e2
      exact Y_thr i_143_9 ow_143 lc_9_157 (by decide +kernel) rfl h
theorem k_143_26 {d : Nat} {F A : Nat → Nat → Int32} {J : Nat → Nat → Int64} {G : pG} {Q : pR → pM → Prop} {SL p q : Nat} {x1 : Int32} (hG : Geo G SL p q) (h : ((x1 = 0 → inB (F 61 2) 1024 = true ∧ (Q (.inl (some (.int (nI (pcn (F 61 2).toNatClampNeg))))) (F, A, J, G))) ∧ (¬ x1 = 0 → Q (.inl (some (.int (F 61 2)))) (F, A, J, G)))) : KK (d + 7) 143 26 [.ref 0, .int x1] [] Q (.inl none) (F, A, J, G) := by
  refine KKv ?_
  refine Y_il1 i_143_26 ?_
  refine Y_zne i_143_27 (fun e1 => ?_) (fun e1 => ?_)
  · replace h := h.1 e1
    refine Y_al0 i_143_30 ?_
    refine Y_gR i_143_31 ow_143 lf_9_73 (k_0 hG) (r_0_10 hG) ?_
    refine Y_gI (v := (F 61 2)) i_143_34 ow_143 lf_9_259 (by decide) (k_61 hG) rfl ?_
    have o2 := h.1
    replace h := h.2
    refine Y_is_1 (L0 := [.int (F 61 2)]) i_143_37 ow_143 lm_9_262 rfl mx_289 rfl rfl hd_143 ?_
    refine c_289 hG o2 (KKi ?_)
    refine Y_goto i_143_40 ?_
    exact Y_iret i_143_50 rt_143 h
  · replace h := h.2 e1
    refine Y_al0 i_143_43 ?_
    refine Y_gR i_143_44 ow_143 lf_9_73 (k_0 hG) (r_0_10 hG) ?_
    refine Y_gI (v := (F 61 2)) i_143_47 ow_143 lf_9_259 (by decide) (k_61 hG) rfl ?_
    exact Y_iret i_143_50 rt_143 h
/- 144 TableTower.row(I)I -/
theorem t_144_0 {d : Nat} {F A : Nat → Nat → Int32} {J : Nat → Nat → Int64} {G : pG} {Q : pR → pM → Prop} {SL p q : Nat} {x1 : Int32} (hG : Geo G SL p q) (h : X (d + 6) 18 0 [.ref 61] [] (F, A, J, G) (KK (d + 7) 144 7 [.ref 0, .int x1] [] Q)) : X (d + 7) 144 0 [.ref 0, .int x1] [] (F, A, J, G) Q := by
  refine Y_al0 i_144_0 ?_
  refine Y_gR i_144_1 ow_144 lf_9_73 (k_0 hG) (r_0_10 hG) ?_
  exact Y_iv0 (L0 := [.ref 61]) i_144_4 ow_144 lm_9_256 ((k_61 hG).trans ow_18.symm) rfl mx_18 rfl rfl hd_144 h
theorem k_144_7 {d : Nat} {F A : Nat → Nat → Int32} {J : Nat → Nat → Int64} {G : pG} {Q : pR → pM → Prop} {SL p q : Nat} {x1 : Int32} (hG : Geo G SL p q) (h : ((x1 < 0 → Q (.inr 101) (F, A, J, gThr G)) ∧ (¬ x1 < 0 → inB (F 61 2) 1024 = true ∧ ((x1 < (nI (pcn (F 61 2).toNatClampNeg)) → inB x1 10 = true ∧ (Q (.inl (some (.int (A 62 x1.toNatClampNeg)))) (F, A, J, G))) ∧ (¬ x1 < (nI (pcn (F 61 2).toNatClampNeg)) → Q (.inr 101) (F, A, J, gThr G)))))) : KK (d + 7) 144 7 [.ref 0, .int x1] [] Q (.inl none) (F, A, J, G) := by
  refine KKv ?_
  refine Y_il1 i_144_7 ?_
  refine Y_zlt i_144_8 (fun e1 => ?_) (fun e1 => ?_)
  · replace h := h.1 e1
    exact Y_thr i_144_25 ow_144 lc_9_157 (by decide +kernel) rfl h
  · replace h := h.2 e1
    refine Y_il1 i_144_11 ?_
    refine Y_al0 i_144_12 ?_
    refine Y_gR i_144_13 ow_144 lf_9_73 (k_0 hG) (r_0_10 hG) ?_
    refine Y_gI (v := (F 61 2)) i_144_16 ow_144 lf_9_259 (by decide) (k_61 hG) rfl ?_
    have o2 := h.1
    replace h := h.2
    refine Y_is_1 (L0 := [.int (F 61 2)]) i_144_19 ow_144 lm_9_262 rfl mx_289 rfl rfl hd_144 ?_
    refine c_289 hG o2 (KKi ?_)
    refine Y_clt i_144_22 (fun e3 => ?_) (fun e3 => ?_)
    · replace h := h.1 e3
      refine Y_al0 i_144_36 ?_
      refine Y_gR i_144_37 ow_144 lf_9_73 (k_0 hG) (r_0_10 hG) ?_
      refine Y_gR i_144_40 ow_144 lf_9_269 (k_61 hG) (r_61_3 hG) ?_
      refine Y_il1 i_144_43 ?_
      have o4 := h.1
      replace h := h.2
      refine Y_iaload (k := x1.toNatClampNeg) (v := (A 62 x1.toNatClampNeg)) i_144_44 (k_62 hG) (l_62 hG) o4 rfl rfl ?_
      exact Y_iret i_144_45 rt_144 h
    · replace h := h.2 e3
      exact Y_thr i_144_25 ow_144 lc_9_157 (by decide +kernel) rfl h
/- 145 TableTower.orders()J -/
theorem t_145_0 {d : Nat} {F A : Nat → Nat → Int32} {J : Nat → Nat → Int64} {G : pG} {Q : pR → pM → Prop} {SL p q : Nat} (hG : Geo G SL p q) (h : X (d + 5) 19 0 [.ref 61, .int 0, .int 0] [] (F, A, J, G) (KK (d + 6) 145 9 [.ref 0] [] Q)) : X (d + 6) 145 0 [.ref 0] [] (F, A, J, G) Q := by
  refine Y_al0 i_145_0 ?_
  refine Y_gR i_145_1 ow_145 lf_9_73 (k_0 hG) (r_0_10 hG) ?_
  refine Y_iconst (v := 0) i_145_4 (by decide) ?_
  refine Y_iconst (v := 0) i_145_5 (by decide) ?_
  exact Y_iv2 (L0 := [.ref 61, .int 0, .int 0]) i_145_6 ow_145 lm_9_272 ((k_61 hG).trans ow_19.symm) rfl mx_19 rfl rfl hd_145 h
theorem k_145_9 {d : Nat} {F A : Nat → Nat → Int32} {J : Nat → Nat → Int64} {G : pG} {Q : pR → pM → Prop} {SL p q : Nat} {r : Int64} (hG : Geo G SL p q) (h : Q (.inl (some (.long r))) (F, A, J, G)) : KK (d + 6) 145 9 [.ref 0] [] Q (.inl (some (.long r))) (F, A, J, G) := by
  refine KKl ?_
  exact Y_lret i_145_9 rt_145 h
/- 146 TableTower.wedges()I -/
theorem t_146_0 {d : Nat} {F A : Nat → Nat → Int32} {J : Nat → Nat → Int64} {G : pG} {Q : pR → pM → Prop} {SL p q : Nat} (hG : Geo G SL p q) (h : X (d + 2) 116 0 [.ref 49, .null, .null] [] (F, A, J, G) (KK (d + 3) 146 7 [.ref 0] [] Q)) : X (d + 3) 146 0 [.ref 0] [] (F, A, J, G) Q := by
  refine Y_al0 i_146_0 ?_
  refine Y_gR i_146_1 ow_146 lf_9_64 (k_0 hG) (r_0_9 hG) ?_
  exact Y_iv0 (L0 := [.ref 49, .null, .null]) i_146_4 ow_146 lm_9_276 ((k_49 hG).trans ow_116.symm) rfl mx_116 rfl rfl hd_146 h
theorem k_146_7 {d : Nat} {F A : Nat → Nat → Int32} {J : Nat → Nat → Int64} {G : pG} {Q : pR → pM → Prop} {SL p q : Nat} {r : Int32} (hG : Geo G SL p q) (h : Q (.inl (some (.int r))) (F, A, J, G)) : KK (d + 3) 146 7 [.ref 0] [] Q (.inl (some (.int r))) (F, A, J, G) := by
  refine KKi ?_
  exact Y_iret i_146_7 rt_146 h
/- 147 TableTower.when()I -/
theorem t_147_0 {d : Nat} {F A : Nat → Nat → Int32} {J : Nat → Nat → Int64} {G : pG} {Q : pR → pM → Prop} {SL p q : Nat} (hG : Geo G SL p q) (h : X (d + 5) 112 0 [.ref 49, .null] [] (F, A, J, G) (KK (d + 6) 147 7 [.ref 0] [] Q)) : X (d + 6) 147 0 [.ref 0] [] (F, A, J, G) Q := by
  refine Y_al0 i_147_0 ?_
  refine Y_gR i_147_1 ow_147 lf_9_64 (k_0 hG) (r_0_9 hG) ?_
  exact Y_iv0 (L0 := [.ref 49, .null]) i_147_4 ow_147 lm_9_279 ((k_49 hG).trans ow_112.symm) rfl mx_112 rfl rfl hd_147 h
theorem k_147_7 {d : Nat} {F A : Nat → Nat → Int32} {J : Nat → Nat → Int64} {G : pG} {Q : pR → pM → Prop} {SL p q : Nat} {r : Int32} (hG : Geo G SL p q) (h : Q (.inl (some (.int r))) (F, A, J, G)) : KK (d + 6) 147 7 [.ref 0] [] Q (.inl (some (.int r))) (F, A, J, G) := by
  refine KKi ?_
  exact Y_iret i_147_7 rt_147 h
/- 148 TableTower.marriages()I -/
theorem t_148_0 {d : Nat} {F A : Nat → Nat → Int32} {J : Nat → Nat → Int64} {G : pG} {Q : pR → pM → Prop} {SL p q : Nat} (hG : Geo G SL p q) (h : X (d + 4) 26 0 [.ref 61, .null, .null, .null] [] (F, A, J, G) (KK (d + 5) 148 7 [.ref 0] [] Q)) : X (d + 5) 148 0 [.ref 0] [] (F, A, J, G) Q := by
  refine Y_al0 i_148_0 ?_
  refine Y_gR i_148_1 ow_148 lf_9_73 (k_0 hG) (r_0_10 hG) ?_
  exact Y_iv0 (L0 := [.ref 61, .null, .null, .null]) i_148_4 ow_148 lm_9_282 ((k_61 hG).trans ow_26.symm) rfl mx_26 rfl rfl hd_148 h
theorem k_148_7 {d : Nat} {F A : Nat → Nat → Int32} {J : Nat → Nat → Int64} {G : pG} {Q : pR → pM → Prop} {SL p q : Nat} {r : Int32} (hG : Geo G SL p q) (h : Q (.inl (some (.int r))) (F, A, J, G)) : KK (d + 5) 148 7 [.ref 0] [] Q (.inl (some (.int r))) (F, A, J, G) := by
  refine KKi ?_
  exact Y_iret i_148_7 rt_148 h
/- 149 TableTower.marry(II)Z -/
theorem t_149_0 {d : Nat} {F A : Nat → Nat → Int32} {J : Nat → Nat → Int64} {G : pG} {Q : pR → pM → Prop} {SL p q : Nat} {x1 x2 : Int32} (hG : Geo G SL p q) (h : ((x1 < 0 → Q (.inr 101) (F, A, J, gThr G)) ∧ (¬ x1 < 0 → ((x1 < (F 12 0) → ((x2 < 0 → Q (.inr 101) (F, A, J, gThr G)) ∧ (¬ x2 < 0 → ((x2 < (F 12 0) → ((x1 = x2 → Q (.inr 100) (F, A, J, gThr G)) ∧ (¬ x1 = x2 → inB x1 10 = true ∧ inB x2 10 = true ∧ (Q (.inl (some (.int (bI (marB (carS (A 13 x1.toNatClampNeg) (A 15 x1.toNatClampNeg) (F 27 2) 0) (A 14 x2.toNatClampNeg) (carS (A 13 x2.toNatClampNeg) (A 15 x2.toNatClampNeg) (F 27 2) 0) (A 14 x1.toNatClampNeg)))))) (F, A, J, G))))) ∧ (¬ x2 < (F 12 0) → Q (.inr 101) (F, A, J, gThr G)))))) ∧ (¬ x1 < (F 12 0) → Q (.inr 101) (F, A, J, gThr G)))))) : X (d + 3) 149 0 [.ref 0, .int x1, .int x2] [] (F, A, J, G) Q := by
  refine Y_al0 i_149_0 ?_
  refine Y_il1 i_149_1 ?_
  refine Y_iv1 (L0 := [.ref 0, .int x1]) i_149_2 ow_149 lm_9_162 ((k_0 hG).trans ow_171.symm) rfl mx_171 rfl rfl hd_149 ?_
  refine Y_il1 i_171_0 ?_
  refine Y_zlt i_171_1 (fun e1 => ?_) (fun e1 => ?_)
  · replace h := h.1 e1
    exact Y_thr i_171_15 ow_171 lc_9_157 (by decide +kernel) rfl (KKe h)
  · replace h := h.2 e1
    refine Y_il1 i_171_4 ?_
    refine Y_al0 i_171_5 ?_
    refine Y_gR i_171_6 ow_171 lf_9_40 (k_0 hG) (r_0_6 hG) ?_
    refine Y_gI (v := (F 12 0)) i_171_9 ow_171 lf_9_111 (by decide) (k_12 hG) rfl ?_
    refine Y_clt i_171_12 (fun e2 => ?_) (fun e2 => ?_)
    · replace h := h.1 e2
      refine Y_vret i_171_26 rt_171 (KKv ?_)
      refine Y_al0 i_149_5 ?_
      refine Y_il2 i_149_6 ?_
      refine Y_iv1 (L0 := [.ref 0, .int x2]) i_149_7 ow_149 lm_9_162 ((k_0 hG).trans ow_171.symm) rfl mx_171 rfl rfl hd_149 ?_
      refine Y_il1 i_171_0 ?_
      refine Y_zlt i_171_1 (fun e3 => ?_) (fun e3 => ?_)
      · replace h := h.1 e3
        exact Y_thr i_171_15 ow_171 lc_9_157 (by decide +kernel) rfl (KKe h)
      · replace h := h.2 e3
        refine Y_il1 i_171_4 ?_
        refine Y_al0 i_171_5 ?_
        refine Y_gR i_171_6 ow_171 lf_9_40 (k_0 hG) (r_0_6 hG) ?_
        refine Y_gI (v := (F 12 0)) i_171_9 ow_171 lf_9_111 (by decide) (k_12 hG) rfl ?_
        refine Y_clt i_171_12 (fun e4 => ?_) (fun e4 => ?_)
        · replace h := h.1 e4
          refine Y_vret i_171_26 rt_171 (KKv ?_)
          refine Y_il1 i_149_10 ?_
          refine Y_il2 i_149_11 ?_
          refine Y_cne i_149_12 (fun e5 => ?_) (fun e5 => ?_)
          · replace h := h.1 e5
            exact Y_thr i_149_15 ow_149 lc_9_88 (by decide +kernel) rfl h
          · replace h := h.2 e5
            refine Y_al0 i_149_26 ?_
            refine Y_gR i_149_27 ow_149 lf_9_48 (k_0 hG) (r_0_7 hG) ?_
            refine Y_gR i_149_30 ow_149 lf_9_57 (k_21 hG) (r_21_0 hG) ?_
            refine Y_il1 i_149_33 ?_
            refine Y_il2 i_149_34 ?_
            have o6 := h.1
            replace h := h.2
            have o7 := h.1
            replace h := h.2
            refine Y_iv2 (L0 := [.ref 27, .int x1, .int x2]) i_149_35 ow_149 lm_9_287 ((k_27 hG).trans ow_96.symm) rfl mx_96 rfl rfl hd_149 ?_
            refine c_96 hG tw_27 o6 o7 (KKi ?_)
            exact Y_bret i_149_38 rt_149 (bI_01 _) h
        · replace h := h.2 e4
          exact Y_thr i_171_15 ow_171 lc_9_157 (by decide +kernel) rfl (KKe h)
    · replace h := h.2 e2
      exact Y_thr i_171_15 ow_171 lc_9_157 (by decide +kernel) rfl (KKe h)
/- 150 TableTower.nod(II)I -/
theorem t_150_0 {d : Nat} {F A : Nat → Nat → Int32} {J : Nat → Nat → Int64} {G : pG} {Q : pR → pM → Prop} {SL p q : Nat} {x1 x2 : Int32} (hG : Geo G SL p q) (h : hB (F 27 1) = true ∧ (((lvI (A 28) (F 27 1) x1) = (-1) → Q (.inr 101) (F, A, J, gThr G)) ∧ (¬ (lvI (A 28) (F 27 1) x1) = (-1) → ((x2 < 0 → Q (.inr 100) (F, A, J, gThr G)) ∧ (¬ x2 < 0 → ((99 < x2 → Q (.inr 100) (F, A, J, gThr G)) ∧ (¬ 99 < x2 → X (d + 4) 110 0 [.ref 49, .int x1, .int x2] [] (F, A, J, G) (KK (d + 5) 150 35 [.ref 0, .int x1, .int x2] [] Q)))))))) : X (d + 5) 150 0 [.ref 0, .int x1, .int x2] [] (F, A, J, G) Q := by
  refine Y_al0 i_150_0 ?_
  refine Y_il1 i_150_1 ?_
  refine Y_iv1 (L0 := [.ref 0, .int x1]) i_150_2 ow_150 lm_9_290 ((k_0 hG).trans ow_172.symm) rfl mx_172 rfl rfl hd_150 ?_
  refine Y_al0 i_172_0 ?_
  refine Y_gR i_172_1 ow_172 lf_9_48 (k_0 hG) (r_0_7 hG) ?_
  refine Y_gR i_172_4 ow_172 lf_9_57 (k_21 hG) (r_21_0 hG) ?_
  refine Y_il1 i_172_7 ?_
  have o1 := h.1
  replace h := h.2
  refine Y_iv1 (L0 := [.ref 27, .int x1, .null]) i_172_8 ow_172 lm_9_187 ((k_27 hG).trans ow_77.symm) rfl mx_77 rfl rfl hd_172 ?_
  refine c_77 hG tw_27 o1 (KKi' (v' := (lvI (A 28) (F 27 1) x1)) (by simp [wF, wJ, va_up, cpR, bF, bA]) ?_)
  refine Y_iconst (v := (-1)) i_172_11 (by decide) ?_
  refine Y_cne i_172_12 (fun e2 => ?_) (fun e2 => ?_)
  · replace h := h.1 e2
    exact Y_thr i_172_15 ow_172 lc_9_157 (by decide +kernel) rfl (KKe h)
  · replace h := h.2 e2
    refine Y_vret i_172_26 rt_172 (KKv ?_)
    refine Y_il2 i_150_5 ?_
    refine Y_zlt i_150_6 (fun e3 => ?_) (fun e3 => ?_)
    · replace h := h.1 e3
      exact Y_thr i_150_15 ow_150 lc_9_88 (by decide +kernel) rfl h
    · replace h := h.2 e3
      refine Y_il2 i_150_9 ?_
      refine Y_bipush (v := 99) i_150_10 (by decide) ?_
      refine Y_cle i_150_12 (fun e4 => ?_) (fun e4 => ?_)
      · replace h := h.1 e4
        exact Y_thr i_150_15 ow_150 lc_9_88 (by decide +kernel) rfl h
      · replace h := h.2 e4
        refine Y_al0 i_150_26 ?_
        refine Y_gR i_150_27 ow_150 lf_9_64 (k_0 hG) (r_0_9 hG) ?_
        refine Y_il1 i_150_30 ?_
        refine Y_il2 i_150_31 ?_
        exact Y_iv2 (L0 := [.ref 49, .int x1, .int x2]) i_150_32 ow_150 lm_9_295 ((k_49 hG).trans ow_110.symm) rfl mx_110 rfl rfl hd_150 h
theorem k_150_35 {d : Nat} {F A : Nat → Nat → Int32} {J : Nat → Nat → Int64} {G : pG} {Q : pR → pM → Prop} {SL p q : Nat} {x1 x2 r : Int32} (hG : Geo G SL p q) (h : Q (.inl (some (.int r))) (F, A, J, G)) : KK (d + 5) 150 35 [.ref 0, .int x1, .int x2] [] Q (.inl (some (.int r))) (F, A, J, G) := by
  refine KKi ?_
  exact Y_iret i_150_35 rt_150 h
/- 151 TableTower.fair()I -/
theorem t_151_0 {d : Nat} {F A : Nat → Nat → Int32} {J : Nat → Nat → Int64} {G : pG} {Q : pR → pM → Prop} {SL p q : Nat} (hG : Geo G SL p q) (h : X (d + 4) 114 0 [.ref 49, .null] [] (F, A, J, G) (KK (d + 5) 151 7 [.ref 0] [] Q)) : X (d + 5) 151 0 [.ref 0] [] (F, A, J, G) Q := by
  refine Y_al0 i_151_0 ?_
  refine Y_gR i_151_1 ow_151 lf_9_64 (k_0 hG) (r_0_9 hG) ?_
  exact Y_iv0 (L0 := [.ref 49, .null]) i_151_4 ow_151 lm_9_298 ((k_49 hG).trans ow_114.symm) rfl mx_114 rfl rfl hd_151 h
theorem k_151_7 {d : Nat} {F A : Nat → Nat → Int32} {J : Nat → Nat → Int64} {G : pG} {Q : pR → pM → Prop} {SL p q : Nat} {r : Int32} (hG : Geo G SL p q) (h : Q (.inl (some (.int r))) (F, A, J, G)) : KK (d + 5) 151 7 [.ref 0] [] Q (.inl (some (.int r))) (F, A, J, G) := by
  refine KKi ?_
  exact Y_iret i_151_7 rt_151 h
/- 152 TableTower.out(I)I -/
theorem t_152_0 {d : Nat} {F A : Nat → Nat → Int32} {J : Nat → Nat → Int64} {G : pG} {Q : pR → pM → Prop} {SL p q : Nat} {x1 : Int32} (hG : Geo G SL p q) (h : hB (F 27 1) = true ∧ (((lvI (A 28) (F 27 1) x1) = (-1) → Q (.inr 101) (F, A, J, gThr G)) ∧ (¬ (lvI (A 28) (F 27 1) x1) = (-1) → X (d + 6) 107 0 [.ref 49, .int x1, .null, .null, .null, .null] [] (F, A, J, G) (KK (d + 7) 152 13 [.ref 0, .int x1] [] Q)))) : X (d + 7) 152 0 [.ref 0, .int x1] [] (F, A, J, G) Q := by
  refine Y_al0 i_152_0 ?_
  refine Y_il1 i_152_1 ?_
  refine Y_iv1 (L0 := [.ref 0, .int x1]) i_152_2 ow_152 lm_9_290 ((k_0 hG).trans ow_172.symm) rfl mx_172 rfl rfl hd_152 ?_
  refine Y_al0 i_172_0 ?_
  refine Y_gR i_172_1 ow_172 lf_9_48 (k_0 hG) (r_0_7 hG) ?_
  refine Y_gR i_172_4 ow_172 lf_9_57 (k_21 hG) (r_21_0 hG) ?_
  refine Y_il1 i_172_7 ?_
  have o1 := h.1
  replace h := h.2
  refine Y_iv1 (L0 := [.ref 27, .int x1, .null]) i_172_8 ow_172 lm_9_187 ((k_27 hG).trans ow_77.symm) rfl mx_77 rfl rfl hd_172 ?_
  refine c_77 hG tw_27 o1 (KKi' (v' := (lvI (A 28) (F 27 1) x1)) (by simp [wF, wJ, va_up, cpR, bF, bA]) ?_)
  refine Y_iconst (v := (-1)) i_172_11 (by decide) ?_
  refine Y_cne i_172_12 (fun e2 => ?_) (fun e2 => ?_)
  · replace h := h.1 e2
    exact Y_thr i_172_15 ow_172 lc_9_157 (by decide +kernel) rfl (KKe h)
  · replace h := h.2 e2
    refine Y_vret i_172_26 rt_172 (KKv ?_)
    refine Y_al0 i_152_5 ?_
    refine Y_gR i_152_6 ow_152 lf_9_64 (k_0 hG) (r_0_9 hG) ?_
    refine Y_il1 i_152_9 ?_
    exact Y_iv1 (L0 := [.ref 49, .int x1, .null, .null, .null, .null]) i_152_10 ow_152 lm_9_301 ((k_49 hG).trans ow_107.symm) rfl mx_107 rfl rfl hd_152 h
theorem k_152_13 {d : Nat} {F A : Nat → Nat → Int32} {J : Nat → Nat → Int64} {G : pG} {Q : pR → pM → Prop} {SL p q : Nat} {x1 r : Int32} (hG : Geo G SL p q) (h : Q (.inl (some (.int r))) (F, A, J, G)) : KK (d + 7) 152 13 [.ref 0, .int x1] [] Q (.inl (some (.int r))) (F, A, J, G) := by
  refine KKi ?_
  exact Y_iret i_152_13 rt_152 h
/- 153 TableTower.oneWedge()I -/
theorem t_153_0 {d : Nat} {F A : Nat → Nat → Int32} {J : Nat → Nat → Int64} {G : pG} {Q : pR → pM → Prop} {SL p q : Nat} (hG : Geo G SL p q) (h : X (d + 5) 115 0 [.ref 49, .null, .null, .null] [] (F, A, J, G) (KK (d + 6) 153 7 [.ref 0] [] Q)) : X (d + 6) 153 0 [.ref 0] [] (F, A, J, G) Q := by
  refine Y_al0 i_153_0 ?_
  refine Y_gR i_153_1 ow_153 lf_9_64 (k_0 hG) (r_0_9 hG) ?_
  exact Y_iv0 (L0 := [.ref 49, .null, .null, .null]) i_153_4 ow_153 lm_9_304 ((k_49 hG).trans ow_115.symm) rfl mx_115 rfl rfl hd_153 h
theorem k_153_7 {d : Nat} {F A : Nat → Nat → Int32} {J : Nat → Nat → Int64} {G : pG} {Q : pR → pM → Prop} {SL p q : Nat} {r : Int32} (hG : Geo G SL p q) (h : Q (.inl (some (.int r))) (F, A, J, G)) : KK (d + 6) 153 7 [.ref 0] [] Q (.inl (some (.int r))) (F, A, J, G) := by
  refine KKi ?_
  exact Y_iret i_153_7 rt_153 h
/- 154 TableTower.lifted(II)J -/
theorem t_154_0 {d : Nat} {F A : Nat → Nat → Int32} {J : Nat → Nat → Int64} {G : pG} {Q : pR → pM → Prop} {SL p q : Nat} {x1 x2 : Int32} (hG : Geo G SL p q) (h : (((x1 &&& ((((1 : Int32) <<< ((F 12 0) &&& 31)) - 1) ^^^ (-1))) = 0 → ((x2 < 0 → Q (.inr 100) (F, A, J, gThr G)) ∧ (¬ x2 < 0 → ((10 < x2 → Q (.inr 100) (F, A, J, gThr G)) ∧ (¬ 10 < x2 → X (d + 5) 19 0 [.ref 61, .int x1, .int x2] [] (F, A, J, G) (KK (d + 6) 154 44 [.ref 0, .int x1, .int x2] [] Q)))))) ∧ (¬ (x1 &&& ((((1 : Int32) <<< ((F 12 0) &&& 31)) - 1) ^^^ (-1))) = 0 → Q (.inr 100) (F, A, J, gThr G)))) : X (d + 6) 154 0 [.ref 0, .int x1, .int x2] [] (F, A, J, G) Q := by
  refine Y_il1 i_154_0 ?_
  refine Y_al0 i_154_1 ?_
  refine Y_gR i_154_2 ow_154 lf_9_40 (k_0 hG) (r_0_6 hG) ?_
  refine Y_iv0 (L0 := [.ref 12]) i_154_5 ow_154 lm_9_216 ((k_12 hG).trans ow_100.symm) rfl mx_100 rfl rfl hd_154 ?_
  refine Y_iconst (v := 1) i_100_0 (by decide) ?_
  refine Y_al0 i_100_1 ?_
  refine Y_gI (v := (F 12 0)) i_100_2 ow_100 lf_7_37 (by decide) (k_12 hG) rfl ?_
  refine Y_ishl i_100_5 ?_
  refine Y_iconst (v := 1) i_100_6 (by decide) ?_
  refine Y_isub i_100_7 ?_
  refine Y_iret i_100_8 rt_100 (KKi ?_)
  refine Y_iconst (v := (-1)) i_154_8 (by decide) ?_
  refine Y_ixor i_154_9 ?_
  refine Y_iand i_154_10 ?_
  refine Y_zne i_154_11 (fun e1 => ?_) (fun e1 => ?_)
  · replace h := h.1 e1
    refine Y_il2 i_154_14 ?_
    refine Y_zlt i_154_15 (fun e2 => ?_) (fun e2 => ?_)
    · replace h := h.1 e2
      exact Y_thr i_154_24 ow_154 lc_9_88 (by decide +kernel) rfl h
    · replace h := h.2 e2
      refine Y_il2 i_154_18 ?_
      refine Y_bipush (v := 10) i_154_19 (by decide) ?_
      refine Y_cle i_154_21 (fun e3 => ?_) (fun e3 => ?_)
      · replace h := h.1 e3
        exact Y_thr i_154_24 ow_154 lc_9_88 (by decide +kernel) rfl h
      · replace h := h.2 e3
        refine Y_al0 i_154_35 ?_
        refine Y_gR i_154_36 ow_154 lf_9_73 (k_0 hG) (r_0_10 hG) ?_
        refine Y_il1 i_154_39 ?_
        refine Y_il2 i_154_40 ?_
        exact Y_iv2 (L0 := [.ref 61, .int x1, .int x2]) i_154_41 ow_154 lm_9_272 ((k_61 hG).trans ow_19.symm) rfl mx_19 rfl rfl hd_154 h
  · replace h := h.2 e1
    exact Y_thr i_154_24 ow_154 lc_9_88 (by decide +kernel) rfl h
theorem k_154_44 {d : Nat} {F A : Nat → Nat → Int32} {J : Nat → Nat → Int64} {G : pG} {Q : pR → pM → Prop} {SL p q : Nat} {x1 x2 : Int32} {r : Int64} (hG : Geo G SL p q) (h : Q (.inl (some (.long r))) (F, A, J, G)) : KK (d + 6) 154 44 [.ref 0, .int x1, .int x2] [] Q (.inl (some (.long r))) (F, A, J, G) := by
  refine KKl ?_
  exact Y_lret i_154_44 rt_154 h
/- 155 TableTower.swap()I -/
theorem t_155_0 {d : Nat} {F A : Nat → Nat → Int32} {J : Nat → Nat → Int64} {G : pG} {Q : pR → pM → Prop} {SL p q : Nat} (hG : Geo G SL p q) (h : X (d + 5) 109 0 [.ref 49, .null, .null, .null, .null, .null] [] (F, A, J, G) (KK (d + 6) 155 7 [.ref 0] [] Q)) : X (d + 6) 155 0 [.ref 0] [] (F, A, J, G) Q := by
  refine Y_al0 i_155_0 ?_
  refine Y_gR i_155_1 ow_155 lf_9_64 (k_0 hG) (r_0_9 hG) ?_
  exact Y_iv0 (L0 := [.ref 49, .null, .null, .null, .null, .null]) i_155_4 ow_155 lm_9_309 ((k_49 hG).trans ow_109.symm) rfl mx_109 rfl rfl hd_155 h
theorem k_155_7 {d : Nat} {F A : Nat → Nat → Int32} {J : Nat → Nat → Int64} {G : pG} {Q : pR → pM → Prop} {SL p q : Nat} {r : Int32} (hG : Geo G SL p q) (h : Q (.inl (some (.int r))) (F, A, J, G)) : KK (d + 6) 155 7 [.ref 0] [] Q (.inl (some (.int r))) (F, A, J, G) := by
  refine KKi ?_
  exact Y_iret i_155_7 rt_155 h
end Tr14d
