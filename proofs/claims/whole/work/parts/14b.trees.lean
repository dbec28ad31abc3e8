section Tr14b
/- 175 Model.thrown()I -/
theorem t_175_0 {d : Nat} {F A : Nat → Nat → Int32} {J : Nat → Nat → Int64} {G : pG} {Q : pR → pM → Prop} {SL p q : Nat} (hG : Geo G SL p q) (h : Q (.inl (some (.int (F 68 3)))) (F, A, J, G)) : X d 175 0 [.ref 68] [] (F, A, J, G) Q := by
  refine Y_al0 i_175_0 ?_
  refine Y_gI (v := (F 68 3)) i_175_1 ow_175 lf_10_143 (by decide) (k_68 hG) rfl ?_
  exact Y_iret i_175_4 rt_175 h
/- 176 Model.fail(I)I -/
theorem t_176_0 {d : Nat} {F A : Nat → Nat → Int32} {J : Nat → Nat → Int64} {G : pG} {Q : pR → pM → Prop} {SL p q : Nat} {x1 : Int32} (hG : Geo G SL p q) (h : Q (.inl (some (.int 0))) ((wF F 68 3 x1), A, J, G)) : X d 176 0 [.ref 68, .int x1] [] (F, A, J, G) Q := by
  refine Y_al0 i_176_0 ?_
  refine Y_il1 i_176_1 ?_
  refine Y_pI i_176_2 ow_176 lf_10_143 (k_68 hG) ?_
  refine Y_iconst (v := 0) i_176_5 (by decide) ?_
  exact Y_iret i_176_6 rt_176 h
/- 177 Model.failing(I)Z -/
theorem t_177_0 {d : Nat} {F A : Nat → Nat → Int32} {J : Nat → Nat → Int64} {G : pG} {Q : pR → pM → Prop} {SL p q : Nat} {x1 : Int32} (hG : Geo G SL p q) (h : Q (.inl (some (.int 0))) ((wF F 68 3 x1), A, J, G)) : X d 177 0 [.ref 68, .int x1] [] (F, A, J, G) Q := by
  refine Y_al0 i_177_0 ?_
  refine Y_il1 i_177_1 ?_
  refine Y_pI i_177_2 ow_177 lf_10_143 (k_68 hG) ?_
  refine Y_iconst (v := 0) i_177_5 (by decide) ?_
  exact Y_bret i_177_6 rt_177 (by decide) h
/- 182 Model.feed(IIIII)I -/
theorem t_182_0 {d : Nat} {F A : Nat → Nat → Int32} {J : Nat → Nat → Int64} {G : pG} {Q : pR → pM → Prop} {SL p q : Nat} {x1 x2 x3 x4 x5 : Int32} (hG : Geo G SL p q) (h : ((600 < ((F 68 13) + 20) → Q (.inl (some (.int (-1)))) ((wF F 68 3 0), A, J, G)) ∧ (¬ 600 < ((F 68 13) + 20) → X d 182 23 [.ref 68, .int x1, .int x2, .int x3, .int x4, .int x5, .int 0, .null] [] ((wF F 68 3 0), A, J, G) Q))) : X d 182 0 [.ref 68, .int x1, .int x2, .int x3, .int x4, .int x5, .null, .null] [] (F, A, J, G) Q := by
  refine Y_al0 i_182_0 ?_
  refine Y_iconst (v := 0) i_182_1 (by decide) ?_
  refine Y_pI i_182_2 ow_182 lf_10_143 (k_68 hG) ?_
  refine Y_al0 i_182_5 ?_
  refine Y_gI (v := (F 68 13)) i_182_6 ow_182 lf_10_153 (by decide) (k_68 hG) (by simp [wF, wJ, va_up, cpR, bF, bA]) ?_
  refine Y_bipush (v := 20) i_182_9 (by decide) ?_
  refine Y_iadd i_182_11 ?_
  refine Y_sipush (v := 600) i_182_12 (by decide) ?_
  refine Y_cle i_182_15 (fun e1 => ?_) (fun e1 => ?_)
  · replace h := h.1 e1
    refine Y_iconst (v := (-1)) i_182_18 (by decide) ?_
    exact Y_iret i_182_19 rt_182 h
  · replace h := h.2 e1
    refine Y_iconst (v := 0) i_182_20 (by decide) ?_
    refine Y_is6 i_182_21 rfl ?_
    exact h
theorem t_182_23 {d : Nat} {F A : Nat → Nat → Int32} {J : Nat → Nat → Int64} {G : pG} {Q : pR → pM → Prop} {SL p q : Nat} {x1 x2 x3 x4 x5 x6 : Int32} {v7 : Value} (hG : Geo G SL p q) (h : ((x6 < 20 → ((x6 < 4 → inB (F 68 13) 600 = true ∧ (X d 182 23 [.ref 68, .int x1, .int x2, .int x3, .int x4, .int x5, .int (x6 + 1), .int x1] [] ((wF F 68 13 ((F 68 13) + 1)), (wF A 80 (F 68 13).toNatClampNeg ((x1 >>> (((24 : Int32) - ((8 : Int32) * (jrem x6 4))) &&& 31)) &&& 255)), J, G) Q)) ∧ (¬ x6 < 4 → ((x6 < 8 → inB (F 68 13) 600 = true ∧ (X d 182 23 [.ref 68, .int x1, .int x2, .int x3, .int x4, .int x5, .int (x6 + 1), .int x2] [] ((wF F 68 13 ((F 68 13) + 1)), (wF A 80 (F 68 13).toNatClampNeg ((x2 >>> (((24 : Int32) - ((8 : Int32) * (jrem x6 4))) &&& 31)) &&& 255)), J, G) Q)) ∧ (¬ x6 < 8 → ((x6 < 12 → inB (F 68 13) 600 = true ∧ (X d 182 23 [.ref 68, .int x1, .int x2, .int x3, .int x4, .int x5, .int (x6 + 1), .int x3] [] ((wF F 68 13 ((F 68 13) + 1)), (wF A 80 (F 68 13).toNatClampNeg ((x3 >>> (((24 : Int32) - ((8 : Int32) * (jrem x6 4))) &&& 31)) &&& 255)), J, G) Q)) ∧ (¬ x6 < 12 → ((x6 < 16 → inB (F 68 13) 600 = true ∧ (X d 182 23 [.ref 68, .int x1, .int x2, .int x3, .int x4, .int x5, .int (x6 + 1), .int x4] [] ((wF F 68 13 ((F 68 13) + 1)), (wF A 80 (F 68 13).toNatClampNeg ((x4 >>> (((24 : Int32) - ((8 : Int32) * (jrem x6 4))) &&& 31)) &&& 255)), J, G) Q)) ∧ (¬ x6 < 16 → inB (F 68 13) 600 = true ∧ (X d 182 23 [.ref 68, .int x1, .int x2, .int x3, .int x4, .int x5, .int (x6 + 1), .int x5] [] ((wF F 68 13 ((F 68 13) + 1)), (wF A 80 (F 68 13).toNatClampNeg ((x5 >>> (((24 : Int32) - ((8 : Int32) * (jrem x6 4))) &&& 31)) &&& 255)), J, G) Q)))))))))) ∧ (¬ x6 < 20 → Q (.inl (some (.int (F 68 13)))) (F, A, J, G)))) : X d 182 23 [.ref 68, .int x1, .int x2, .int x3, .int x4, .int x5, .int x6, v7] [] (F, A, J, G) Q := by
  refine Y_il6 i_182_23 ?_
  refine Y_bipush (v := 20) i_182_25 (by decide) ?_
  refine Y_cge i_182_27 (fun e1 => ?_) (fun e1 => ?_)
  · replace h := h.1 e1
    refine Y_il6 i_182_30 ?_
    refine Y_iconst (v := 4) i_182_32 (by decide) ?_
    refine Y_cge i_182_33 (fun e2 => ?_) (fun e2 => ?_)
    · replace h := h.1 e2
      refine Y_il1 i_182_36 ?_
      refine Y_goto i_182_37 ?_
      refine Y_is7 i_182_76 rfl ?_
      refine Y_al0 i_182_78 ?_
      refine Y_gR i_182_79 ow_182 lf_10_63 (k_68 hG) (r_68_12 hG) ?_
      refine Y_al0 i_182_82 ?_
      refine Y_gI (v := (F 68 13)) i_182_83 ow_182 lf_10_153 (by decide) (k_68 hG) rfl ?_
      refine Y_il7 i_182_86 ?_
      refine Y_bipush (v := 24) i_182_88 (by decide) ?_
      refine Y_bipush (v := 8) i_182_90 (by decide) ?_
      refine Y_il6 i_182_92 ?_
      refine Y_iconst (v := 4) i_182_94 (by decide) ?_
      refine Y_irem i_182_95 (by decide) ?_
      refine Y_imul i_182_96 ?_
      refine Y_isub i_182_97 ?_
      refine Y_ishr i_182_98 ?_
      refine Y_sipush (v := 255) i_182_99 (by decide) ?_
      refine Y_iand i_182_102 ?_
      have o3 := h.1
      replace h := h.2
      refine Y_iast i_182_103 (k_80 hG) (l_80 hG) o3 rfl ?_
      refine Y_al0 i_182_104 ?_
      refine Y_dup i_182_105 rfl ?_
      refine Y_gI (v := (F 68 13)) i_182_106 ow_182 lf_10_153 (by decide) (k_68 hG) rfl ?_
      refine Y_iconst (v := 1) i_182_109 (by decide) ?_
      refine Y_iadd i_182_110 ?_
      refine Y_pI i_182_111 ow_182 lf_10_153 (k_68 hG) ?_
      refine Y_ii6 (v := 1) i_182_114 (by decide) rfl ?_
      refine Y_goto i_182_117 ?_
      exact h
    · replace h := h.2 e2
      refine Y_il6 i_182_40 ?_
      refine Y_bipush (v := 8) i_182_42 (by decide) ?_
      refine Y_cge i_182_44 (fun e4 => ?_) (fun e4 => ?_)
      · replace h := h.1 e4
        refine Y_il2 i_182_47 ?_
        refine Y_goto i_182_48 ?_
        refine Y_is7 i_182_76 rfl ?_
        refine Y_al0 i_182_78 ?_
        refine Y_gR i_182_79 ow_182 lf_10_63 (k_68 hG) (r_68_12 hG) ?_
        refine Y_al0 i_182_82 ?_
        refine Y_gI (v := (F 68 13)) i_182_83 ow_182 lf_10_153 (by decide) (k_68 hG) rfl ?_
        refine Y_il7 i_182_86 ?_
        refine Y_bipush (v := 24) i_182_88 (by decide) ?_
        refine Y_bipush (v := 8) i_182_90 (by decide) ?_
        refine Y_il6 i_182_92 ?_
        refine Y_iconst (v := 4) i_182_94 (by decide) ?_
        refine Y_irem i_182_95 (by decide) ?_
        refine Y_imul i_182_96 ?_
        refine Y_isub i_182_97 ?_
        refine Y_ishr i_182_98 ?_
        refine Y_sipush (v := 255) i_182_99 (by decide) ?_
        refine Y_iand i_182_102 ?_
        have o5 := h.1
        replace h := h.2
        refine Y_iast i_182_103 (k_80 hG) (l_80 hG) o5 rfl ?_
        refine Y_al0 i_182_104 ?_
        refine Y_dup i_182_105 rfl ?_
        refine Y_gI (v := (F 68 13)) i_182_106 ow_182 lf_10_153 (by decide) (k_68 hG) rfl ?_
        refine Y_iconst (v := 1) i_182_109 (by decide) ?_
        refine Y_iadd i_182_110 ?_
        refine Y_pI i_182_111 ow_182 lf_10_153 (k_68 hG) ?_
        refine Y_ii6 (v := 1) i_182_114 (by decide) rfl ?_
        refine Y_goto i_182_117 ?_
        exact h
      · replace h := h.2 e4
        refine Y_il6 i_182_51 ?_
        refine Y_bipush (v := 12) i_182_53 (by decide) ?_
        refine Y_cge i_182_55 (fun e6 => ?_) (fun e6 => ?_)
        · replace h := h.1 e6
          refine Y_il3 i_182_58 ?_
          refine Y_goto i_182_59 ?_
          refine Y_is7 i_182_76 rfl ?_
          refine Y_al0 i_182_78 ?_
          refine Y_gR i_182_79 ow_182 lf_10_63 (k_68 hG) (r_68_12 hG) ?_
          refine Y_al0 i_182_82 ?_
          refine Y_gI (v := (F 68 13)) i_182_83 ow_182 lf_10_153 (by decide) (k_68 hG) rfl ?_
          refine Y_il7 i_182_86 ?_
          refine Y_bipush (v := 24) i_182_88 (by decide) ?_
          refine Y_bipush (v := 8) i_182_90 (by decide) ?_
          refine Y_il6 i_182_92 ?_
          refine Y_iconst (v := 4) i_182_94 (by decide) ?_
          refine Y_irem i_182_95 (by decide) ?_
          refine Y_imul i_182_96 ?_
          refine Y_isub i_182_97 ?_
          refine Y_ishr i_182_98 ?_
          refine Y_sipush (v := 255) i_182_99 (by decide) ?_
          refine Y_iand i_182_102 ?_
          have o7 := h.1
          replace h := h.2
          refine Y_iast i_182_103 (k_80 hG) (l_80 hG) o7 rfl ?_
          refine Y_al0 i_182_104 ?_
          refine Y_dup i_182_105 rfl ?_
          refine Y_gI (v := (F 68 13)) i_182_106 ow_182 lf_10_153 (by decide) (k_68 hG) rfl ?_
          refine Y_iconst (v := 1) i_182_109 (by decide) ?_
          refine Y_iadd i_182_110 ?_
          refine Y_pI i_182_111 ow_182 lf_10_153 (k_68 hG) ?_
          refine Y_ii6 (v := 1) i_182_114 (by decide) rfl ?_
          refine Y_goto i_182_117 ?_
          exact h
        · replace h := h.2 e6
          refine Y_il6 i_182_62 ?_
          refine Y_bipush (v := 16) i_182_64 (by decide) ?_
          refine Y_cge i_182_66 (fun e8 => ?_) (fun e8 => ?_)
          · replace h := h.1 e8
            refine Y_il4 i_182_69 ?_
            refine Y_goto i_182_71 ?_
            refine Y_is7 i_182_76 rfl ?_
            refine Y_al0 i_182_78 ?_
            refine Y_gR i_182_79 ow_182 lf_10_63 (k_68 hG) (r_68_12 hG) ?_
            refine Y_al0 i_182_82 ?_
            refine Y_gI (v := (F 68 13)) i_182_83 ow_182 lf_10_153 (by decide) (k_68 hG) rfl ?_
            refine Y_il7 i_182_86 ?_
            refine Y_bipush (v := 24) i_182_88 (by decide) ?_
            refine Y_bipush (v := 8) i_182_90 (by decide) ?_
            refine Y_il6 i_182_92 ?_
            refine Y_iconst (v := 4) i_182_94 (by decide) ?_
            refine Y_irem i_182_95 (by decide) ?_
            refine Y_imul i_182_96 ?_
            refine Y_isub i_182_97 ?_
            refine Y_ishr i_182_98 ?_
            refine Y_sipush (v := 255) i_182_99 (by decide) ?_
            refine Y_iand i_182_102 ?_
            have o9 := h.1
            replace h := h.2
            refine Y_iast i_182_103 (k_80 hG) (l_80 hG) o9 rfl ?_
            refine Y_al0 i_182_104 ?_
            refine Y_dup i_182_105 rfl ?_
            refine Y_gI (v := (F 68 13)) i_182_106 ow_182 lf_10_153 (by decide) (k_68 hG) rfl ?_
            refine Y_iconst (v := 1) i_182_109 (by decide) ?_
            refine Y_iadd i_182_110 ?_
            refine Y_pI i_182_111 ow_182 lf_10_153 (k_68 hG) ?_
            refine Y_ii6 (v := 1) i_182_114 (by decide) rfl ?_
            refine Y_goto i_182_117 ?_
            exact h
          · replace h := h.2 e8
            refine Y_il5 i_182_74 ?_
            refine Y_is7 i_182_76 rfl ?_
            refine Y_al0 i_182_78 ?_
            refine Y_gR i_182_79 ow_182 lf_10_63 (k_68 hG) (r_68_12 hG) ?_
            refine Y_al0 i_182_82 ?_
            refine Y_gI (v := (F 68 13)) i_182_83 ow_182 lf_10_153 (by decide) (k_68 hG) rfl ?_
            refine Y_il7 i_182_86 ?_
            refine Y_bipush (v := 24) i_182_88 (by decide) ?_
            refine Y_bipush (v := 8) i_182_90 (by decide) ?_
            refine Y_il6 i_182_92 ?_
            refine Y_iconst (v := 4) i_182_94 (by decide) ?_
            refine Y_irem i_182_95 (by decide) ?_
            refine Y_imul i_182_96 ?_
            refine Y_isub i_182_97 ?_
            refine Y_ishr i_182_98 ?_
            refine Y_sipush (v := 255) i_182_99 (by decide) ?_
            refine Y_iand i_182_102 ?_
            have o10 := h.1
            replace h := h.2
            refine Y_iast i_182_103 (k_80 hG) (l_80 hG) o10 rfl ?_
            refine Y_al0 i_182_104 ?_
            refine Y_dup i_182_105 rfl ?_
            refine Y_gI (v := (F 68 13)) i_182_106 ow_182 lf_10_153 (by decide) (k_68 hG) rfl ?_
            refine Y_iconst (v := 1) i_182_109 (by decide) ?_
            refine Y_iadd i_182_110 ?_
            refine Y_pI i_182_111 ow_182 lf_10_153 (k_68 hG) ?_
            refine Y_ii6 (v := 1) i_182_114 (by decide) rfl ?_
            refine Y_goto i_182_117 ?_
            exact h
  · replace h := h.2 e1
    refine Y_al0 i_182_120 ?_
    refine Y_gI (v := (F 68 13)) i_182_121 ow_182 lf_10_153 (by decide) (k_68 hG) rfl ?_
    exact Y_iret i_182_124 rt_182 h
/- 187 Model.stepOn()V -/
theorem t_187_0 {d : Nat} {F A : Nat → Nat → Int32} {J : Nat → Nat → Int64} {G : pG} {Q : pR → pM → Prop} {SL p q : Nat} (hG : Geo G SL p q) (h : ((F 68 14) < F 68 15 → inB (F 68 14) 600 = true) ∧ (((btS (A 80) (F 68 15) (F 68 14)) = 32 → X (d + 1) 187 0 [.ref 68, .null] [] ((wF F 68 14 ((F 68 14) + 1)), A, J, G) Q) ∧ (¬ (btS (A 80) (F 68 15) (F 68 14)) = 32 → (((btS (A 80) (F 68 15) (F 68 14)) = 10 → X (d + 1) 187 0 [.ref 68, .null] [] ((wF F 68 14 ((F 68 14) + 1)), A, J, G) Q) ∧ (¬ (btS (A 80) (F 68 15) (F 68 14)) = 10 → ((F 68 14) < (wF F 68 18 (F 68 14)) 68 15 → inB (F 68 14) 600 = true) ∧ (((btS (A 80) ((wF F 68 18 (F 68 14)) 68 15) (F 68 14)) = (-1) → Q (.inl none) ((wF (wF (wF F 68 18 (F 68 14)) 68 16 0) 68 19 (F 68 14)), A, J, G)) ∧ (¬ (btS (A 80) ((wF F 68 18 (F 68 14)) 68 15) (F 68 14)) = (-1) → (((letB (btS (A 80) ((wF F 68 18 (F 68 14)) 68 15) (F 68 14))) = true → X (d + 1) 187 76 [.ref 68, .int (btS (A 80) ((wF F 68 18 (F 68 14)) 68 15) (F 68 14))] [] ((wF F 68 18 (F 68 14)), A, J, G) Q) ∧ ((letB (btS (A 80) ((wF F 68 18 (F 68 14)) 68 15) (F 68 14))) = false → (((digB (btS (A 80) ((wF F 68 18 (F 68 14)) 68 15) (F 68 14))) = true → X (d + 1) 187 123 [.ref 68, .int (btS (A 80) ((wF F 68 18 (F 68 14)) 68 15) (F 68 14))] [] ((wF (wF F 68 18 (F 68 14)) 68 17 0), A, J, G) Q) ∧ ((digB (btS (A 80) ((wF F 68 18 (F 68 14)) 68 15) (F 68 14))) = false → (((mrkB (btS (A 80) ((wF F 68 18 (F 68 14)) 68 15) (F 68 14))) = true → Q (.inl none) ((wF (wF (wF (wF F 68 18 (F 68 14)) 68 14 ((F 68 14) + 1)) 68 16 3) 68 19 ((F 68 14) + 1)), A, J, G)) ∧ ((mrkB (btS (A 80) ((wF F 68 18 (F 68 14)) 68 15) (F 68 14))) = false → Q (.inl none) ((wF (wF (wF (wF F 68 18 (F 68 14)) 68 14 ((F 68 14) + 1)) 68 16 4) 68 19 ((F 68 14) + 1)), A, J, G)))))))))))))) : X (d + 1) 187 0 [.ref 68, .null] [] (F, A, J, G) Q := by
  refine Y_al0 i_187_0 ?_
  refine Y_al0 i_187_1 ?_
  refine Y_gI (v := (F 68 14)) i_187_2 ow_187 lf_10_159 (by decide) (k_68 hG) rfl ?_
  have o1 := h.1
  replace h := h.2
  refine Y_iv1 (L0 := [.ref 68, .int (F 68 14)]) i_187_5 ow_187 lm_10_162 ((k_68 hG).trans ow_183.symm) rfl mx_183 rfl rfl hd_187 ?_
  refine c_183 hG o1 (KKi ?_)
  refine Y_bipush (v := 32) i_187_8 (by decide) ?_
  refine Y_ceq i_187_10 (fun e2 => ?_) (fun e2 => ?_)
  · replace h := h.1 e2
    refine Y_al0 i_187_26 ?_
    refine Y_dup i_187_27 rfl ?_
    refine Y_gI (v := (F 68 14)) i_187_28 ow_187 lf_10_159 (by decide) (k_68 hG) rfl ?_
    refine Y_iconst (v := 1) i_187_31 (by decide) ?_
    refine Y_iadd i_187_32 ?_
    refine Y_pI i_187_33 ow_187 lf_10_159 (k_68 hG) ?_
    refine Y_goto i_187_36 ?_
    exact h
  · replace h := h.2 e2
    refine Y_al0 i_187_13 ?_
    refine Y_al0 i_187_14 ?_
    refine Y_gI (v := (F 68 14)) i_187_15 ow_187 lf_10_159 (by decide) (k_68 hG) rfl ?_
    refine Y_iv1 (L0 := [.ref 68, .int (F 68 14)]) i_187_18 ow_187 lm_10_162 ((k_68 hG).trans ow_183.symm) rfl mx_183 rfl rfl hd_187 ?_
    refine c_183 hG o1 (KKi ?_)
    refine Y_bipush (v := 10) i_187_21 (by decide) ?_
    refine Y_cne i_187_23 (fun e3 => ?_) (fun e3 => ?_)
    · replace h := h.1 e3
      refine Y_al0 i_187_26 ?_
      refine Y_dup i_187_27 rfl ?_
      refine Y_gI (v := (F 68 14)) i_187_28 ow_187 lf_10_159 (by decide) (k_68 hG) rfl ?_
      refine Y_iconst (v := 1) i_187_31 (by decide) ?_
      refine Y_iadd i_187_32 ?_
      refine Y_pI i_187_33 ow_187 lf_10_159 (k_68 hG) ?_
      refine Y_goto i_187_36 ?_
      exact h
    · replace h := h.2 e3
      refine Y_al0 i_187_39 ?_
      refine Y_al0 i_187_40 ?_
      refine Y_gI (v := (F 68 14)) i_187_41 ow_187 lf_10_159 (by decide) (k_68 hG) rfl ?_
      refine Y_pI i_187_44 ow_187 lf_10_166 (k_68 hG) ?_
      refine Y_al0 i_187_47 ?_
      refine Y_al0 i_187_48 ?_
      refine Y_gI (v := (F 68 14)) i_187_49 ow_187 lf_10_159 (by decide) (k_68 hG) (by simp [wF, wJ, va_up, cpR, bF, bA]) ?_
      have o4 := h.1
      replace h := h.2
      refine Y_iv1 (L0 := [.ref 68, .int (F 68 14)]) i_187_52 ow_187 lm_10_162 ((k_68 hG).trans ow_183.symm) rfl mx_183 rfl rfl hd_187 ?_
      refine c_183 hG o4 (KKi ?_)
      refine Y_is1 i_187_55 rfl ?_
      refine Y_il1 i_187_56 ?_
      refine Y_iconst (v := (-1)) i_187_57 (by decide) ?_
      refine Y_cne i_187_58 (fun e5 => ?_) (fun e5 => ?_)
      · replace h := h.1 e5
        refine Y_al0 i_187_61 ?_
        refine Y_iconst (v := 0) i_187_62 (by decide) ?_
        refine Y_pI i_187_63 ow_187 lf_10_169 (k_68 hG) ?_
        refine Y_goto i_187_66 ?_
        refine Y_al0 i_187_212 ?_
        refine Y_al0 i_187_213 ?_
        refine Y_gI (v := (F 68 14)) i_187_214 ow_187 lf_10_159 (by decide) (k_68 hG) (by simp [wF, wJ, va_up, cpR, bF, bA]) ?_
        refine Y_pI i_187_217 ow_187 lf_10_192 (k_68 hG) ?_
        exact Y_vret i_187_220 rt_187 h
      · replace h := h.2 e5
        refine Y_il1 i_187_69 ?_
        refine Y_is_1 (L0 := [.int (btS (A 80) ((wF F 68 18 (F 68 14)) 68 15) (F 68 14))]) i_187_70 ow_187 lm_10_172 rfl mx_184 rfl rfl hd_187 ?_
        refine c_184 hG (KKi ?_)
        refine Y_beq i_187_73 (fun e6 => ?_) (fun e6 => ?_)
        · replace h := h.1 e6
          exact h
        · replace h := h.2 e6
          refine Y_il1 i_187_111 ?_
          refine Y_is_1 (L0 := [.int (btS (A 80) ((wF F 68 18 (F 68 14)) 68 15) (F 68 14))]) i_187_112 ow_187 lm_10_176 rfl mx_185 rfl rfl hd_187 ?_
          refine c_185 hG (KKi ?_)
          refine Y_beq i_187_115 (fun e7 => ?_) (fun e7 => ?_)
          · replace h := h.1 e7
            refine Y_al0 i_187_118 ?_
            refine Y_iconst (v := 0) i_187_119 (by decide) ?_
            refine Y_pI i_187_120 ow_187 lf_10_179 (k_68 hG) ?_
            exact h
          · replace h := h.2 e7
            refine Y_al0 i_187_186 ?_
            refine Y_dup i_187_187 rfl ?_
            refine Y_gI (v := (F 68 14)) i_187_188 ow_187 lf_10_159 (by decide) (k_68 hG) (by simp [wF, wJ, va_up, cpR, bF, bA]) ?_
            refine Y_iconst (v := 1) i_187_191 (by decide) ?_
            refine Y_iadd i_187_192 ?_
            refine Y_pI i_187_193 ow_187 lf_10_159 (k_68 hG) ?_
            refine Y_al0 i_187_196 ?_
            refine Y_il1 i_187_197 ?_
            refine Y_is_1 (L0 := [.int (btS (A 80) ((wF F 68 18 (F 68 14)) 68 15) (F 68 14))]) i_187_198 ow_187 lm_10_189 rfl mx_186 rfl rfl hd_187 ?_
            refine c_186 hG (KKi ?_)
            refine Y_beq i_187_201 (fun e8 => ?_) (fun e8 => ?_)
            · replace h := h.1 e8
              refine Y_iconst (v := 3) i_187_204 (by decide) ?_
              refine Y_goto i_187_205 ?_
              refine Y_pI i_187_209 ow_187 lf_10_169 (k_68 hG) ?_
              refine Y_al0 i_187_212 ?_
              refine Y_al0 i_187_213 ?_
              refine Y_gI (v := ((F 68 14) + 1)) i_187_214 ow_187 lf_10_159 (by decide) (k_68 hG) (by simp [wF, wJ, va_up, cpR, bF, bA]) ?_
              refine Y_pI i_187_217 ow_187 lf_10_192 (k_68 hG) ?_
              exact Y_vret i_187_220 rt_187 h
            · replace h := h.2 e8
              refine Y_iconst (v := 4) i_187_208 (by decide) ?_
              refine Y_pI i_187_209 ow_187 lf_10_169 (k_68 hG) ?_
              refine Y_al0 i_187_212 ?_
              refine Y_al0 i_187_213 ?_
              refine Y_gI (v := ((F 68 14) + 1)) i_187_214 ow_187 lf_10_159 (by decide) (k_68 hG) (by simp [wF, wJ, va_up, cpR, bF, bA]) ?_
              refine Y_pI i_187_217 ow_187 lf_10_192 (k_68 hG) ?_
              exact Y_vret i_187_220 rt_187 h
theorem t_187_0 {d : Nat} {F A : Nat → Nat → Int32} {J : Nat → Nat → Int64} {G : pG} {Q : pR → pM → Prop} {SL p q : Nat} (hG : Geo G SL p q) (h : ((F 68 14) < F 68 15 → inB (F 68 14) 600 = true) ∧ (((btS (A 80) (F 68 15) (F 68 14)) = 32 → X (d + 1) 187 0 [.ref 68, .null] [] ((wF F 68 14 ((F 68 14) + 1)), A, J, G) Q) ∧ (¬ (btS (A 80) (F 68 15) (F 68 14)) = 32 → (((btS (A 80) (F 68 15) (F 68 14)) = 10 → X (d + 1) 187 0 [.ref 68, .null] [] ((wF F 68 14 ((F 68 14) + 1)), A, J, G) Q) ∧ (¬ (btS (A 80) (F 68 15) (F 68 14)) = 10 → ((F 68 14) < (wF F 68 18 (F 68 14)) 68 15 → inB (F 68 14) 600 = true) ∧ (((btS (A 80) ((wF F 68 18 (F 68 14)) 68 15) (F 68 14)) = (-1) → Q (.inl none) ((wF (wF (wF F 68 18 (F 68 14)) 68 16 0) 68 19 (F 68 14)), A, J, G)) ∧ (¬ (btS (A 80) ((wF F 68 18 (F 68 14)) 68 15) (F 68 14)) = (-1) → (((letB (btS (A 80) ((wF F 68 18 (F 68 14)) 68 15) (F 68 14))) = true → X (d + 1) 187 76 [.ref 68, .int (btS (A 80) ((wF F 68 18 (F 68 14)) 68 15) (F 68 14))] [] ((wF F 68 18 (F 68 14)), A, J, G) Q) ∧ ((letB (btS (A 80) ((wF F 68 18 (F 68 14)) 68 15) (F 68 14))) = false → (((digB (btS (A 80) ((wF F 68 18 (F 68 14)) 68 15) (F 68 14))) = true → X (d + 1) 187 123 [.ref 68, .int (btS (A 80) ((wF F 68 18 (F 68 14)) 68 15) (F 68 14))] [] ((wF (wF F 68 18 (F 68 14)) 68 17 0), A, J, G) Q) ∧ ((digB (btS (A 80) ((wF F 68 18 (F 68 14)) 68 15) (F 68 14))) = false → (((mrkB (btS (A 80) ((wF F 68 18 (F 68 14)) 68 15) (F 68 14))) = true → Q (.inl none) ((wF (wF (wF (wF F 68 18 (F 68 14)) 68 14 ((F 68 14) + 1)) 68 16 3) 68 19 ((F 68 14) + 1)), A, J, G)) ∧ ((mrkB (btS (A 80) ((wF F 68 18 (F 68 14)) 68 15) (F 68 14))) = false → Q (.inl none) ((wF (wF (wF (wF F 68 18 (F 68 14)) 68 14 ((F 68 14) + 1)) 68 16 4) 68 19 ((F 68 14) + 1)), A, J, G)))))))))))))) : X (d + 1) 187 0 [.ref 68, .null] [] (F, A, J, G) Q := by
  refine Y_al0 i_187_0 ?_
  refine Y_al0 i_187_1 ?_
  refine Y_gI (v := (F 68 14)) i_187_2 ow_187 lf_10_159 (by decide) (k_68 hG) rfl ?_
  have o1 := h.1
  replace h := h.2
  refine Y_iv1 (L0 := [.ref 68, .int (F 68 14)]) i_187_5 ow_187 lm_10_162 ((k_68 hG).trans ow_183.symm) rfl mx_183 rfl rfl hd_187 ?_
  refine c_183 hG o1 (KKi ?_)
  refine Y_bipush (v := 32) i_187_8 (by decide) ?_
  refine Y_ceq i_187_10 (fun e2 => ?_) (fun e2 => ?_)
  · replace h := h.1 e2
    refine Y_al0 i_187_26 ?_
    refine Y_dup i_187_27 rfl ?_
    refine Y_gI (v := (F 68 14)) i_187_28 ow_187 lf_10_159 (by decide) (k_68 hG) rfl ?_
    refine Y_iconst (v := 1) i_187_31 (by decide) ?_
    refine Y_iadd i_187_32 ?_
    refine Y_pI i_187_33 ow_187 lf_10_159 (k_68 hG) ?_
    refine Y_goto i_187_36 ?_
    exact h
  · replace h := h.2 e2
    refine Y_al0 i_187_13 ?_
    refine Y_al0 i_187_14 ?_
    refine Y_gI (v := (F 68 14)) i_187_15 ow_187 lf_10_159 (by decide) (k_68 hG) rfl ?_
    refine Y_iv1 (L0 := [.ref 68, .int (F 68 14)]) i_187_18 ow_187 lm_10_162 ((k_68 hG).trans ow_183.symm) rfl mx_183 rfl rfl hd_187 ?_
    refine c_183 hG o1 (KKi ?_)
    refine Y_bipush (v := 10) i_187_21 (by decide) ?_
    refine Y_cne i_187_23 (fun e3 => ?_) (fun e3 => ?_)
    · replace h := h.1 e3
      refine Y_al0 i_187_26 ?_
      refine Y_dup i_187_27 rfl ?_
      refine Y_gI (v := (F 68 14)) i_187_28 ow_187 lf_10_159 (by decide) (k_68 hG) rfl ?_
      refine Y_iconst (v := 1) i_187_31 (by decide) ?_
      refine Y_iadd i_187_32 ?_
      refine Y_pI i_187_33 ow_187 lf_10_159 (k_68 hG) ?_
      refine Y_goto i_187_36 ?_
      exact h
    · replace h := h.2 e3
      refine Y_al0 i_187_39 ?_
      refine Y_al0 i_187_40 ?_
      refine Y_gI (v := (F 68 14)) i_187_41 ow_187 lf_10_159 (by decide) (k_68 hG) rfl ?_
      refine Y_pI i_187_44 ow_187 lf_10_166 (k_68 hG) ?_
      refine Y_al0 i_187_47 ?_
      refine Y_al0 i_187_48 ?_
      refine Y_gI (v := (F 68 14)) i_187_49 ow_187 lf_10_159 (by decide) (k_68 hG) (by simp [wF, wJ, va_up, cpR, bF, bA]) ?_
      have o4 := h.1
      replace h := h.2
      refine Y_iv1 (L0 := [.ref 68, .int (F 68 14)]) i_187_52 ow_187 lm_10_162 ((k_68 hG).trans ow_183.symm) rfl mx_183 rfl rfl hd_187 ?_
      refine c_183 hG o4 (KKi ?_)
      refine Y_is1 i_187_55 rfl ?_
      refine Y_il1 i_187_56 ?_
      refine Y_iconst (v := (-1)) i_187_57 (by decide) ?_
      refine Y_cne i_187_58 (fun e5 => ?_) (fun e5 => ?_)
      · replace h := h.1 e5
        refine Y_al0 i_187_61 ?_
        refine Y_iconst (v := 0) i_187_62 (by decide) ?_
        refine Y_pI i_187_63 ow_187 lf_10_169 (k_68 hG) ?_
        refine Y_goto i_187_66 ?_
        refine Y_al0 i_187_212 ?_
        refine Y_al0 i_187_213 ?_
        refine Y_gI (v := (F 68 14)) i_187_214 ow_187 lf_10_159 (by decide) (k_68 hG) (by simp [wF, wJ, va_up, cpR, bF, bA]) ?_
        refine Y_pI i_187_217 ow_187 lf_10_192 (k_68 hG) ?_
        exact Y_vret i_187_220 rt_187 h
      · replace h := h.2 e5
        refine Y_il1 i_187_69 ?_
        refine Y_is_1 (L0 := [.int (btS (A 80) ((wF F 68 18 (F 68 14)) 68 15) (F 68 14))]) i_187_70 ow_187 lm_10_172 rfl mx_184 rfl rfl hd_187 ?_
        refine c_184 hG (KKi ?_)
        refine Y_beq i_187_73 (fun e6 => ?_) (fun e6 => ?_)
        · replace h := h.1 e6
          exact h
        · replace h := h.2 e6
          refine Y_il1 i_187_111 ?_
          refine Y_is_1 (L0 := [.int (btS (A 80) ((wF F 68 18 (F 68 14)) 68 15) (F 68 14))]) i_187_112 ow_187 lm_10_176 rfl mx_185 rfl rfl hd_187 ?_
          refine c_185 hG (KKi ?_)
          refine Y_beq i_187_115 (fun e7 => ?_) (fun e7 => ?_)
          · replace h := h.1 e7
            refine Y_al0 i_187_118 ?_
            refine Y_iconst (v := 0) i_187_119 (by decide) ?_
            refine Y_pI i_187_120 ow_187 lf_10_179 (k_68 hG) ?_
            exact h
          · replace h := h.2 e7
            refine Y_al0 i_187_186 ?_
            refine Y_dup i_187_187 rfl ?_
            refine Y_gI (v := (F 68 14)) i_187_188 ow_187 lf_10_159 (by decide) (k_68 hG) (by simp [wF, wJ, va_up, cpR, bF, bA]) ?_
            refine Y_iconst (v := 1) i_187_191 (by decide) ?_
            refine Y_iadd i_187_192 ?_
            refine Y_pI i_187_193 ow_187 lf_10_159 (k_68 hG) ?_
            refine Y_al0 i_187_196 ?_
            refine Y_il1 i_187_197 ?_
            refine Y_is_1 (L0 := [.int (btS (A 80) ((wF F 68 18 (F 68 14)) 68 15) (F 68 14))]) i_187_198 ow_187 lm_10_189 rfl mx_186 rfl rfl hd_187 ?_
            refine c_186 hG (KKi ?_)
            refine Y_beq i_187_201 (fun e8 => ?_) (fun e8 => ?_)
            · replace h := h.1 e8
              refine Y_iconst (v := 3) i_187_204 (by decide) ?_
              refine Y_goto i_187_205 ?_
              refine Y_pI i_187_209 ow_187 lf_10_169 (k_68 hG) ?_
              refine Y_al0 i_187_212 ?_
              refine Y_al0 i_187_213 ?_
              refine Y_gI (v := ((F 68 14) + 1)) i_187_214 ow_187 lf_10_159 (by decide) (k_68 hG) (by simp [wF, wJ, va_up, cpR, bF, bA]) ?_
              refine Y_pI i_187_217 ow_187 lf_10_192 (k_68 hG) ?_
              exact Y_vret i_187_220 rt_187 h
            · replace h := h.2 e8
              refine Y_iconst (v := 4) i_187_208 (by decide) ?_
              refine Y_pI i_187_209 ow_187 lf_10_169 (k_68 hG) ?_
              refine Y_al0 i_187_212 ?_
              refine Y_al0 i_187_213 ?_
              refine Y_gI (v := ((F 68 14) + 1)) i_187_214 ow_187 lf_10_159 (by decide) (k_68 hG) (by simp [wF, wJ, va_up, cpR, bF, bA]) ?_
              refine Y_pI i_187_217 ow_187 lf_10_192 (k_68 hG) ?_
              exact Y_vret i_187_220 rt_187 h
theorem t_187_76 {d : Nat} {F A : Nat → Nat → Int32} {J : Nat → Nat → Int64} {G : pG} {Q : pR → pM → Prop} {SL p q : Nat} {x1 : Int32} (hG : Geo G SL p q) (h : ((F 68 14) < F 68 15 → inB (F 68 14) 600 = true) ∧ (((letB (btS (A 80) (F 68 15) (F 68 14))) = true → X (d + 1) 187 76 [.ref 68, .int x1] [] ((wF F 68 14 ((F 68 14) + 1)), A, J, G) Q) ∧ ((letB (btS (A 80) (F 68 15) (F 68 14))) = false → Q (.inl none) ((wF (wF F 68 16 1) 68 19 (F 68 14)), A, J, G)))) : X (d + 1) 187 76 [.ref 68, .int x1] [] (F, A, J, G) Q := by
  refine Y_al0 i_187_76 ?_
  refine Y_al0 i_187_77 ?_
  refine Y_gI (v := (F 68 14)) i_187_78 ow_187 lf_10_159 (by decide) (k_68 hG) rfl ?_
  have o1 := h.1
  replace h := h.2
  refine Y_iv1 (L0 := [.ref 68, .int (F 68 14)]) i_187_81 ow_187 lm_10_162 ((k_68 hG).trans ow_183.symm) rfl mx_183 rfl rfl hd_187 ?_
  refine c_183 hG o1 (KKi ?_)
  refine Y_is_1 (L0 := [.int (btS (A 80) (F 68 15) (F 68 14))]) i_187_84 ow_187 lm_10_172 rfl mx_184 rfl rfl hd_187 ?_
  refine c_184 hG (KKi ?_)
  refine Y_beq i_187_87 (fun e2 => ?_) (fun e2 => ?_)
  · replace h := h.1 e2
    refine Y_al0 i_187_90 ?_
    refine Y_dup i_187_91 rfl ?_
    refine Y_gI (v := (F 68 14)) i_187_92 ow_187 lf_10_159 (by decide) (k_68 hG) rfl ?_
    refine Y_iconst (v := 1) i_187_95 (by decide) ?_
    refine Y_iadd i_187_96 ?_
    refine Y_pI i_187_97 ow_187 lf_10_159 (k_68 hG) ?_
    refine Y_goto i_187_100 ?_
    exact h
  · replace h := h.2 e2
    refine Y_al0 i_187_103 ?_
    refine Y_iconst (v := 1) i_187_104 (by decide) ?_
    refine Y_pI i_187_105 ow_187 lf_10_169 (k_68 hG) ?_
    refine Y_goto i_187_108 ?_
    refine Y_al0 i_187_212 ?_
    refine Y_al0 i_187_213 ?_
    refine Y_gI (v := (F 68 14)) i_187_214 ow_187 lf_10_159 (by decide) (k_68 hG) (by simp [wF, wJ, va_up, cpR, bF, bA]) ?_
    refine Y_pI i_187_217 ow_187 lf_10_192 (k_68 hG) ?_
    exact Y_vret i_187_220 rt_187 h
theorem t_187_123 {d : Nat} {F A : Nat → Nat → Int32} {J : Nat → Nat → Int64} {G : pG} {Q : pR → pM → Prop} {SL p q : Nat} {x1 : Int32} (hG : Geo G SL p q) (h : ((F 68 14) < F 68 15 → inB (F 68 14) 600 = true) ∧ (((digB (btS (A 80) (F 68 15) (F 68 14))) = true → X (d + 1) 187 123 [.ref 68, .int x1] [] ((wF (wF F 68 17 (jmin 100000 ((((10 : Int32) * (F 68 17)) + (btS (A 80) (F 68 15) (F 68 14))) - 48))) 68 14 ((F 68 14) + 1)), A, J, G) Q) ∧ ((digB (btS (A 80) (F 68 15) (F 68 14))) = false → Q (.inl none) ((wF (wF F 68 16 2) 68 19 (F 68 14)), A, J, G)))) : X (d + 1) 187 123 [.ref 68, .int x1] [] (F, A, J, G) Q := by
  refine Y_al0 i_187_123 ?_
  refine Y_al0 i_187_124 ?_
  refine Y_gI (v := (F 68 14)) i_187_125 ow_187 lf_10_159 (by decide) (k_68 hG) rfl ?_
  have o1 := h.1
  replace h := h.2
  refine Y_iv1 (L0 := [.ref 68, .int (F 68 14)]) i_187_128 ow_187 lm_10_162 ((k_68 hG).trans ow_183.symm) rfl mx_183 rfl rfl hd_187 ?_
  refine c_183 hG o1 (KKi ?_)
  refine Y_is_1 (L0 := [.int (btS (A 80) (F 68 15) (F 68 14))]) i_187_131 ow_187 lm_10_176 rfl mx_185 rfl rfl hd_187 ?_
  refine c_185 hG (KKi ?_)
  refine Y_beq i_187_134 (fun e2 => ?_) (fun e2 => ?_)
  · replace h := h.1 e2
    refine Y_al0 i_187_137 ?_
    refine Y_ldcI i_187_138 ow_187 li_10_182 ?_
    refine Y_bipush (v := 10) i_187_140 (by decide) ?_
    refine Y_al0 i_187_142 ?_
    refine Y_gI (v := (F 68 17)) i_187_143 ow_187 lf_10_179 (by decide) (k_68 hG) rfl ?_
    refine Y_imul i_187_146 ?_
    refine Y_al0 i_187_147 ?_
    refine Y_al0 i_187_148 ?_
    refine Y_gI (v := (F 68 14)) i_187_149 ow_187 lf_10_159 (by decide) (k_68 hG) rfl ?_
    refine Y_iv1 (L0 := [.ref 68, .int (F 68 14)]) i_187_152 ow_187 lm_10_162 ((k_68 hG).trans ow_183.symm) rfl mx_183 rfl rfl hd_187 ?_
    refine c_183 hG o1 (KKi ?_)
    refine Y_iadd i_187_155 ?_
    refine Y_bipush (v := 48) i_187_156 (by decide) ?_
    refine Y_isub i_187_158 ?_
    refine Y_min i_187_159 ow_187 lm_10_183 rfl ?_
    refine Y_pI i_187_162 ow_187 lf_10_179 (k_68 hG) ?_
    refine Y_al0 i_187_165 ?_
    refine Y_dup i_187_166 rfl ?_
    refine Y_gI (v := (F 68 14)) i_187_167 ow_187 lf_10_159 (by decide) (k_68 hG) (by simp [wF, wJ, va_up, cpR, bF, bA]) ?_
    refine Y_iconst (v := 1) i_187_170 (by decide) ?_
    refine Y_iadd i_187_171 ?_
    refine Y_pI i_187_172 ow_187 lf_10_159 (k_68 hG) ?_
    refine Y_goto i_187_175 ?_
    exact h
  · replace h := h.2 e2
    refine Y_al0 i_187_178 ?_
    refine Y_iconst (v := 2) i_187_179 (by decide) ?_
    refine Y_pI i_187_180 ow_187 lf_10_169 (k_68 hG) ?_
    refine Y_goto i_187_183 ?_
    refine Y_al0 i_187_212 ?_
    refine Y_al0 i_187_213 ?_
    refine Y_gI (v := (F 68 14)) i_187_214 ow_187 lf_10_159 (by decide) (k_68 hG) (by simp [wF, wJ, va_up, cpR, bF, bA]) ?_
    refine Y_pI i_187_217 ow_187 lf_10_192 (k_68 hG) ?_
    exact Y_vret i_187_220 rt_187 h
/- 188 Model.wrong(I)V -/
theorem t_188_0 {d : Nat} {F A : Nat → Nat → Int32} {J : Nat → Nat → Int64} {G : pG} {Q : pR → pM → Prop} {SL p q : Nat} {x1 : Int32} (hG : Geo G SL p q) (h : (((F 68 20) = 0 → Q (.inl none) ((wF (wF F 68 20 x1) 68 21 (F 68 18)), A, J, G)) ∧ (¬ (F 68 20) = 0 → Q (.inl none) (F, A, J, G)))) : X d 188 0 [.ref 68, .int x1] [] (F, A, J, G) Q := by
  refine Y_al0 i_188_0 ?_
  refine Y_gI (v := (F 68 20)) i_188_1 ow_188 lf_10_195 (by decide) (k_68 hG) rfl ?_
  refine Y_zeq i_188_4 (fun e1 => ?_) (fun e1 => ?_)
  · replace h := h.1 e1
    refine Y_al0 i_188_8 ?_
    refine Y_il1 i_188_9 ?_
    refine Y_pI i_188_10 ow_188 lf_10_195 (k_68 hG) ?_
    refine Y_al0 i_188_13 ?_
    refine Y_al0 i_188_14 ?_
    refine Y_gI (v := (F 68 18)) i_188_15 ow_188 lf_10_166 (by decide) (k_68 hG) (by simp [wF, wJ, va_up, cpR, bF, bA]) ?_
    refine Y_pI i_188_18 ow_188 lf_10_198 (k_68 hG) ?_
    exact Y_vret i_188_21 rt_188 h
  · replace h := h.2 e1
    exact Y_vret i_188_7 rt_188 h
/- 189 Model.is(Ljava/lang/String;)Z -/
theorem t_189_0 {d : Nat} {F A : Nat → Nat → Int32} {J : Nat → Nat → Int64} {G : pG} {Q : pR → pM → Prop} {SL p q : Nat} {s : Nat} (hG : Geo G SL p q) (hss : 1000 ≤ s ∧ s < 1000 + sBy.length) (h : (((F 68 20) = 0 → (((F 68 16) = 1 → (((nI (sLen (s - 1000))) = ((F 68 19) - (F 68 18)) → X d 189 39 [.ref 68, .ref s, .int 1, .int 0] [] (F, A, J, G) Q) ∧ (¬ (nI (sLen (s - 1000))) = ((F 68 19) - (F 68 18)) → X d 189 39 [.ref 68, .ref s, .int 0, .int 0] [] (F, A, J, G) Q))) ∧ (¬ (F 68 16) = 1 → X d 189 39 [.ref 68, .ref s, .int 0, .int 0] [] (F, A, J, G) Q))) ∧ (¬ (F 68 20) = 0 → X d 189 39 [.ref 68, .ref s, .int 0, .int 0] [] (F, A, J, G) Q))) : X d 189 0 [.ref 68, .ref s, .null, .null] [] (F, A, J, G) Q := by
  refine Y_al0 i_189_0 ?_
  refine Y_gI (v := (F 68 20)) i_189_1 ow_189 lf_10_195 (by decide) (k_68 hG) rfl ?_
  refine Y_zne i_189_4 (fun e1 => ?_) (fun e1 => ?_)
  · replace h := h.1 e1
    refine Y_al0 i_189_7 ?_
    refine Y_gI (v := (F 68 16)) i_189_8 ow_189 lf_10_169 (by decide) (k_68 hG) rfl ?_
    refine Y_iconst (v := 1) i_189_11 (by decide) ?_
    refine Y_cne i_189_12 (fun e2 => ?_) (fun e2 => ?_)
    · replace h := h.1 e2
      refine Y_al1 i_189_15 ?_
      refine Y_slen (v := nI (sLen (s - 1000))) i_189_16 ow_189 lm_10_201 rfl hss rfl ?_
      refine Y_al0 i_189_19 ?_
      refine Y_gI (v := (F 68 19)) i_189_20 ow_189 lf_10_192 (by decide) (k_68 hG) rfl ?_
      refine Y_al0 i_189_23 ?_
      refine Y_gI (v := (F 68 18)) i_189_24 ow_189 lf_10_166 (by decide) (k_68 hG) rfl ?_
      refine Y_isub i_189_27 ?_
      refine Y_cne i_189_28 (fun e3 => ?_) (fun e3 => ?_)
      · replace h := h.1 e3
        refine Y_iconst (v := 1) i_189_31 (by decide) ?_
        refine Y_goto i_189_32 ?_
        refine Y_is2 i_189_36 rfl ?_
        refine Y_iconst (v := 0) i_189_37 (by decide) ?_
        refine Y_is3 i_189_38 rfl ?_
        exact h
      · replace h := h.2 e3
        refine Y_iconst (v := 0) i_189_35 (by decide) ?_
        refine Y_is2 i_189_36 rfl ?_
        refine Y_iconst (v := 0) i_189_37 (by decide) ?_
        refine Y_is3 i_189_38 rfl ?_
        exact h
    · replace h := h.2 e2
      refine Y_iconst (v := 0) i_189_35 (by decide) ?_
      refine Y_is2 i_189_36 rfl ?_
      refine Y_iconst (v := 0) i_189_37 (by decide) ?_
      refine Y_is3 i_189_38 rfl ?_
      exact h
  · replace h := h.2 e1
    refine Y_iconst (v := 0) i_189_35 (by decide) ?_
    refine Y_is2 i_189_36 rfl ?_
    refine Y_iconst (v := 0) i_189_37 (by decide) ?_
    refine Y_is3 i_189_38 rfl ?_
    exact h
theorem t_189_39 {d : Nat} {F A : Nat → Nat → Int32} {J : Nat → Nat → Int64} {G : pG} {Q : pR → pM → Prop} {SL p q : Nat} {s : Nat} {x2 x3 : Int32} (hG : Geo G SL p q) (hss : 1000 ≤ s ∧ s < 1000 + sBy.length) (h : ((x2 = 0 → (x2 = 0 ∨ x2 = 1) ∧ (Q (.inl (some (.int x2))) (F, A, J, G))) ∧ (¬ x2 = 0 → ((x3 < (nI (sLen (s - 1000))) → inB x3 (sLen (s - 1000)) = true ∧ inB ((F 68 18) + x3) 600 = true ∧ (((sCh (s - 1000) x3.toNatClampNeg) = (A 80 ((F 68 18) + x3).toNatClampNeg) → X d 189 39 [.ref 68, .ref s, .int 1, .int (x3 + 1)] [] (F, A, J, G) Q) ∧ (¬ (sCh (s - 1000) x3.toNatClampNeg) = (A 80 ((F 68 18) + x3).toNatClampNeg) → X d 189 39 [.ref 68, .ref s, .int 0, .int (x3 + 1)] [] (F, A, J, G) Q))) ∧ (¬ x3 < (nI (sLen (s - 1000))) → (x2 = 0 ∨ x2 = 1) ∧ (Q (.inl (some (.int x2))) (F, A, J, G))))))) : X d 189 39 [.ref 68, .ref s, .int x2, .int x3] [] (F, A, J, G) Q := by
  refine Y_il2 i_189_39 ?_
  refine Y_zeq i_189_40 (fun e1 => ?_) (fun e1 => ?_)
  · replace h := h.1 e1
    refine Y_il2 i_189_82 ?_
    have o2 := h.1
    replace h := h.2
    exact Y_bret i_189_83 rt_189 o2 h
  · replace h := h.2 e1
    refine Y_il3 i_189_43 ?_
    refine Y_al1 i_189_44 ?_
    refine Y_slen (v := nI (sLen (s - 1000))) i_189_45 ow_189 lm_10_201 rfl hss rfl ?_
    refine Y_cge i_189_48 (fun e3 => ?_) (fun e3 => ?_)
    · replace h := h.1 e3
      refine Y_al1 i_189_51 ?_
      refine Y_il3 i_189_52 ?_
      have o4 := h.1
      replace h := h.2
      refine Y_sch i_189_53 ow_189 lm_10_205 rfl hss o4 ?_
      refine Y_al0 i_189_56 ?_
      refine Y_gR i_189_57 ow_189 lf_10_63 (k_68 hG) (r_68_12 hG) ?_
      refine Y_al0 i_189_60 ?_
      refine Y_gI (v := (F 68 18)) i_189_61 ow_189 lf_10_166 (by decide) (k_68 hG) rfl ?_
      refine Y_il3 i_189_64 ?_
      refine Y_iadd i_189_65 ?_
      have o5 := h.1
      replace h := h.2
      refine Y_iaload (k := ((F 68 18) + x3).toNatClampNeg) (v := (A 80 ((F 68 18) + x3).toNatClampNeg)) i_189_66 (k_80 hG) (l_80 hG) o5 rfl rfl ?_
      refine Y_cne i_189_67 (fun e6 => ?_) (fun e6 => ?_)
      · replace h := h.1 e6
        refine Y_iconst (v := 1) i_189_70 (by decide) ?_
        refine Y_goto i_189_71 ?_
        refine Y_is2 i_189_75 rfl ?_
        refine Y_ii3 (v := 1) i_189_76 (by decide) rfl ?_
        refine Y_goto i_189_79 ?_
        exact h
      · replace h := h.2 e6
        refine Y_iconst (v := 0) i_189_74 (by decide) ?_
        refine Y_is2 i_189_75 rfl ?_
        refine Y_ii3 (v := 1) i_189_76 (by decide) rfl ?_
        refine Y_goto i_189_79 ?_
        exact h
    · replace h := h.2 e3
      refine Y_il2 i_189_82 ?_
      have o7 := h.1
      replace h := h.2
      exact Y_bret i_189_83 rt_189 o7 h
/- 190 Model.wordOf([Ljava/lang/String;)I -/
theorem t_190k_0 {d : Nat} {F A : Nat → Nat → Int32} {J : Nat → Nat → Int64} {G : pG} {Q : pR → pM → Prop} {SL p q : Nat} (hG : Geo G SL p q) (h : X (d + 1) 190 2 [.ref 68, .ref 69, .int 0] [] (F, A, J, G) Q) : X (d + 1) 190 0 [.ref 68, .ref 69, .null] [] (F, A, J, G) Q := by
  refine Y_iconst (v := 0) i_190_0 (by decide) ?_
  refine Y_is2 i_190_1 rfl ?_
  exact h
theorem t_190k_2 {d : Nat} {F A : Nat → Nat → Int32} {J : Nat → Nat → Int64} {G : pG} {Q : pR → pM → Prop} {SL p q : Nat} {x2 : Int32} (hG : Geo G SL p q) (h : ((x2 < 4 → inB x2 4 = true ∧ (gR G 69 x2.toNatClampNeg = (gR G 69 x2.toNatClampNeg - 1) + 1) ∧ (1000 ≤ (gR G 69 x2.toNatClampNeg - 1) ∧ (gR G 69 x2.toNatClampNeg - 1) < 1000 + sBy.length) ∧ (X d 189 0 [.ref 68, .ref (gR G 69 x2.toNatClampNeg - 1), .null, .null] [] (F, A, J, G) (KK (d + 1) 190 15 [.ref 68, .ref 69, .int x2] [] Q))) ∧ (¬ x2 < 4 → Q (.inl (some (.int (-1)))) (F, A, J, G)))) : X (d + 1) 190 2 [.ref 68, .ref 69, .int x2] [] (F, A, J, G) Q := by
  refine Y_il2 i_190_2 ?_
  refine Y_al1 i_190_3 ?_
  refine Y_alen (v := 4) i_190_4 (Or.inr (Or.inr (Or.inr (Or.inl (k_69 hG))))) (l_69 hG) (by decide) ?_
  refine Y_cge i_190_5 (fun e1 => ?_) (fun e1 => ?_)
  · replace h := h.1 e1
    refine Y_al0 i_190_8 ?_
    refine Y_al1 i_190_9 ?_
    refine Y_il2 i_190_10 ?_
    have o2 := h.1
    replace h := h.2
    have o3 := h.1
    replace h := h.2
    have o4 := h.1
    replace h := h.2
    refine Y_aaload i_190_11 (k_69 hG) (l_69 hG) o2 o3 ?_
    exact Y_iv1 (L0 := [.ref 68, .ref (gR G 69 x2.toNatClampNeg - 1), .null, .null]) i_190_12 ow_190 lm_10_209 ((k_68 hG).trans ow_189.symm) rfl mx_189 rfl rfl hd_190 h
  · replace h := h.2 e1
    refine Y_iconst (v := (-1)) i_190_26 (by decide) ?_
    exact Y_iret i_190_27 rt_190 h
theorem k_190k_15 {d : Nat} {F A : Nat → Nat → Int32} {J : Nat → Nat → Int64} {G : pG} {Q : pR → pM → Prop} {SL p q : Nat} {x2 r r : Int32} (hG : Geo G SL p q) (h : ((r = 0 → X (d + 1) 190 2 [.ref 68, .ref 69, .int (x2 + 1)] [] (F, A, J, G) Q) ∧ (¬ r = 0 → Q (.inl (some (.int x2))) (F, A, J, G)))) : KK (d + 1) 190 15 [.ref 68, .ref 69, .int x2] [] Q (.inl (some (.int r))) (F, A, J, G) := by
  refine KKi ?_
  refine Y_zeq i_190_15 (fun e1 => ?_) (fun e1 => ?_)
  · replace h := h.1 e1
    refine Y_ii2 (v := 1) i_190_20 (by decide) rfl ?_
    refine Y_goto i_190_23 ?_
    exact h
  · replace h := h.2 e1
    refine Y_il2 i_190_18 ?_
    exact Y_iret i_190_19 rt_190 h
/- 190 Model.wordOf([Ljava/lang/String;)I -/
theorem t_190v_0 {d : Nat} {F A : Nat → Nat → Int32} {J : Nat → Nat → Int64} {G : pG} {Q : pR → pM → Prop} {SL p q : Nat} (hG : Geo G SL p q) (h : X (d + 1) 190 2 [.ref 68, .ref 70, .int 0] [] (F, A, J, G) Q) : X (d + 1) 190 0 [.ref 68, .ref 70, .null] [] (F, A, J, G) Q := by
  refine Y_iconst (v := 0) i_190_0 (by decide) ?_
  refine Y_is2 i_190_1 rfl ?_
  exact h
theorem t_190v_2 {d : Nat} {F A : Nat → Nat → Int32} {J : Nat → Nat → Int64} {G : pG} {Q : pR → pM → Prop} {SL p q : Nat} {x2 : Int32} (hG : Geo G SL p q) (h : ((x2 < 6 → inB x2 6 = true ∧ (gR G 70 x2.toNatClampNeg = (gR G 70 x2.toNatClampNeg - 1) + 1) ∧ (1000 ≤ (gR G 70 x2.toNatClampNeg - 1) ∧ (gR G 70 x2.toNatClampNeg - 1) < 1000 + sBy.length) ∧ (X d 189 0 [.ref 68, .ref (gR G 70 x2.toNatClampNeg - 1), .null, .null] [] (F, A, J, G) (KK (d + 1) 190 15 [.ref 68, .ref 70, .int x2] [] Q))) ∧ (¬ x2 < 6 → Q (.inl (some (.int (-1)))) (F, A, J, G)))) : X (d + 1) 190 2 [.ref 68, .ref 70, .int x2] [] (F, A, J, G) Q := by
  refine Y_il2 i_190_2 ?_
  refine Y_al1 i_190_3 ?_
  refine Y_alen (v := 6) i_190_4 (Or.inr (Or.inr (Or.inr (Or.inl (k_70 hG))))) (l_70 hG) (by decide) ?_
  refine Y_cge i_190_5 (fun e1 => ?_) (fun e1 => ?_)
  · replace h := h.1 e1
    refine Y_al0 i_190_8 ?_
    refine Y_al1 i_190_9 ?_
    refine Y_il2 i_190_10 ?_
    have o2 := h.1
    replace h := h.2
    have o3 := h.1
    replace h := h.2
    have o4 := h.1
    replace h := h.2
    refine Y_aaload i_190_11 (k_70 hG) (l_70 hG) o2 o3 ?_
    exact Y_iv1 (L0 := [.ref 68, .ref (gR G 70 x2.toNatClampNeg - 1), .null, .null]) i_190_12 ow_190 lm_10_209 ((k_68 hG).trans ow_189.symm) rfl mx_189 rfl rfl hd_190 h
  · replace h := h.2 e1
    refine Y_iconst (v := (-1)) i_190_26 (by decide) ?_
    exact Y_iret i_190_27 rt_190 h
theorem k_190v_15 {d : Nat} {F A : Nat → Nat → Int32} {J : Nat → Nat → Int64} {G : pG} {Q : pR → pM → Prop} {SL p q : Nat} {x2 r r : Int32} (hG : Geo G SL p q) (h : ((r = 0 → X (d + 1) 190 2 [.ref 68, .ref 70, .int (x2 + 1)] [] (F, A, J, G) Q) ∧ (¬ r = 0 → Q (.inl (some (.int x2))) (F, A, J, G)))) : KK (d + 1) 190 15 [.ref 68, .ref 70, .int x2] [] Q (.inl (some (.int r))) (F, A, J, G) := by
  refine KKi ?_
  refine Y_zeq i_190_15 (fun e1 => ?_) (fun e1 => ?_)
  · replace h := h.1 e1
    refine Y_ii2 (v := 1) i_190_20 (by decide) rfl ?_
    refine Y_goto i_190_23 ?_
    exact h
  · replace h := h.2 e1
    refine Y_il2 i_190_18 ?_
    exact Y_iret i_190_19 rt_190 h
/- 192 Model.mark(I)V -/
theorem t_192_0 {d : Nat} {F A : Nat → Nat → Int32} {J : Nat → Nat → Int64} {G : pG} {Q : pR → pM → Prop} {SL p q : Nat} {x1 : Int32} (hG : Geo G SL p q) (h : (((F 68 20) = 0 → (F 68 20 = 0 → F 68 16 = 3 → inB (F 68 18) 600 = true) ∧ (((mkB (F 68 20) (F 68 16) (A 80 (F 68 18).toNatClampNeg) x1) = true → (((F 68 20) = 0 → X (d + 1) 187 0 [.ref 68, .null] [] (F, A, J, G) (KK (d + 2) 192 31 [.ref 68, .int x1] [] Q)) ∧ (¬ (F 68 20) = 0 → Q (.inl none) (F, A, J, G)))) ∧ ((mkB (F 68 20) (F 68 16) (A 80 (F 68 18).toNatClampNeg) x1) = false → (((F 68 20) = 0 → Q (.inl none) ((wF (wF F 68 20 1) 68 21 (F 68 18)), A, J, G)) ∧ (¬ (F 68 20) = 0 → (((F 68 20) = 0 → X (d + 1) 187 0 [.ref 68, .null] [] (F, A, J, G) (KK (d + 2) 192 31 [.ref 68, .int x1] [] Q)) ∧ (¬ (F 68 20) = 0 → Q (.inl none) (F, A, J, G)))))))) ∧ (¬ (F 68 20) = 0 → (((F 68 20) = 0 → X (d + 1) 187 0 [.ref 68, .null] [] (F, A, J, G) (KK (d + 2) 192 31 [.ref 68, .int x1] [] Q)) ∧ (¬ (F 68 20) = 0 → Q (.inl none) (F, A, J, G)))))) : X (d + 2) 192 0 [.ref 68, .int x1] [] (F, A, J, G) Q := by
  refine Y_al0 i_192_0 ?_
  refine Y_gI (v := (F 68 20)) i_192_1 ow_192 lf_10_195 (by decide) (k_68 hG) rfl ?_
  refine Y_zne i_192_4 (fun e1 => ?_) (fun e1 => ?_)
  · replace h := h.1 e1
    refine Y_al0 i_192_7 ?_
    refine Y_il1 i_192_8 ?_
    have o2 := h.1
    replace h := h.2
    refine Y_iv1 (L0 := [.ref 68, .int x1]) i_192_9 ow_192 lm_10_213 ((k_68 hG).trans ow_191.symm) rfl mx_191 rfl rfl hd_192 ?_
    refine c_191 hG o2 (KKi ?_)
    refine Y_bne i_192_12 (fun e3 => ?_) (fun e3 => ?_)
    · replace h := h.1 e3
      refine Y_al0 i_192_20 ?_
      refine Y_gI (v := (F 68 20)) i_192_21 ow_192 lf_10_195 (by decide) (k_68 hG) rfl ?_
      refine Y_zne i_192_24 (fun e4 => ?_) (fun e4 => ?_)
      · replace h := h.1 e4
        refine Y_al0 i_192_27 ?_
        exact Y_iv0 (L0 := [.ref 68, .null]) i_192_28 ow_192 lm_10_220 ((k_68 hG).trans ow_187.symm) rfl mx_187 rfl rfl hd_192 h
      · replace h := h.2 e4
        exact Y_vret i_192_31 rt_192 h
    · replace h := h.2 e3
      refine Y_al0 i_192_15 ?_
      refine Y_iconst (v := 1) i_192_16 (by decide) ?_
      refine Y_iv1 (L0 := [.ref 68, .int 1]) i_192_17 ow_192 lm_10_216 ((k_68 hG).trans ow_188.symm) rfl mx_188 rfl rfl hd_192 ?_
      refine Y_al0 i_188_0 ?_
      refine Y_gI (v := (F 68 20)) i_188_1 ow_188 lf_10_195 (by decide) (k_68 hG) rfl ?_
      refine Y_zeq i_188_4 (fun e5 => ?_) (fun e5 => ?_)
      · replace h := h.1 e5
        refine Y_al0 i_188_8 ?_
        refine Y_il1 i_188_9 ?_
        refine Y_pI i_188_10 ow_188 lf_10_195 (k_68 hG) ?_
        refine Y_al0 i_188_13 ?_
        refine Y_al0 i_188_14 ?_
        refine Y_gI (v := (F 68 18)) i_188_15 ow_188 lf_10_166 (by decide) (k_68 hG) (by simp [wF, wJ, va_up, cpR, bF, bA]) ?_
        refine Y_pI i_188_18 ow_188 lf_10_198 (k_68 hG) ?_
        refine Y_vret i_188_21 rt_188 (KKv ?_)
        refine Y_al0 i_192_20 ?_
        refine Y_gI (v := 1) i_192_21 ow_192 lf_10_195 (by decide) (k_68 hG) (by simp [wF, wJ, va_up, cpR, bF, bA]) ?_
        refine Y_zT i_192_24 (by decide) ?_
        exact Y_vret i_192_31 rt_192 h
      · replace h := h.2 e5
        refine Y_vret i_188_7 rt_188 (KKv ?_)
        refine Y_al0 i_192_20 ?_
        refine Y_gI (v := (F 68 20)) i_192_21 ow_192 lf_10_195 (by decide) (k_68 hG) rfl ?_
        refine Y_zne i_192_24 (fun e6 => ?_) (fun e6 => ?_)
        · replace h := h.1 e6
          refine Y_al0 i_192_27 ?_
          exact Y_iv0 (L0 := [.ref 68, .null]) i_192_28 ow_192 lm_10_220 ((k_68 hG).trans ow_187.symm) rfl mx_187 rfl rfl hd_192 h
        · replace h := h.2 e6
          exact Y_vret i_192_31 rt_192 h
  · replace h := h.2 e1
    refine Y_al0 i_192_20 ?_
    refine Y_gI (v := (F 68 20)) i_192_21 ow_192 lf_10_195 (by decide) (k_68 hG) rfl ?_
    refine Y_zne i_192_24 (fun e7 => ?_) (fun e7 => ?_)
    · replace h := h.1 e7
      refine Y_al0 i_192_27 ?_
      exact Y_iv0 (L0 := [.ref 68, .null]) i_192_28 ow_192 lm_10_220 ((k_68 hG).trans ow_187.symm) rfl mx_187 rfl rfl hd_192 h
    · replace h := h.2 e7
      exact Y_vret i_192_31 rt_192 h
theorem k_192_31 {d : Nat} {F A : Nat → Nat → Int32} {J : Nat → Nat → Int64} {G : pG} {Q : pR → pM → Prop} {SL p q : Nat} {x1 : Int32} (hG : Geo G SL p q) (h : Q (.inl none) (F, A, J, G)) : KK (d + 2) 192 31 [.ref 68, .int x1] [] Q (.inl none) (F, A, J, G) := by
  refine KKv ?_
  exact Y_vret i_192_31 rt_192 h
/- 193 Model.readNumber(II)I -/
theorem t_193_0 {d : Nat} {F A : Nat → Nat → Int32} {J : Nat → Nat → Int64} {G : pG} {Q : pR → pM → Prop} {SL p q : Nat} {x1 x2 : Int32} (hG : Geo G SL p q) (h : (((F 68 20) = 0 → (((F 68 16) = 2 → ((4 < ((F 68 19) - (F 68 18)) → (((F 68 20) = 0 → Q (.inl (some (.int 0))) ((wF (wF F 68 20 2) 68 21 (F 68 18)), A, J, G)) ∧ (¬ (F 68 20) = 0 → (((F 68 20) = 0 → (((F 68 20) = 0 → X (d + 1) 187 0 [.ref 68, .null] [] (F, A, J, G) (KK (d + 2) 193 86 [.ref 68, .int x1, .int x2, .int (F 68 17)] [] Q)) ∧ (¬ (F 68 20) = 0 → Q (.inl (some (.int (F 68 17)))) (F, A, J, G)))) ∧ (¬ (F 68 20) = 0 → (((F 68 20) = 0 → X (d + 1) 187 0 [.ref 68, .null] [] (F, A, J, G) (KK (d + 2) 193 86 [.ref 68, .int x1, .int x2, .int 0] [] Q)) ∧ (¬ (F 68 20) = 0 → Q (.inl (some (.int 0))) (F, A, J, G)))))))) ∧ (¬ 4 < ((F 68 19) - (F 68 18)) → (((F 68 17) < x1 → (((F 68 20) = 0 → Q (.inl (some (.int 0))) ((wF (wF F 68 20 2) 68 21 (F 68 18)), A, J, G)) ∧ (¬ (F 68 20) = 0 → (((F 68 20) = 0 → (((F 68 20) = 0 → X (d + 1) 187 0 [.ref 68, .null] [] (F, A, J, G) (KK (d + 2) 193 86 [.ref 68, .int x1, .int x2, .int (F 68 17)] [] Q)) ∧ (¬ (F 68 20) = 0 → Q (.inl (some (.int (F 68 17)))) (F, A, J, G)))) ∧ (¬ (F 68 20) = 0 → (((F 68 20) = 0 → X (d + 1) 187 0 [.ref 68, .null] [] (F, A, J, G) (KK (d + 2) 193 86 [.ref 68, .int x1, .int x2, .int 0] [] Q)) ∧ (¬ (F 68 20) = 0 → Q (.inl (some (.int 0))) (F, A, J, G)))))))) ∧ (¬ (F 68 17) < x1 → ((x2 < (F 68 17) → (((F 68 20) = 0 → Q (.inl (some (.int 0))) ((wF (wF F 68 20 2) 68 21 (F 68 18)), A, J, G)) ∧ (¬ (F 68 20) = 0 → (((F 68 20) = 0 → (((F 68 20) = 0 → X (d + 1) 187 0 [.ref 68, .null] [] (F, A, J, G) (KK (d + 2) 193 86 [.ref 68, .int x1, .int x2, .int (F 68 17)] [] Q)) ∧ (¬ (F 68 20) = 0 → Q (.inl (some (.int (F 68 17)))) (F, A, J, G)))) ∧ (¬ (F 68 20) = 0 → (((F 68 20) = 0 → X (d + 1) 187 0 [.ref 68, .null] [] (F, A, J, G) (KK (d + 2) 193 86 [.ref 68, .int x1, .int x2, .int 0] [] Q)) ∧ (¬ (F 68 20) = 0 → Q (.inl (some (.int 0))) (F, A, J, G)))))))) ∧ (¬ x2 < (F 68 17) → (((F 68 20) = 0 → (((F 68 20) = 0 → X (d + 1) 187 0 [.ref 68, .null] [] (F, A, J, G) (KK (d + 2) 193 86 [.ref 68, .int x1, .int x2, .int (F 68 17)] [] Q)) ∧ (¬ (F 68 20) = 0 → Q (.inl (some (.int (F 68 17)))) (F, A, J, G)))) ∧ (¬ (F 68 20) = 0 → (((F 68 20) = 0 → X (d + 1) 187 0 [.ref 68, .null] [] (F, A, J, G) (KK (d + 2) 193 86 [.ref 68, .int x1, .int x2, .int 0] [] Q)) ∧ (¬ (F 68 20) = 0 → Q (.inl (some (.int 0))) (F, A, J, G)))))))))))) ∧ (¬ (F 68 16) = 2 → (((F 68 20) = 0 → Q (.inl (some (.int 0))) ((wF (wF F 68 20 1) 68 21 (F 68 18)), A, J, G)) ∧ (¬ (F 68 20) = 0 → (((F 68 20) = 0 → (((F 68 20) = 0 → X (d + 1) 187 0 [.ref 68, .null] [] (F, A, J, G) (KK (d + 2) 193 86 [.ref 68, .int x1, .int x2, .int (F 68 17)] [] Q)) ∧ (¬ (F 68 20) = 0 → Q (.inl (some (.int (F 68 17)))) (F, A, J, G)))) ∧ (¬ (F 68 20) = 0 → (((F 68 20) = 0 → X (d + 1) 187 0 [.ref 68, .null] [] (F, A, J, G) (KK (d + 2) 193 86 [.ref 68, .int x1, .int x2, .int 0] [] Q)) ∧ (¬ (F 68 20) = 0 → Q (.inl (some (.int 0))) (F, A, J, G)))))))))) ∧ (¬ (F 68 20) = 0 → Q (.inl (some (.int 0))) (F, A, J, G)))) : X (d + 2) 193 0 [.ref 68, .int x1, .int x2, .null] [] (F, A, J, G) Q := by
  refine Y_al0 i_193_0 ?_
  refine Y_gI (v := (F 68 20)) i_193_1 ow_193 lf_10_195 (by decide) (k_68 hG) rfl ?_
  refine Y_zeq i_193_4 (fun e1 => ?_) (fun e1 => ?_)
  · replace h := h.1 e1
    refine Y_al0 i_193_9 ?_
    refine Y_gI (v := (F 68 16)) i_193_10 ow_193 lf_10_169 (by decide) (k_68 hG) rfl ?_
    refine Y_iconst (v := 2) i_193_13 (by decide) ?_
    refine Y_ceq i_193_14 (fun e2 => ?_) (fun e2 => ?_)
    · replace h := h.1 e2
      refine Y_al0 i_193_25 ?_
      refine Y_gI (v := (F 68 19)) i_193_26 ow_193 lf_10_192 (by decide) (k_68 hG) rfl ?_
      refine Y_al0 i_193_29 ?_
      refine Y_gI (v := (F 68 18)) i_193_30 ow_193 lf_10_166 (by decide) (k_68 hG) rfl ?_
      refine Y_isub i_193_33 ?_
      refine Y_iconst (v := 4) i_193_34 (by decide) ?_
      refine Y_cgt i_193_35 (fun e3 => ?_) (fun e3 => ?_)
      · replace h := h.1 e3
        refine Y_al0 i_193_54 ?_
        refine Y_iconst (v := 2) i_193_55 (by decide) ?_
        refine Y_iv1 (L0 := [.ref 68, .int 2]) i_193_56 ow_193 lm_10_216 ((k_68 hG).trans ow_188.symm) rfl mx_188 rfl rfl hd_193 ?_
        refine Y_al0 i_188_0 ?_
        refine Y_gI (v := (F 68 20)) i_188_1 ow_188 lf_10_195 (by decide) (k_68 hG) rfl ?_
        refine Y_zeq i_188_4 (fun e4 => ?_) (fun e4 => ?_)
        · replace h := h.1 e4
          refine Y_al0 i_188_8 ?_
          refine Y_il1 i_188_9 ?_
          refine Y_pI i_188_10 ow_188 lf_10_195 (k_68 hG) ?_
          refine Y_al0 i_188_13 ?_
          refine Y_al0 i_188_14 ?_
          refine Y_gI (v := (F 68 18)) i_188_15 ow_188 lf_10_166 (by decide) (k_68 hG) (by simp [wF, wJ, va_up, cpR, bF, bA]) ?_
          refine Y_pI i_188_18 ow_188 lf_10_198 (k_68 hG) ?_
          refine Y_vret i_188_21 rt_188 (KKv ?_)
          refine Y_al0 i_193_59 ?_
          refine Y_gI (v := 2) i_193_60 ow_193 lf_10_195 (by decide) (k_68 hG) (by simp [wF, wJ, va_up, cpR, bF, bA]) ?_
          refine Y_zT i_193_63 (by decide) ?_
          refine Y_iconst (v := 0) i_193_73 (by decide) ?_
          refine Y_is3 i_193_74 rfl ?_
          refine Y_al0 i_193_75 ?_
          refine Y_gI (v := 2) i_193_76 ow_193 lf_10_195 (by decide) (k_68 hG) (by simp [wF, wJ, va_up, cpR, bF, bA]) ?_
          refine Y_zT i_193_79 (by decide) ?_
          refine Y_il3 i_193_86 ?_
          exact Y_iret i_193_87 rt_193 h
        · replace h := h.2 e4
          refine Y_vret i_188_7 rt_188 (KKv ?_)
          refine Y_al0 i_193_59 ?_
          refine Y_gI (v := (F 68 20)) i_193_60 ow_193 lf_10_195 (by decide) (k_68 hG) rfl ?_
          refine Y_zne i_193_63 (fun e5 => ?_) (fun e5 => ?_)
          · replace h := h.1 e5
            refine Y_al0 i_193_66 ?_
            refine Y_gI (v := (F 68 17)) i_193_67 ow_193 lf_10_179 (by decide) (k_68 hG) rfl ?_
            refine Y_goto i_193_70 ?_
            refine Y_is3 i_193_74 rfl ?_
            refine Y_al0 i_193_75 ?_
            refine Y_gI (v := (F 68 20)) i_193_76 ow_193 lf_10_195 (by decide) (k_68 hG) rfl ?_
            refine Y_zne i_193_79 (fun e6 => ?_) (fun e6 => ?_)
            · replace h := h.1 e6
              refine Y_al0 i_193_82 ?_
              exact Y_iv0 (L0 := [.ref 68, .null]) i_193_83 ow_193 lm_10_220 ((k_68 hG).trans ow_187.symm) rfl mx_187 rfl rfl hd_193 h
            · replace h := h.2 e6
              refine Y_il3 i_193_86 ?_
              exact Y_iret i_193_87 rt_193 h
          · replace h := h.2 e5
            refine Y_iconst (v := 0) i_193_73 (by decide) ?_
            refine Y_is3 i_193_74 rfl ?_
            refine Y_al0 i_193_75 ?_
            refine Y_gI (v := (F 68 20)) i_193_76 ow_193 lf_10_195 (by decide) (k_68 hG) rfl ?_
            refine Y_zne i_193_79 (fun e7 => ?_) (fun e7 => ?_)
            · replace h := h.1 e7
              refine Y_al0 i_193_82 ?_
              exact Y_iv0 (L0 := [.ref 68, .null]) i_193_83 ow_193 lm_10_220 ((k_68 hG).trans ow_187.symm) rfl mx_187 rfl rfl hd_193 h
            · replace h := h.2 e7
              refine Y_il3 i_193_86 ?_
              exact Y_iret i_193_87 rt_193 h
      · replace h := h.2 e3
        refine Y_al0 i_193_38 ?_
        refine Y_gI (v := (F 68 17)) i_193_39 ow_193 lf_10_179 (by decide) (k_68 hG) rfl ?_
        refine Y_il1 i_193_42 ?_
        refine Y_clt i_193_43 (fun e8 => ?_) (fun e8 => ?_)
        · replace h := h.1 e8
          refine Y_al0 i_193_54 ?_
          refine Y_iconst (v := 2) i_193_55 (by decide) ?_
          refine Y_iv1 (L0 := [.ref 68, .int 2]) i_193_56 ow_193 lm_10_216 ((k_68 hG).trans ow_188.symm) rfl mx_188 rfl rfl hd_193 ?_
          refine Y_al0 i_188_0 ?_
          refine Y_gI (v := (F 68 20)) i_188_1 ow_188 lf_10_195 (by decide) (k_68 hG) rfl ?_
          refine Y_zeq i_188_4 (fun e9 => ?_) (fun e9 => ?_)
          · replace h := h.1 e9
            refine Y_al0 i_188_8 ?_
            refine Y_il1 i_188_9 ?_
            refine Y_pI i_188_10 ow_188 lf_10_195 (k_68 hG) ?_
            refine Y_al0 i_188_13 ?_
            refine Y_al0 i_188_14 ?_
            refine Y_gI (v := (F 68 18)) i_188_15 ow_188 lf_10_166 (by decide) (k_68 hG) (by simp [wF, wJ, va_up, cpR, bF, bA]) ?_
            refine Y_pI i_188_18 ow_188 lf_10_198 (k_68 hG) ?_
            refine Y_vret i_188_21 rt_188 (KKv ?_)
            refine Y_al0 i_193_59 ?_
            refine Y_gI (v := 2) i_193_60 ow_193 lf_10_195 (by decide) (k_68 hG) (by simp [wF, wJ, va_up, cpR, bF, bA]) ?_
            refine Y_zT i_193_63 (by decide) ?_
            refine Y_iconst (v := 0) i_193_73 (by decide) ?_
            refine Y_is3 i_193_74 rfl ?_
            refine Y_al0 i_193_75 ?_
            refine Y_gI (v := 2) i_193_76 ow_193 lf_10_195 (by decide) (k_68 hG) (by simp [wF, wJ, va_up, cpR, bF, bA]) ?_
            refine Y_zT i_193_79 (by decide) ?_
            refine Y_il3 i_193_86 ?_
            exact Y_iret i_193_87 rt_193 h
          · replace h := h.2 e9
            refine Y_vret i_188_7 rt_188 (KKv ?_)
            refine Y_al0 i_193_59 ?_
            refine Y_gI (v := (F 68 20)) i_193_60 ow_193 lf_10_195 (by decide) (k_68 hG) rfl ?_
            refine Y_zne i_193_63 (fun e10 => ?_) (fun e10 => ?_)
            · replace h := h.1 e10
              refine Y_al0 i_193_66 ?_
              refine Y_gI (v := (F 68 17)) i_193_67 ow_193 lf_10_179 (by decide) (k_68 hG) rfl ?_
              refine Y_goto i_193_70 ?_
              refine Y_is3 i_193_74 rfl ?_
              refine Y_al0 i_193_75 ?_
              refine Y_gI (v := (F 68 20)) i_193_76 ow_193 lf_10_195 (by decide) (k_68 hG) rfl ?_
              refine Y_zne i_193_79 (fun e11 => ?_) (fun e11 => ?_)
              · replace h := h.1 e11
                refine Y_al0 i_193_82 ?_
                exact Y_iv0 (L0 := [.ref 68, .null]) i_193_83 ow_193 lm_10_220 ((k_68 hG).trans ow_187.symm) rfl mx_187 rfl rfl hd_193 h
              · replace h := h.2 e11
                refine Y_il3 i_193_86 ?_
                exact Y_iret i_193_87 rt_193 h
            · replace h := h.2 e10
              refine Y_iconst (v := 0) i_193_73 (by decide) ?_
              refine Y_is3 i_193_74 rfl ?_
              refine Y_al0 i_193_75 ?_
              refine Y_gI (v := (F 68 20)) i_193_76 ow_193 lf_10_195 (by decide) (k_68 hG) rfl ?_
              refine Y_zne i_193_79 (fun e12 => ?_) (fun e12 => ?_)
              · replace h := h.1 e12
                refine Y_al0 i_193_82 ?_
                exact Y_iv0 (L0 := [.ref 68, .null]) i_193_83 ow_193 lm_10_220 ((k_68 hG).trans ow_187.symm) rfl mx_187 rfl rfl hd_193 h
              · replace h := h.2 e12
                refine Y_il3 i_193_86 ?_
                exact Y_iret i_193_87 rt_193 h
        · replace h := h.2 e8
          refine Y_al0 i_193_46 ?_
          refine Y_gI (v := (F 68 17)) i_193_47 ow_193 lf_10_179 (by decide) (k_68 hG) rfl ?_
          refine Y_il2 i_193_50 ?_
          refine Y_cle i_193_51 (fun e13 => ?_) (fun e13 => ?_)
          · replace h := h.1 e13
            refine Y_al0 i_193_54 ?_
            refine Y_iconst (v := 2) i_193_55 (by decide) ?_
            refine Y_iv1 (L0 := [.ref 68, .int 2]) i_193_56 ow_193 lm_10_216 ((k_68 hG).trans ow_188.symm) rfl mx_188 rfl rfl hd_193 ?_
            refine Y_al0 i_188_0 ?_
            refine Y_gI (v := (F 68 20)) i_188_1 ow_188 lf_10_195 (by decide) (k_68 hG) rfl ?_
            refine Y_zeq i_188_4 (fun e14 => ?_) (fun e14 => ?_)
            · replace h := h.1 e14
              refine Y_al0 i_188_8 ?_
              refine Y_il1 i_188_9 ?_
              refine Y_pI i_188_10 ow_188 lf_10_195 (k_68 hG) ?_
              refine Y_al0 i_188_13 ?_
              refine Y_al0 i_188_14 ?_
              refine Y_gI (v := (F 68 18)) i_188_15 ow_188 lf_10_166 (by decide) (k_68 hG) (by simp [wF, wJ, va_up, cpR, bF, bA]) ?_
              refine Y_pI i_188_18 ow_188 lf_10_198 (k_68 hG) ?_
              refine Y_vret i_188_21 rt_188 (KKv ?_)
              refine Y_al0 i_193_59 ?_
              refine Y_gI (v := 2) i_193_60 ow_193 lf_10_195 (by decide) (k_68 hG) (by simp [wF, wJ, va_up, cpR, bF, bA]) ?_
              refine Y_zT i_193_63 (by decide) ?_
              refine Y_iconst (v := 0) i_193_73 (by decide) ?_
              refine Y_is3 i_193_74 rfl ?_
              refine Y_al0 i_193_75 ?_
              refine Y_gI (v := 2) i_193_76 ow_193 lf_10_195 (by decide) (k_68 hG) (by simp [wF, wJ, va_up, cpR, bF, bA]) ?_
              refine Y_zT i_193_79 (by decide) ?_
              refine Y_il3 i_193_86 ?_
              exact Y_iret i_193_87 rt_193 h
            · replace h := h.2 e14
              refine Y_vret i_188_7 rt_188 (KKv ?_)
              refine Y_al0 i_193_59 ?_
              refine Y_gI (v := (F 68 20)) i_193_60 ow_193 lf_10_195 (by decide) (k_68 hG) rfl ?_
              refine Y_zne i_193_63 (fun e15 => ?_) (fun e15 => ?_)
              · replace h := h.1 e15
                refine Y_al0 i_193_66 ?_
                refine Y_gI (v := (F 68 17)) i_193_67 ow_193 lf_10_179 (by decide) (k_68 hG) rfl ?_
                refine Y_goto i_193_70 ?_
                refine Y_is3 i_193_74 rfl ?_
                refine Y_al0 i_193_75 ?_
                refine Y_gI (v := (F 68 20)) i_193_76 ow_193 lf_10_195 (by decide) (k_68 hG) rfl ?_
                refine Y_zne i_193_79 (fun e16 => ?_) (fun e16 => ?_)
                · replace h := h.1 e16
                  refine Y_al0 i_193_82 ?_
                  exact Y_iv0 (L0 := [.ref 68, .null]) i_193_83 ow_193 lm_10_220 ((k_68 hG).trans ow_187.symm) rfl mx_187 rfl rfl hd_193 h
                · replace h := h.2 e16
                  refine Y_il3 i_193_86 ?_
                  exact Y_iret i_193_87 rt_193 h
              · replace h := h.2 e15
                refine Y_iconst (v := 0) i_193_73 (by decide) ?_
                refine Y_is3 i_193_74 rfl ?_
                refine Y_al0 i_193_75 ?_
                refine Y_gI (v := (F 68 20)) i_193_76 ow_193 lf_10_195 (by decide) (k_68 hG) rfl ?_
                refine Y_zne i_193_79 (fun e17 => ?_) (fun e17 => ?_)
                · replace h := h.1 e17
                  refine Y_al0 i_193_82 ?_
                  exact Y_iv0 (L0 := [.ref 68, .null]) i_193_83 ow_193 lm_10_220 ((k_68 hG).trans ow_187.symm) rfl mx_187 rfl rfl hd_193 h
                · replace h := h.2 e17
                  refine Y_il3 i_193_86 ?_
                  exact Y_iret i_193_87 rt_193 h
          · replace h := h.2 e13
            refine Y_al0 i_193_59 ?_
            refine Y_gI (v := (F 68 20)) i_193_60 ow_193 lf_10_195 (by decide) (k_68 hG) rfl ?_
            refine Y_zne i_193_63 (fun e18 => ?_) (fun e18 => ?_)
            · replace h := h.1 e18
              refine Y_al0 i_193_66 ?_
              refine Y_gI (v := (F 68 17)) i_193_67 ow_193 lf_10_179 (by decide) (k_68 hG) rfl ?_
              refine Y_goto i_193_70 ?_
              refine Y_is3 i_193_74 rfl ?_
              refine Y_al0 i_193_75 ?_
              refine Y_gI (v := (F 68 20)) i_193_76 ow_193 lf_10_195 (by decide) (k_68 hG) rfl ?_
              refine Y_zne i_193_79 (fun e19 => ?_) (fun e19 => ?_)
              · replace h := h.1 e19
                refine Y_al0 i_193_82 ?_
                exact Y_iv0 (L0 := [.ref 68, .null]) i_193_83 ow_193 lm_10_220 ((k_68 hG).trans ow_187.symm) rfl mx_187 rfl rfl hd_193 h
              · replace h := h.2 e19
                refine Y_il3 i_193_86 ?_
                exact Y_iret i_193_87 rt_193 h
            · replace h := h.2 e18
              refine Y_iconst (v := 0) i_193_73 (by decide) ?_
              refine Y_is3 i_193_74 rfl ?_
              refine Y_al0 i_193_75 ?_
              refine Y_gI (v := (F 68 20)) i_193_76 ow_193 lf_10_195 (by decide) (k_68 hG) rfl ?_
              refine Y_zne i_193_79 (fun e20 => ?_) (fun e20 => ?_)
              · replace h := h.1 e20
                refine Y_al0 i_193_82 ?_
                exact Y_iv0 (L0 := [.ref 68, .null]) i_193_83 ow_193 lm_10_220 ((k_68 hG).trans ow_187.symm) rfl mx_187 rfl rfl hd_193 h
              · replace h := h.2 e20
                refine Y_il3 i_193_86 ?_
                exact Y_iret i_193_87 rt_193 h
    · replace h := h.2 e2
      refine Y_al0 i_193_17 ?_
      refine Y_iconst (v := 1) i_193_18 (by decide) ?_
      refine Y_iv1 (L0 := [.ref 68, .int 1]) i_193_19 ow_193 lm_10_216 ((k_68 hG).trans ow_188.symm) rfl mx_188 rfl rfl hd_193 ?_
      refine Y_al0 i_188_0 ?_
      refine Y_gI (v := (F 68 20)) i_188_1 ow_188 lf_10_195 (by decide) (k_68 hG) rfl ?_
      refine Y_zeq i_188_4 (fun e21 => ?_) (fun e21 => ?_)
      · replace h := h.1 e21
        refine Y_al0 i_188_8 ?_
        refine Y_il1 i_188_9 ?_
        refine Y_pI i_188_10 ow_188 lf_10_195 (k_68 hG) ?_
        refine Y_al0 i_188_13 ?_
        refine Y_al0 i_188_14 ?_
        refine Y_gI (v := (F 68 18)) i_188_15 ow_188 lf_10_166 (by decide) (k_68 hG) (by simp [wF, wJ, va_up, cpR, bF, bA]) ?_
        refine Y_pI i_188_18 ow_188 lf_10_198 (k_68 hG) ?_
        refine Y_vret i_188_21 rt_188 (KKv ?_)
        refine Y_goto i_193_22 ?_
        refine Y_al0 i_193_59 ?_
        refine Y_gI (v := 1) i_193_60 ow_193 lf_10_195 (by decide) (k_68 hG) (by simp [wF, wJ, va_up, cpR, bF, bA]) ?_
        refine Y_zT i_193_63 (by decide) ?_
        refine Y_iconst (v := 0) i_193_73 (by decide) ?_
        refine Y_is3 i_193_74 rfl ?_
        refine Y_al0 i_193_75 ?_
        refine Y_gI (v := 1) i_193_76 ow_193 lf_10_195 (by decide) (k_68 hG) (by simp [wF, wJ, va_up, cpR, bF, bA]) ?_
        refine Y_zT i_193_79 (by decide) ?_
        refine Y_il3 i_193_86 ?_
        exact Y_iret i_193_87 rt_193 h
      · replace h := h.2 e21
        refine Y_vret i_188_7 rt_188 (KKv ?_)
        refine Y_goto i_193_22 ?_
        refine Y_al0 i_193_59 ?_
        refine Y_gI (v := (F 68 20)) i_193_60 ow_193 lf_10_195 (by decide) (k_68 hG) rfl ?_
        refine Y_zne i_193_63 (fun e22 => ?_) (fun e22 => ?_)
        · replace h := h.1 e22
          refine Y_al0 i_193_66 ?_
          refine Y_gI (v := (F 68 17)) i_193_67 ow_193 lf_10_179 (by decide) (k_68 hG) rfl ?_
          refine Y_goto i_193_70 ?_
          refine Y_is3 i_193_74 rfl ?_
          refine Y_al0 i_193_75 ?_
          refine Y_gI (v := (F 68 20)) i_193_76 ow_193 lf_10_195 (by decide) (k_68 hG) rfl ?_
          refine Y_zne i_193_79 (fun e23 => ?_) (fun e23 => ?_)
          · replace h := h.1 e23
            refine Y_al0 i_193_82 ?_
            exact Y_iv0 (L0 := [.ref 68, .null]) i_193_83 ow_193 lm_10_220 ((k_68 hG).trans ow_187.symm) rfl mx_187 rfl rfl hd_193 h
          · replace h := h.2 e23
            refine Y_il3 i_193_86 ?_
            exact Y_iret i_193_87 rt_193 h
        · replace h := h.2 e22
          refine Y_iconst (v := 0) i_193_73 (by decide) ?_
          refine Y_is3 i_193_74 rfl ?_
          refine Y_al0 i_193_75 ?_
          refine Y_gI (v := (F 68 20)) i_193_76 ow_193 lf_10_195 (by decide) (k_68 hG) rfl ?_
          refine Y_zne i_193_79 (fun e24 => ?_) (fun e24 => ?_)
          · replace h := h.1 e24
            refine Y_al0 i_193_82 ?_
            exact Y_iv0 (L0 := [.ref 68, .null]) i_193_83 ow_193 lm_10_220 ((k_68 hG).trans ow_187.symm) rfl mx_187 rfl rfl hd_193 h
          · replace h := h.2 e24
            refine Y_il3 i_193_86 ?_
            exact Y_iret i_193_87 rt_193 h
  · replace h := h.2 e1
    refine Y_iconst (v := 0) i_193_7 (by decide) ?_
    exact Y_iret i_193_8 rt_193 h
theorem k_193_86 {d : Nat} {F A : Nat → Nat → Int32} {J : Nat → Nat → Int64} {G : pG} {Q : pR → pM → Prop} {SL p q : Nat} {x1 x2 x3 : Int32} (hG : Geo G SL p q) (h : Q (.inl (some (.int x3))) (F, A, J, G)) : KK (d + 2) 193 86 [.ref 68, .int x1, .int x2, .int x3] [] Q (.inl none) (F, A, J, G) := by
  refine KKv ?_
  refine Y_il3 i_193_86 ?_
  exact Y_iret i_193_87 rt_193 h
/- 194 Model.lay(I)V -/
theorem t_194_0 {d : Nat} {F A : Nat → Nat → Int32} {J : Nat → Nat → Int64} {G : pG} {Q : pR → pM → Prop} {SL p q : Nat} {x1 : Int32} (hG : Geo G SL p q) (h : (((F 68 20) = 0 → inB ((600 : Int32) + (A 72 7)) 1200 = true ∧ (Q (.inl none) (F, (wF (wF A 78 ((600 : Int32) + (A 72 7)).toNatClampNeg x1) 72 7 ((A 72 7) + 1)), J, G))) ∧ (¬ (F 68 20) = 0 → Q (.inl none) (F, A, J, G)))) : X d 194 0 [.ref 68, .int x1] [] (F, A, J, G) Q := by
  refine Y_al0 i_194_0 ?_
  refine Y_gI (v := (F 68 20)) i_194_1 ow_194 lf_10_195 (by decide) (k_68 hG) rfl ?_
  refine Y_zeq i_194_4 (fun e1 => ?_) (fun e1 => ?_)
  · replace h := h.1 e1
    refine Y_al0 i_194_8 ?_
    refine Y_gR i_194_9 ow_194 lf_10_57 (k_68 hG) (r_68_10 hG) ?_
    refine Y_sipush (v := 600) i_194_12 (by decide) ?_
    refine Y_al0 i_194_15 ?_
    refine Y_gR i_194_16 ow_194 lf_10_42 (k_68 hG) (r_68_4 hG) ?_
    refine Y_bipush (v := 7) i_194_19 (by decide) ?_
    refine Y_iaload (k := 7) (v := (A 72 7)) i_194_21 (k_72 hG) (l_72 hG) (by decide) (by decide) rfl ?_
    refine Y_iadd i_194_22 ?_
    refine Y_il1 i_194_23 ?_
    have o2 := h.1
    replace h := h.2
    refine Y_iast i_194_24 (k_78 hG) (l_78 hG) o2 rfl ?_
    refine Y_al0 i_194_25 ?_
    refine Y_gR i_194_26 ow_194 lf_10_42 (k_68 hG) (r_68_4 hG) ?_
    refine Y_bipush (v := 7) i_194_29 (by decide) ?_
    refine Y_dup2 i_194_31 rfl rfl ?_
    refine Y_iaload (k := 7) (v := (A 72 7)) i_194_32 (k_72 hG) (l_72 hG) (by decide) (by decide) (by simp [wF, wJ, va_up, cpR, bF, bA]) ?_
    refine Y_iconst (v := 1) i_194_33 (by decide) ?_
    refine Y_iadd i_194_34 ?_
    refine Y_iast (k := 7) i_194_35 (k_72 hG) (l_72 hG) (by decide) (by decide) ?_
    exact Y_vret i_194_36 rt_194 h
  · replace h := h.2 e1
    exact Y_vret i_194_7 rt_194 h
/- 195 Model.readPart(I)V -/
theorem t_195_0 {d : Nat} {F A : Nat → Nat → Int32} {J : Nat → Nat → Int64} {G : pG} {Q : pR → pM → Prop} {SL p q : Nat} {x1 : Int32} (hG : Geo G SL p q) (h : (((F 68 20) = 0 → (((F 68 16) = 2 → X (d + 2) 193 0 [.ref 68, .int 0, .int 9999, .null] [] (F, A, J, G) (KK (d + 3) 195 25 [.ref 68, .int x1, .null] [.ref 68] Q)) ∧ (¬ (F 68 16) = 2 → (((F 68 16) = 1 → X (d + 2) 190 0 [.ref 68, .ref 70, .null] [] (F, A, J, G) (KK (d + 3) 195 45 [.ref 68, .int x1, .null] [] Q)) ∧ (¬ (F 68 16) = 1 → X (d + 2) 192 0 [.ref 68, .int 40] [] (F, A, J, G) (KK (d + 3) 195 81 [.ref 68, .int x1, .null] [] Q)))))) ∧ (¬ (F 68 20) = 0 → Q (.inl none) (F, A, J, G)))) : X (d + 3) 195 0 [.ref 68, .int x1, .null] [] (F, A, J, G) Q := by
  refine Y_al0 i_195_0 ?_
  refine Y_gI (v := (F 68 20)) i_195_1 ow_195 lf_10_195 (by decide) (k_68 hG) rfl ?_
  refine Y_zeq i_195_4 (fun e1 => ?_) (fun e1 => ?_)
  · replace h := h.1 e1
    refine Y_al0 i_195_8 ?_
    refine Y_gI (v := (F 68 16)) i_195_9 ow_195 lf_10_169 (by decide) (k_68 hG) rfl ?_
    refine Y_iconst (v := 2) i_195_12 (by decide) ?_
    refine Y_cne i_195_13 (fun e2 => ?_) (fun e2 => ?_)
    · replace h := h.1 e2
      refine Y_al0 i_195_16 ?_
      refine Y_al0 i_195_17 ?_
      refine Y_iconst (v := 0) i_195_18 (by decide) ?_
      refine Y_sipush (v := 9999) i_195_19 (by decide) ?_
      exact Y_iv2 (L0 := [.ref 68, .int 0, .int 9999, .null]) i_195_22 ow_195 lm_10_223 ((k_68 hG).trans ow_193.symm) rfl mx_193 rfl rfl hd_195 h
    · replace h := h.2 e2
      refine Y_al0 i_195_29 ?_
      refine Y_gI (v := (F 68 16)) i_195_30 ow_195 lf_10_169 (by decide) (k_68 hG) rfl ?_
      refine Y_iconst (v := 1) i_195_33 (by decide) ?_
      refine Y_cne i_195_34 (fun e3 => ?_) (fun e3 => ?_)
      · replace h := h.1 e3
        refine Y_al0 i_195_37 ?_
        refine Y_al0 i_195_38 ?_
        refine Y_gR i_195_39 ow_195 lf_10_35 (k_68 hG) (r_68_1 hG) ?_
        exact Y_iv1 (L0 := [.ref 68, .ref 70, .null]) i_195_42 ow_195 lm_10_229 ((k_68 hG).trans ow_190.symm) rfl mx_190 rfl rfl hd_195 h
      · replace h := h.2 e3
        refine Y_al0 i_195_75 ?_
        refine Y_bipush (v := 40) i_195_76 (by decide) ?_
        exact Y_iv1 (L0 := [.ref 68, .int 40]) i_195_78 ow_195 lm_10_233 ((k_68 hG).trans ow_192.symm) rfl mx_192 rfl rfl hd_195 h
  · replace h := h.2 e1
    exact Y_vret i_195_7 rt_195 h
theorem k_195_25 {d : Nat} {F A : Nat → Nat → Int32} {J : Nat → Nat → Int64} {G : pG} {Q : pR → pM → Prop} {SL p q : Nat} {x1 r r : Int32} (hG : Geo G SL p q) (h : (((F 68 20) = 0 → inB ((600 : Int32) + (A 72 7)) 1200 = true ∧ (Q (.inl none) (F, (wF (wF A 78 ((600 : Int32) + (A 72 7)).toNatClampNeg r) 72 7 ((A 72 7) + 1)), J, G))) ∧ (¬ (F 68 20) = 0 → Q (.inl none) (F, A, J, G)))) : KK (d + 3) 195 25 [.ref 68, .int x1, .null] [.ref 68] Q (.inl (some (.int r))) (F, A, J, G) := by
  refine KKi ?_
  refine Y_iv1 (L0 := [.ref 68, .int r]) i_195_25 ow_195 lm_10_226 ((k_68 hG).trans ow_194.symm) rfl mx_194 rfl rfl hd_195 ?_
  refine Y_al0 i_194_0 ?_
  refine Y_gI (v := (F 68 20)) i_194_1 ow_194 lf_10_195 (by decide) (k_68 hG) rfl ?_
  refine Y_zeq i_194_4 (fun e1 => ?_) (fun e1 => ?_)
  · replace h := h.1 e1
    refine Y_al0 i_194_8 ?_
    refine Y_gR i_194_9 ow_194 lf_10_57 (k_68 hG) (r_68_10 hG) ?_
    refine Y_sipush (v := 600) i_194_12 (by decide) ?_
    refine Y_al0 i_194_15 ?_
    refine Y_gR i_194_16 ow_194 lf_10_42 (k_68 hG) (r_68_4 hG) ?_
    refine Y_bipush (v := 7) i_194_19 (by decide) ?_
    refine Y_iaload (k := 7) (v := (A 72 7)) i_194_21 (k_72 hG) (l_72 hG) (by decide) (by decide) rfl ?_
    refine Y_iadd i_194_22 ?_
    refine Y_il1 i_194_23 ?_
    have o2 := h.1
    replace h := h.2
    refine Y_iast i_194_24 (k_78 hG) (l_78 hG) o2 rfl ?_
    refine Y_al0 i_194_25 ?_
    refine Y_gR i_194_26 ow_194 lf_10_42 (k_68 hG) (r_68_4 hG) ?_
    refine Y_bipush (v := 7) i_194_29 (by decide) ?_
    refine Y_dup2 i_194_31 rfl rfl ?_
    refine Y_iaload (k := 7) (v := (A 72 7)) i_194_32 (k_72 hG) (l_72 hG) (by decide) (by decide) (by simp [wF, wJ, va_up, cpR, bF, bA]) ?_
    refine Y_iconst (v := 1) i_194_33 (by decide) ?_
    refine Y_iadd i_194_34 ?_
    refine Y_iast (k := 7) i_194_35 (k_72 hG) (l_72 hG) (by decide) (by decide) ?_
    refine Y_vret i_194_36 rt_194 (KKv ?_)
    exact Y_vret i_195_28 rt_195 h
  · replace h := h.2 e1
    refine Y_vret i_194_7 rt_194 (KKv ?_)
    exact Y_vret i_195_28 rt_195 h
theorem k_195_45 {d : Nat} {F A : Nat → Nat → Int32} {J : Nat → Nat → Int64} {G : pG} {Q : pR → pM → Prop} {SL p q : Nat} {x1 r r : Int32} (hG : Geo G SL p q) (h : ((r = (-1) → (((F 68 20) = 0 → Q (.inl none) ((wF (wF F 68 20 3) 68 21 (F 68 18)), A, J, G)) ∧ (¬ (F 68 20) = 0 → (((F 68 20) = 0 → inB ((600 : Int32) + (A 72 7)) 1200 = true ∧ (((F 68 20) = 0 → X (d + 2) 187 0 [.ref 68, .null] [] (F, (wF (wF A 78 ((600 : Int32) + (A 72 7)).toNatClampNeg ((-1 : Int32) - r)) 72 7 ((A 72 7) + 1)), J, G) (KK (d + 3) 195 74 [.ref 68, .int x1, .int r] [] Q)) ∧ (¬ (F 68 20) = 0 → Q (.inl none) (F, (wF (wF A 78 ((600 : Int32) + (A 72 7)).toNatClampNeg ((-1 : Int32) - r)) 72 7 ((A 72 7) + 1)), J, G)))) ∧ (¬ (F 68 20) = 0 → (((F 68 20) = 0 → X (d + 2) 187 0 [.ref 68, .null] [] (F, A, J, G) (KK (d + 3) 195 74 [.ref 68, .int x1, .int r] [] Q)) ∧ (¬ (F 68 20) = 0 → Q (.inl none) (F, A, J, G)))))))) ∧ (¬ r = (-1) → (((F 68 20) = 0 → inB ((600 : Int32) + (A 72 7)) 1200 = true ∧ (((F 68 20) = 0 → X (d + 2) 187 0 [.ref 68, .null] [] (F, (wF (wF A 78 ((600 : Int32) + (A 72 7)).toNatClampNeg ((-1 : Int32) - r)) 72 7 ((A 72 7) + 1)), J, G) (KK (d + 3) 195 74 [.ref 68, .int x1, .int r] [] Q)) ∧ (¬ (F 68 20) = 0 → Q (.inl none) (F, (wF (wF A 78 ((600 : Int32) + (A 72 7)).toNatClampNeg ((-1 : Int32) - r)) 72 7 ((A 72 7) + 1)), J, G)))) ∧ (¬ (F 68 20) = 0 → (((F 68 20) = 0 → X (d + 2) 187 0 [.ref 68, .null] [] (F, A, J, G) (KK (d + 3) 195 74 [.ref 68, .int x1, .int r] [] Q)) ∧ (¬ (F 68 20) = 0 → Q (.inl none) (F, A, J, G)))))))) : KK (d + 3) 195 45 [.ref 68, .int x1, .null] [] Q (.inl (some (.int r))) (F, A, J, G) := by
  refine KKi ?_
  refine Y_is2 i_195_45 rfl ?_
  refine Y_il2 i_195_46 ?_
  refine Y_iconst (v := (-1)) i_195_47 (by decide) ?_
  refine Y_cne i_195_48 (fun e1 => ?_) (fun e1 => ?_)
  · replace h := h.1 e1
    refine Y_al0 i_195_51 ?_
    refine Y_iconst (v := 3) i_195_52 (by decide) ?_
    refine Y_iv1 (L0 := [.ref 68, .int 3]) i_195_53 ow_195 lm_10_216 ((k_68 hG).trans ow_188.symm) rfl mx_188 rfl rfl hd_195 ?_
    refine Y_al0 i_188_0 ?_
    refine Y_gI (v := (F 68 20)) i_188_1 ow_188 lf_10_195 (by decide) (k_68 hG) rfl ?_
    refine Y_zeq i_188_4 (fun e2 => ?_) (fun e2 => ?_)
    · replace h := h.1 e2
      refine Y_al0 i_188_8 ?_
      refine Y_il1 i_188_9 ?_
      refine Y_pI i_188_10 ow_188 lf_10_195 (k_68 hG) ?_
      refine Y_al0 i_188_13 ?_
      refine Y_al0 i_188_14 ?_
      refine Y_gI (v := (F 68 18)) i_188_15 ow_188 lf_10_166 (by decide) (k_68 hG) (by simp [wF, wJ, va_up, cpR, bF, bA]) ?_
      refine Y_pI i_188_18 ow_188 lf_10_198 (k_68 hG) ?_
      refine Y_vret i_188_21 rt_188 (KKv ?_)
      refine Y_al0 i_195_56 ?_
      refine Y_iconst (v := (-1)) i_195_57 (by decide) ?_
      refine Y_il2 i_195_58 ?_
      refine Y_isub i_195_59 ?_
      refine Y_iv1 (L0 := [.ref 68, .int ((-1 : Int32) - r)]) i_195_60 ow_195 lm_10_226 ((k_68 hG).trans ow_194.symm) rfl mx_194 rfl rfl hd_195 ?_
      refine Y_al0 i_194_0 ?_
      refine Y_gI (v := 3) i_194_1 ow_194 lf_10_195 (by decide) (k_68 hG) (by simp [wF, wJ, va_up, cpR, bF, bA]) ?_
      refine Y_zF i_194_4 (by decide) ?_
      refine Y_vret i_194_7 rt_194 (KKv ?_)
      refine Y_al0 i_195_63 ?_
      refine Y_gI (v := 3) i_195_64 ow_195 lf_10_195 (by decide) (k_68 hG) (by simp [wF, wJ, va_up, cpR, bF, bA]) ?_
      refine Y_zT i_195_67 (by decide) ?_
      exact Y_vret i_195_74 rt_195 h
    · replace h := h.2 e2
      refine Y_vret i_188_7 rt_188 (KKv ?_)
      refine Y_al0 i_195_56 ?_
      refine Y_iconst (v := (-1)) i_195_57 (by decide) ?_
      refine Y_il2 i_195_58 ?_
      refine Y_isub i_195_59 ?_
      refine Y_iv1 (L0 := [.ref 68, .int ((-1 : Int32) - r)]) i_195_60 ow_195 lm_10_226 ((k_68 hG).trans ow_194.symm) rfl mx_194 rfl rfl hd_195 ?_
      refine Y_al0 i_194_0 ?_
      refine Y_gI (v := (F 68 20)) i_194_1 ow_194 lf_10_195 (by decide) (k_68 hG) rfl ?_
      refine Y_zeq i_194_4 (fun e3 => ?_) (fun e3 => ?_)
      · replace h := h.1 e3
        refine Y_al0 i_194_8 ?_
        refine Y_gR i_194_9 ow_194 lf_10_57 (k_68 hG) (r_68_10 hG) ?_
        refine Y_sipush (v := 600) i_194_12 (by decide) ?_
        refine Y_al0 i_194_15 ?_
        refine Y_gR i_194_16 ow_194 lf_10_42 (k_68 hG) (r_68_4 hG) ?_
        refine Y_bipush (v := 7) i_194_19 (by decide) ?_
        refine Y_iaload (k := 7) (v := (A 72 7)) i_194_21 (k_72 hG) (l_72 hG) (by decide) (by decide) rfl ?_
        refine Y_iadd i_194_22 ?_
        refine Y_il1 i_194_23 ?_
        have o4 := h.1
        replace h := h.2
        refine Y_iast i_194_24 (k_78 hG) (l_78 hG) o4 rfl ?_
        refine Y_al0 i_194_25 ?_
        refine Y_gR i_194_26 ow_194 lf_10_42 (k_68 hG) (r_68_4 hG) ?_
        refine Y_bipush (v := 7) i_194_29 (by decide) ?_
        refine Y_dup2 i_194_31 rfl rfl ?_
        refine Y_iaload (k := 7) (v := (A 72 7)) i_194_32 (k_72 hG) (l_72 hG) (by decide) (by decide) (by simp [wF, wJ, va_up, cpR, bF, bA]) ?_
        refine Y_iconst (v := 1) i_194_33 (by decide) ?_
        refine Y_iadd i_194_34 ?_
        refine Y_iast (k := 7) i_194_35 (k_72 hG) (l_72 hG) (by decide) (by decide) ?_
        refine Y_vret i_194_36 rt_194 (KKv ?_)
        refine Y_al0 i_195_63 ?_
        refine Y_gI (v := (F 68 20)) i_195_64 ow_195 lf_10_195 (by decide) (k_68 hG) rfl ?_
        refine Y_zne i_195_67 (fun e5 => ?_) (fun e5 => ?_)
        · replace h := h.1 e5
          refine Y_al0 i_195_70 ?_
          exact Y_iv0 (L0 := [.ref 68, .null]) i_195_71 ow_195 lm_10_220 ((k_68 hG).trans ow_187.symm) rfl mx_187 rfl rfl hd_195 h
        · replace h := h.2 e5
          exact Y_vret i_195_74 rt_195 h
      · replace h := h.2 e3
        refine Y_vret i_194_7 rt_194 (KKv ?_)
        refine Y_al0 i_195_63 ?_
        refine Y_gI (v := (F 68 20)) i_195_64 ow_195 lf_10_195 (by decide) (k_68 hG) rfl ?_
        refine Y_zne i_195_67 (fun e6 => ?_) (fun e6 => ?_)
        · replace h := h.1 e6
          refine Y_al0 i_195_70 ?_
          exact Y_iv0 (L0 := [.ref 68, .null]) i_195_71 ow_195 lm_10_220 ((k_68 hG).trans ow_187.symm) rfl mx_187 rfl rfl hd_195 h
        · replace h := h.2 e6
          exact Y_vret i_195_74 rt_195 h
  · replace h := h.2 e1
    refine Y_al0 i_195_56 ?_
    refine Y_iconst (v := (-1)) i_195_57 (by decide) ?_
    refine Y_il2 i_195_58 ?_
    refine Y_isub i_195_59 ?_
    refine Y_iv1 (L0 := [.ref 68, .int ((-1 : Int32) - r)]) i_195_60 ow_195 lm_10_226 ((k_68 hG).trans ow_194.symm) rfl mx_194 rfl rfl hd_195 ?_
    refine Y_al0 i_194_0 ?_
    refine Y_gI (v := (F 68 20)) i_194_1 ow_194 lf_10_195 (by decide) (k_68 hG) rfl ?_
    refine Y_zeq i_194_4 (fun e7 => ?_) (fun e7 => ?_)
    · replace h := h.1 e7
      refine Y_al0 i_194_8 ?_
      refine Y_gR i_194_9 ow_194 lf_10_57 (k_68 hG) (r_68_10 hG) ?_
      refine Y_sipush (v := 600) i_194_12 (by decide) ?_
      refine Y_al0 i_194_15 ?_
      refine Y_gR i_194_16 ow_194 lf_10_42 (k_68 hG) (r_68_4 hG) ?_
      refine Y_bipush (v := 7) i_194_19 (by decide) ?_
      refine Y_iaload (k := 7) (v := (A 72 7)) i_194_21 (k_72 hG) (l_72 hG) (by decide) (by decide) rfl ?_
      refine Y_iadd i_194_22 ?_
      refine Y_il1 i_194_23 ?_
      have o8 := h.1
      replace h := h.2
      refine Y_iast i_194_24 (k_78 hG) (l_78 hG) o8 rfl ?_
      refine Y_al0 i_194_25 ?_
      refine Y_gR i_194_26 ow_194 lf_10_42 (k_68 hG) (r_68_4 hG) ?_
      refine Y_bipush (v := 7) i_194_29 (by decide) ?_
      refine Y_dup2 i_194_31 rfl rfl ?_
      refine Y_iaload (k := 7) (v := (A 72 7)) i_194_32 (k_72 hG) (l_72 hG) (by decide) (by decide) (by simp [wF, wJ, va_up, cpR, bF, bA]) ?_
      refine Y_iconst (v := 1) i_194_33 (by decide) ?_
      refine Y_iadd i_194_34 ?_
      refine Y_iast (k := 7) i_194_35 (k_72 hG) (l_72 hG) (by decide) (by decide) ?_
      refine Y_vret i_194_36 rt_194 (KKv ?_)
      refine Y_al0 i_195_63 ?_
      refine Y_gI (v := (F 68 20)) i_195_64 ow_195 lf_10_195 (by decide) (k_68 hG) rfl ?_
      refine Y_zne i_195_67 (fun e9 => ?_) (fun e9 => ?_)
      · replace h := h.1 e9
        refine Y_al0 i_195_70 ?_
        exact Y_iv0 (L0 := [.ref 68, .null]) i_195_71 ow_195 lm_10_220 ((k_68 hG).trans ow_187.symm) rfl mx_187 rfl rfl hd_195 h
      · replace h := h.2 e9
        exact Y_vret i_195_74 rt_195 h
    · replace h := h.2 e7
      refine Y_vret i_194_7 rt_194 (KKv ?_)
      refine Y_al0 i_195_63 ?_
      refine Y_gI (v := (F 68 20)) i_195_64 ow_195 lf_10_195 (by decide) (k_68 hG) rfl ?_
      refine Y_zne i_195_67 (fun e10 => ?_) (fun e10 => ?_)
      · replace h := h.1 e10
        refine Y_al0 i_195_70 ?_
        exact Y_iv0 (L0 := [.ref 68, .null]) i_195_71 ow_195 lm_10_220 ((k_68 hG).trans ow_187.symm) rfl mx_187 rfl rfl hd_195 h
      · replace h := h.2 e10
        exact Y_vret i_195_74 rt_195 h
theorem k_195_74 {d : Nat} {F A : Nat → Nat → Int32} {J : Nat → Nat → Int64} {G : pG} {Q : pR → pM → Prop} {SL p q : Nat} {x1 x2 : Int32} (hG : Geo G SL p q) (h : Q (.inl none) (F, A, J, G)) : KK (d + 3) 195 74 [.ref 68, .int x1, .int x2] [] Q (.inl none) (F, A, J, G) := by
  refine KKv ?_
  exact Y_vret i_195_74 rt_195 h
theorem k_195_81 {d : Nat} {F A : Nat → Nat → Int32} {J : Nat → Nat → Int64} {G : pG} {Q : pR → pM → Prop} {SL p q : Nat} {x1 : Int32} (hG : Geo G SL p q) (h : X (d + 2) 200 0 [.ref 68, .int (x1 + 1), .null] [] (F, A, J, G) (KK (d + 3) 195 88 [.ref 68, .int x1, .null] [] Q)) : KK (d + 3) 195 81 [.ref 68, .int x1, .null] [] Q (.inl none) (F, A, J, G) := by
  refine KKv ?_
  refine Y_al0 i_195_81 ?_
  refine Y_il1 i_195_82 ?_
  refine Y_iconst (v := 1) i_195_83 (by decide) ?_
  refine Y_iadd i_195_84 ?_
  exact Y_iv1 (L0 := [.ref 68, .int (x1 + 1), .null]) i_195_85 ow_195 lm_10_236 ((k_68 hG).trans ow_200.symm) rfl mx_200 rfl rfl hd_195 h
theorem k_195_88 {d : Nat} {F A : Nat → Nat → Int32} {J : Nat → Nat → Int64} {G : pG} {Q : pR → pM → Prop} {SL p q : Nat} {x1 : Int32} (hG : Geo G SL p q) (h : X (d + 2) 192 0 [.ref 68, .int 41] [] (F, A, J, G) (KK (d + 3) 195 94 [.ref 68, .int x1, .null] [] Q)) : KK (d + 3) 195 88 [.ref 68, .int x1, .null] [] Q (.inl none) (F, A, J, G) := by
  refine KKv ?_
  refine Y_al0 i_195_88 ?_
  refine Y_bipush (v := 41) i_195_89 (by decide) ?_
  exact Y_iv1 (L0 := [.ref 68, .int 41]) i_195_91 ow_195 lm_10_233 ((k_68 hG).trans ow_192.symm) rfl mx_192 rfl rfl hd_195 h
theorem k_195_94 {d : Nat} {F A : Nat → Nat → Int32} {J : Nat → Nat → Int64} {G : pG} {Q : pR → pM → Prop} {SL p q : Nat} {x1 : Int32} (hG : Geo G SL p q) (h : Q (.inl none) (F, A, J, G)) : KK (d + 3) 195 94 [.ref 68, .int x1, .null] [] Q (.inl none) (F, A, J, G) := by
  refine KKv ?_
  exact Y_vret i_195_94 rt_195 h
/- 196 Model.readProduct(I)V -/
theorem t_196_0 {d : Nat} {F A : Nat → Nat → Int32} {J : Nat → Nat → Int64} {G : pG} {Q : pR → pM → Prop} {SL p q : Nat} {x1 : Int32} (hG : Geo G SL p q) (h : X (d + 1) 195 0 [.ref 68, .int x1, .null] [] (F, A, J, G) (KK (d + 2) 196 5 [.ref 68, .int x1, .null] [] Q)) : X (d + 2) 196 0 [.ref 68, .int x1, .null] [] (F, A, J, G) Q := by
  refine Y_al0 i_196_0 ?_
  refine Y_il1 i_196_1 ?_
  exact Y_iv1 (L0 := [.ref 68, .int x1, .null]) i_196_2 ow_196 lm_10_239 ((k_68 hG).trans ow_195.symm) rfl mx_195 rfl rfl hd_196 h
theorem k_196_5 {d : Nat} {F A : Nat → Nat → Int32} {J : Nat → Nat → Int64} {G : pG} {Q : pR → pM → Prop} {SL p q : Nat} {x1 : Int32} (hG : Geo G SL p q) (h : (F 68 20 = 0 → F 68 16 = 3 → inB (F 68 18) 600 = true) ∧ (((mkB (F 68 20) (F 68 16) (A 80 (F 68 18).toNatClampNeg) 42) = true → (((mkB (F 68 20) (F 68 16) (A 80 (F 68 18).toNatClampNeg) 42) = true → X (d + 1) 187 0 [.ref 68, .null] [] (F, A, J, G) (KK (d + 2) 196 44 [.ref 68, .int x1, .int (-22)] [] Q)) ∧ ((mkB (F 68 20) (F 68 16) (A 80 (F 68 18).toNatClampNeg) 42) = false → X (d + 1) 187 0 [.ref 68, .null] [] (F, A, J, G) (KK (d + 2) 196 44 [.ref 68, .int x1, .int (-23)] [] Q)))) ∧ ((mkB (F 68 20) (F 68 16) (A 80 (F 68 18).toNatClampNeg) 42) = false → (((mkB (F 68 20) (F 68 16) (A 80 (F 68 18).toNatClampNeg) 47) = true → (((mkB (F 68 20) (F 68 16) (A 80 (F 68 18).toNatClampNeg) 42) = true → X (d + 1) 187 0 [.ref 68, .null] [] (F, A, J, G) (KK (d + 2) 196 44 [.ref 68, .int x1, .int (-22)] [] Q)) ∧ ((mkB (F 68 20) (F 68 16) (A 80 (F 68 18).toNatClampNeg) 42) = false → X (d + 1) 187 0 [.ref 68, .null] [] (F, A, J, G) (KK (d + 2) 196 44 [.ref 68, .int x1, .int (-23)] [] Q)))) ∧ ((mkB (F 68 20) (F 68 16) (A 80 (F 68 18).toNatClampNeg) 47) = false → Q (.inl none) (F, A, J, G)))))) : KK (d + 2) 196 5 [.ref 68, .int x1, .null] [] Q (.inl none) (F, A, J, G) := by
  refine KKv ?_
  refine Y_al0 i_196_5 ?_
  refine Y_bipush (v := 42) i_196_6 (by decide) ?_
  have o1 := h.1
  replace h := h.2
  refine Y_iv1 (L0 := [.ref 68, .int 42]) i_196_8 ow_196 lm_10_213 ((k_68 hG).trans ow_191.symm) rfl mx_191 rfl rfl hd_196 ?_
  refine c_191 hG o1 (KKi ?_)
  refine Y_bne i_196_11 (fun e2 => ?_) (fun e2 => ?_)
  · replace h := h.1 e2
    refine Y_al0 i_196_23 ?_
    refine Y_bipush (v := 42) i_196_24 (by decide) ?_
    refine Y_iv1 (L0 := [.ref 68, .int 42]) i_196_26 ow_196 lm_10_213 ((k_68 hG).trans ow_191.symm) rfl mx_191 rfl rfl hd_196 ?_
    refine c_191 hG o1 (KKi ?_)
    refine Y_beq i_196_29 (fun e3 => ?_) (fun e3 => ?_)
    · replace h := h.1 e3
      refine Y_bipush (v := (-22)) i_196_32 (by decide) ?_
      refine Y_goto i_196_34 ?_
      refine Y_is2 i_196_39 rfl ?_
      refine Y_al0 i_196_40 ?_
      exact Y_iv0 (L0 := [.ref 68, .null]) i_196_41 ow_196 lm_10_220 ((k_68 hG).trans ow_187.symm) rfl mx_187 rfl rfl hd_196 h
    · replace h := h.2 e3
      refine Y_bipush (v := (-23)) i_196_37 (by decide) ?_
      refine Y_is2 i_196_39 rfl ?_
      refine Y_al0 i_196_40 ?_
      exact Y_iv0 (L0 := [.ref 68, .null]) i_196_41 ow_196 lm_10_220 ((k_68 hG).trans ow_187.symm) rfl mx_187 rfl rfl hd_196 h
  · replace h := h.2 e2
    refine Y_al0 i_196_14 ?_
    refine Y_bipush (v := 47) i_196_15 (by decide) ?_
    refine Y_iv1 (L0 := [.ref 68, .int 47]) i_196_17 ow_196 lm_10_213 ((k_68 hG).trans ow_191.symm) rfl mx_191 rfl rfl hd_196 ?_
    refine c_191 hG o1 (KKi ?_)
    refine Y_beq i_196_20 (fun e4 => ?_) (fun e4 => ?_)
    · replace h := h.1 e4
      refine Y_al0 i_196_23 ?_
      refine Y_bipush (v := 42) i_196_24 (by decide) ?_
      refine Y_iv1 (L0 := [.ref 68, .int 42]) i_196_26 ow_196 lm_10_213 ((k_68 hG).trans ow_191.symm) rfl mx_191 rfl rfl hd_196 ?_
      refine c_191 hG o1 (KKi ?_)
      refine Y_beq i_196_29 (fun e5 => ?_) (fun e5 => ?_)
      · replace h := h.1 e5
        refine Y_bipush (v := (-22)) i_196_32 (by decide) ?_
        refine Y_goto i_196_34 ?_
        refine Y_is2 i_196_39 rfl ?_
        refine Y_al0 i_196_40 ?_
        exact Y_iv0 (L0 := [.ref 68, .null]) i_196_41 ow_196 lm_10_220 ((k_68 hG).trans ow_187.symm) rfl mx_187 rfl rfl hd_196 h
      · replace h := h.2 e5
        refine Y_bipush (v := (-23)) i_196_37 (by decide) ?_
        refine Y_is2 i_196_39 rfl ?_
        refine Y_al0 i_196_40 ?_
        exact Y_iv0 (L0 := [.ref 68, .null]) i_196_41 ow_196 lm_10_220 ((k_68 hG).trans ow_187.symm) rfl mx_187 rfl rfl hd_196 h
    · replace h := h.2 e4
      exact Y_vret i_196_57 rt_196 h
theorem t_196_5 {d : Nat} {F A : Nat → Nat → Int32} {J : Nat → Nat → Int64} {G : pG} {Q : pR → pM → Prop} {SL p q : Nat} {x1 x2 : Int32} (hG : Geo G SL p q) (h : (F 68 20 = 0 → F 68 16 = 3 → inB (F 68 18) 600 = true) ∧ (((mkB (F 68 20) (F 68 16) (A 80 (F 68 18).toNatClampNeg) 42) = true → (((mkB (F 68 20) (F 68 16) (A 80 (F 68 18).toNatClampNeg) 42) = true → X (d + 1) 187 0 [.ref 68, .null] [] (F, A, J, G) (KK (d + 2) 196 44 [.ref 68, .int x1, .int (-22)] [] Q)) ∧ ((mkB (F 68 20) (F 68 16) (A 80 (F 68 18).toNatClampNeg) 42) = false → X (d + 1) 187 0 [.ref 68, .null] [] (F, A, J, G) (KK (d + 2) 196 44 [.ref 68, .int x1, .int (-23)] [] Q)))) ∧ ((mkB (F 68 20) (F 68 16) (A 80 (F 68 18).toNatClampNeg) 42) = false → (((mkB (F 68 20) (F 68 16) (A 80 (F 68 18).toNatClampNeg) 47) = true → (((mkB (F 68 20) (F 68 16) (A 80 (F 68 18).toNatClampNeg) 42) = true → X (d + 1) 187 0 [.ref 68, .null] [] (F, A, J, G) (KK (d + 2) 196 44 [.ref 68, .int x1, .int (-22)] [] Q)) ∧ ((mkB (F 68 20) (F 68 16) (A 80 (F 68 18).toNatClampNeg) 42) = false → X (d + 1) 187 0 [.ref 68, .null] [] (F, A, J, G) (KK (d + 2) 196 44 [.ref 68, .int x1, .int (-23)] [] Q)))) ∧ ((mkB (F 68 20) (F 68 16) (A 80 (F 68 18).toNatClampNeg) 47) = false → Q (.inl none) (F, A, J, G)))))) : X (d + 2) 196 5 [.ref 68, .int x1, .int x2] [] (F, A, J, G) Q := by
  refine Y_al0 i_196_5 ?_
  refine Y_bipush (v := 42) i_196_6 (by decide) ?_
  have o1 := h.1
  replace h := h.2
  refine Y_iv1 (L0 := [.ref 68, .int 42]) i_196_8 ow_196 lm_10_213 ((k_68 hG).trans ow_191.symm) rfl mx_191 rfl rfl hd_196 ?_
  refine c_191 hG o1 (KKi ?_)
  refine Y_bne i_196_11 (fun e2 => ?_) (fun e2 => ?_)
  · replace h := h.1 e2
    refine Y_al0 i_196_23 ?_
    refine Y_bipush (v := 42) i_196_24 (by decide) ?_
    refine Y_iv1 (L0 := [.ref 68, .int 42]) i_196_26 ow_196 lm_10_213 ((k_68 hG).trans ow_191.symm) rfl mx_191 rfl rfl hd_196 ?_
    refine c_191 hG o1 (KKi ?_)
    refine Y_beq i_196_29 (fun e3 => ?_) (fun e3 => ?_)
    · replace h := h.1 e3
      refine Y_bipush (v := (-22)) i_196_32 (by decide) ?_
      refine Y_goto i_196_34 ?_
      refine Y_is2 i_196_39 rfl ?_
      refine Y_al0 i_196_40 ?_
      exact Y_iv0 (L0 := [.ref 68, .null]) i_196_41 ow_196 lm_10_220 ((k_68 hG).trans ow_187.symm) rfl mx_187 rfl rfl hd_196 h
    · replace h := h.2 e3
      refine Y_bipush (v := (-23)) i_196_37 (by decide) ?_
      refine Y_is2 i_196_39 rfl ?_
      refine Y_al0 i_196_40 ?_
      exact Y_iv0 (L0 := [.ref 68, .null]) i_196_41 ow_196 lm_10_220 ((k_68 hG).trans ow_187.symm) rfl mx_187 rfl rfl hd_196 h
  · replace h := h.2 e2
    refine Y_al0 i_196_14 ?_
    refine Y_bipush (v := 47) i_196_15 (by decide) ?_
    refine Y_iv1 (L0 := [.ref 68, .int 47]) i_196_17 ow_196 lm_10_213 ((k_68 hG).trans ow_191.symm) rfl mx_191 rfl rfl hd_196 ?_
    refine c_191 hG o1 (KKi ?_)
    refine Y_beq i_196_20 (fun e4 => ?_) (fun e4 => ?_)
    · replace h := h.1 e4
      refine Y_al0 i_196_23 ?_
      refine Y_bipush (v := 42) i_196_24 (by decide) ?_
      refine Y_iv1 (L0 := [.ref 68, .int 42]) i_196_26 ow_196 lm_10_213 ((k_68 hG).trans ow_191.symm) rfl mx_191 rfl rfl hd_196 ?_
      refine c_191 hG o1 (KKi ?_)
      refine Y_beq i_196_29 (fun e5 => ?_) (fun e5 => ?_)
      · replace h := h.1 e5
        refine Y_bipush (v := (-22)) i_196_32 (by decide) ?_
        refine Y_goto i_196_34 ?_
        refine Y_is2 i_196_39 rfl ?_
        refine Y_al0 i_196_40 ?_
        exact Y_iv0 (L0 := [.ref 68, .null]) i_196_41 ow_196 lm_10_220 ((k_68 hG).trans ow_187.symm) rfl mx_187 rfl rfl hd_196 h
      · replace h := h.2 e5
        refine Y_bipush (v := (-23)) i_196_37 (by decide) ?_
        refine Y_is2 i_196_39 rfl ?_
        refine Y_al0 i_196_40 ?_
        exact Y_iv0 (L0 := [.ref 68, .null]) i_196_41 ow_196 lm_10_220 ((k_68 hG).trans ow_187.symm) rfl mx_187 rfl rfl hd_196 h
    · replace h := h.2 e4
      exact Y_vret i_196_57 rt_196 h
theorem k_196_44 {d : Nat} {F A : Nat → Nat → Int32} {J : Nat → Nat → Int64} {G : pG} {Q : pR → pM → Prop} {SL p q : Nat} {x1 x2 : Int32} (hG : Geo G SL p q) (h : X (d + 1) 195 0 [.ref 68, .int x1, .null] [] (F, A, J, G) (KK (d + 2) 196 49 [.ref 68, .int x1, .int x2] [] Q)) : KK (d + 2) 196 44 [.ref 68, .int x1, .int x2] [] Q (.inl none) (F, A, J, G) := by
  refine KKv ?_
  refine Y_al0 i_196_44 ?_
  refine Y_il1 i_196_45 ?_
  exact Y_iv1 (L0 := [.ref 68, .int x1, .null]) i_196_46 ow_196 lm_10_239 ((k_68 hG).trans ow_195.symm) rfl mx_195 rfl rfl hd_196 h
theorem k_196_49 {d : Nat} {F A : Nat → Nat → Int32} {J : Nat → Nat → Int64} {G : pG} {Q : pR → pM → Prop} {SL p q : Nat} {x1 x2 : Int32} (hG : Geo G SL p q) (h : (((F 68 20) = 0 → inB ((600 : Int32) + (A 72 7)) 1200 = true ∧ (X (d + 2) 196 5 [.ref 68, .int x1, .int x2] [] (F, (wF (wF A 78 ((600 : Int32) + (A 72 7)).toNatClampNeg x2) 72 7 ((A 72 7) + 1)), J, G) Q)) ∧ (¬ (F 68 20) = 0 → X (d + 2) 196 5 [.ref 68, .int x1, .int x2] [] (F, A, J, G) Q))) : KK (d + 2) 196 49 [.ref 68, .int x1, .int x2] [] Q (.inl none) (F, A, J, G) := by
  refine KKv ?_
  refine Y_al0 i_196_49 ?_
  refine Y_il2 i_196_50 ?_
  refine Y_iv1 (L0 := [.ref 68, .int x2]) i_196_51 ow_196 lm_10_226 ((k_68 hG).trans ow_194.symm) rfl mx_194 rfl rfl hd_196 ?_
  refine Y_al0 i_194_0 ?_
  refine Y_gI (v := (F 68 20)) i_194_1 ow_194 lf_10_195 (by decide) (k_68 hG) rfl ?_
  refine Y_zeq i_194_4 (fun e1 => ?_) (fun e1 => ?_)
  · replace h := h.1 e1
    refine Y_al0 i_194_8 ?_
    refine Y_gR i_194_9 ow_194 lf_10_57 (k_68 hG) (r_68_10 hG) ?_
    refine Y_sipush (v := 600) i_194_12 (by decide) ?_
    refine Y_al0 i_194_15 ?_
    refine Y_gR i_194_16 ow_194 lf_10_42 (k_68 hG) (r_68_4 hG) ?_
    refine Y_bipush (v := 7) i_194_19 (by decide) ?_
    refine Y_iaload (k := 7) (v := (A 72 7)) i_194_21 (k_72 hG) (l_72 hG) (by decide) (by decide) rfl ?_
    refine Y_iadd i_194_22 ?_
    refine Y_il1 i_194_23 ?_
    have o2 := h.1
    replace h := h.2
    refine Y_iast i_194_24 (k_78 hG) (l_78 hG) o2 rfl ?_
    refine Y_al0 i_194_25 ?_
    refine Y_gR i_194_26 ow_194 lf_10_42 (k_68 hG) (r_68_4 hG) ?_
    refine Y_bipush (v := 7) i_194_29 (by decide) ?_
    refine Y_dup2 i_194_31 rfl rfl ?_
    refine Y_iaload (k := 7) (v := (A 72 7)) i_194_32 (k_72 hG) (l_72 hG) (by decide) (by decide) (by simp [wF, wJ, va_up, cpR, bF, bA]) ?_
    refine Y_iconst (v := 1) i_194_33 (by decide) ?_
    refine Y_iadd i_194_34 ?_
    refine Y_iast (k := 7) i_194_35 (k_72 hG) (l_72 hG) (by decide) (by decide) ?_
    refine Y_vret i_194_36 rt_194 (KKv ?_)
    refine Y_goto i_196_54 ?_
    exact h
  · replace h := h.2 e1
    refine Y_vret i_194_7 rt_194 (KKv ?_)
    refine Y_goto i_196_54 ?_
    exact h
/- 197 Model.readSum(I)V -/
theorem t_197_0 {d : Nat} {F A : Nat → Nat → Int32} {J : Nat → Nat → Int64} {G : pG} {Q : pR → pM → Prop} {SL p q : Nat} {x1 : Int32} (hG : Geo G SL p q) (h : X (d + 1) 196 0 [.ref 68, .int x1, .null] [] (F, A, J, G) (KK (d + 2) 197 5 [.ref 68, .int x1, .null] [] Q)) : X (d + 2) 197 0 [.ref 68, .int x1, .null] [] (F, A, J, G) Q := by
  refine Y_al0 i_197_0 ?_
  refine Y_il1 i_197_1 ?_
  exact Y_iv1 (L0 := [.ref 68, .int x1, .null]) i_197_2 ow_197 lm_10_242 ((k_68 hG).trans ow_196.symm) rfl mx_196 rfl rfl hd_197 h
theorem k_197_5 {d : Nat} {F A : Nat → Nat → Int32} {J : Nat → Nat → Int64} {G : pG} {Q : pR → pM → Prop} {SL p q : Nat} {x1 : Int32} (hG : Geo G SL p q) (h : (F 68 20 = 0 → F 68 16 = 3 → inB (F 68 18) 600 = true) ∧ (((mkB (F 68 20) (F 68 16) (A 80 (F 68 18).toNatClampNeg) 43) = true → (((mkB (F 68 20) (F 68 16) (A 80 (F 68 18).toNatClampNeg) 43) = true → X (d + 1) 187 0 [.ref 68, .null] [] (F, A, J, G) (KK (d + 2) 197 44 [.ref 68, .int x1, .int (-20)] [] Q)) ∧ ((mkB (F 68 20) (F 68 16) (A 80 (F 68 18).toNatClampNeg) 43) = false → X (d + 1) 187 0 [.ref 68, .null] [] (F, A, J, G) (KK (d + 2) 197 44 [.ref 68, .int x1, .int (-21)] [] Q)))) ∧ ((mkB (F 68 20) (F 68 16) (A 80 (F 68 18).toNatClampNeg) 43) = false → (((mkB (F 68 20) (F 68 16) (A 80 (F 68 18).toNatClampNeg) 45) = true → (((mkB (F 68 20) (F 68 16) (A 80 (F 68 18).toNatClampNeg) 43) = true → X (d + 1) 187 0 [.ref 68, .null] [] (F, A, J, G) (KK (d + 2) 197 44 [.ref 68, .int x1, .int (-20)] [] Q)) ∧ ((mkB (F 68 20) (F 68 16) (A 80 (F 68 18).toNatClampNeg) 43) = false → X (d + 1) 187 0 [.ref 68, .null] [] (F, A, J, G) (KK (d + 2) 197 44 [.ref 68, .int x1, .int (-21)] [] Q)))) ∧ ((mkB (F 68 20) (F 68 16) (A 80 (F 68 18).toNatClampNeg) 45) = false → Q (.inl none) (F, A, J, G)))))) : KK (d + 2) 197 5 [.ref 68, .int x1, .null] [] Q (.inl none) (F, A, J, G) := by
  refine KKv ?_
  refine Y_al0 i_197_5 ?_
  refine Y_bipush (v := 43) i_197_6 (by decide) ?_
  have o1 := h.1
  replace h := h.2
  refine Y_iv1 (L0 := [.ref 68, .int 43]) i_197_8 ow_197 lm_10_213 ((k_68 hG).trans ow_191.symm) rfl mx_191 rfl rfl hd_197 ?_
  refine c_191 hG o1 (KKi ?_)
  refine Y_bne i_197_11 (fun e2 => ?_) (fun e2 => ?_)
  · replace h := h.1 e2
    refine Y_al0 i_197_23 ?_
    refine Y_bipush (v := 43) i_197_24 (by decide) ?_
    refine Y_iv1 (L0 := [.ref 68, .int 43]) i_197_26 ow_197 lm_10_213 ((k_68 hG).trans ow_191.symm) rfl mx_191 rfl rfl hd_197 ?_
    refine c_191 hG o1 (KKi ?_)
    refine Y_beq i_197_29 (fun e3 => ?_) (fun e3 => ?_)
    · replace h := h.1 e3
      refine Y_bipush (v := (-20)) i_197_32 (by decide) ?_
      refine Y_goto i_197_34 ?_
      refine Y_is2 i_197_39 rfl ?_
      refine Y_al0 i_197_40 ?_
      exact Y_iv0 (L0 := [.ref 68, .null]) i_197_41 ow_197 lm_10_220 ((k_68 hG).trans ow_187.symm) rfl mx_187 rfl rfl hd_197 h
    · replace h := h.2 e3
      refine Y_bipush (v := (-21)) i_197_37 (by decide) ?_
      refine Y_is2 i_197_39 rfl ?_
      refine Y_al0 i_197_40 ?_
      exact Y_iv0 (L0 := [.ref 68, .null]) i_197_41 ow_197 lm_10_220 ((k_68 hG).trans ow_187.symm) rfl mx_187 rfl rfl hd_197 h
  · replace h := h.2 e2
    refine Y_al0 i_197_14 ?_
    refine Y_bipush (v := 45) i_197_15 (by decide) ?_
    refine Y_iv1 (L0 := [.ref 68, .int 45]) i_197_17 ow_197 lm_10_213 ((k_68 hG).trans ow_191.symm) rfl mx_191 rfl rfl hd_197 ?_
    refine c_191 hG o1 (KKi ?_)
    refine Y_beq i_197_20 (fun e4 => ?_) (fun e4 => ?_)
    · replace h := h.1 e4
      refine Y_al0 i_197_23 ?_
      refine Y_bipush (v := 43) i_197_24 (by decide) ?_
      refine Y_iv1 (L0 := [.ref 68, .int 43]) i_197_26 ow_197 lm_10_213 ((k_68 hG).trans ow_191.symm) rfl mx_191 rfl rfl hd_197 ?_
      refine c_191 hG o1 (KKi ?_)
      refine Y_beq i_197_29 (fun e5 => ?_) (fun e5 => ?_)
      · replace h := h.1 e5
        refine Y_bipush (v := (-20)) i_197_32 (by decide) ?_
        refine Y_goto i_197_34 ?_
        refine Y_is2 i_197_39 rfl ?_
        refine Y_al0 i_197_40 ?_
        exact Y_iv0 (L0 := [.ref 68, .null]) i_197_41 ow_197 lm_10_220 ((k_68 hG).trans ow_187.symm) rfl mx_187 rfl rfl hd_197 h
      · replace h := h.2 e5
        refine Y_bipush (v := (-21)) i_197_37 (by decide) ?_
        refine Y_is2 i_197_39 rfl ?_
        refine Y_al0 i_197_40 ?_
        exact Y_iv0 (L0 := [.ref 68, .null]) i_197_41 ow_197 lm_10_220 ((k_68 hG).trans ow_187.symm) rfl mx_187 rfl rfl hd_197 h
    · replace h := h.2 e4
      exact Y_vret i_197_57 rt_197 h
theorem t_197_5 {d : Nat} {F A : Nat → Nat → Int32} {J : Nat → Nat → Int64} {G : pG} {Q : pR → pM → Prop} {SL p q : Nat} {x1 x2 : Int32} (hG : Geo G SL p q) (h : (F 68 20 = 0 → F 68 16 = 3 → inB (F 68 18) 600 = true) ∧ (((mkB (F 68 20) (F 68 16) (A 80 (F 68 18).toNatClampNeg) 43) = true → (((mkB (F 68 20) (F 68 16) (A 80 (F 68 18).toNatClampNeg) 43) = true → X (d + 1) 187 0 [.ref 68, .null] [] (F, A, J, G) (KK (d + 2) 197 44 [.ref 68, .int x1, .int (-20)] [] Q)) ∧ ((mkB (F 68 20) (F 68 16) (A 80 (F 68 18).toNatClampNeg) 43) = false → X (d + 1) 187 0 [.ref 68, .null] [] (F, A, J, G) (KK (d + 2) 197 44 [.ref 68, .int x1, .int (-21)] [] Q)))) ∧ ((mkB (F 68 20) (F 68 16) (A 80 (F 68 18).toNatClampNeg) 43) = false → (((mkB (F 68 20) (F 68 16) (A 80 (F 68 18).toNatClampNeg) 45) = true → (((mkB (F 68 20) (F 68 16) (A 80 (F 68 18).toNatClampNeg) 43) = true → X (d + 1) 187 0 [.ref 68, .null] [] (F, A, J, G) (KK (d + 2) 197 44 [.ref 68, .int x1, .int (-20)] [] Q)) ∧ ((mkB (F 68 20) (F 68 16) (A 80 (F 68 18).toNatClampNeg) 43) = false → X (d + 1) 187 0 [.ref 68, .null] [] (F, A, J, G) (KK (d + 2) 197 44 [.ref 68, .int x1, .int (-21)] [] Q)))) ∧ ((mkB (F 68 20) (F 68 16) (A 80 (F 68 18).toNatClampNeg) 45) = false → Q (.inl none) (F, A, J, G)))))) : X (d + 2) 197 5 [.ref 68, .int x1, .int x2] [] (F, A, J, G) Q := by
  refine Y_al0 i_197_5 ?_
  refine Y_bipush (v := 43) i_197_6 (by decide) ?_
  have o1 := h.1
  replace h := h.2
  refine Y_iv1 (L0 := [.ref 68, .int 43]) i_197_8 ow_197 lm_10_213 ((k_68 hG).trans ow_191.symm) rfl mx_191 rfl rfl hd_197 ?_
  refine c_191 hG o1 (KKi ?_)
  refine Y_bne i_197_11 (fun e2 => ?_) (fun e2 => ?_)
  · replace h := h.1 e2
    refine Y_al0 i_197_23 ?_
    refine Y_bipush (v := 43) i_197_24 (by decide) ?_
    refine Y_iv1 (L0 := [.ref 68, .int 43]) i_197_26 ow_197 lm_10_213 ((k_68 hG).trans ow_191.symm) rfl mx_191 rfl rfl hd_197 ?_
    refine c_191 hG o1 (KKi ?_)
    refine Y_beq i_197_29 (fun e3 => ?_) (fun e3 => ?_)
    · replace h := h.1 e3
      refine Y_bipush (v := (-20)) i_197_32 (by decide) ?_
      refine Y_goto i_197_34 ?_
      refine Y_is2 i_197_39 rfl ?_
      refine Y_al0 i_197_40 ?_
      exact Y_iv0 (L0 := [.ref 68, .null]) i_197_41 ow_197 lm_10_220 ((k_68 hG).trans ow_187.symm) rfl mx_187 rfl rfl hd_197 h
    · replace h := h.2 e3
      refine Y_bipush (v := (-21)) i_197_37 (by decide) ?_
      refine Y_is2 i_197_39 rfl ?_
      refine Y_al0 i_197_40 ?_
      exact Y_iv0 (L0 := [.ref 68, .null]) i_197_41 ow_197 lm_10_220 ((k_68 hG).trans ow_187.symm) rfl mx_187 rfl rfl hd_197 h
  · replace h := h.2 e2
    refine Y_al0 i_197_14 ?_
    refine Y_bipush (v := 45) i_197_15 (by decide) ?_
    refine Y_iv1 (L0 := [.ref 68, .int 45]) i_197_17 ow_197 lm_10_213 ((k_68 hG).trans ow_191.symm) rfl mx_191 rfl rfl hd_197 ?_
    refine c_191 hG o1 (KKi ?_)
    refine Y_beq i_197_20 (fun e4 => ?_) (fun e4 => ?_)
    · replace h := h.1 e4
      refine Y_al0 i_197_23 ?_
      refine Y_bipush (v := 43) i_197_24 (by decide) ?_
      refine Y_iv1 (L0 := [.ref 68, .int 43]) i_197_26 ow_197 lm_10_213 ((k_68 hG).trans ow_191.symm) rfl mx_191 rfl rfl hd_197 ?_
      refine c_191 hG o1 (KKi ?_)
      refine Y_beq i_197_29 (fun e5 => ?_) (fun e5 => ?_)
      · replace h := h.1 e5
        refine Y_bipush (v := (-20)) i_197_32 (by decide) ?_
        refine Y_goto i_197_34 ?_
        refine Y_is2 i_197_39 rfl ?_
        refine Y_al0 i_197_40 ?_
        exact Y_iv0 (L0 := [.ref 68, .null]) i_197_41 ow_197 lm_10_220 ((k_68 hG).trans ow_187.symm) rfl mx_187 rfl rfl hd_197 h
      · replace h := h.2 e5
        refine Y_bipush (v := (-21)) i_197_37 (by decide) ?_
        refine Y_is2 i_197_39 rfl ?_
        refine Y_al0 i_197_40 ?_
        exact Y_iv0 (L0 := [.ref 68, .null]) i_197_41 ow_197 lm_10_220 ((k_68 hG).trans ow_187.symm) rfl mx_187 rfl rfl hd_197 h
    · replace h := h.2 e4
      exact Y_vret i_197_57 rt_197 h
theorem k_197_44 {d : Nat} {F A : Nat → Nat → Int32} {J : Nat → Nat → Int64} {G : pG} {Q : pR → pM → Prop} {SL p q : Nat} {x1 x2 : Int32} (hG : Geo G SL p q) (h : X (d + 1) 196 0 [.ref 68, .int x1, .null] [] (F, A, J, G) (KK (d + 2) 197 49 [.ref 68, .int x1, .int x2] [] Q)) : KK (d + 2) 197 44 [.ref 68, .int x1, .int x2] [] Q (.inl none) (F, A, J, G) := by
  refine KKv ?_
  refine Y_al0 i_197_44 ?_
  refine Y_il1 i_197_45 ?_
  exact Y_iv1 (L0 := [.ref 68, .int x1, .null]) i_197_46 ow_197 lm_10_242 ((k_68 hG).trans ow_196.symm) rfl mx_196 rfl rfl hd_197 h
theorem k_197_49 {d : Nat} {F A : Nat → Nat → Int32} {J : Nat → Nat → Int64} {G : pG} {Q : pR → pM → Prop} {SL p q : Nat} {x1 x2 : Int32} (hG : Geo G SL p q) (h : (((F 68 20) = 0 → inB ((600 : Int32) + (A 72 7)) 1200 = true ∧ (X (d + 2) 197 5 [.ref 68, .int x1, .int x2] [] (F, (wF (wF A 78 ((600 : Int32) + (A 72 7)).toNatClampNeg x2) 72 7 ((A 72 7) + 1)), J, G) Q)) ∧ (¬ (F 68 20) = 0 → X (d + 2) 197 5 [.ref 68, .int x1, .int x2] [] (F, A, J, G) Q))) : KK (d + 2) 197 49 [.ref 68, .int x1, .int x2] [] Q (.inl none) (F, A, J, G) := by
  refine KKv ?_
  refine Y_al0 i_197_49 ?_
  refine Y_il2 i_197_50 ?_
  refine Y_iv1 (L0 := [.ref 68, .int x2]) i_197_51 ow_197 lm_10_226 ((k_68 hG).trans ow_194.symm) rfl mx_194 rfl rfl hd_197 ?_
  refine Y_al0 i_194_0 ?_
  refine Y_gI (v := (F 68 20)) i_194_1 ow_194 lf_10_195 (by decide) (k_68 hG) rfl ?_
  refine Y_zeq i_194_4 (fun e1 => ?_) (fun e1 => ?_)
  · replace h := h.1 e1
    refine Y_al0 i_194_8 ?_
    refine Y_gR i_194_9 ow_194 lf_10_57 (k_68 hG) (r_68_10 hG) ?_
    refine Y_sipush (v := 600) i_194_12 (by decide) ?_
    refine Y_al0 i_194_15 ?_
    refine Y_gR i_194_16 ow_194 lf_10_42 (k_68 hG) (r_68_4 hG) ?_
    refine Y_bipush (v := 7) i_194_19 (by decide) ?_
    refine Y_iaload (k := 7) (v := (A 72 7)) i_194_21 (k_72 hG) (l_72 hG) (by decide) (by decide) rfl ?_
    refine Y_iadd i_194_22 ?_
    refine Y_il1 i_194_23 ?_
    have o2 := h.1
    replace h := h.2
    refine Y_iast i_194_24 (k_78 hG) (l_78 hG) o2 rfl ?_
    refine Y_al0 i_194_25 ?_
    refine Y_gR i_194_26 ow_194 lf_10_42 (k_68 hG) (r_68_4 hG) ?_
    refine Y_bipush (v := 7) i_194_29 (by decide) ?_
    refine Y_dup2 i_194_31 rfl rfl ?_
    refine Y_iaload (k := 7) (v := (A 72 7)) i_194_32 (k_72 hG) (l_72 hG) (by decide) (by decide) (by simp [wF, wJ, va_up, cpR, bF, bA]) ?_
    refine Y_iconst (v := 1) i_194_33 (by decide) ?_
    refine Y_iadd i_194_34 ?_
    refine Y_iast (k := 7) i_194_35 (k_72 hG) (l_72 hG) (by decide) (by decide) ?_
    refine Y_vret i_194_36 rt_194 (KKv ?_)
    refine Y_goto i_197_54 ?_
    exact h
  · replace h := h.2 e1
    refine Y_vret i_194_7 rt_194 (KKv ?_)
    refine Y_goto i_197_54 ?_
    exact h
/- 198 Model.readNot(I)V -/
theorem t_198_0 {d : Nat} {F A : Nat → Nat → Int32} {J : Nat → Nat → Int64} {G : pG} {Q : pR → pM → Prop} {SL p q : Nat} {x1 : Int32} (hG : Geo G SL p q) (h : X (d + 2) 198 2 [.ref 68, .int x1, .int 0, .null] [] (F, A, J, G) Q) : X (d + 2) 198 0 [.ref 68, .int x1, .null, .null] [] (F, A, J, G) Q := by
  refine Y_iconst (v := 0) i_198_0 (by decide) ?_
  refine Y_is2 i_198_1 rfl ?_
  exact h
theorem t_198_2 {d : Nat} {F A : Nat → Nat → Int32} {J : Nat → Nat → Int64} {G : pG} {Q : pR → pM → Prop} {SL p q : Nat} {x1 x2 : Int32} (hG : Geo G SL p q) (h : X (d + 1) 189 0 [.ref 68, .ref 1009, .null, .null] [] (F, A, J, G) (KK (d + 2) 198 8 [.ref 68, .int x1, .int x2, .null] [] Q)) : X (d + 2) 198 2 [.ref 68, .int x1, .int x2, .null] [] (F, A, J, G) Q := by
  refine Y_al0 i_198_2 ?_
  refine Y_ldcS (r := 1009) i_198_3 ow_198 li_10_245 ls_10_245 rfl ?_
  exact Y_iv1 (L0 := [.ref 68, .ref 1009, .null, .null]) i_198_5 ow_198 lm_10_209 ((k_68 hG).trans ow_189.symm) rfl mx_189 rfl rfl hd_198 h
theorem k_198_8 {d : Nat} {F A : Nat → Nat → Int32} {J : Nat → Nat → Int64} {G : pG} {Q : pR → pM → Prop} {SL p q : Nat} {x1 x2 r r : Int32} (hG : Geo G SL p q) (h : ((r = 0 → X (d + 1) 197 0 [.ref 68, .int x1, .null] [] (F, A, J, G) (KK (d + 2) 198 44 [.ref 68, .int x1, .int x2, .null] [] Q)) ∧ (¬ r = 0 → ((x2 = 6 → (((F 68 20) = 0 → X (d + 2) 198 2 [.ref 68, .int x1, .int (x2 + 1), .null] [] ((wF (wF F 68 20 2) 68 21 (F 68 18)), A, J, G) Q) ∧ (¬ (F 68 20) = 0 → (((F 68 20) = 0 → X (d + 1) 187 0 [.ref 68, .null] [] (F, A, J, G) (KK (d + 2) 198 36 [.ref 68, .int x1, .int (x2 + 1), .null] [] Q)) ∧ (¬ (F 68 20) = 0 → X (d + 2) 198 2 [.ref 68, .int x1, .int (x2 + 1), .null] [] (F, A, J, G) Q))))) ∧ (¬ x2 = 6 → (((F 68 20) = 0 → X (d + 1) 187 0 [.ref 68, .null] [] (F, A, J, G) (KK (d + 2) 198 36 [.ref 68, .int x1, .int (x2 + 1), .null] [] Q)) ∧ (¬ (F 68 20) = 0 → X (d + 2) 198 2 [.ref 68, .int x1, .int (x2 + 1), .null] [] (F, A, J, G) Q))))))) : KK (d + 2) 198 8 [.ref 68, .int x1, .int x2, .null] [] Q (.inl (some (.int r))) (F, A, J, G) := by
  refine KKi ?_
  refine Y_zeq i_198_8 (fun e1 => ?_) (fun e1 => ?_)
  · replace h := h.1 e1
    refine Y_al0 i_198_39 ?_
    refine Y_il1 i_198_40 ?_
    exact Y_iv1 (L0 := [.ref 68, .int x1, .null]) i_198_41 ow_198 lm_10_247 ((k_68 hG).trans ow_197.symm) rfl mx_197 rfl rfl hd_198 h
  · replace h := h.2 e1
    refine Y_il2 i_198_11 ?_
    refine Y_bipush (v := 6) i_198_12 (by decide) ?_
    refine Y_cne i_198_14 (fun e2 => ?_) (fun e2 => ?_)
    · replace h := h.1 e2
      refine Y_al0 i_198_17 ?_
      refine Y_iconst (v := 2) i_198_18 (by decide) ?_
      refine Y_iv1 (L0 := [.ref 68, .int 2]) i_198_19 ow_198 lm_10_216 ((k_68 hG).trans ow_188.symm) rfl mx_188 rfl rfl hd_198 ?_
      refine Y_al0 i_188_0 ?_
      refine Y_gI (v := (F 68 20)) i_188_1 ow_188 lf_10_195 (by decide) (k_68 hG) rfl ?_
      refine Y_zeq i_188_4 (fun e3 => ?_) (fun e3 => ?_)
      · replace h := h.1 e3
        refine Y_al0 i_188_8 ?_
        refine Y_il1 i_188_9 ?_
        refine Y_pI i_188_10 ow_188 lf_10_195 (k_68 hG) ?_
        refine Y_al0 i_188_13 ?_
        refine Y_al0 i_188_14 ?_
        refine Y_gI (v := (F 68 18)) i_188_15 ow_188 lf_10_166 (by decide) (k_68 hG) (by simp [wF, wJ, va_up, cpR, bF, bA]) ?_
        refine Y_pI i_188_18 ow_188 lf_10_198 (k_68 hG) ?_
        refine Y_vret i_188_21 rt_188 (KKv ?_)
        refine Y_ii2 (v := 1) i_198_22 (by decide) rfl ?_
        refine Y_al0 i_198_25 ?_
        refine Y_gI (v := 2) i_198_26 ow_198 lf_10_195 (by decide) (k_68 hG) (by simp [wF, wJ, va_up, cpR, bF, bA]) ?_
        refine Y_zT i_198_29 (by decide) ?_
        exact h
      · replace h := h.2 e3
        refine Y_vret i_188_7 rt_188 (KKv ?_)
        refine Y_ii2 (v := 1) i_198_22 (by decide) rfl ?_
        refine Y_al0 i_198_25 ?_
        refine Y_gI (v := (F 68 20)) i_198_26 ow_198 lf_10_195 (by decide) (k_68 hG) rfl ?_
        refine Y_zne i_198_29 (fun e4 => ?_) (fun e4 => ?_)
        · replace h := h.1 e4
          refine Y_al0 i_198_32 ?_
          exact Y_iv0 (L0 := [.ref 68, .null]) i_198_33 ow_198 lm_10_220 ((k_68 hG).trans ow_187.symm) rfl mx_187 rfl rfl hd_198 h
        · replace h := h.2 e4
          exact h
    · replace h := h.2 e2
      refine Y_ii2 (v := 1) i_198_22 (by decide) rfl ?_
      refine Y_al0 i_198_25 ?_
      refine Y_gI (v := (F 68 20)) i_198_26 ow_198 lf_10_195 (by decide) (k_68 hG) rfl ?_
      refine Y_zne i_198_29 (fun e5 => ?_) (fun e5 => ?_)
      · replace h := h.1 e5
        refine Y_al0 i_198_32 ?_
        exact Y_iv0 (L0 := [.ref 68, .null]) i_198_33 ow_198 lm_10_220 ((k_68 hG).trans ow_187.symm) rfl mx_187 rfl rfl hd_198 h
      · replace h := h.2 e5
        exact h
theorem k_198_36 {d : Nat} {F A : Nat → Nat → Int32} {J : Nat → Nat → Int64} {G : pG} {Q : pR → pM → Prop} {SL p q : Nat} {x1 x2 : Int32} (hG : Geo G SL p q) (h : X (d + 2) 198 2 [.ref 68, .int x1, .int x2, .null] [] (F, A, J, G) Q) : KK (d + 2) 198 36 [.ref 68, .int x1, .int x2, .null] [] Q (.inl none) (F, A, J, G) := by
  refine KKv ?_
  refine Y_goto i_198_36 ?_
  exact h
theorem k_198_44 {d : Nat} {F A : Nat → Nat → Int32} {J : Nat → Nat → Int64} {G : pG} {Q : pR → pM → Prop} {SL p q : Nat} {x1 x2 : Int32} (hG : Geo G SL p q) (h : (F 68 20 = 0 → F 68 16 = 3 → inB (F 68 18) 600 = true) ∧ (((mkB (F 68 20) (F 68 16) (A 80 (F 68 18).toNatClampNeg) 60) = true → (((mkB (F 68 20) (F 68 16) (A 80 (F 68 18).toNatClampNeg) 60) = true → X (d + 1) 187 0 [.ref 68, .null] [] (F, A, J, G) (KK (d + 2) 198 83 [.ref 68, .int x1, .int x2, .int (-24)] [] Q)) ∧ ((mkB (F 68 20) (F 68 16) (A 80 (F 68 18).toNatClampNeg) 60) = false → X (d + 1) 187 0 [.ref 68, .null] [] (F, A, J, G) (KK (d + 2) 198 83 [.ref 68, .int x1, .int x2, .int (-25)] [] Q)))) ∧ ((mkB (F 68 20) (F 68 16) (A 80 (F 68 18).toNatClampNeg) 60) = false → (((mkB (F 68 20) (F 68 16) (A 80 (F 68 18).toNatClampNeg) 61) = true → (((mkB (F 68 20) (F 68 16) (A 80 (F 68 18).toNatClampNeg) 60) = true → X (d + 1) 187 0 [.ref 68, .null] [] (F, A, J, G) (KK (d + 2) 198 83 [.ref 68, .int x1, .int x2, .int (-24)] [] Q)) ∧ ((mkB (F 68 20) (F 68 16) (A 80 (F 68 18).toNatClampNeg) 60) = false → X (d + 1) 187 0 [.ref 68, .null] [] (F, A, J, G) (KK (d + 2) 198 83 [.ref 68, .int x1, .int x2, .int (-25)] [] Q)))) ∧ ((mkB (F 68 20) (F 68 16) (A 80 (F 68 18).toNatClampNeg) 61) = false → X (d + 2) 198 95 [.ref 68, .int x1, .int x2, .int 0] [] (F, A, J, G) Q))))) : KK (d + 2) 198 44 [.ref 68, .int x1, .int x2, .null] [] Q (.inl none) (F, A, J, G) := by
  refine KKv ?_
  refine Y_al0 i_198_44 ?_
  refine Y_bipush (v := 60) i_198_45 (by decide) ?_
  have o1 := h.1
  replace h := h.2
  refine Y_iv1 (L0 := [.ref 68, .int 60]) i_198_47 ow_198 lm_10_213 ((k_68 hG).trans ow_191.symm) rfl mx_191 rfl rfl hd_198 ?_
  refine c_191 hG o1 (KKi ?_)
  refine Y_bne i_198_50 (fun e2 => ?_) (fun e2 => ?_)
  · replace h := h.1 e2
    refine Y_al0 i_198_62 ?_
    refine Y_bipush (v := 60) i_198_63 (by decide) ?_
    refine Y_iv1 (L0 := [.ref 68, .int 60]) i_198_65 ow_198 lm_10_213 ((k_68 hG).trans ow_191.symm) rfl mx_191 rfl rfl hd_198 ?_
    refine c_191 hG o1 (KKi ?_)
    refine Y_beq i_198_68 (fun e3 => ?_) (fun e3 => ?_)
    · replace h := h.1 e3
      refine Y_bipush (v := (-24)) i_198_71 (by decide) ?_
      refine Y_goto i_198_73 ?_
      refine Y_is3 i_198_78 rfl ?_
      refine Y_al0 i_198_79 ?_
      exact Y_iv0 (L0 := [.ref 68, .null]) i_198_80 ow_198 lm_10_220 ((k_68 hG).trans ow_187.symm) rfl mx_187 rfl rfl hd_198 h
    · replace h := h.2 e3
      refine Y_bipush (v := (-25)) i_198_76 (by decide) ?_
      refine Y_is3 i_198_78 rfl ?_
      refine Y_al0 i_198_79 ?_
      exact Y_iv0 (L0 := [.ref 68, .null]) i_198_80 ow_198 lm_10_220 ((k_68 hG).trans ow_187.symm) rfl mx_187 rfl rfl hd_198 h
  · replace h := h.2 e2
    refine Y_al0 i_198_53 ?_
    refine Y_bipush (v := 61) i_198_54 (by decide) ?_
    refine Y_iv1 (L0 := [.ref 68, .int 61]) i_198_56 ow_198 lm_10_213 ((k_68 hG).trans ow_191.symm) rfl mx_191 rfl rfl hd_198 ?_
    refine c_191 hG o1 (KKi ?_)
    refine Y_beq i_198_59 (fun e4 => ?_) (fun e4 => ?_)
    · replace h := h.1 e4
      refine Y_al0 i_198_62 ?_
      refine Y_bipush (v := 60) i_198_63 (by decide) ?_
      refine Y_iv1 (L0 := [.ref 68, .int 60]) i_198_65 ow_198 lm_10_213 ((k_68 hG).trans ow_191.symm) rfl mx_191 rfl rfl hd_198 ?_
      refine c_191 hG o1 (KKi ?_)
      refine Y_beq i_198_68 (fun e5 => ?_) (fun e5 => ?_)
      · replace h := h.1 e5
        refine Y_bipush (v := (-24)) i_198_71 (by decide) ?_
        refine Y_goto i_198_73 ?_
        refine Y_is3 i_198_78 rfl ?_
        refine Y_al0 i_198_79 ?_
        exact Y_iv0 (L0 := [.ref 68, .null]) i_198_80 ow_198 lm_10_220 ((k_68 hG).trans ow_187.symm) rfl mx_187 rfl rfl hd_198 h
      · replace h := h.2 e5
        refine Y_bipush (v := (-25)) i_198_76 (by decide) ?_
        refine Y_is3 i_198_78 rfl ?_
        refine Y_al0 i_198_79 ?_
        exact Y_iv0 (L0 := [.ref 68, .null]) i_198_80 ow_198 lm_10_220 ((k_68 hG).trans ow_187.symm) rfl mx_187 rfl rfl hd_198 h
    · replace h := h.2 e4
      refine Y_iconst (v := 0) i_198_93 (by decide) ?_
      refine Y_is3 i_198_94 rfl ?_
      exact h
theorem k_198_83 {d : Nat} {F A : Nat → Nat → Int32} {J : Nat → Nat → Int64} {G : pG} {Q : pR → pM → Prop} {SL p q : Nat} {x1 x2 x3 : Int32} (hG : Geo G SL p q) (h : X (d + 1) 197 0 [.ref 68, .int x1, .null] [] (F, A, J, G) (KK (d + 2) 198 88 [.ref 68, .int x1, .int x2, .int x3] [] Q)) : KK (d + 2) 198 83 [.ref 68, .int x1, .int x2, .int x3] [] Q (.inl none) (F, A, J, G) := by
  refine KKv ?_
  refine Y_al0 i_198_83 ?_
  refine Y_il1 i_198_84 ?_
  exact Y_iv1 (L0 := [.ref 68, .int x1, .null]) i_198_85 ow_198 lm_10_247 ((k_68 hG).trans ow_197.symm) rfl mx_197 rfl rfl hd_198 h
theorem k_198_88 {d : Nat} {F A : Nat → Nat → Int32} {J : Nat → Nat → Int64} {G : pG} {Q : pR → pM → Prop} {SL p q : Nat} {x1 x2 x3 : Int32} (hG : Geo G SL p q) (h : (((F 68 20) = 0 → inB ((600 : Int32) + (A 72 7)) 1200 = true ∧ (X (d + 2) 198 95 [.ref 68, .int x1, .int x2, .int 0] [] (F, (wF (wF A 78 ((600 : Int32) + (A 72 7)).toNatClampNeg x3) 72 7 ((A 72 7) + 1)), J, G) Q)) ∧ (¬ (F 68 20) = 0 → X (d + 2) 198 95 [.ref 68, .int x1, .int x2, .int 0] [] (F, A, J, G) Q))) : KK (d + 2) 198 88 [.ref 68, .int x1, .int x2, .int x3] [] Q (.inl none) (F, A, J, G) := by
  refine KKv ?_
  refine Y_al0 i_198_88 ?_
  refine Y_il3 i_198_89 ?_
  refine Y_iv1 (L0 := [.ref 68, .int x3]) i_198_90 ow_198 lm_10_226 ((k_68 hG).trans ow_194.symm) rfl mx_194 rfl rfl hd_198 ?_
  refine Y_al0 i_194_0 ?_
  refine Y_gI (v := (F 68 20)) i_194_1 ow_194 lf_10_195 (by decide) (k_68 hG) rfl ?_
  refine Y_zeq i_194_4 (fun e1 => ?_) (fun e1 => ?_)
  · replace h := h.1 e1
    refine Y_al0 i_194_8 ?_
    refine Y_gR i_194_9 ow_194 lf_10_57 (k_68 hG) (r_68_10 hG) ?_
    refine Y_sipush (v := 600) i_194_12 (by decide) ?_
    refine Y_al0 i_194_15 ?_
    refine Y_gR i_194_16 ow_194 lf_10_42 (k_68 hG) (r_68_4 hG) ?_
    refine Y_bipush (v := 7) i_194_19 (by decide) ?_
    refine Y_iaload (k := 7) (v := (A 72 7)) i_194_21 (k_72 hG) (l_72 hG) (by decide) (by decide) rfl ?_
    refine Y_iadd i_194_22 ?_
    refine Y_il1 i_194_23 ?_
    have o2 := h.1
    replace h := h.2
    refine Y_iast i_194_24 (k_78 hG) (l_78 hG) o2 rfl ?_
    refine Y_al0 i_194_25 ?_
    refine Y_gR i_194_26 ow_194 lf_10_42 (k_68 hG) (r_68_4 hG) ?_
    refine Y_bipush (v := 7) i_194_29 (by decide) ?_
    refine Y_dup2 i_194_31 rfl rfl ?_
    refine Y_iaload (k := 7) (v := (A 72 7)) i_194_32 (k_72 hG) (l_72 hG) (by decide) (by decide) (by simp [wF, wJ, va_up, cpR, bF, bA]) ?_
    refine Y_iconst (v := 1) i_194_33 (by decide) ?_
    refine Y_iadd i_194_34 ?_
    refine Y_iast (k := 7) i_194_35 (k_72 hG) (l_72 hG) (by decide) (by decide) ?_
    refine Y_vret i_194_36 rt_194 (KKv ?_)
    refine Y_iconst (v := 0) i_198_93 (by decide) ?_
    refine Y_is3 i_198_94 rfl ?_
    exact h
  · replace h := h.2 e1
    refine Y_vret i_194_7 rt_194 (KKv ?_)
    refine Y_iconst (v := 0) i_198_93 (by decide) ?_
    refine Y_is3 i_198_94 rfl ?_
    exact h
theorem t_198_95 {d : Nat} {F A : Nat → Nat → Int32} {J : Nat → Nat → Int64} {G : pG} {Q : pR → pM → Prop} {SL p q : Nat} {x1 x2 x3 : Int32} (hG : Geo G SL p q) (h : ((x3 < x2 → (((F 68 20) = 0 → inB ((600 : Int32) + (A 72 7)) 1200 = true ∧ (X (d + 2) 198 95 [.ref 68, .int x1, .int x2, .int (x3 + 1)] [] (F, (wF (wF A 78 ((600 : Int32) + (A 72 7)).toNatClampNeg (-28)) 72 7 ((A 72 7) + 1)), J, G) Q)) ∧ (¬ (F 68 20) = 0 → X (d + 2) 198 95 [.ref 68, .int x1, .int x2, .int (x3 + 1)] [] (F, A, J, G) Q))) ∧ (¬ x3 < x2 → Q (.inl none) (F, A, J, G)))) : X (d + 2) 198 95 [.ref 68, .int x1, .int x2, .int x3] [] (F, A, J, G) Q := by
  refine Y_il3 i_198_95 ?_
  refine Y_il2 i_198_96 ?_
  refine Y_cge i_198_97 (fun e1 => ?_) (fun e1 => ?_)
  · replace h := h.1 e1
    refine Y_al0 i_198_100 ?_
    refine Y_bipush (v := (-28)) i_198_101 (by decide) ?_
    refine Y_iv1 (L0 := [.ref 68, .int (-28)]) i_198_103 ow_198 lm_10_226 ((k_68 hG).trans ow_194.symm) rfl mx_194 rfl rfl hd_198 ?_
    refine Y_al0 i_194_0 ?_
    refine Y_gI (v := (F 68 20)) i_194_1 ow_194 lf_10_195 (by decide) (k_68 hG) rfl ?_
    refine Y_zeq i_194_4 (fun e2 => ?_) (fun e2 => ?_)
    · replace h := h.1 e2
      refine Y_al0 i_194_8 ?_
      refine Y_gR i_194_9 ow_194 lf_10_57 (k_68 hG) (r_68_10 hG) ?_
      refine Y_sipush (v := 600) i_194_12 (by decide) ?_
      refine Y_al0 i_194_15 ?_
      refine Y_gR i_194_16 ow_194 lf_10_42 (k_68 hG) (r_68_4 hG) ?_
      refine Y_bipush (v := 7) i_194_19 (by decide) ?_
      refine Y_iaload (k := 7) (v := (A 72 7)) i_194_21 (k_72 hG) (l_72 hG) (by decide) (by decide) rfl ?_
      refine Y_iadd i_194_22 ?_
      refine Y_il1 i_194_23 ?_
      have o3 := h.1
      replace h := h.2
      refine Y_iast i_194_24 (k_78 hG) (l_78 hG) o3 rfl ?_
      refine Y_al0 i_194_25 ?_
      refine Y_gR i_194_26 ow_194 lf_10_42 (k_68 hG) (r_68_4 hG) ?_
      refine Y_bipush (v := 7) i_194_29 (by decide) ?_
      refine Y_dup2 i_194_31 rfl rfl ?_
      refine Y_iaload (k := 7) (v := (A 72 7)) i_194_32 (k_72 hG) (l_72 hG) (by decide) (by decide) (by simp [wF, wJ, va_up, cpR, bF, bA]) ?_
      refine Y_iconst (v := 1) i_194_33 (by decide) ?_
      refine Y_iadd i_194_34 ?_
      refine Y_iast (k := 7) i_194_35 (k_72 hG) (l_72 hG) (by decide) (by decide) ?_
      refine Y_vret i_194_36 rt_194 (KKv ?_)
      refine Y_ii3 (v := 1) i_198_106 (by decide) rfl ?_
      refine Y_goto i_198_109 ?_
      exact h
    · replace h := h.2 e2
      refine Y_vret i_194_7 rt_194 (KKv ?_)
      refine Y_ii3 (v := 1) i_198_106 (by decide) rfl ?_
      refine Y_goto i_198_109 ?_
      exact h
  · replace h := h.2 e1
    exact Y_vret i_198_112 rt_198 h
/- 199 Model.readAnd(I)V -/
theorem t_199_0 {d : Nat} {F A : Nat → Nat → Int32} {J : Nat → Nat → Int64} {G : pG} {Q : pR → pM → Prop} {SL p q : Nat} {x1 : Int32} (hG : Geo G SL p q) (h : X (d + 1) 198 0 [.ref 68, .int x1, .null, .null] [] (F, A, J, G) (KK (d + 2) 199 5 [.ref 68, .int x1] [] Q)) : X (d + 2) 199 0 [.ref 68, .int x1] [] (F, A, J, G) Q := by
  refine Y_al0 i_199_0 ?_
  refine Y_il1 i_199_1 ?_
  exact Y_iv1 (L0 := [.ref 68, .int x1, .null, .null]) i_199_2 ow_199 lm_10_250 ((k_68 hG).trans ow_198.symm) rfl mx_198 rfl rfl hd_199 h
theorem k_199_5 {d : Nat} {F A : Nat → Nat → Int32} {J : Nat → Nat → Int64} {G : pG} {Q : pR → pM → Prop} {SL p q : Nat} {x1 : Int32} (hG : Geo G SL p q) (h : X (d + 1) 189 0 [.ref 68, .ref 1016, .null, .null] [] (F, A, J, G) (KK (d + 2) 199 11 [.ref 68, .int x1] [] Q)) : KK (d + 2) 199 5 [.ref 68, .int x1] [] Q (.inl none) (F, A, J, G) := by
  refine KKv ?_
  refine Y_al0 i_199_5 ?_
  refine Y_ldcS (r := 1016) i_199_6 ow_199 li_10_253 ls_10_253 rfl ?_
  exact Y_iv1 (L0 := [.ref 68, .ref 1016, .null, .null]) i_199_8 ow_199 lm_10_209 ((k_68 hG).trans ow_189.symm) rfl mx_189 rfl rfl hd_199 h
theorem t_199_5 {d : Nat} {F A : Nat → Nat → Int32} {J : Nat → Nat → Int64} {G : pG} {Q : pR → pM → Prop} {SL p q : Nat} {x1 : Int32} (hG : Geo G SL p q) (h : X (d + 1) 189 0 [.ref 68, .ref 1016, .null, .null] [] (F, A, J, G) (KK (d + 2) 199 11 [.ref 68, .int x1] [] Q)) : X (d + 2) 199 5 [.ref 68, .int x1] [] (F, A, J, G) Q := by
  refine Y_al0 i_199_5 ?_
  refine Y_ldcS (r := 1016) i_199_6 ow_199 li_10_253 ls_10_253 rfl ?_
  exact Y_iv1 (L0 := [.ref 68, .ref 1016, .null, .null]) i_199_8 ow_199 lm_10_209 ((k_68 hG).trans ow_189.symm) rfl mx_189 rfl rfl hd_199 h
theorem k_199_11 {d : Nat} {F A : Nat → Nat → Int32} {J : Nat → Nat → Int64} {G : pG} {Q : pR → pM → Prop} {SL p q : Nat} {x1 r r : Int32} (hG : Geo G SL p q) (h : ((r = 0 → Q (.inl none) (F, A, J, G)) ∧ (¬ r = 0 → X (d + 1) 187 0 [.ref 68, .null] [] (F, A, J, G) (KK (d + 2) 199 18 [.ref 68, .int x1] [] Q)))) : KK (d + 2) 199 11 [.ref 68, .int x1] [] Q (.inl (some (.int r))) (F, A, J, G) := by
  refine KKi ?_
  refine Y_zeq i_199_11 (fun e1 => ?_) (fun e1 => ?_)
  · replace h := h.1 e1
    exact Y_vret i_199_32 rt_199 h
  · replace h := h.2 e1
    refine Y_al0 i_199_14 ?_
    exact Y_iv0 (L0 := [.ref 68, .null]) i_199_15 ow_199 lm_10_220 ((k_68 hG).trans ow_187.symm) rfl mx_187 rfl rfl hd_199 h
theorem k_199_18 {d : Nat} {F A : Nat → Nat → Int32} {J : Nat → Nat → Int64} {G : pG} {Q : pR → pM → Prop} {SL p q : Nat} {x1 : Int32} (hG : Geo G SL p q) (h : X (d + 1) 198 0 [.ref 68, .int x1, .null, .null] [] (F, A, J, G) (KK (d + 2) 199 23 [.ref 68, .int x1] [] Q)) : KK (d + 2) 199 18 [.ref 68, .int x1] [] Q (.inl none) (F, A, J, G) := by
  refine KKv ?_
  refine Y_al0 i_199_18 ?_
  refine Y_il1 i_199_19 ?_
  exact Y_iv1 (L0 := [.ref 68, .int x1, .null, .null]) i_199_20 ow_199 lm_10_250 ((k_68 hG).trans ow_198.symm) rfl mx_198 rfl rfl hd_199 h
theorem k_199_23 {d : Nat} {F A : Nat → Nat → Int32} {J : Nat → Nat → Int64} {G : pG} {Q : pR → pM → Prop} {SL p q : Nat} {x1 : Int32} (hG : Geo G SL p q) (h : (((F 68 20) = 0 → inB ((600 : Int32) + (A 72 7)) 1200 = true ∧ (X (d + 2) 199 5 [.ref 68, .int x1] [] (F, (wF (wF A 78 ((600 : Int32) + (A 72 7)).toNatClampNeg (-26)) 72 7 ((A 72 7) + 1)), J, G) Q)) ∧ (¬ (F 68 20) = 0 → X (d + 2) 199 5 [.ref 68, .int x1] [] (F, A, J, G) Q))) : KK (d + 2) 199 23 [.ref 68, .int x1] [] Q (.inl none) (F, A, J, G) := by
  refine KKv ?_
  refine Y_al0 i_199_23 ?_
  refine Y_bipush (v := (-26)) i_199_24 (by decide) ?_
  refine Y_iv1 (L0 := [.ref 68, .int (-26)]) i_199_26 ow_199 lm_10_226 ((k_68 hG).trans ow_194.symm) rfl mx_194 rfl rfl hd_199 ?_
  refine Y_al0 i_194_0 ?_
  refine Y_gI (v := (F 68 20)) i_194_1 ow_194 lf_10_195 (by decide) (k_68 hG) rfl ?_
  refine Y_zeq i_194_4 (fun e1 => ?_) (fun e1 => ?_)
  · replace h := h.1 e1
    refine Y_al0 i_194_8 ?_
    refine Y_gR i_194_9 ow_194 lf_10_57 (k_68 hG) (r_68_10 hG) ?_
    refine Y_sipush (v := 600) i_194_12 (by decide) ?_
    refine Y_al0 i_194_15 ?_
    refine Y_gR i_194_16 ow_194 lf_10_42 (k_68 hG) (r_68_4 hG) ?_
    refine Y_bipush (v := 7) i_194_19 (by decide) ?_
    refine Y_iaload (k := 7) (v := (A 72 7)) i_194_21 (k_72 hG) (l_72 hG) (by decide) (by decide) rfl ?_
    refine Y_iadd i_194_22 ?_
    refine Y_il1 i_194_23 ?_
    have o2 := h.1
    replace h := h.2
    refine Y_iast i_194_24 (k_78 hG) (l_78 hG) o2 rfl ?_
    refine Y_al0 i_194_25 ?_
    refine Y_gR i_194_26 ow_194 lf_10_42 (k_68 hG) (r_68_4 hG) ?_
    refine Y_bipush (v := 7) i_194_29 (by decide) ?_
    refine Y_dup2 i_194_31 rfl rfl ?_
    refine Y_iaload (k := 7) (v := (A 72 7)) i_194_32 (k_72 hG) (l_72 hG) (by decide) (by decide) (by simp [wF, wJ, va_up, cpR, bF, bA]) ?_
    refine Y_iconst (v := 1) i_194_33 (by decide) ?_
    refine Y_iadd i_194_34 ?_
    refine Y_iast (k := 7) i_194_35 (k_72 hG) (l_72 hG) (by decide) (by decide) ?_
    refine Y_vret i_194_36 rt_194 (KKv ?_)
    refine Y_goto i_199_29 ?_
    exact h
  · replace h := h.2 e1
    refine Y_vret i_194_7 rt_194 (KKv ?_)
    refine Y_goto i_199_29 ?_
    exact h
/- 200 Model.readExpression(I)V -/
theorem t_200_0 {d : Nat} {F A : Nat → Nat → Int32} {J : Nat → Nat → Int64} {G : pG} {Q : pR → pM → Prop} {SL p q : Nat} {x1 : Int32} (hG : Geo G SL p q) (h : (((F 68 20) = 0 → (((F 68 16) = 2 → ((x1 = 6 → (((F 68 20) = 0 → X (d + 1) 199 0 [.ref 68, .int x1] [] ((wF (wF F 68 20 2) 68 21 (F 68 18)), A, J, G) (KK (d + 2) 200 67 [.ref 68, .int x1, .int 1] [] Q)) ∧ (¬ (F 68 20) = 0 → X (d + 1) 199 0 [.ref 68, .int x1] [] (F, A, J, G) (KK (d + 2) 200 67 [.ref 68, .int x1, .int 1] [] Q)))) ∧ (¬ x1 = 6 → X (d + 1) 199 0 [.ref 68, .int x1] [] (F, A, J, G) (KK (d + 2) 200 67 [.ref 68, .int x1, .int 1] [] Q)))) ∧ (¬ (F 68 16) = 2 → (((F 68 16) = 1 → ((x1 = 6 → (((F 68 20) = 0 → X (d + 1) 199 0 [.ref 68, .int x1] [] ((wF (wF F 68 20 2) 68 21 (F 68 18)), A, J, G) (KK (d + 2) 200 67 [.ref 68, .int x1, .int 1] [] Q)) ∧ (¬ (F 68 20) = 0 → X (d + 1) 199 0 [.ref 68, .int x1] [] (F, A, J, G) (KK (d + 2) 200 67 [.ref 68, .int x1, .int 1] [] Q)))) ∧ (¬ x1 = 6 → X (d + 1) 199 0 [.ref 68, .int x1] [] (F, A, J, G) (KK (d + 2) 200 67 [.ref 68, .int x1, .int 1] [] Q)))) ∧ (¬ (F 68 16) = 1 → (F 68 20 = 0 → F 68 16 = 3 → inB (F 68 18) 600 = true) ∧ (((mkB (F 68 20) (F 68 16) (A 80 (F 68 18).toNatClampNeg) 40) = true → ((x1 = 6 → (((F 68 20) = 0 → X (d + 1) 199 0 [.ref 68, .int x1] [] ((wF (wF F 68 20 2) 68 21 (F 68 18)), A, J, G) (KK (d + 2) 200 67 [.ref 68, .int x1, .int 1] [] Q)) ∧ (¬ (F 68 20) = 0 → X (d + 1) 199 0 [.ref 68, .int x1] [] (F, A, J, G) (KK (d + 2) 200 67 [.ref 68, .int x1, .int 1] [] Q)))) ∧ (¬ x1 = 6 → X (d + 1) 199 0 [.ref 68, .int x1] [] (F, A, J, G) (KK (d + 2) 200 67 [.ref 68, .int x1, .int 1] [] Q)))) ∧ ((mkB (F 68 20) (F 68 16) (A 80 (F 68 18).toNatClampNeg) 40) = false → (((F 68 20) = 0 → X (d + 1) 199 0 [.ref 68, .int x1] [] ((wF (wF F 68 20 1) 68 21 (F 68 18)), A, J, G) (KK (d + 2) 200 67 [.ref 68, .int x1, .int 0] [] Q)) ∧ (¬ (F 68 20) = 0 → X (d + 1) 199 0 [.ref 68, .int x1] [] (F, A, J, G) (KK (d + 2) 200 67 [.ref 68, .int x1, .int 0] [] Q)))))))))) ∧ (¬ (F 68 20) = 0 → Q (.inl none) (F, A, J, G)))) : X (d + 2) 200 0 [.ref 68, .int x1, .null] [] (F, A, J, G) Q := by
  refine Y_al0 i_200_0 ?_
  refine Y_gI (v := (F 68 20)) i_200_1 ow_200 lf_10_195 (by decide) (k_68 hG) rfl ?_
  refine Y_zeq i_200_4 (fun e1 => ?_) (fun e1 => ?_)
  · replace h := h.1 e1
    refine Y_al0 i_200_8 ?_
    refine Y_gI (v := (F 68 16)) i_200_9 ow_200 lf_10_169 (by decide) (k_68 hG) rfl ?_
    refine Y_iconst (v := 2) i_200_12 (by decide) ?_
    refine Y_ceq i_200_13 (fun e2 => ?_) (fun e2 => ?_)
    · replace h := h.1 e2
      refine Y_iconst (v := 1) i_200_33 (by decide) ?_
      refine Y_goto i_200_34 ?_
      refine Y_is2 i_200_38 rfl ?_
      refine Y_il2 i_200_39 ?_
      refine Y_zT i_200_40 (by decide) ?_
      refine Y_il1 i_200_51 ?_
      refine Y_bipush (v := 6) i_200_52 (by decide) ?_
      refine Y_cne i_200_54 (fun e3 => ?_) (fun e3 => ?_)
      · replace h := h.1 e3
        refine Y_al0 i_200_57 ?_
        refine Y_iconst (v := 2) i_200_58 (by decide) ?_
        refine Y_iv1 (L0 := [.ref 68, .int 2]) i_200_59 ow_200 lm_10_216 ((k_68 hG).trans ow_188.symm) rfl mx_188 rfl rfl hd_200 ?_
        refine Y_al0 i_188_0 ?_
        refine Y_gI (v := (F 68 20)) i_188_1 ow_188 lf_10_195 (by decide) (k_68 hG) rfl ?_
        refine Y_zeq i_188_4 (fun e4 => ?_) (fun e4 => ?_)
        · replace h := h.1 e4
          refine Y_al0 i_188_8 ?_
          refine Y_il1 i_188_9 ?_
          refine Y_pI i_188_10 ow_188 lf_10_195 (k_68 hG) ?_
          refine Y_al0 i_188_13 ?_
          refine Y_al0 i_188_14 ?_
          refine Y_gI (v := (F 68 18)) i_188_15 ow_188 lf_10_166 (by decide) (k_68 hG) (by simp [wF, wJ, va_up, cpR, bF, bA]) ?_
          refine Y_pI i_188_18 ow_188 lf_10_198 (k_68 hG) ?_
          refine Y_vret i_188_21 rt_188 (KKv ?_)
          refine Y_al0 i_200_62 ?_
          refine Y_il1 i_200_63 ?_
          exact Y_iv1 (L0 := [.ref 68, .int x1]) i_200_64 ow_200 lm_10_255 ((k_68 hG).trans ow_199.symm) rfl mx_199 rfl rfl hd_200 h
        · replace h := h.2 e4
          refine Y_vret i_188_7 rt_188 (KKv ?_)
          refine Y_al0 i_200_62 ?_
          refine Y_il1 i_200_63 ?_
          exact Y_iv1 (L0 := [.ref 68, .int x1]) i_200_64 ow_200 lm_10_255 ((k_68 hG).trans ow_199.symm) rfl mx_199 rfl rfl hd_200 h
      · replace h := h.2 e3
        refine Y_al0 i_200_62 ?_
        refine Y_il1 i_200_63 ?_
        exact Y_iv1 (L0 := [.ref 68, .int x1]) i_200_64 ow_200 lm_10_255 ((k_68 hG).trans ow_199.symm) rfl mx_199 rfl rfl hd_200 h
    · replace h := h.2 e2
      refine Y_al0 i_200_16 ?_
      refine Y_gI (v := (F 68 16)) i_200_17 ow_200 lf_10_169 (by decide) (k_68 hG) rfl ?_
      refine Y_iconst (v := 1) i_200_20 (by decide) ?_
      refine Y_ceq i_200_21 (fun e5 => ?_) (fun e5 => ?_)
      · replace h := h.1 e5
        refine Y_iconst (v := 1) i_200_33 (by decide) ?_
        refine Y_goto i_200_34 ?_
        refine Y_is2 i_200_38 rfl ?_
        refine Y_il2 i_200_39 ?_
        refine Y_zT i_200_40 (by decide) ?_
        refine Y_il1 i_200_51 ?_
        refine Y_bipush (v := 6) i_200_52 (by decide) ?_
        refine Y_cne i_200_54 (fun e6 => ?_) (fun e6 => ?_)
        · replace h := h.1 e6
          refine Y_al0 i_200_57 ?_
          refine Y_iconst (v := 2) i_200_58 (by decide) ?_
          refine Y_iv1 (L0 := [.ref 68, .int 2]) i_200_59 ow_200 lm_10_216 ((k_68 hG).trans ow_188.symm) rfl mx_188 rfl rfl hd_200 ?_
          refine Y_al0 i_188_0 ?_
          refine Y_gI (v := (F 68 20)) i_188_1 ow_188 lf_10_195 (by decide) (k_68 hG) rfl ?_
          refine Y_zeq i_188_4 (fun e7 => ?_) (fun e7 => ?_)
          · replace h := h.1 e7
            refine Y_al0 i_188_8 ?_
            refine Y_il1 i_188_9 ?_
            refine Y_pI i_188_10 ow_188 lf_10_195 (k_68 hG) ?_
            refine Y_al0 i_188_13 ?_
            refine Y_al0 i_188_14 ?_
            refine Y_gI (v := (F 68 18)) i_188_15 ow_188 lf_10_166 (by decide) (k_68 hG) (by simp [wF, wJ, va_up, cpR, bF, bA]) ?_
            refine Y_pI i_188_18 ow_188 lf_10_198 (k_68 hG) ?_
            refine Y_vret i_188_21 rt_188 (KKv ?_)
            refine Y_al0 i_200_62 ?_
            refine Y_il1 i_200_63 ?_
            exact Y_iv1 (L0 := [.ref 68, .int x1]) i_200_64 ow_200 lm_10_255 ((k_68 hG).trans ow_199.symm) rfl mx_199 rfl rfl hd_200 h
          · replace h := h.2 e7
            refine Y_vret i_188_7 rt_188 (KKv ?_)
            refine Y_al0 i_200_62 ?_
            refine Y_il1 i_200_63 ?_
            exact Y_iv1 (L0 := [.ref 68, .int x1]) i_200_64 ow_200 lm_10_255 ((k_68 hG).trans ow_199.symm) rfl mx_199 rfl rfl hd_200 h
        · replace h := h.2 e6
          refine Y_al0 i_200_62 ?_
          refine Y_il1 i_200_63 ?_
          exact Y_iv1 (L0 := [.ref 68, .int x1]) i_200_64 ow_200 lm_10_255 ((k_68 hG).trans ow_199.symm) rfl mx_199 rfl rfl hd_200 h
      · replace h := h.2 e5
        refine Y_al0 i_200_24 ?_
        refine Y_bipush (v := 40) i_200_25 (by decide) ?_
        have o8 := h.1
        replace h := h.2
        refine Y_iv1 (L0 := [.ref 68, .int 40]) i_200_27 ow_200 lm_10_213 ((k_68 hG).trans ow_191.symm) rfl mx_191 rfl rfl hd_200 ?_
        refine c_191 hG o8 (KKi ?_)
        refine Y_beq i_200_30 (fun e9 => ?_) (fun e9 => ?_)
        · replace h := h.1 e9
          refine Y_iconst (v := 1) i_200_33 (by decide) ?_
          refine Y_goto i_200_34 ?_
          refine Y_is2 i_200_38 rfl ?_
          refine Y_il2 i_200_39 ?_
          refine Y_zT i_200_40 (by decide) ?_
          refine Y_il1 i_200_51 ?_
          refine Y_bipush (v := 6) i_200_52 (by decide) ?_
          refine Y_cne i_200_54 (fun e10 => ?_) (fun e10 => ?_)
          · replace h := h.1 e10
            refine Y_al0 i_200_57 ?_
            refine Y_iconst (v := 2) i_200_58 (by decide) ?_
            refine Y_iv1 (L0 := [.ref 68, .int 2]) i_200_59 ow_200 lm_10_216 ((k_68 hG).trans ow_188.symm) rfl mx_188 rfl rfl hd_200 ?_
            refine Y_al0 i_188_0 ?_
            refine Y_gI (v := (F 68 20)) i_188_1 ow_188 lf_10_195 (by decide) (k_68 hG) rfl ?_
            refine Y_zeq i_188_4 (fun e11 => ?_) (fun e11 => ?_)
            · replace h := h.1 e11
              refine Y_al0 i_188_8 ?_
              refine Y_il1 i_188_9 ?_
              refine Y_pI i_188_10 ow_188 lf_10_195 (k_68 hG) ?_
              refine Y_al0 i_188_13 ?_
              refine Y_al0 i_188_14 ?_
              refine Y_gI (v := (F 68 18)) i_188_15 ow_188 lf_10_166 (by decide) (k_68 hG) (by simp [wF, wJ, va_up, cpR, bF, bA]) ?_
              refine Y_pI i_188_18 ow_188 lf_10_198 (k_68 hG) ?_
              refine Y_vret i_188_21 rt_188 (KKv ?_)
              refine Y_al0 i_200_62 ?_
              refine Y_il1 i_200_63 ?_
              exact Y_iv1 (L0 := [.ref 68, .int x1]) i_200_64 ow_200 lm_10_255 ((k_68 hG).trans ow_199.symm) rfl mx_199 rfl rfl hd_200 h
            · replace h := h.2 e11
              refine Y_vret i_188_7 rt_188 (KKv ?_)
              refine Y_al0 i_200_62 ?_
              refine Y_il1 i_200_63 ?_
              exact Y_iv1 (L0 := [.ref 68, .int x1]) i_200_64 ow_200 lm_10_255 ((k_68 hG).trans ow_199.symm) rfl mx_199 rfl rfl hd_200 h
          · replace h := h.2 e10
            refine Y_al0 i_200_62 ?_
            refine Y_il1 i_200_63 ?_
            exact Y_iv1 (L0 := [.ref 68, .int x1]) i_200_64 ow_200 lm_10_255 ((k_68 hG).trans ow_199.symm) rfl mx_199 rfl rfl hd_200 h
        · replace h := h.2 e9
          refine Y_iconst (v := 0) i_200_37 (by decide) ?_
          refine Y_is2 i_200_38 rfl ?_
          refine Y_il2 i_200_39 ?_
          refine Y_zF i_200_40 (by decide) ?_
          refine Y_al0 i_200_43 ?_
          refine Y_iconst (v := 1) i_200_44 (by decide) ?_
          refine Y_iv1 (L0 := [.ref 68, .int 1]) i_200_45 ow_200 lm_10_216 ((k_68 hG).trans ow_188.symm) rfl mx_188 rfl rfl hd_200 ?_
          refine Y_al0 i_188_0 ?_
          refine Y_gI (v := (F 68 20)) i_188_1 ow_188 lf_10_195 (by decide) (k_68 hG) rfl ?_
          refine Y_zeq i_188_4 (fun e12 => ?_) (fun e12 => ?_)
          · replace h := h.1 e12
            refine Y_al0 i_188_8 ?_
            refine Y_il1 i_188_9 ?_
            refine Y_pI i_188_10 ow_188 lf_10_195 (k_68 hG) ?_
            refine Y_al0 i_188_13 ?_
            refine Y_al0 i_188_14 ?_
            refine Y_gI (v := (F 68 18)) i_188_15 ow_188 lf_10_166 (by decide) (k_68 hG) (by simp [wF, wJ, va_up, cpR, bF, bA]) ?_
            refine Y_pI i_188_18 ow_188 lf_10_198 (k_68 hG) ?_
            refine Y_vret i_188_21 rt_188 (KKv ?_)
            refine Y_goto i_200_48 ?_
            refine Y_al0 i_200_62 ?_
            refine Y_il1 i_200_63 ?_
            exact Y_iv1 (L0 := [.ref 68, .int x1]) i_200_64 ow_200 lm_10_255 ((k_68 hG).trans ow_199.symm) rfl mx_199 rfl rfl hd_200 h
          · replace h := h.2 e12
            refine Y_vret i_188_7 rt_188 (KKv ?_)
            refine Y_goto i_200_48 ?_
            refine Y_al0 i_200_62 ?_
            refine Y_il1 i_200_63 ?_
            exact Y_iv1 (L0 := [.ref 68, .int x1]) i_200_64 ow_200 lm_10_255 ((k_68 hG).trans ow_199.symm) rfl mx_199 rfl rfl hd_200 h
  · replace h := h.2 e1
    exact Y_vret i_200_7 rt_200 h
theorem k_200_67 {d : Nat} {F A : Nat → Nat → Int32} {J : Nat → Nat → Int64} {G : pG} {Q : pR → pM → Prop} {SL p q : Nat} {x1 x2 : Int32} (hG : Geo G SL p q) (h : X (d + 1) 189 0 [.ref 68, .ref 1017, .null, .null] [] (F, A, J, G) (KK (d + 2) 200 74 [.ref 68, .int x1, .int x2] [] Q)) : KK (d + 2) 200 67 [.ref 68, .int x1, .int x2] [] Q (.inl none) (F, A, J, G) := by
  refine KKv ?_
  refine Y_al0 i_200_67 ?_
  refine Y_ldcSw (r := 1017) i_200_68 ow_200 li_10_258 ls_10_258 rfl ?_
  exact Y_iv1 (L0 := [.ref 68, .ref 1017, .null, .null]) i_200_71 ow_200 lm_10_209 ((k_68 hG).trans ow_189.symm) rfl mx_189 rfl rfl hd_200 h
theorem t_200_67 {d : Nat} {F A : Nat → Nat → Int32} {J : Nat → Nat → Int64} {G : pG} {Q : pR → pM → Prop} {SL p q : Nat} {x1 x2 : Int32} (hG : Geo G SL p q) (h : X (d + 1) 189 0 [.ref 68, .ref 1017, .null, .null] [] (F, A, J, G) (KK (d + 2) 200 74 [.ref 68, .int x1, .int x2] [] Q)) : X (d + 2) 200 67 [.ref 68, .int x1, .int x2] [] (F, A, J, G) Q := by
  refine Y_al0 i_200_67 ?_
  refine Y_ldcSw (r := 1017) i_200_68 ow_200 li_10_258 ls_10_258 rfl ?_
  exact Y_iv1 (L0 := [.ref 68, .ref 1017, .null, .null]) i_200_71 ow_200 lm_10_209 ((k_68 hG).trans ow_189.symm) rfl mx_189 rfl rfl hd_200 h
theorem k_200_74 {d : Nat} {F A : Nat → Nat → Int32} {J : Nat → Nat → Int64} {G : pG} {Q : pR → pM → Prop} {SL p q : Nat} {x1 x2 r r : Int32} (hG : Geo G SL p q) (h : ((r = 0 → Q (.inl none) (F, A, J, G)) ∧ (¬ r = 0 → X (d + 1) 187 0 [.ref 68, .null] [] (F, A, J, G) (KK (d + 2) 200 81 [.ref 68, .int x1, .int x2] [] Q)))) : KK (d + 2) 200 74 [.ref 68, .int x1, .int x2] [] Q (.inl (some (.int r))) (F, A, J, G) := by
  refine KKi ?_
  refine Y_zeq i_200_74 (fun e1 => ?_) (fun e1 => ?_)
  · replace h := h.1 e1
    exact Y_vret i_200_95 rt_200 h
  · replace h := h.2 e1
    refine Y_al0 i_200_77 ?_
    exact Y_iv0 (L0 := [.ref 68, .null]) i_200_78 ow_200 lm_10_220 ((k_68 hG).trans ow_187.symm) rfl mx_187 rfl rfl hd_200 h
theorem k_200_81 {d : Nat} {F A : Nat → Nat → Int32} {J : Nat → Nat → Int64} {G : pG} {Q : pR → pM → Prop} {SL p q : Nat} {x1 x2 : Int32} (hG : Geo G SL p q) (h : X (d + 1) 199 0 [.ref 68, .int x1] [] (F, A, J, G) (KK (d + 2) 200 86 [.ref 68, .int x1, .int x2] [] Q)) : KK (d + 2) 200 81 [.ref 68, .int x1, .int x2] [] Q (.inl none) (F, A, J, G) := by
  refine KKv ?_
  refine Y_al0 i_200_81 ?_
  refine Y_il1 i_200_82 ?_
  exact Y_iv1 (L0 := [.ref 68, .int x1]) i_200_83 ow_200 lm_10_255 ((k_68 hG).trans ow_199.symm) rfl mx_199 rfl rfl hd_200 h
theorem k_200_86 {d : Nat} {F A : Nat → Nat → Int32} {J : Nat → Nat → Int64} {G : pG} {Q : pR → pM → Prop} {SL p q : Nat} {x1 x2 : Int32} (hG : Geo G SL p q) (h : (((F 68 20) = 0 → inB ((600 : Int32) + (A 72 7)) 1200 = true ∧ (X (d + 2) 200 67 [.ref 68, .int x1, .int x2] [] (F, (wF (wF A 78 ((600 : Int32) + (A 72 7)).toNatClampNeg (-27)) 72 7 ((A 72 7) + 1)), J, G) Q)) ∧ (¬ (F 68 20) = 0 → X (d + 2) 200 67 [.ref 68, .int x1, .int x2] [] (F, A, J, G) Q))) : KK (d + 2) 200 86 [.ref 68, .int x1, .int x2] [] Q (.inl none) (F, A, J, G) := by
  refine KKv ?_
  refine Y_al0 i_200_86 ?_
  refine Y_bipush (v := (-27)) i_200_87 (by decide) ?_
  refine Y_iv1 (L0 := [.ref 68, .int (-27)]) i_200_89 ow_200 lm_10_226 ((k_68 hG).trans ow_194.symm) rfl mx_194 rfl rfl hd_200 ?_
  refine Y_al0 i_194_0 ?_
  refine Y_gI (v := (F 68 20)) i_194_1 ow_194 lf_10_195 (by decide) (k_68 hG) rfl ?_
  refine Y_zeq i_194_4 (fun e1 => ?_) (fun e1 => ?_)
  · replace h := h.1 e1
    refine Y_al0 i_194_8 ?_
    refine Y_gR i_194_9 ow_194 lf_10_57 (k_68 hG) (r_68_10 hG) ?_
    refine Y_sipush (v := 600) i_194_12 (by decide) ?_
    refine Y_al0 i_194_15 ?_
    refine Y_gR i_194_16 ow_194 lf_10_42 (k_68 hG) (r_68_4 hG) ?_
    refine Y_bipush (v := 7) i_194_19 (by decide) ?_
    refine Y_iaload (k := 7) (v := (A 72 7)) i_194_21 (k_72 hG) (l_72 hG) (by decide) (by decide) rfl ?_
    refine Y_iadd i_194_22 ?_
    refine Y_il1 i_194_23 ?_
    have o2 := h.1
    replace h := h.2
    refine Y_iast i_194_24 (k_78 hG) (l_78 hG) o2 rfl ?_
    refine Y_al0 i_194_25 ?_
    refine Y_gR i_194_26 ow_194 lf_10_42 (k_68 hG) (r_68_4 hG) ?_
    refine Y_bipush (v := 7) i_194_29 (by decide) ?_
    refine Y_dup2 i_194_31 rfl rfl ?_
    refine Y_iaload (k := 7) (v := (A 72 7)) i_194_32 (k_72 hG) (l_72 hG) (by decide) (by decide) (by simp [wF, wJ, va_up, cpR, bF, bA]) ?_
    refine Y_iconst (v := 1) i_194_33 (by decide) ?_
    refine Y_iadd i_194_34 ?_
    refine Y_iast (k := 7) i_194_35 (k_72 hG) (l_72 hG) (by decide) (by decide) ?_
    refine Y_vret i_194_36 rt_194 (KKv ?_)
    refine Y_goto i_200_92 ?_
    exact h
  · replace h := h.2 e1
    refine Y_vret i_194_7 rt_194 (KKv ?_)
    refine Y_goto i_200_92 ?_
    exact h
/- 201 Model.readTable(I)V -/
theorem t_201_0 {d : Nat} {F A : Nat → Nat → Int32} {J : Nat → Nat → Int64} {G : pG} {Q : pR → pM → Prop} {SL p q : Nat} {x1 : Int32} (hG : Geo G SL p q) (h : (((A 72 4) = 10 → (((F 68 20) = 0 → Q (.inl none) ((wF (wF F 68 20 2) 68 21 (F 68 18)), A, J, G)) ∧ (¬ (F 68 20) = 0 → (((F 68 20) = 0 → X (d + 2) 187 0 [.ref 68, .null] [] (F, A, J, G) (KK (d + 3) 201 28 [.ref 68, .int x1, .null, .null, .null] [] Q)) ∧ (¬ (F 68 20) = 0 → Q (.inl none) (F, A, J, G)))))) ∧ (¬ (A 72 4) = 10 → (((F 68 20) = 0 → X (d + 2) 187 0 [.ref 68, .null] [] (F, A, J, G) (KK (d + 3) 201 28 [.ref 68, .int x1, .null, .null, .null] [] Q)) ∧ (¬ (F 68 20) = 0 → Q (.inl none) (F, A, J, G)))))) : X (d + 3) 201 0 [.ref 68, .int x1, .null, .null, .null] [] (F, A, J, G) Q := by
  refine Y_al0 i_201_0 ?_
  refine Y_gR i_201_1 ow_201 lf_10_42 (k_68 hG) (r_68_4 hG) ?_
  refine Y_iconst (v := 4) i_201_4 (by decide) ?_
  refine Y_iaload (k := 4) (v := (A 72 4)) i_201_5 (k_72 hG) (l_72 hG) (by decide) (by decide) rfl ?_
  refine Y_bipush (v := 10) i_201_6 (by decide) ?_
  refine Y_cne i_201_8 (fun e1 => ?_) (fun e1 => ?_)
  · replace h := h.1 e1
    refine Y_al0 i_201_11 ?_
    refine Y_iconst (v := 2) i_201_12 (by decide) ?_
    refine Y_iv1 (L0 := [.ref 68, .int 2]) i_201_13 ow_201 lm_10_216 ((k_68 hG).trans ow_188.symm) rfl mx_188 rfl rfl hd_201 ?_
    refine Y_al0 i_188_0 ?_
    refine Y_gI (v := (F 68 20)) i_188_1 ow_188 lf_10_195 (by decide) (k_68 hG) rfl ?_
    refine Y_zeq i_188_4 (fun e2 => ?_) (fun e2 => ?_)
    · replace h := h.1 e2
      refine Y_al0 i_188_8 ?_
      refine Y_il1 i_188_9 ?_
      refine Y_pI i_188_10 ow_188 lf_10_195 (k_68 hG) ?_
      refine Y_al0 i_188_13 ?_
      refine Y_al0 i_188_14 ?_
      refine Y_gI (v := (F 68 18)) i_188_15 ow_188 lf_10_166 (by decide) (k_68 hG) (by simp [wF, wJ, va_up, cpR, bF, bA]) ?_
      refine Y_pI i_188_18 ow_188 lf_10_198 (k_68 hG) ?_
      refine Y_vret i_188_21 rt_188 (KKv ?_)
      refine Y_al0 i_201_16 ?_
      refine Y_gI (v := 2) i_201_17 ow_201 lf_10_195 (by decide) (k_68 hG) (by simp [wF, wJ, va_up, cpR, bF, bA]) ?_
      refine Y_zF i_201_20 (by decide) ?_
      exact Y_vret i_201_23 rt_201 h
    · replace h := h.2 e2
      refine Y_vret i_188_7 rt_188 (KKv ?_)
      refine Y_al0 i_201_16 ?_
      refine Y_gI (v := (F 68 20)) i_201_17 ow_201 lf_10_195 (by decide) (k_68 hG) rfl ?_
      refine Y_zeq i_201_20 (fun e3 => ?_) (fun e3 => ?_)
      · replace h := h.1 e3
        refine Y_al0 i_201_24 ?_
        exact Y_iv0 (L0 := [.ref 68, .null]) i_201_25 ow_201 lm_10_220 ((k_68 hG).trans ow_187.symm) rfl mx_187 rfl rfl hd_201 h
      · replace h := h.2 e3
        exact Y_vret i_201_23 rt_201 h
  · replace h := h.2 e1
    refine Y_al0 i_201_16 ?_
    refine Y_gI (v := (F 68 20)) i_201_17 ow_201 lf_10_195 (by decide) (k_68 hG) rfl ?_
    refine Y_zeq i_201_20 (fun e4 => ?_) (fun e4 => ?_)
    · replace h := h.1 e4
      refine Y_al0 i_201_24 ?_
      exact Y_iv0 (L0 := [.ref 68, .null]) i_201_25 ow_201 lm_10_220 ((k_68 hG).trans ow_187.symm) rfl mx_187 rfl rfl hd_201 h
    · replace h := h.2 e4
      exact Y_vret i_201_23 rt_201 h
theorem k_201_28 {d : Nat} {F A : Nat → Nat → Int32} {J : Nat → Nat → Int64} {G : pG} {Q : pR → pM → Prop} {SL p q : Nat} {x1 : Int32} (hG : Geo G SL p q) (h : inB ((10 : Int32) + (A 72 4)) 20 = true ∧ (X (d + 2) 193 0 [.ref 68, .int 1, .int 99, .null] [] (F, (wF A 73 ((10 : Int32) + (A 72 4)).toNatClampNeg x1), J, G) (KK (d + 3) 201 57 [.ref 68, .int x1, .int ((10 : Int32) + (A 72 4)), .null, .null] [.int ((10 : Int32) + (A 72 4)), .ref 74] Q))) : KK (d + 3) 201 28 [.ref 68, .int x1, .null, .null, .null] [] Q (.inl none) (F, A, J, G) := by
  refine KKv ?_
  refine Y_bipush (v := 10) i_201_28 (by decide) ?_
  refine Y_al0 i_201_30 ?_
  refine Y_gR i_201_31 ow_201 lf_10_42 (k_68 hG) (r_68_4 hG) ?_
  refine Y_iconst (v := 4) i_201_34 (by decide) ?_
  refine Y_iaload (k := 4) (v := (A 72 4)) i_201_35 (k_72 hG) (l_72 hG) (by decide) (by decide) rfl ?_
  refine Y_iadd i_201_36 ?_
  refine Y_is2 i_201_37 rfl ?_
  refine Y_al0 i_201_38 ?_
  refine Y_gR i_201_39 ow_201 lf_10_45 (k_68 hG) (r_68_5 hG) ?_
  refine Y_il2 i_201_42 ?_
  refine Y_il1 i_201_43 ?_
  have o1 := h.1
  replace h := h.2
  refine Y_iast i_201_44 (k_73 hG) (l_73 hG) o1 rfl ?_
  refine Y_al0 i_201_45 ?_
  refine Y_gR i_201_46 ow_201 lf_10_47 (k_68 hG) (r_68_6 hG) ?_
  refine Y_il2 i_201_49 ?_
  refine Y_al0 i_201_50 ?_
  refine Y_iconst (v := 1) i_201_51 (by decide) ?_
  refine Y_bipush (v := 99) i_201_52 (by decide) ?_
  exact Y_iv2 (L0 := [.ref 68, .int 1, .int 99, .null]) i_201_54 ow_201 lm_10_223 ((k_68 hG).trans ow_193.symm) rfl mx_193 rfl rfl hd_201 h
theorem k_201_57 {d : Nat} {F A : Nat → Nat → Int32} {J : Nat → Nat → Int64} {G : pG} {Q : pR → pM → Prop} {SL p q : Nat} {x1 x2 r s0 r : Int32} (hG : Geo G SL p q) (h : inB s0 20 = true ∧ (X (d + 2) 193 0 [.ref 68, .int 0, .int 999, .null] [] (F, (wF A 74 s0.toNatClampNeg r), J, G) (KK (d + 3) 201 71 [.ref 68, .int x1, .int x2, .null, .null] [.int x2, .ref 75] Q))) : KK (d + 3) 201 57 [.ref 68, .int x1, .int x2, .null, .null] [.int s0, .ref 74] Q (.inl (some (.int r))) (F, A, J, G) := by
  refine KKi ?_
  have o1 := h.1
  replace h := h.2
  refine Y_iast i_201_57 (k_74 hG) (l_74 hG) o1 rfl ?_
  refine Y_al0 i_201_58 ?_
  refine Y_gR i_201_59 ow_201 lf_10_49 (k_68 hG) (r_68_7 hG) ?_
  refine Y_il2 i_201_62 ?_
  refine Y_al0 i_201_63 ?_
  refine Y_iconst (v := 0) i_201_64 (by decide) ?_
  refine Y_sipush (v := 999) i_201_65 (by decide) ?_
  exact Y_iv2 (L0 := [.ref 68, .int 0, .int 999, .null]) i_201_68 ow_201 lm_10_223 ((k_68 hG).trans ow_193.symm) rfl mx_193 rfl rfl hd_201 h
theorem k_201_71 {d : Nat} {F A : Nat → Nat → Int32} {J : Nat → Nat → Int64} {G : pG} {Q : pR → pM → Prop} {SL p q : Nat} {x1 x2 r s0 r : Int32} (hG : Geo G SL p q) (h : inB s0 20 = true ∧ (F 68 20 = 0 → F 68 16 = 3 → inB (F 68 18) 600 = true) ∧ (((mkB (F 68 20) (F 68 16) (A 80 (F 68 18).toNatClampNeg) 45) = true → X (d + 2) 187 0 [.ref 68, .null] [] (F, (wF A 75 s0.toNatClampNeg r), J, G) (KK (d + 3) 201 87 [.ref 68, .int x1, .int x2, .int (bI (mkB (F 68 20) (F 68 16) (A 80 (F 68 18).toNatClampNeg) 45)), .null] [] Q)) ∧ ((mkB (F 68 20) (F 68 16) (A 80 (F 68 18).toNatClampNeg) 45) = false → X (d + 2) 193 0 [.ref 68, .int 0, .int 9, .null] [] (F, (wF A 75 s0.toNatClampNeg r), J, G) (KK (d + 3) 201 94 [.ref 68, .int x1, .int x2, .int (bI (mkB (F 68 20) (F 68 16) (A 80 (F 68 18).toNatClampNeg) 45)), .null] [] Q)))) : KK (d + 3) 201 71 [.ref 68, .int x1, .int x2, .null, .null] [.int s0, .ref 75] Q (.inl (some (.int r))) (F, A, J, G) := by
  refine KKi ?_
  have o1 := h.1
  replace h := h.2
  refine Y_iast i_201_71 (k_75 hG) (l_75 hG) o1 rfl ?_
  refine Y_al0 i_201_72 ?_
  refine Y_bipush (v := 45) i_201_73 (by decide) ?_
  have o2 := h.1
  replace h := h.2
  refine Y_iv1 (L0 := [.ref 68, .int 45]) i_201_75 ow_201 lm_10_213 ((k_68 hG).trans ow_191.symm) rfl mx_191 rfl rfl hd_201 ?_
  refine c_191 hG o2 (KKi' (v' := (bI (mkB (F 68 20) (F 68 16) (A 80 (F 68 18).toNatClampNeg) 45))) (by simp [wF, wJ, va_up, cpR, bF, bA]) ?_)
  refine Y_is3 i_201_78 rfl ?_
  refine Y_il3 i_201_79 ?_
  refine Y_beq i_201_80 (fun e3 => ?_) (fun e3 => ?_)
  · replace h := h.1 e3
    refine Y_al0 i_201_83 ?_
    exact Y_iv0 (L0 := [.ref 68, .null]) i_201_84 ow_201 lm_10_220 ((k_68 hG).trans ow_187.symm) rfl mx_187 rfl rfl hd_201 h
  · replace h := h.2 e3
    refine Y_al0 i_201_87 ?_
    refine Y_iconst (v := 0) i_201_88 (by decide) ?_
    refine Y_bipush (v := 9) i_201_89 (by decide) ?_
    exact Y_iv2 (L0 := [.ref 68, .int 0, .int 9, .null]) i_201_91 ow_201 lm_10_223 ((k_68 hG).trans ow_193.symm) rfl mx_193 rfl rfl hd_201 h
theorem k_201_87 {d : Nat} {F A : Nat → Nat → Int32} {J : Nat → Nat → Int64} {G : pG} {Q : pR → pM → Prop} {SL p q : Nat} {x1 x2 x3 : Int32} (hG : Geo G SL p q) (h : X (d + 2) 193 0 [.ref 68, .int 0, .int 9, .null] [] (F, A, J, G) (KK (d + 3) 201 94 [.ref 68, .int x1, .int x2, .int x3, .null] [] Q)) : KK (d + 3) 201 87 [.ref 68, .int x1, .int x2, .int x3, .null] [] Q (.inl none) (F, A, J, G) := by
  refine KKv ?_
  refine Y_al0 i_201_87 ?_
  refine Y_iconst (v := 0) i_201_88 (by decide) ?_
  refine Y_bipush (v := 9) i_201_89 (by decide) ?_
  exact Y_iv2 (L0 := [.ref 68, .int 0, .int 9, .null]) i_201_91 ow_201 lm_10_223 ((k_68 hG).trans ow_193.symm) rfl mx_193 rfl rfl hd_201 h
theorem k_201_94 {d : Nat} {F A : Nat → Nat → Int32} {J : Nat → Nat → Int64} {G : pG} {Q : pR → pM → Prop} {SL p q : Nat} {x1 x2 x3 r r : Int32} (hG : Geo G SL p q) (h : ((x3 = 0 → inB x2 20 = true ∧ (X (d + 2) 193 0 [.ref 68, .int 0, .int 99, .null] [] (F, (wF A 76 x2.toNatClampNeg r), J, G) (KK (d + 3) 201 126 [.ref 68, .int x1, .int x2, .int x3, .int r] [.int x2, .ref 77] Q))) ∧ (¬ x3 = 0 → inB x2 20 = true ∧ (X (d + 2) 193 0 [.ref 68, .int 0, .int 99, .null] [] (F, (wF A 76 x2.toNatClampNeg (-r)), J, G) (KK (d + 3) 201 126 [.ref 68, .int x1, .int x2, .int x3, .int r] [.int x2, .ref 77] Q))))) : KK (d + 3) 201 94 [.ref 68, .int x1, .int x2, .int x3, .null] [] Q (.inl (some (.int r))) (F, A, J, G) := by
  refine KKi ?_
  refine Y_is4 i_201_94 rfl ?_
  refine Y_al0 i_201_96 ?_
  refine Y_gR i_201_97 ow_201 lf_10_52 (k_68 hG) (r_68_8 hG) ?_
  refine Y_il2 i_201_100 ?_
  refine Y_il3 i_201_101 ?_
  refine Y_zeq i_201_102 (fun e1 => ?_) (fun e1 => ?_)
  · replace h := h.1 e1
    refine Y_il4 i_201_111 ?_
    have o2 := h.1
    replace h := h.2
    refine Y_iast i_201_113 (k_76 hG) (l_76 hG) o2 rfl ?_
    refine Y_al0 i_201_114 ?_
    refine Y_gR i_201_115 ow_201 lf_10_55 (k_68 hG) (r_68_9 hG) ?_
    refine Y_il2 i_201_118 ?_
    refine Y_al0 i_201_119 ?_
    refine Y_iconst (v := 0) i_201_120 (by decide) ?_
    refine Y_bipush (v := 99) i_201_121 (by decide) ?_
    exact Y_iv2 (L0 := [.ref 68, .int 0, .int 99, .null]) i_201_123 ow_201 lm_10_223 ((k_68 hG).trans ow_193.symm) rfl mx_193 rfl rfl hd_201 h
  · replace h := h.2 e1
    refine Y_il4 i_201_105 ?_
    refine Y_ineg i_201_107 ?_
    refine Y_goto i_201_108 ?_
    have o3 := h.1
    replace h := h.2
    refine Y_iast i_201_113 (k_76 hG) (l_76 hG) o3 rfl ?_
    refine Y_al0 i_201_114 ?_
    refine Y_gR i_201_115 ow_201 lf_10_55 (k_68 hG) (r_68_9 hG) ?_
    refine Y_il2 i_201_118 ?_
    refine Y_al0 i_201_119 ?_
    refine Y_iconst (v := 0) i_201_120 (by decide) ?_
    refine Y_bipush (v := 99) i_201_121 (by decide) ?_
    exact Y_iv2 (L0 := [.ref 68, .int 0, .int 99, .null]) i_201_123 ow_201 lm_10_223 ((k_68 hG).trans ow_193.symm) rfl mx_193 rfl rfl hd_201 h
theorem k_201_126 {d : Nat} {F A : Nat → Nat → Int32} {J : Nat → Nat → Int64} {G : pG} {Q : pR → pM → Prop} {SL p q : Nat} {x1 x2 x3 x4 r s0 r : Int32} (hG : Geo G SL p q) (h : inB s0 20 = true ∧ (Q (.inl none) (F, (wF (wF A 77 s0.toNatClampNeg r) 72 4 ((A 72 4) + 1)), J, G))) : KK (d + 3) 201 126 [.ref 68, .int x1, .int x2, .int x3, .int x4] [.int s0, .ref 77] Q (.inl (some (.int r))) (F, A, J, G) := by
  refine KKi ?_
  have o1 := h.1
  replace h := h.2
  refine Y_iast i_201_126 (k_77 hG) (l_77 hG) o1 rfl ?_
  refine Y_al0 i_201_127 ?_
  refine Y_gR i_201_128 ow_201 lf_10_42 (k_68 hG) (r_68_4 hG) ?_
  refine Y_iconst (v := 4) i_201_131 (by decide) ?_
  refine Y_dup2 i_201_132 rfl rfl ?_
  refine Y_iaload (k := 4) (v := (A 72 4)) i_201_133 (k_72 hG) (l_72 hG) (by decide) (by decide) (by simp [wF, wJ, va_up, cpR, bF, bA]) ?_
  refine Y_iconst (v := 1) i_201_134 (by decide) ?_
  refine Y_iadd i_201_135 ?_
  refine Y_iast (k := 4) i_201_136 (k_72 hG) (l_72 hG) (by decide) (by decide) ?_
  exact Y_vret i_201_137 rt_201 h
/- 202 Model.readLine(I)I -/
theorem t_202_0 {d : Nat} {F A : Nat → Nat → Int32} {J : Nat → Nat → Int64} {G : pG} {Q : pR → pM → Prop} {SL p q : Nat} {x1 : Int32} (hG : Geo G SL p q) (h : X (d + 3) 189 0 [.ref 68, .ref 1006, .null, .null] [] (F, A, J, G) (KK (d + 4) 202 7 [.ref 68, .int x1, .null, .null] [] Q)) : X (d + 4) 202 0 [.ref 68, .int x1, .null, .null] [] (F, A, J, G) Q := by
  refine Y_al0 i_202_0 ?_
  refine Y_ldcSw (r := 1006) i_202_1 ow_202 li_10_260 ls_10_260 rfl ?_
  exact Y_iv1 (L0 := [.ref 68, .ref 1006, .null, .null]) i_202_4 ow_202 lm_10_209 ((k_68 hG).trans ow_189.symm) rfl mx_189 rfl rfl hd_202 h
theorem k_202_7 {d : Nat} {F A : Nat → Nat → Int32} {J : Nat → Nat → Int64} {G : pG} {Q : pR → pM → Prop} {SL p q : Nat} {x1 r r : Int32} (hG : Geo G SL p q) (h : ((r = 0 → X (d + 3) 189 0 [.ref 68, .ref 1007, .null, .null] [] (F, A, J, G) (KK (d + 4) 202 21 [.ref 68, .int x1, .null, .null] [] Q)) ∧ (¬ r = 0 → X (d + 3) 190 0 [.ref 68, .ref 69, .null] [] (F, A, J, G) (KK (d + 4) 202 52 [.ref 68, .int x1, .int 1, .null] [] Q)))) : KK (d + 4) 202 7 [.ref 68, .int x1, .null, .null] [] Q (.inl (some (.int r))) (F, A, J, G) := by
  refine KKi ?_
  refine Y_zeq i_202_7 (fun e1 => ?_) (fun e1 => ?_)
  · replace h := h.1 e1
    refine Y_al0 i_202_14 ?_
    refine Y_ldcSw (r := 1007) i_202_15 ow_202 li_10_262 ls_10_262 rfl ?_
    exact Y_iv1 (L0 := [.ref 68, .ref 1007, .null, .null]) i_202_18 ow_202 lm_10_209 ((k_68 hG).trans ow_189.symm) rfl mx_189 rfl rfl hd_202 h
  · replace h := h.2 e1
    refine Y_iconst (v := 1) i_202_10 (by decide) ?_
    refine Y_goto i_202_11 ?_
    refine Y_is2 i_202_43 rfl ?_
    refine Y_al0 i_202_44 ?_
    refine Y_al0 i_202_45 ?_
    refine Y_gR i_202_46 ow_202 lf_10_19 (k_68 hG) (r_68_0 hG) ?_
    exact Y_iv1 (L0 := [.ref 68, .ref 69, .null]) i_202_49 ow_202 lm_10_229 ((k_68 hG).trans ow_190.symm) rfl mx_190 rfl rfl hd_202 h
theorem k_202_21 {d : Nat} {F A : Nat → Nat → Int32} {J : Nat → Nat → Int64} {G : pG} {Q : pR → pM → Prop} {SL p q : Nat} {x1 r r : Int32} (hG : Geo G SL p q) (h : ((r = 0 → X (d + 3) 189 0 [.ref 68, .ref 1008, .null, .null] [] (F, A, J, G) (KK (d + 4) 202 35 [.ref 68, .int x1, .null, .null] [] Q)) ∧ (¬ r = 0 → X (d + 3) 190 0 [.ref 68, .ref 69, .null] [] (F, A, J, G) (KK (d + 4) 202 52 [.ref 68, .int x1, .int 2, .null] [] Q)))) : KK (d + 4) 202 21 [.ref 68, .int x1, .null, .null] [] Q (.inl (some (.int r))) (F, A, J, G) := by
  refine KKi ?_
  refine Y_zeq i_202_21 (fun e1 => ?_) (fun e1 => ?_)
  · replace h := h.1 e1
    refine Y_al0 i_202_28 ?_
    refine Y_ldcSw (r := 1008) i_202_29 ow_202 li_10_264 ls_10_264 rfl ?_
    exact Y_iv1 (L0 := [.ref 68, .ref 1008, .null, .null]) i_202_32 ow_202 lm_10_209 ((k_68 hG).trans ow_189.symm) rfl mx_189 rfl rfl hd_202 h
  · replace h := h.2 e1
    refine Y_iconst (v := 2) i_202_24 (by decide) ?_
    refine Y_goto i_202_25 ?_
    refine Y_is2 i_202_43 rfl ?_
    refine Y_al0 i_202_44 ?_
    refine Y_al0 i_202_45 ?_
    refine Y_gR i_202_46 ow_202 lf_10_19 (k_68 hG) (r_68_0 hG) ?_
    exact Y_iv1 (L0 := [.ref 68, .ref 69, .null]) i_202_49 ow_202 lm_10_229 ((k_68 hG).trans ow_190.symm) rfl mx_190 rfl rfl hd_202 h
theorem k_202_35 {d : Nat} {F A : Nat → Nat → Int32} {J : Nat → Nat → Int64} {G : pG} {Q : pR → pM → Prop} {SL p q : Nat} {x1 r r : Int32} (hG : Geo G SL p q) (h : ((r = 0 → X (d + 3) 190 0 [.ref 68, .ref 69, .null] [] (F, A, J, G) (KK (d + 4) 202 52 [.ref 68, .int x1, .int 0, .null] [] Q)) ∧ (¬ r = 0 → X (d + 3) 190 0 [.ref 68, .ref 69, .null] [] (F, A, J, G) (KK (d + 4) 202 52 [.ref 68, .int x1, .int 4, .null] [] Q)))) : KK (d + 4) 202 35 [.ref 68, .int x1, .null, .null] [] Q (.inl (some (.int r))) (F, A, J, G) := by
  refine KKi ?_
  refine Y_zeq i_202_35 (fun e1 => ?_) (fun e1 => ?_)
  · replace h := h.1 e1
    refine Y_iconst (v := 0) i_202_42 (by decide) ?_
    refine Y_is2 i_202_43 rfl ?_
    refine Y_al0 i_202_44 ?_
    refine Y_al0 i_202_45 ?_
    refine Y_gR i_202_46 ow_202 lf_10_19 (k_68 hG) (r_68_0 hG) ?_
    exact Y_iv1 (L0 := [.ref 68, .ref 69, .null]) i_202_49 ow_202 lm_10_229 ((k_68 hG).trans ow_190.symm) rfl mx_190 rfl rfl hd_202 h
  · replace h := h.2 e1
    refine Y_iconst (v := 4) i_202_38 (by decide) ?_
    refine Y_goto i_202_39 ?_
    refine Y_is2 i_202_43 rfl ?_
    refine Y_al0 i_202_44 ?_
    refine Y_al0 i_202_45 ?_
    refine Y_gR i_202_46 ow_202 lf_10_19 (k_68 hG) (r_68_0 hG) ?_
    exact Y_iv1 (L0 := [.ref 68, .ref 69, .null]) i_202_49 ow_202 lm_10_229 ((k_68 hG).trans ow_190.symm) rfl mx_190 rfl rfl hd_202 h
theorem k_202_52 {d : Nat} {F A : Nat → Nat → Int32} {J : Nat → Nat → Int64} {G : pG} {Q : pR → pM → Prop} {SL p q : Nat} {x1 x2 r r : Int32} (hG : Geo G SL p q) (h : (((x2 &&& x1) = 0 → ((0 < x2 → (((F 68 20) = 0 → X (d + 3) 187 0 [.ref 68, .null] [] (F, A, J, G) (KK (d + 4) 202 79 [.ref 68, .int x1, .int x2, .int r] [] Q)) ∧ (¬ (F 68 20) = 0 → ((x2 = 1 → X (d + 3) 193 0 [.ref 68, .int 0, .int 40, .null] [] (F, A, J, G) (KK (d + 4) 202 96 [.ref 68, .int x1, .int x2, .int r] [.int 5, .ref 72] Q)) ∧ (¬ x2 = 1 → ((x2 = 2 → X (d + 3) 193 0 [.ref 68, .int 0, .int 999, .null] [] (F, A, J, G) (KK (d + 4) 202 119 [.ref 68, .int x1, .int x2, .int r] [.int 6, .ref 72] Q)) ∧ (¬ x2 = 2 → X (d + 3) 200 0 [.ref 68, .int 0, .null] [] (F, A, J, G) (KK (d + 4) 202 128 [.ref 68, .int x1, .int x2, .int r] [] Q)))))))) ∧ (¬ 0 < x2 → ((r = (-1) → (((F 68 20) = 0 → X (d + 3) 192 0 [.ref 68, .int 59] [] ((wF (wF F 68 20 1) 68 21 (F 68 18)), A, J, G) (KK (d + 4) 202 155 [.ref 68, .int x1, .int x2, .int r] [] Q)) ∧ (¬ (F 68 20) = 0 → X (d + 3) 192 0 [.ref 68, .int 59] [] (F, A, J, G) (KK (d + 4) 202 155 [.ref 68, .int x1, .int x2, .int r] [] Q)))) ∧ (¬ r = (-1) → X (d + 3) 201 0 [.ref 68, .int r, .null, .null, .null] [] (F, A, J, G) (KK (d + 4) 202 141 [.ref 68, .int x1, .int x2, .int r] [] Q)))))) ∧ (¬ (x2 &&& x1) = 0 → (((F 68 20) = 0 → ((0 < x2 → ((x2 = 1 → X (d + 3) 193 0 [.ref 68, .int 0, .int 40, .null] [] ((wF (wF F 68 20 4) 68 21 (F 68 18)), A, J, G) (KK (d + 4) 202 96 [.ref 68, .int x1, .int x2, .int r] [.int 5, .ref 72] Q)) ∧ (¬ x2 = 1 → ((x2 = 2 → X (d + 3) 193 0 [.ref 68, .int 0, .int 999, .null] [] ((wF (wF F 68 20 4) 68 21 (F 68 18)), A, J, G) (KK (d + 4) 202 119 [.ref 68, .int x1, .int x2, .int r] [.int 6, .ref 72] Q)) ∧ (¬ x2 = 2 → X (d + 3) 200 0 [.ref 68, .int 0, .null] [] ((wF (wF F 68 20 4) 68 21 (F 68 18)), A, J, G) (KK (d + 4) 202 128 [.ref 68, .int x1, .int x2, .int r] [] Q)))))) ∧ (¬ 0 < x2 → ((r = (-1) → X (d + 3) 192 0 [.ref 68, .int 59] [] ((wF (wF F 68 20 4) 68 21 (F 68 18)), A, J, G) (KK (d + 4) 202 155 [.ref 68, .int x1, .int x2, .int r] [] Q)) ∧ (¬ r = (-1) → X (d + 3) 201 0 [.ref 68, .int r, .null, .null, .null] [] ((wF (wF F 68 20 4) 68 21 (F 68 18)), A, J, G) (KK (d + 4) 202 141 [.ref 68, .int x1, .int x2, .int r] [] Q)))))) ∧ (¬ (F 68 20) = 0 → ((0 < x2 → (((F 68 20) = 0 → X (d + 3) 187 0 [.ref 68, .null] [] (F, A, J, G) (KK (d + 4) 202 79 [.ref 68, .int x1, .int x2, .int r] [] Q)) ∧ (¬ (F 68 20) = 0 → ((x2 = 1 → X (d + 3) 193 0 [.ref 68, .int 0, .int 40, .null] [] (F, A, J, G) (KK (d + 4) 202 96 [.ref 68, .int x1, .int x2, .int r] [.int 5, .ref 72] Q)) ∧ (¬ x2 = 1 → ((x2 = 2 → X (d + 3) 193 0 [.ref 68, .int 0, .int 999, .null] [] (F, A, J, G) (KK (d + 4) 202 119 [.ref 68, .int x1, .int x2, .int r] [.int 6, .ref 72] Q)) ∧ (¬ x2 = 2 → X (d + 3) 200 0 [.ref 68, .int 0, .null] [] (F, A, J, G) (KK (d + 4) 202 128 [.ref 68, .int x1, .int x2, .int r] [] Q)))))))) ∧ (¬ 0 < x2 → ((r = (-1) → (((F 68 20) = 0 → X (d + 3) 192 0 [.ref 68, .int 59] [] ((wF (wF F 68 20 1) 68 21 (F 68 18)), A, J, G) (KK (d + 4) 202 155 [.ref 68, .int x1, .int x2, .int r] [] Q)) ∧ (¬ (F 68 20) = 0 → X (d + 3) 192 0 [.ref 68, .int 59] [] (F, A, J, G) (KK (d + 4) 202 155 [.ref 68, .int x1, .int x2, .int r] [] Q)))) ∧ (¬ r = (-1) → X (d + 3) 201 0 [.ref 68, .int r, .null, .null, .null] [] (F, A, J, G) (KK (d + 4) 202 141 [.ref 68, .int x1, .int x2, .int r] [] Q)))))))))) : KK (d + 4) 202 52 [.ref 68, .int x1, .int x2, .null] [] Q (.inl (some (.int r))) (F, A, J, G) := by
  refine KKi ?_
  refine Y_is3 i_202_52 rfl ?_
  refine Y_il2 i_202_53 ?_
  refine Y_il1 i_202_54 ?_
  refine Y_iand i_202_55 ?_
  refine Y_zeq i_202_56 (fun e1 => ?_) (fun e1 => ?_)
  · replace h := h.1 e1
    refine Y_il2 i_202_64 ?_
    refine Y_zle i_202_65 (fun e2 => ?_) (fun e2 => ?_)
    · replace h := h.1 e2
      refine Y_al0 i_202_68 ?_
      refine Y_gI (v := (F 68 20)) i_202_69 ow_202 lf_10_195 (by decide) (k_68 hG) rfl ?_
      refine Y_zne i_202_72 (fun e3 => ?_) (fun e3 => ?_)
      · replace h := h.1 e3
        refine Y_al0 i_202_75 ?_
        exact Y_iv0 (L0 := [.ref 68, .null]) i_202_76 ow_202 lm_10_220 ((k_68 hG).trans ow_187.symm) rfl mx_187 rfl rfl hd_202 h
      · replace h := h.2 e3
        refine Y_il2 i_202_79 ?_
        refine Y_iconst (v := 1) i_202_80 (by decide) ?_
        refine Y_cne i_202_81 (fun e4 => ?_) (fun e4 => ?_)
        · replace h := h.1 e4
          refine Y_al0 i_202_84 ?_
          refine Y_gR i_202_85 ow_202 lf_10_42 (k_68 hG) (r_68_4 hG) ?_
          refine Y_iconst (v := 5) i_202_88 (by decide) ?_
          refine Y_al0 i_202_89 ?_
          refine Y_iconst (v := 0) i_202_90 (by decide) ?_
          refine Y_bipush (v := 40) i_202_91 (by decide) ?_
          exact Y_iv2 (L0 := [.ref 68, .int 0, .int 40, .null]) i_202_93 ow_202 lm_10_223 ((k_68 hG).trans ow_193.symm) rfl mx_193 rfl rfl hd_202 h
        · replace h := h.2 e4
          refine Y_il2 i_202_100 ?_
          refine Y_iconst (v := 2) i_202_101 (by decide) ?_
          refine Y_cne i_202_102 (fun e5 => ?_) (fun e5 => ?_)
          · replace h := h.1 e5
            refine Y_al0 i_202_105 ?_
            refine Y_gR i_202_106 ow_202 lf_10_42 (k_68 hG) (r_68_4 hG) ?_
            refine Y_bipush (v := 6) i_202_109 (by decide) ?_
            refine Y_al0 i_202_111 ?_
            refine Y_iconst (v := 0) i_202_112 (by decide) ?_
            refine Y_sipush (v := 999) i_202_113 (by decide) ?_
            exact Y_iv2 (L0 := [.ref 68, .int 0, .int 999, .null]) i_202_116 ow_202 lm_10_223 ((k_68 hG).trans ow_193.symm) rfl mx_193 rfl rfl hd_202 h
          · replace h := h.2 e5
            refine Y_al0 i_202_123 ?_
            refine Y_iconst (v := 0) i_202_124 (by decide) ?_
            exact Y_iv1 (L0 := [.ref 68, .int 0, .null]) i_202_125 ow_202 lm_10_236 ((k_68 hG).trans ow_200.symm) rfl mx_200 rfl rfl hd_202 h
    · replace h := h.2 e2
      refine Y_il3 i_202_131 ?_
      refine Y_iconst (v := (-1)) i_202_132 (by decide) ?_
      refine Y_ceq i_202_133 (fun e6 => ?_) (fun e6 => ?_)
      · replace h := h.1 e6
        refine Y_al0 i_202_144 ?_
        refine Y_iconst (v := 1) i_202_145 (by decide) ?_
        refine Y_iv1 (L0 := [.ref 68, .int 1]) i_202_146 ow_202 lm_10_216 ((k_68 hG).trans ow_188.symm) rfl mx_188 rfl rfl hd_202 ?_
        refine Y_al0 i_188_0 ?_
        refine Y_gI (v := (F 68 20)) i_188_1 ow_188 lf_10_195 (by decide) (k_68 hG) rfl ?_
        refine Y_zeq i_188_4 (fun e7 => ?_) (fun e7 => ?_)
        · replace h := h.1 e7
          refine Y_al0 i_188_8 ?_
          refine Y_il1 i_188_9 ?_
          refine Y_pI i_188_10 ow_188 lf_10_195 (k_68 hG) ?_
          refine Y_al0 i_188_13 ?_
          refine Y_al0 i_188_14 ?_
          refine Y_gI (v := (F 68 18)) i_188_15 ow_188 lf_10_166 (by decide) (k_68 hG) (by simp [wF, wJ, va_up, cpR, bF, bA]) ?_
          refine Y_pI i_188_18 ow_188 lf_10_198 (k_68 hG) ?_
          refine Y_vret i_188_21 rt_188 (KKv ?_)
          refine Y_al0 i_202_149 ?_
          refine Y_bipush (v := 59) i_202_150 (by decide) ?_
          exact Y_iv1 (L0 := [.ref 68, .int 59]) i_202_152 ow_202 lm_10_233 ((k_68 hG).trans ow_192.symm) rfl mx_192 rfl rfl hd_202 h
        · replace h := h.2 e7
          refine Y_vret i_188_7 rt_188 (KKv ?_)
          refine Y_al0 i_202_149 ?_
          refine Y_bipush (v := 59) i_202_150 (by decide) ?_
          exact Y_iv1 (L0 := [.ref 68, .int 59]) i_202_152 ow_202 lm_10_233 ((k_68 hG).trans ow_192.symm) rfl mx_192 rfl rfl hd_202 h
      · replace h := h.2 e6
        refine Y_al0 i_202_136 ?_
        refine Y_il3 i_202_137 ?_
        exact Y_iv1 (L0 := [.ref 68, .int r, .null, .null, .null]) i_202_138 ow_202 lm_10_266 ((k_68 hG).trans ow_201.symm) rfl mx_201 rfl rfl hd_202 h
  · replace h := h.2 e1
    refine Y_al0 i_202_59 ?_
    refine Y_iconst (v := 4) i_202_60 (by decide) ?_
    refine Y_iv1 (L0 := [.ref 68, .int 4]) i_202_61 ow_202 lm_10_216 ((k_68 hG).trans ow_188.symm) rfl mx_188 rfl rfl hd_202 ?_
    refine Y_al0 i_188_0 ?_
    refine Y_gI (v := (F 68 20)) i_188_1 ow_188 lf_10_195 (by decide) (k_68 hG) rfl ?_
    refine Y_zeq i_188_4 (fun e8 => ?_) (fun e8 => ?_)
    · replace h := h.1 e8
      refine Y_al0 i_188_8 ?_
      refine Y_il1 i_188_9 ?_
      refine Y_pI i_188_10 ow_188 lf_10_195 (k_68 hG) ?_
      refine Y_al0 i_188_13 ?_
      refine Y_al0 i_188_14 ?_
      refine Y_gI (v := (F 68 18)) i_188_15 ow_188 lf_10_166 (by decide) (k_68 hG) (by simp [wF, wJ, va_up, cpR, bF, bA]) ?_
      refine Y_pI i_188_18 ow_188 lf_10_198 (k_68 hG) ?_
      refine Y_vret i_188_21 rt_188 (KKv ?_)
      refine Y_il2 i_202_64 ?_
      refine Y_zle i_202_65 (fun e9 => ?_) (fun e9 => ?_)
      · replace h := h.1 e9
        refine Y_al0 i_202_68 ?_
        refine Y_gI (v := 4) i_202_69 ow_202 lf_10_195 (by decide) (k_68 hG) (by simp [wF, wJ, va_up, cpR, bF, bA]) ?_
        refine Y_zT i_202_72 (by decide) ?_
        refine Y_il2 i_202_79 ?_
        refine Y_iconst (v := 1) i_202_80 (by decide) ?_
        refine Y_cne i_202_81 (fun e10 => ?_) (fun e10 => ?_)
        · replace h := h.1 e10
          refine Y_al0 i_202_84 ?_
          refine Y_gR i_202_85 ow_202 lf_10_42 (k_68 hG) (r_68_4 hG) ?_
          refine Y_iconst (v := 5) i_202_88 (by decide) ?_
          refine Y_al0 i_202_89 ?_
          refine Y_iconst (v := 0) i_202_90 (by decide) ?_
          refine Y_bipush (v := 40) i_202_91 (by decide) ?_
          exact Y_iv2 (L0 := [.ref 68, .int 0, .int 40, .null]) i_202_93 ow_202 lm_10_223 ((k_68 hG).trans ow_193.symm) rfl mx_193 rfl rfl hd_202 h
        · replace h := h.2 e10
          refine Y_il2 i_202_100 ?_
          refine Y_iconst (v := 2) i_202_101 (by decide) ?_
          refine Y_cne i_202_102 (fun e11 => ?_) (fun e11 => ?_)
          · replace h := h.1 e11
            refine Y_al0 i_202_105 ?_
            refine Y_gR i_202_106 ow_202 lf_10_42 (k_68 hG) (r_68_4 hG) ?_
            refine Y_bipush (v := 6) i_202_109 (by decide) ?_
            refine Y_al0 i_202_111 ?_
            refine Y_iconst (v := 0) i_202_112 (by decide) ?_
            refine Y_sipush (v := 999) i_202_113 (by decide) ?_
            exact Y_iv2 (L0 := [.ref 68, .int 0, .int 999, .null]) i_202_116 ow_202 lm_10_223 ((k_68 hG).trans ow_193.symm) rfl mx_193 rfl rfl hd_202 h
          · replace h := h.2 e11
            refine Y_al0 i_202_123 ?_
            refine Y_iconst (v := 0) i_202_124 (by decide) ?_
            exact Y_iv1 (L0 := [.ref 68, .int 0, .null]) i_202_125 ow_202 lm_10_236 ((k_68 hG).trans ow_200.symm) rfl mx_200 rfl rfl hd_202 h
      · replace h := h.2 e9
        refine Y_il3 i_202_131 ?_
        refine Y_iconst (v := (-1)) i_202_132 (by decide) ?_
        refine Y_ceq i_202_133 (fun e12 => ?_) (fun e12 => ?_)
        · replace h := h.1 e12
          refine Y_al0 i_202_144 ?_
          refine Y_iconst (v := 1) i_202_145 (by decide) ?_
          refine Y_iv1 (L0 := [.ref 68, .int 1]) i_202_146 ow_202 lm_10_216 ((k_68 hG).trans ow_188.symm) rfl mx_188 rfl rfl hd_202 ?_
          refine Y_al0 i_188_0 ?_
          refine Y_gI (v := 4) i_188_1 ow_188 lf_10_195 (by decide) (k_68 hG) (by simp [wF, wJ, va_up, cpR, bF, bA]) ?_
          refine Y_zF i_188_4 (by decide) ?_
          refine Y_vret i_188_7 rt_188 (KKv ?_)
          refine Y_al0 i_202_149 ?_
          refine Y_bipush (v := 59) i_202_150 (by decide) ?_
          exact Y_iv1 (L0 := [.ref 68, .int 59]) i_202_152 ow_202 lm_10_233 ((k_68 hG).trans ow_192.symm) rfl mx_192 rfl rfl hd_202 h
        · replace h := h.2 e12
          refine Y_al0 i_202_136 ?_
          refine Y_il3 i_202_137 ?_
          exact Y_iv1 (L0 := [.ref 68, .int r, .null, .null, .null]) i_202_138 ow_202 lm_10_266 ((k_68 hG).trans ow_201.symm) rfl mx_201 rfl rfl hd_202 h
    · replace h := h.2 e8
      refine Y_vret i_188_7 rt_188 (KKv ?_)
      refine Y_il2 i_202_64 ?_
      refine Y_zle i_202_65 (fun e13 => ?_) (fun e13 => ?_)
      · replace h := h.1 e13
        refine Y_al0 i_202_68 ?_
        refine Y_gI (v := (F 68 20)) i_202_69 ow_202 lf_10_195 (by decide) (k_68 hG) rfl ?_
        refine Y_zne i_202_72 (fun e14 => ?_) (fun e14 => ?_)
        · replace h := h.1 e14
          refine Y_al0 i_202_75 ?_
          exact Y_iv0 (L0 := [.ref 68, .null]) i_202_76 ow_202 lm_10_220 ((k_68 hG).trans ow_187.symm) rfl mx_187 rfl rfl hd_202 h
        · replace h := h.2 e14
          refine Y_il2 i_202_79 ?_
          refine Y_iconst (v := 1) i_202_80 (by decide) ?_
          refine Y_cne i_202_81 (fun e15 => ?_) (fun e15 => ?_)
          · replace h := h.1 e15
            refine Y_al0 i_202_84 ?_
            refine Y_gR i_202_85 ow_202 lf_10_42 (k_68 hG) (r_68_4 hG) ?_
            refine Y_iconst (v := 5) i_202_88 (by decide) ?_
            refine Y_al0 i_202_89 ?_
            refine Y_iconst (v := 0) i_202_90 (by decide) ?_
            refine Y_bipush (v := 40) i_202_91 (by decide) ?_
            exact Y_iv2 (L0 := [.ref 68, .int 0, .int 40, .null]) i_202_93 ow_202 lm_10_223 ((k_68 hG).trans ow_193.symm) rfl mx_193 rfl rfl hd_202 h
          · replace h := h.2 e15
            refine Y_il2 i_202_100 ?_
            refine Y_iconst (v := 2) i_202_101 (by decide) ?_
            refine Y_cne i_202_102 (fun e16 => ?_) (fun e16 => ?_)
            · replace h := h.1 e16
              refine Y_al0 i_202_105 ?_
              refine Y_gR i_202_106 ow_202 lf_10_42 (k_68 hG) (r_68_4 hG) ?_
              refine Y_bipush (v := 6) i_202_109 (by decide) ?_
              refine Y_al0 i_202_111 ?_
              refine Y_iconst (v := 0) i_202_112 (by decide) ?_
              refine Y_sipush (v := 999) i_202_113 (by decide) ?_
              exact Y_iv2 (L0 := [.ref 68, .int 0, .int 999, .null]) i_202_116 ow_202 lm_10_223 ((k_68 hG).trans ow_193.symm) rfl mx_193 rfl rfl hd_202 h
            · replace h := h.2 e16
              refine Y_al0 i_202_123 ?_
              refine Y_iconst (v := 0) i_202_124 (by decide) ?_
              exact Y_iv1 (L0 := [.ref 68, .int 0, .null]) i_202_125 ow_202 lm_10_236 ((k_68 hG).trans ow_200.symm) rfl mx_200 rfl rfl hd_202 h
      · replace h := h.2 e13
        refine Y_il3 i_202_131 ?_
        refine Y_iconst (v := (-1)) i_202_132 (by decide) ?_
        refine Y_ceq i_202_133 (fun e17 => ?_) (fun e17 => ?_)
        · replace h := h.1 e17
          refine Y_al0 i_202_144 ?_
          refine Y_iconst (v := 1) i_202_145 (by decide) ?_
          refine Y_iv1 (L0 := [.ref 68, .int 1]) i_202_146 ow_202 lm_10_216 ((k_68 hG).trans ow_188.symm) rfl mx_188 rfl rfl hd_202 ?_
          refine Y_al0 i_188_0 ?_
          refine Y_gI (v := (F 68 20)) i_188_1 ow_188 lf_10_195 (by decide) (k_68 hG) rfl ?_
          refine Y_zeq i_188_4 (fun e18 => ?_) (fun e18 => ?_)
          · replace h := h.1 e18
            refine Y_al0 i_188_8 ?_
            refine Y_il1 i_188_9 ?_
            refine Y_pI i_188_10 ow_188 lf_10_195 (k_68 hG) ?_
            refine Y_al0 i_188_13 ?_
            refine Y_al0 i_188_14 ?_
            refine Y_gI (v := (F 68 18)) i_188_15 ow_188 lf_10_166 (by decide) (k_68 hG) (by simp [wF, wJ, va_up, cpR, bF, bA]) ?_
            refine Y_pI i_188_18 ow_188 lf_10_198 (k_68 hG) ?_
            refine Y_vret i_188_21 rt_188 (KKv ?_)
            refine Y_al0 i_202_149 ?_
            refine Y_bipush (v := 59) i_202_150 (by decide) ?_
            exact Y_iv1 (L0 := [.ref 68, .int 59]) i_202_152 ow_202 lm_10_233 ((k_68 hG).trans ow_192.symm) rfl mx_192 rfl rfl hd_202 h
          · replace h := h.2 e18
            refine Y_vret i_188_7 rt_188 (KKv ?_)
            refine Y_al0 i_202_149 ?_
            refine Y_bipush (v := 59) i_202_150 (by decide) ?_
            exact Y_iv1 (L0 := [.ref 68, .int 59]) i_202_152 ow_202 lm_10_233 ((k_68 hG).trans ow_192.symm) rfl mx_192 rfl rfl hd_202 h
        · replace h := h.2 e17
          refine Y_al0 i_202_136 ?_
          refine Y_il3 i_202_137 ?_
          exact Y_iv1 (L0 := [.ref 68, .int r, .null, .null, .null]) i_202_138 ow_202 lm_10_266 ((k_68 hG).trans ow_201.symm) rfl mx_201 rfl rfl hd_202 h
theorem k_202_79 {d : Nat} {F A : Nat → Nat → Int32} {J : Nat → Nat → Int64} {G : pG} {Q : pR → pM → Prop} {SL p q : Nat} {x1 x2 x3 : Int32} (hG : Geo G SL p q) (h : ((x2 = 1 → X (d + 3) 193 0 [.ref 68, .int 0, .int 40, .null] [] (F, A, J, G) (KK (d + 4) 202 96 [.ref 68, .int x1, .int x2, .int x3] [.int 5, .ref 72] Q)) ∧ (¬ x2 = 1 → ((x2 = 2 → X (d + 3) 193 0 [.ref 68, .int 0, .int 999, .null] [] (F, A, J, G) (KK (d + 4) 202 119 [.ref 68, .int x1, .int x2, .int x3] [.int 6, .ref 72] Q)) ∧ (¬ x2 = 2 → X (d + 3) 200 0 [.ref 68, .int 0, .null] [] (F, A, J, G) (KK (d + 4) 202 128 [.ref 68, .int x1, .int x2, .int x3] [] Q)))))) : KK (d + 4) 202 79 [.ref 68, .int x1, .int x2, .int x3] [] Q (.inl none) (F, A, J, G) := by
  refine KKv ?_
  refine Y_il2 i_202_79 ?_
  refine Y_iconst (v := 1) i_202_80 (by decide) ?_
  refine Y_cne i_202_81 (fun e1 => ?_) (fun e1 => ?_)
  · replace h := h.1 e1
    refine Y_al0 i_202_84 ?_
    refine Y_gR i_202_85 ow_202 lf_10_42 (k_68 hG) (r_68_4 hG) ?_
    refine Y_iconst (v := 5) i_202_88 (by decide) ?_
    refine Y_al0 i_202_89 ?_
    refine Y_iconst (v := 0) i_202_90 (by decide) ?_
    refine Y_bipush (v := 40) i_202_91 (by decide) ?_
    exact Y_iv2 (L0 := [.ref 68, .int 0, .int 40, .null]) i_202_93 ow_202 lm_10_223 ((k_68 hG).trans ow_193.symm) rfl mx_193 rfl rfl hd_202 h
  · replace h := h.2 e1
    refine Y_il2 i_202_100 ?_
    refine Y_iconst (v := 2) i_202_101 (by decide) ?_
    refine Y_cne i_202_102 (fun e2 => ?_) (fun e2 => ?_)
    · replace h := h.1 e2
      refine Y_al0 i_202_105 ?_
      refine Y_gR i_202_106 ow_202 lf_10_42 (k_68 hG) (r_68_4 hG) ?_
      refine Y_bipush (v := 6) i_202_109 (by decide) ?_
      refine Y_al0 i_202_111 ?_
      refine Y_iconst (v := 0) i_202_112 (by decide) ?_
      refine Y_sipush (v := 999) i_202_113 (by decide) ?_
      exact Y_iv2 (L0 := [.ref 68, .int 0, .int 999, .null]) i_202_116 ow_202 lm_10_223 ((k_68 hG).trans ow_193.symm) rfl mx_193 rfl rfl hd_202 h
    · replace h := h.2 e2
      refine Y_al0 i_202_123 ?_
      refine Y_iconst (v := 0) i_202_124 (by decide) ?_
      exact Y_iv1 (L0 := [.ref 68, .int 0, .null]) i_202_125 ow_202 lm_10_236 ((k_68 hG).trans ow_200.symm) rfl mx_200 rfl rfl hd_202 h
theorem k_202_96 {d : Nat} {F A : Nat → Nat → Int32} {J : Nat → Nat → Int64} {G : pG} {Q : pR → pM → Prop} {SL p q : Nat} {x1 x2 x3 r s0 r : Int32} (hG : Geo G SL p q) (h : inB s0 8 = true ∧ (X (d + 3) 192 0 [.ref 68, .int 59] [] (F, (wF A 72 s0.toNatClampNeg r), J, G) (KK (d + 4) 202 155 [.ref 68, .int x1, .int x2, .int x3] [] Q))) : KK (d + 4) 202 96 [.ref 68, .int x1, .int x2, .int x3] [.int s0, .ref 72] Q (.inl (some (.int r))) (F, A, J, G) := by
  refine KKi ?_
  have o1 := h.1
  replace h := h.2
  refine Y_iast i_202_96 (k_72 hG) (l_72 hG) o1 rfl ?_
  refine Y_goto i_202_97 ?_
  refine Y_al0 i_202_149 ?_
  refine Y_bipush (v := 59) i_202_150 (by decide) ?_
  exact Y_iv1 (L0 := [.ref 68, .int 59]) i_202_152 ow_202 lm_10_233 ((k_68 hG).trans ow_192.symm) rfl mx_192 rfl rfl hd_202 h
theorem k_202_119 {d : Nat} {F A : Nat → Nat → Int32} {J : Nat → Nat → Int64} {G : pG} {Q : pR → pM → Prop} {SL p q : Nat} {x1 x2 x3 r s0 r : Int32} (hG : Geo G SL p q) (h : inB s0 8 = true ∧ (X (d + 3) 192 0 [.ref 68, .int 59] [] (F, (wF A 72 s0.toNatClampNeg r), J, G) (KK (d + 4) 202 155 [.ref 68, .int x1, .int x2, .int x3] [] Q))) : KK (d + 4) 202 119 [.ref 68, .int x1, .int x2, .int x3] [.int s0, .ref 72] Q (.inl (some (.int r))) (F, A, J, G) := by
  refine KKi ?_
  have o1 := h.1
  replace h := h.2
  refine Y_iast i_202_119 (k_72 hG) (l_72 hG) o1 rfl ?_
  refine Y_goto i_202_120 ?_
  refine Y_al0 i_202_149 ?_
  refine Y_bipush (v := 59) i_202_150 (by decide) ?_
  exact Y_iv1 (L0 := [.ref 68, .int 59]) i_202_152 ow_202 lm_10_233 ((k_68 hG).trans ow_192.symm) rfl mx_192 rfl rfl hd_202 h
theorem k_202_128 {d : Nat} {F A : Nat → Nat → Int32} {J : Nat → Nat → Int64} {G : pG} {Q : pR → pM → Prop} {SL p q : Nat} {x1 x2 x3 : Int32} (hG : Geo G SL p q) (h : X (d + 3) 192 0 [.ref 68, .int 59] [] (F, A, J, G) (KK (d + 4) 202 155 [.ref 68, .int x1, .int x2, .int x3] [] Q)) : KK (d + 4) 202 128 [.ref 68, .int x1, .int x2, .int x3] [] Q (.inl none) (F, A, J, G) := by
  refine KKv ?_
  refine Y_goto i_202_128 ?_
  refine Y_al0 i_202_149 ?_
  refine Y_bipush (v := 59) i_202_150 (by decide) ?_
  exact Y_iv1 (L0 := [.ref 68, .int 59]) i_202_152 ow_202 lm_10_233 ((k_68 hG).trans ow_192.symm) rfl mx_192 rfl rfl hd_202 h
theorem k_202_141 {d : Nat} {F A : Nat → Nat → Int32} {J : Nat → Nat → Int64} {G : pG} {Q : pR → pM → Prop} {SL p q : Nat} {x1 x2 x3 : Int32} (hG : Geo G SL p q) (h : X (d + 3) 192 0 [.ref 68, .int 59] [] (F, A, J, G) (KK (d + 4) 202 155 [.ref 68, .int x1, .int x2, .int x3] [] Q)) : KK (d + 4) 202 141 [.ref 68, .int x1, .int x2, .int x3] [] Q (.inl none) (F, A, J, G) := by
  refine KKv ?_
  refine Y_goto i_202_141 ?_
  refine Y_al0 i_202_149 ?_
  refine Y_bipush (v := 59) i_202_150 (by decide) ?_
  exact Y_iv1 (L0 := [.ref 68, .int 59]) i_202_152 ow_202 lm_10_233 ((k_68 hG).trans ow_192.symm) rfl mx_192 rfl rfl hd_202 h
theorem k_202_155 {d : Nat} {F A : Nat → Nat → Int32} {J : Nat → Nat → Int64} {G : pG} {Q : pR → pM → Prop} {SL p q : Nat} {x1 x2 x3 : Int32} (hG : Geo G SL p q) (h : Q (.inl (some (.int (x1 ||| x2)))) (F, A, J, G)) : KK (d + 4) 202 155 [.ref 68, .int x1, .int x2, .int x3] [] Q (.inl none) (F, A, J, G) := by
  refine KKv ?_
  refine Y_il1 i_202_155 ?_
  refine Y_il2 i_202_156 ?_
  refine Y_ior i_202_157 ?_
  exact Y_iret i_202_158 rt_202 h
/- 203 Model.town(I)I -/
theorem t_203_0 {d : Nat} {F A : Nat → Nat → Int32} {J : Nat → Nat → Int64} {G : pG} {Q : pR → pM → Prop} {SL p q : Nat} {x1 : Int32} (hG : Geo G SL p q) (h : ((x1 < 0 → Q (.inl (some (.int 0))) ((wF (wF F 68 3 0) 68 3 1), A, J, G)) ∧ (¬ x1 < 0 → (((F 68 13) < x1 → Q (.inl (some (.int 0))) ((wF (wF F 68 3 0) 68 3 1), A, J, G)) ∧ (¬ (F 68 13) < x1 → X (d + 5) 203 50 [.ref 68, .int x1, .int 0] [] ((wF (wF (wF (wF (wF (wF F 68 3 0) 68 13 0) 68 15 x1) 68 14 0) 68 20 0) 68 22 (-1)), A, J, G) Q))))) : X (d + 5) 203 0 [.ref 68, .int x1, .null] [] (F, A, J, G) Q := by
  refine Y_al0 i_203_0 ?_
  refine Y_iconst (v := 0) i_203_1 (by decide) ?_
  refine Y_pI i_203_2 ow_203 lf_10_143 (k_68 hG) ?_
  refine Y_il1 i_203_5 ?_
  refine Y_zlt i_203_6 (fun e1 => ?_) (fun e1 => ?_)
  · replace h := h.1 e1
    refine Y_al0 i_203_17 ?_
    refine Y_iconst (v := 1) i_203_18 (by decide) ?_
    refine Y_iv1 (L0 := [.ref 68, .int 1]) i_203_19 ow_203 lm_10_269 ((k_68 hG).trans ow_176.symm) rfl mx_176 rfl rfl hd_203 ?_
    refine Y_al0 i_176_0 ?_
    refine Y_il1 i_176_1 ?_
    refine Y_pI i_176_2 ow_176 lf_10_143 (k_68 hG) ?_
    refine Y_iconst (v := 0) i_176_5 (by decide) ?_
    refine Y_iret i_176_6 rt_176 (KKi ?_)
    exact Y_iret i_203_22 rt_203 h
  · replace h := h.2 e1
    refine Y_il1 i_203_9 ?_
    refine Y_al0 i_203_10 ?_
    refine Y_gI (v := (F 68 13)) i_203_11 ow_203 lf_10_153 (by decide) (k_68 hG) (by simp [wF, wJ, va_up, cpR, bF, bA]) ?_
    refine Y_cle i_203_14 (fun e2 => ?_) (fun e2 => ?_)
    · replace h := h.1 e2
      refine Y_al0 i_203_17 ?_
      refine Y_iconst (v := 1) i_203_18 (by decide) ?_
      refine Y_iv1 (L0 := [.ref 68, .int 1]) i_203_19 ow_203 lm_10_269 ((k_68 hG).trans ow_176.symm) rfl mx_176 rfl rfl hd_203 ?_
      refine Y_al0 i_176_0 ?_
      refine Y_il1 i_176_1 ?_
      refine Y_pI i_176_2 ow_176 lf_10_143 (k_68 hG) ?_
      refine Y_iconst (v := 0) i_176_5 (by decide) ?_
      refine Y_iret i_176_6 rt_176 (KKi ?_)
      exact Y_iret i_203_22 rt_203 h
    · replace h := h.2 e2
      refine Y_al0 i_203_23 ?_
      refine Y_iconst (v := 0) i_203_24 (by decide) ?_
      refine Y_pI i_203_25 ow_203 lf_10_153 (k_68 hG) ?_
      refine Y_al0 i_203_28 ?_
      refine Y_il1 i_203_29 ?_
      refine Y_pI i_203_30 ow_203 lf_10_156 (k_68 hG) ?_
      refine Y_al0 i_203_33 ?_
      refine Y_iconst (v := 0) i_203_34 (by decide) ?_
      refine Y_pI i_203_35 ow_203 lf_10_159 (k_68 hG) ?_
      refine Y_al0 i_203_38 ?_
      refine Y_iconst (v := 0) i_203_39 (by decide) ?_
      refine Y_pI i_203_40 ow_203 lf_10_195 (k_68 hG) ?_
      refine Y_al0 i_203_43 ?_
      refine Y_iconst (v := (-1)) i_203_44 (by decide) ?_
      refine Y_pI i_203_45 ow_203 lf_10_66 (k_68 hG) ?_
      refine Y_iconst (v := 0) i_203_48 (by decide) ?_
      refine Y_is2 i_203_49 rfl ?_
      exact h
theorem t_203_50 {d : Nat} {F A : Nat → Nat → Int32} {J : Nat → Nat → Int64} {G : pG} {Q : pR → pM → Prop} {SL p q : Nat} {x1 x2 : Int32} (hG : Geo G SL p q) (h : ((x2 < 4 → ((x2 = 1 → inB ((4 : Int32) + x2) 8 = true ∧ (X (d + 5) 203 50 [.ref 68, .int x1, .int (x2 + 1)] [] (F, (wF A 72 ((4 : Int32) + x2).toNatClampNeg 9), J, G) Q)) ∧ (¬ x2 = 1 → ((x2 = 2 → inB ((4 : Int32) + x2) 8 = true ∧ (X (d + 5) 203 50 [.ref 68, .int x1, .int (x2 + 1)] [] (F, (wF A 72 ((4 : Int32) + x2).toNatClampNeg 100), J, G) Q)) ∧ (¬ x2 = 2 → inB ((4 : Int32) + x2) 8 = true ∧ (X (d + 5) 203 50 [.ref 68, .int x1, .int (x2 + 1)] [] (F, (wF A 72 ((4 : Int32) + x2).toNatClampNeg 0), J, G) Q)))))) ∧ (¬ x2 < 4 → X (d + 4) 187 0 [.ref 68, .null] [] (F, A, J, G) (KK (d + 5) 203 94 [.ref 68, .int x1, .int x2] [] Q)))) : X (d + 5) 203 50 [.ref 68, .int x1, .int x2] [] (F, A, J, G) Q := by
  refine Y_il2 i_203_50 ?_
  refine Y_iconst (v := 4) i_203_51 (by decide) ?_
  refine Y_cge i_203_52 (fun e1 => ?_) (fun e1 => ?_)
  · replace h := h.1 e1
    refine Y_al0 i_203_55 ?_
    refine Y_gR i_203_56 ow_203 lf_10_42 (k_68 hG) (r_68_4 hG) ?_
    refine Y_iconst (v := 4) i_203_59 (by decide) ?_
    refine Y_il2 i_203_60 ?_
    refine Y_iadd i_203_61 ?_
    refine Y_il2 i_203_62 ?_
    refine Y_iconst (v := 1) i_203_63 (by decide) ?_
    refine Y_cne i_203_64 (fun e2 => ?_) (fun e2 => ?_)
    · replace h := h.1 e2
      refine Y_bipush (v := 9) i_203_67 (by decide) ?_
      refine Y_goto i_203_69 ?_
      have o3 := h.1
      replace h := h.2
      refine Y_iast i_203_83 (k_72 hG) (l_72 hG) o3 rfl ?_
      refine Y_ii2 (v := 1) i_203_84 (by decide) rfl ?_
      refine Y_goto i_203_87 ?_
      exact h
    · replace h := h.2 e2
      refine Y_il2 i_203_72 ?_
      refine Y_iconst (v := 2) i_203_73 (by decide) ?_
      refine Y_cne i_203_74 (fun e4 => ?_) (fun e4 => ?_)
      · replace h := h.1 e4
        refine Y_bipush (v := 100) i_203_77 (by decide) ?_
        refine Y_goto i_203_79 ?_
        have o5 := h.1
        replace h := h.2
        refine Y_iast i_203_83 (k_72 hG) (l_72 hG) o5 rfl ?_
        refine Y_ii2 (v := 1) i_203_84 (by decide) rfl ?_
        refine Y_goto i_203_87 ?_
        exact h
      · replace h := h.2 e4
        refine Y_iconst (v := 0) i_203_82 (by decide) ?_
        have o6 := h.1
        replace h := h.2
        refine Y_iast i_203_83 (k_72 hG) (l_72 hG) o6 rfl ?_
        refine Y_ii2 (v := 1) i_203_84 (by decide) rfl ?_
        refine Y_goto i_203_87 ?_
        exact h
  · replace h := h.2 e1
    refine Y_al0 i_203_90 ?_
    exact Y_iv0 (L0 := [.ref 68, .null]) i_203_91 ow_203 lm_10_220 ((k_68 hG).trans ow_187.symm) rfl mx_187 rfl rfl hd_203 h
theorem k_203_94 {d : Nat} {F A : Nat → Nat → Int32} {J : Nat → Nat → Int64} {G : pG} {Q : pR → pM → Prop} {SL p q : Nat} {x1 x2 : Int32} (hG : Geo G SL p q) (h : X (d + 5) 203 96 [.ref 68, .int x1, .int 0] [] (F, A, J, G) Q) : KK (d + 5) 203 94 [.ref 68, .int x1, .int x2] [] Q (.inl none) (F, A, J, G) := by
  refine KKv ?_
  refine Y_iconst (v := 0) i_203_94 (by decide) ?_
  refine Y_is2 i_203_95 rfl ?_
  exact h
theorem t_203_96 {d : Nat} {F A : Nat → Nat → Int32} {J : Nat → Nat → Int64} {G : pG} {Q : pR → pM → Prop} {SL p q : Nat} {x1 x2 : Int32} (hG : Geo G SL p q) (h : (((F 68 20) = 0 → (((F 68 16) = 0 → (((F 68 20) = 0 → X (d + 4) 205 0 [.ref 68, .null] [] (F, A, J, G) (KK (d + 5) 203 153 [.ref 68, .int x1, .int x2] [] Q)) ∧ (¬ (F 68 20) = 0 → Q (.inl (some (.int (F 68 20)))) ((wF F 68 22 (F 68 21)), (wF A 79 0 ((A 79 0) + 1)), J, G)))) ∧ (¬ (F 68 16) = 0 → X (d + 4) 202 0 [.ref 68, .int x2, .null, .null] [] (F, A, J, G) (KK (d + 5) 203 115 [.ref 68, .int x1, .int x2] [] Q)))) ∧ (¬ (F 68 20) = 0 → (((F 68 20) = 0 → X (d + 4) 205 0 [.ref 68, .null] [] (F, A, J, G) (KK (d + 5) 203 153 [.ref 68, .int x1, .int x2] [] Q)) ∧ (¬ (F 68 20) = 0 → Q (.inl (some (.int (F 68 20)))) ((wF F 68 22 (F 68 21)), (wF A 79 0 ((A 79 0) + 1)), J, G)))))) : X (d + 5) 203 96 [.ref 68, .int x1, .int x2] [] (F, A, J, G) Q := by
  refine Y_al0 i_203_96 ?_
  refine Y_gI (v := (F 68 20)) i_203_97 ow_203 lf_10_195 (by decide) (k_68 hG) rfl ?_
  refine Y_zne i_203_100 (fun e1 => ?_) (fun e1 => ?_)
  · replace h := h.1 e1
    refine Y_al0 i_203_103 ?_
    refine Y_gI (v := (F 68 16)) i_203_104 ow_203 lf_10_169 (by decide) (k_68 hG) rfl ?_
    refine Y_zeq i_203_107 (fun e2 => ?_) (fun e2 => ?_)
    · replace h := h.1 e2
      refine Y_al0 i_203_119 ?_
      refine Y_gI (v := (F 68 20)) i_203_120 ow_203 lf_10_195 (by decide) (k_68 hG) rfl ?_
      refine Y_zeq i_203_123 (fun e3 => ?_) (fun e3 => ?_)
      · replace h := h.1 e3
        refine Y_al0 i_203_149 ?_
        exact Y_iv0 (L0 := [.ref 68, .null]) i_203_150 ow_203 lm_10_275 ((k_68 hG).trans ow_205.symm) rfl mx_205 rfl rfl hd_203 h
      · replace h := h.2 e3
        refine Y_al0 i_203_126 ?_
        refine Y_al0 i_203_127 ?_
        refine Y_gI (v := (F 68 21)) i_203_128 ow_203 lf_10_198 (by decide) (k_68 hG) rfl ?_
        refine Y_pI i_203_131 ow_203 lf_10_66 (k_68 hG) ?_
        refine Y_al0 i_203_134 ?_
        refine Y_gR i_203_135 ow_203 lf_10_60 (k_68 hG) (r_68_11 hG) ?_
        refine Y_iconst (v := 0) i_203_138 (by decide) ?_
        refine Y_dup2 i_203_139 rfl rfl ?_
        refine Y_iaload (k := 0) (v := (A 79 0)) i_203_140 (k_79 hG) (l_79 hG) (by decide) (by decide) rfl ?_
        refine Y_iconst (v := 1) i_203_141 (by decide) ?_
        refine Y_iadd i_203_142 ?_
        refine Y_iast (k := 0) i_203_143 (k_79 hG) (l_79 hG) (by decide) (by decide) ?_
        refine Y_al0 i_203_144 ?_
        refine Y_gI (v := (F 68 20)) i_203_145 ow_203 lf_10_195 (by decide) (k_68 hG) (by simp [wF, wJ, va_up, cpR, bF, bA]) ?_
        exact Y_iret i_203_148 rt_203 h
    · replace h := h.2 e2
      refine Y_al0 i_203_110 ?_
      refine Y_il2 i_203_111 ?_
      exact Y_iv1 (L0 := [.ref 68, .int x2, .null, .null]) i_203_112 ow_203 lm_10_272 ((k_68 hG).trans ow_202.symm) rfl mx_202 rfl rfl hd_203 h
  · replace h := h.2 e1
    refine Y_al0 i_203_119 ?_
    refine Y_gI (v := (F 68 20)) i_203_120 ow_203 lf_10_195 (by decide) (k_68 hG) rfl ?_
    refine Y_zeq i_203_123 (fun e4 => ?_) (fun e4 => ?_)
    · replace h := h.1 e4
      refine Y_al0 i_203_149 ?_
      exact Y_iv0 (L0 := [.ref 68, .null]) i_203_150 ow_203 lm_10_275 ((k_68 hG).trans ow_205.symm) rfl mx_205 rfl rfl hd_203 h
    · replace h := h.2 e4
      refine Y_al0 i_203_126 ?_
      refine Y_al0 i_203_127 ?_
      refine Y_gI (v := (F 68 21)) i_203_128 ow_203 lf_10_198 (by decide) (k_68 hG) rfl ?_
      refine Y_pI i_203_131 ow_203 lf_10_66 (k_68 hG) ?_
      refine Y_al0 i_203_134 ?_
      refine Y_gR i_203_135 ow_203 lf_10_60 (k_68 hG) (r_68_11 hG) ?_
      refine Y_iconst (v := 0) i_203_138 (by decide) ?_
      refine Y_dup2 i_203_139 rfl rfl ?_
      refine Y_iaload (k := 0) (v := (A 79 0)) i_203_140 (k_79 hG) (l_79 hG) (by decide) (by decide) rfl ?_
      refine Y_iconst (v := 1) i_203_141 (by decide) ?_
      refine Y_iadd i_203_142 ?_
      refine Y_iast (k := 0) i_203_143 (k_79 hG) (l_79 hG) (by decide) (by decide) ?_
      refine Y_al0 i_203_144 ?_
      refine Y_gI (v := (F 68 20)) i_203_145 ow_203 lf_10_195 (by decide) (k_68 hG) (by simp [wF, wJ, va_up, cpR, bF, bA]) ?_
      exact Y_iret i_203_148 rt_203 h
theorem k_203_115 {d : Nat} {F A : Nat → Nat → Int32} {J : Nat → Nat → Int64} {G : pG} {Q : pR → pM → Prop} {SL p q : Nat} {x1 x2 r r : Int32} (hG : Geo G SL p q) (h : X (d + 5) 203 96 [.ref 68, .int x1, .int r] [] (F, A, J, G) Q) : KK (d + 5) 203 115 [.ref 68, .int x1, .int x2] [] Q (.inl (some (.int r))) (F, A, J, G) := by
  refine KKi ?_
  refine Y_is2 i_203_115 rfl ?_
  refine Y_goto i_203_116 ?_
  exact h
theorem k_203_153 {d : Nat} {F A : Nat → Nat → Int32} {J : Nat → Nat → Int64} {G : pG} {Q : pR → pM → Prop} {SL p q : Nat} {x1 x2 : Int32} (hG : Geo G SL p q) (h : Q (.inl (some (.int 0))) (F, A, J, G)) : KK (d + 5) 203 153 [.ref 68, .int x1, .int x2] [] Q (.inl none) (F, A, J, G) := by
  refine KKv ?_
  refine Y_iconst (v := 0) i_203_153 (by decide) ?_
  exact Y_iret i_203_154 rt_203 h
/- 204 Model.takeHalf([I)V -/
theorem t_204_0 {d : Nat} {F A : Nat → Nat → Int32} {J : Nat → Nat → Int64} {G : pG} {Q : pR → pM → Prop} {SL p q : Nat} {a na : Nat} (hG : Geo G SL p q) (hka : gK G a = 20) (hla : gL G a = na) (h : X d 204 2 [.ref a, .int 0] [] (F, A, J, G) Q) : X d 204 0 [.ref a, .null] [] (F, A, J, G) Q := by
  refine Y_iconst (v := 0) i_204_0 (by decide) ?_
  refine Y_is1 i_204_1 rfl ?_
  exact h
theorem t_204_2 {d : Nat} {F A : Nat → Nat → Int32} {J : Nat → Nat → Int64} {G : pG} {Q : pR → pM → Prop} {SL p q : Nat} {a na : Nat} {x1 : Int32} (hG : Geo G SL p q) (hka : gK G a = 20) (hla : gL G a = na) (h : ((x1 < ((nI na) / 2) → inB (((nI na) / 2) + x1) na = true ∧ inB x1 na = true ∧ (X d 204 2 [.ref a, .int (x1 + 1)] [] (F, (wF A a x1.toNatClampNeg (A a (((nI na) / 2) + x1).toNatClampNeg)), J, G) Q)) ∧ (¬ x1 < ((nI na) / 2) → Q (.inl none) (F, A, J, G)))) : X d 204 2 [.ref a, .int x1] [] (F, A, J, G) Q := by
  refine Y_il1 i_204_2 ?_
  refine Y_al0 i_204_3 ?_
  refine Y_alen (v := nI na) i_204_4 (Or.inl hka) hla rfl ?_
  refine Y_iconst (v := 2) i_204_5 (by decide) ?_
  refine Y_idiv i_204_6 (by decide) ?_
  refine Y_cge i_204_7 (fun e1 => ?_) (fun e1 => ?_)
  · replace h := h.1 e1
    refine Y_al0 i_204_10 ?_
    refine Y_il1 i_204_11 ?_
    refine Y_al0 i_204_12 ?_
    refine Y_al0 i_204_13 ?_
    refine Y_alen (v := nI na) i_204_14 (Or.inl hka) hla rfl ?_
    refine Y_iconst (v := 2) i_204_15 (by decide) ?_
    refine Y_idiv i_204_16 (by decide) ?_
    refine Y_il1 i_204_17 ?_
    refine Y_iadd i_204_18 ?_
    have o2 := h.1
    replace h := h.2
    refine Y_iaload (k := (((nI na) / 2) + x1).toNatClampNeg) (v := (A a (((nI na) / 2) + x1).toNatClampNeg)) i_204_19 hka hla o2 rfl rfl ?_
    have o3 := h.1
    replace h := h.2
    refine Y_iast i_204_20 hka hla o3 rfl ?_
    refine Y_ii1 (v := 1) i_204_21 (by decide) rfl ?_
    refine Y_goto i_204_24 ?_
    exact h
  · replace h := h.2 e1
    exact Y_vret i_204_27 rt_204 h
/- 205 Model.takeOver()V -/
theorem t_205_0 {d : Nat} {F A : Nat → Nat → Int32} {J : Nat → Nat → Int64} {G : pG} {Q : pR → pM → Prop} {SL p q : Nat} (hG : Geo G SL p q) (h : X d 204 0 [.ref 72, .null] [] (F, A, J, G) (KK (d + 1) 205 7 [.ref 68, .null] [] Q)) : X (d + 1) 205 0 [.ref 68, .null] [] (F, A, J, G) Q := by
  refine Y_al0 i_205_0 ?_
  refine Y_gR i_205_1 ow_205 lf_10_42 (k_68 hG) (r_68_4 hG) ?_
  exact Y_is_1 (L0 := [.ref 72, .null]) i_205_4 ow_205 lm_10_278 rfl mx_204 rfl rfl hd_205 h
theorem k_205_7 {d : Nat} {F A : Nat → Nat → Int32} {J : Nat → Nat → Int64} {G : pG} {Q : pR → pM → Prop} {SL p q : Nat} (hG : Geo G SL p q) (h : X d 204 0 [.ref 73, .null] [] (F, A, J, G) (KK (d + 1) 205 14 [.ref 68, .null] [] Q)) : KK (d + 1) 205 7 [.ref 68, .null] [] Q (.inl none) (F, A, J, G) := by
  refine KKv ?_
  refine Y_al0 i_205_7 ?_
  refine Y_gR i_205_8 ow_205 lf_10_45 (k_68 hG) (r_68_5 hG) ?_
  exact Y_is_1 (L0 := [.ref 73, .null]) i_205_11 ow_205 lm_10_278 rfl mx_204 rfl rfl hd_205 h
theorem k_205_14 {d : Nat} {F A : Nat → Nat → Int32} {J : Nat → Nat → Int64} {G : pG} {Q : pR → pM → Prop} {SL p q : Nat} (hG : Geo G SL p q) (h : X d 204 0 [.ref 74, .null] [] (F, A, J, G) (KK (d + 1) 205 21 [.ref 68, .null] [] Q)) : KK (d + 1) 205 14 [.ref 68, .null] [] Q (.inl none) (F, A, J, G) := by
  refine KKv ?_
  refine Y_al0 i_205_14 ?_
  refine Y_gR i_205_15 ow_205 lf_10_47 (k_68 hG) (r_68_6 hG) ?_
  exact Y_is_1 (L0 := [.ref 74, .null]) i_205_18 ow_205 lm_10_278 rfl mx_204 rfl rfl hd_205 h
theorem k_205_21 {d : Nat} {F A : Nat → Nat → Int32} {J : Nat → Nat → Int64} {G : pG} {Q : pR → pM → Prop} {SL p q : Nat} (hG : Geo G SL p q) (h : X d 204 0 [.ref 75, .null] [] (F, A, J, G) (KK (d + 1) 205 28 [.ref 68, .null] [] Q)) : KK (d + 1) 205 21 [.ref 68, .null] [] Q (.inl none) (F, A, J, G) := by
  refine KKv ?_
  refine Y_al0 i_205_21 ?_
  refine Y_gR i_205_22 ow_205 lf_10_49 (k_68 hG) (r_68_7 hG) ?_
  exact Y_is_1 (L0 := [.ref 75, .null]) i_205_25 ow_205 lm_10_278 rfl mx_204 rfl rfl hd_205 h
theorem k_205_28 {d : Nat} {F A : Nat → Nat → Int32} {J : Nat → Nat → Int64} {G : pG} {Q : pR → pM → Prop} {SL p q : Nat} (hG : Geo G SL p q) (h : X d 204 0 [.ref 76, .null] [] (F, A, J, G) (KK (d + 1) 205 35 [.ref 68, .null] [] Q)) : KK (d + 1) 205 28 [.ref 68, .null] [] Q (.inl none) (F, A, J, G) := by
  refine KKv ?_
  refine Y_al0 i_205_28 ?_
  refine Y_gR i_205_29 ow_205 lf_10_52 (k_68 hG) (r_68_8 hG) ?_
  exact Y_is_1 (L0 := [.ref 76, .null]) i_205_32 ow_205 lm_10_278 rfl mx_204 rfl rfl hd_205 h
theorem k_205_35 {d : Nat} {F A : Nat → Nat → Int32} {J : Nat → Nat → Int64} {G : pG} {Q : pR → pM → Prop} {SL p q : Nat} (hG : Geo G SL p q) (h : X d 204 0 [.ref 77, .null] [] (F, A, J, G) (KK (d + 1) 205 42 [.ref 68, .null] [] Q)) : KK (d + 1) 205 35 [.ref 68, .null] [] Q (.inl none) (F, A, J, G) := by
  refine KKv ?_
  refine Y_al0 i_205_35 ?_
  refine Y_gR i_205_36 ow_205 lf_10_55 (k_68 hG) (r_68_9 hG) ?_
  exact Y_is_1 (L0 := [.ref 77, .null]) i_205_39 ow_205 lm_10_278 rfl mx_204 rfl rfl hd_205 h
theorem k_205_42 {d : Nat} {F A : Nat → Nat → Int32} {J : Nat → Nat → Int64} {G : pG} {Q : pR → pM → Prop} {SL p q : Nat} (hG : Geo G SL p q) (h : X d 204 0 [.ref 78, .null] [] (F, A, J, G) (KK (d + 1) 205 49 [.ref 68, .null] [] Q)) : KK (d + 1) 205 42 [.ref 68, .null] [] Q (.inl none) (F, A, J, G) := by
  refine KKv ?_
  refine Y_al0 i_205_42 ?_
  refine Y_gR i_205_43 ow_205 lf_10_57 (k_68 hG) (r_68_10 hG) ?_
  exact Y_is_1 (L0 := [.ref 78, .null]) i_205_46 ow_205 lm_10_278 rfl mx_204 rfl rfl hd_205 h
theorem k_205_49 {d : Nat} {F A : Nat → Nat → Int32} {J : Nat → Nat → Int64} {G : pG} {Q : pR → pM → Prop} {SL p q : Nat} (hG : Geo G SL p q) (h : X (d + 1) 205 71 [.ref 68, .int 0] [] ((wF (wF (wF F 68 28 (A 72 0)) 68 29 0) 68 30 (-1)), A, J, G) Q) : KK (d + 1) 205 49 [.ref 68, .null] [] Q (.inl none) (F, A, J, G) := by
  refine KKv ?_
  refine Y_al0 i_205_49 ?_
  refine Y_al0 i_205_50 ?_
  refine Y_gR i_205_51 ow_205 lf_10_42 (k_68 hG) (r_68_4 hG) ?_
  refine Y_iconst (v := 0) i_205_54 (by decide) ?_
  refine Y_iaload (k := 0) (v := (A 72 0)) i_205_55 (k_72 hG) (l_72 hG) (by decide) (by decide) rfl ?_
  refine Y_pI i_205_56 ow_205 lf_10_150 (k_68 hG) ?_
  refine Y_al0 i_205_59 ?_
  refine Y_iconst (v := 0) i_205_60 (by decide) ?_
  refine Y_pI i_205_61 ow_205 lf_10_282 (k_68 hG) ?_
  refine Y_al0 i_205_64 ?_
  refine Y_iconst (v := (-1)) i_205_65 (by decide) ?_
  refine Y_pI i_205_66 ow_205 lf_10_85 (k_68 hG) ?_
  refine Y_iconst (v := 0) i_205_69 (by decide) ?_
  refine Y_is1 i_205_70 rfl ?_
  exact h
theorem t_205_71 {d : Nat} {F A : Nat → Nat → Int32} {J : Nat → Nat → Int64} {G : pG} {Q : pR → pM → Prop} {SL p q : Nat} {x1 : Int32} (hG : Geo G SL p q) (h : ((x1 < 10 → inB x1 10 = true ∧ inB x1 20 = true ∧ (X (d + 1) 205 71 [.ref 68, .int (x1 + 1)] [] (F, (wF (wF (wF (wF A 81 x1.toNatClampNeg x1) 82 x1.toNatClampNeg 0) 83 x1.toNatClampNeg 0) 84 x1.toNatClampNeg (A 76 x1.toNatClampNeg)), J, G) Q)) ∧ (¬ x1 < 10 → Q (.inl none) ((wF (wF (wF F 68 31 0) 68 32 0) 68 50 0), A, J, G)))) : X (d + 1) 205 71 [.ref 68, .int x1] [] (F, A, J, G) Q := by
  refine Y_il1 i_205_71 ?_
  refine Y_bipush (v := 10) i_205_72 (by decide) ?_
  refine Y_cge i_205_74 (fun e1 => ?_) (fun e1 => ?_)
  · replace h := h.1 e1
    refine Y_al0 i_205_77 ?_
    refine Y_gR i_205_78 ow_205 lf_10_70 (k_68 hG) (r_68_23 hG) ?_
    refine Y_il1 i_205_81 ?_
    refine Y_il1 i_205_82 ?_
    have o2 := h.1
    replace h := h.2
    refine Y_iast i_205_83 (k_81 hG) (l_81 hG) o2 rfl ?_
    refine Y_al0 i_205_84 ?_
    refine Y_gR i_205_85 ow_205 lf_10_73 (k_68 hG) (r_68_24 hG) ?_
    refine Y_il1 i_205_88 ?_
    refine Y_iconst (v := 0) i_205_89 (by decide) ?_
    refine Y_iast i_205_90 (k_82 hG) (l_82 hG) o2 rfl ?_
    refine Y_al0 i_205_91 ?_
    refine Y_gR i_205_92 ow_205 lf_10_76 (k_68 hG) (r_68_25 hG) ?_
    refine Y_il1 i_205_95 ?_
    refine Y_iconst (v := 0) i_205_96 (by decide) ?_
    refine Y_iast i_205_97 (k_83 hG) (l_83 hG) o2 rfl ?_
    refine Y_al0 i_205_98 ?_
    refine Y_gR i_205_99 ow_205 lf_10_79 (k_68 hG) (r_68_26 hG) ?_
    refine Y_il1 i_205_102 ?_
    refine Y_al0 i_205_103 ?_
    refine Y_gR i_205_104 ow_205 lf_10_52 (k_68 hG) (r_68_8 hG) ?_
    refine Y_il1 i_205_107 ?_
    have o3 := h.1
    replace h := h.2
    refine Y_iaload (k := x1.toNatClampNeg) (v := (A 76 x1.toNatClampNeg)) i_205_108 (k_76 hG) (l_76 hG) o3 rfl (by simp [wF, wJ, va_up, cpR, bF, bA]) ?_
    refine Y_iast i_205_109 (k_84 hG) (l_84 hG) o2 rfl ?_
    refine Y_ii1 (v := 1) i_205_110 (by decide) rfl ?_
    refine Y_goto i_205_113 ?_
    exact h
  · replace h := h.2 e1
    refine Y_al0 i_205_116 ?_
    refine Y_iconst (v := 0) i_205_117 (by decide) ?_
    refine Y_pI i_205_118 ow_205 lf_10_285 (k_68 hG) ?_
    refine Y_al0 i_205_121 ?_
    refine Y_iconst (v := 0) i_205_122 (by decide) ?_
    refine Y_pI i_205_123 ow_205 lf_10_288 (k_68 hG) ?_
    refine Y_al0 i_205_126 ?_
    refine Y_iconst (v := 0) i_205_127 (by decide) ?_
    refine Y_pB i_205_128 ow_205 lf_10_291 (k_68 hG) (by decide) ?_
    exact Y_vret i_205_131 rt_205 h
/- 206 Model.fault()I -/
theorem t_206_0 {d : Nat} {F A : Nat → Nat → Int32} {J : Nat → Nat → Int64} {G : pG} {Q : pR → pM → Prop} {SL p q : Nat} (hG : Geo G SL p q) (h : Q (.inl (some (.int (F 68 22)))) ((wF F 68 3 0), A, J, G)) : X d 206 0 [.ref 68] [] (F, A, J, G) Q := by
  refine Y_al0 i_206_0 ?_
  refine Y_iconst (v := 0) i_206_1 (by decide) ?_
  refine Y_pI i_206_2 ow_206 lf_10_143 (k_68 hG) ?_
  refine Y_al0 i_206_5 ?_
  refine Y_gI (v := (F 68 22)) i_206_6 ow_206 lf_10_66 (by decide) (k_68 hG) (by simp [wF, wJ, va_up, cpR, bF, bA]) ?_
  exact Y_iret i_206_9 rt_206 h
/- 207 Model.pack([II)V -/
theorem t_207_0 {d : Nat} {F A : Nat → Nat → Int32} {J : Nat → Nat → Int64} {G : pG} {Q : pR → pM → Prop} {SL p q : Nat} {a na : Nat} {x2 : Int32} (hG : Geo G SL p q) (hka : gK G a = 20) (hla : gL G a = na) (h : inB x2 na = true ∧ inB (x2 + 1) na = true ∧ inB (x2 + 2) na = true ∧ (X d 207 27 [.ref 68, .ref a, .int x2, .int 0] [] (F, (wF (wF (wF A a x2.toNatClampNeg (F 68 28)) a (x2 + 1).toNatClampNeg (F 68 29)) a (x2 + 2).toNatClampNeg (F 68 30)), J, G) Q)) : X d 207 0 [.ref 68, .ref a, .int x2, .null] [] (F, A, J, G) Q := by
  refine Y_al1 i_207_0 ?_
  refine Y_il2 i_207_1 ?_
  refine Y_al0 i_207_2 ?_
  refine Y_gI (v := (F 68 28)) i_207_3 ow_207 lf_10_150 (by decide) (k_68 hG) rfl ?_
  have o1 := h.1
  replace h := h.2
  refine Y_iast i_207_6 hka hla o1 rfl ?_
  refine Y_al1 i_207_7 ?_
  refine Y_il2 i_207_8 ?_
  refine Y_iconst (v := 1) i_207_9 (by decide) ?_
  refine Y_iadd i_207_10 ?_
  refine Y_al0 i_207_11 ?_
  refine Y_gI (v := (F 68 29)) i_207_12 ow_207 lf_10_282 (by decide) (k_68 hG) rfl ?_
  have o2 := h.1
  replace h := h.2
  refine Y_iast i_207_15 hka hla o2 rfl ?_
  refine Y_al1 i_207_16 ?_
  refine Y_il2 i_207_17 ?_
  refine Y_iconst (v := 2) i_207_18 (by decide) ?_
  refine Y_iadd i_207_19 ?_
  refine Y_al0 i_207_20 ?_
  refine Y_gI (v := (F 68 30)) i_207_21 ow_207 lf_10_85 (by decide) (k_68 hG) rfl ?_
  have o3 := h.1
  replace h := h.2
  refine Y_iast i_207_24 hka hla o3 rfl ?_
  refine Y_iconst (v := 0) i_207_25 (by decide) ?_
  refine Y_is3 i_207_26 rfl ?_
  exact h
theorem t_207_27 {d : Nat} {F A : Nat → Nat → Int32} {J : Nat → Nat → Int64} {G : pG} {Q : pR → pM → Prop} {SL p q : Nat} {a na : Nat} {x2 x3 : Int32} (hG : Geo G SL p q) (hka : gK G a = 20) (hla : gL G a = na) (h : ((x3 < 10 → inB x3 10 = true ∧ inB ((x2 + 3) + x3) na = true ∧ inB (((x2 + 3) + 10) + x3) na = true ∧ inB (((x2 + 3) + 20) + x3) na = true ∧ inB (((x2 + 3) + 30) + x3) na = true ∧ (X d 207 27 [.ref 68, .ref a, .int x2, .int (x3 + 1)] [] (F, (wF (wF (wF (wF A a ((x2 + 3) + x3).toNatClampNeg (A 81 x3.toNatClampNeg)) a (((x2 + 3) + 10) + x3).toNatClampNeg ((wF A a ((x2 + 3) + x3).toNatClampNeg (A 81 x3.toNatClampNeg)) 82 x3.toNatClampNeg)) a (((x2 + 3) + 20) + x3).toNatClampNeg ((wF (wF A a ((x2 + 3) + x3).toNatClampNeg (A 81 x3.toNatClampNeg)) a (((x2 + 3) + 10) + x3).toNatClampNeg ((wF A a ((x2 + 3) + x3).toNatClampNeg (A 81 x3.toNatClampNeg)) 82 x3.toNatClampNeg)) 83 x3.toNatClampNeg)) a (((x2 + 3) + 30) + x3).toNatClampNeg ((wF (wF (wF A a ((x2 + 3) + x3).toNatClampNeg (A 81 x3.toNatClampNeg)) a (((x2 + 3) + 10) + x3).toNatClampNeg ((wF A a ((x2 + 3) + x3).toNatClampNeg (A 81 x3.toNatClampNeg)) 82 x3.toNatClampNeg)) a (((x2 + 3) + 20) + x3).toNatClampNeg ((wF (wF A a ((x2 + 3) + x3).toNatClampNeg (A 81 x3.toNatClampNeg)) a (((x2 + 3) + 10) + x3).toNatClampNeg ((wF A a ((x2 + 3) + x3).toNatClampNeg (A 81 x3.toNatClampNeg)) 82 x3.toNatClampNeg)) 83 x3.toNatClampNeg)) 84 x3.toNatClampNeg)), J, G) Q)) ∧ (¬ x3 < 10 → Q (.inl none) (F, A, J, G)))) : X d 207 27 [.ref 68, .ref a, .int x2, .int x3] [] (F, A, J, G) Q := by
  refine Y_il3 i_207_27 ?_
  refine Y_bipush (v := 10) i_207_28 (by decide) ?_
  refine Y_cge i_207_30 (fun e1 => ?_) (fun e1 => ?_)
  · replace h := h.1 e1
    refine Y_al1 i_207_33 ?_
    refine Y_il2 i_207_34 ?_
    refine Y_iconst (v := 3) i_207_35 (by decide) ?_
    refine Y_iadd i_207_36 ?_
    refine Y_il3 i_207_37 ?_
    refine Y_iadd i_207_38 ?_
    refine Y_al0 i_207_39 ?_
    refine Y_gR i_207_40 ow_207 lf_10_70 (k_68 hG) (r_68_23 hG) ?_
    refine Y_il3 i_207_43 ?_
    have o2 := h.1
    replace h := h.2
    refine Y_iaload (k := x3.toNatClampNeg) (v := (A 81 x3.toNatClampNeg)) i_207_44 (k_81 hG) (l_81 hG) o2 rfl rfl ?_
    have o3 := h.1
    replace h := h.2
    refine Y_iast i_207_45 hka hla o3 rfl ?_
    refine Y_al1 i_207_46 ?_
    refine Y_il2 i_207_47 ?_
    refine Y_iconst (v := 3) i_207_48 (by decide) ?_
    refine Y_iadd i_207_49 ?_
    refine Y_bipush (v := 10) i_207_50 (by decide) ?_
    refine Y_iadd i_207_52 ?_
    refine Y_il3 i_207_53 ?_
    refine Y_iadd i_207_54 ?_
    refine Y_al0 i_207_55 ?_
    refine Y_gR i_207_56 ow_207 lf_10_73 (k_68 hG) (r_68_24 hG) ?_
    refine Y_il3 i_207_59 ?_
    refine Y_iaload (k := x3.toNatClampNeg) (v := ((wF A a ((x2 + 3) + x3).toNatClampNeg (A 81 x3.toNatClampNeg)) 82 x3.toNatClampNeg)) i_207_60 (k_82 hG) (l_82 hG) o2 rfl rfl ?_
    have o4 := h.1
    replace h := h.2
    refine Y_iast i_207_61 hka hla o4 rfl ?_
    refine Y_al1 i_207_62 ?_
    refine Y_il2 i_207_63 ?_
    refine Y_iconst (v := 3) i_207_64 (by decide) ?_
    refine Y_iadd i_207_65 ?_
    refine Y_bipush (v := 20) i_207_66 (by decide) ?_
    refine Y_iadd i_207_68 ?_
    refine Y_il3 i_207_69 ?_
    refine Y_iadd i_207_70 ?_
    refine Y_al0 i_207_71 ?_
    refine Y_gR i_207_72 ow_207 lf_10_76 (k_68 hG) (r_68_25 hG) ?_
    refine Y_il3 i_207_75 ?_
    refine Y_iaload (k := x3.toNatClampNeg) (v := ((wF (wF A a ((x2 + 3) + x3).toNatClampNeg (A 81 x3.toNatClampNeg)) a (((x2 + 3) + 10) + x3).toNatClampNeg ((wF A a ((x2 + 3) + x3).toNatClampNeg (A 81 x3.toNatClampNeg)) 82 x3.toNatClampNeg)) 83 x3.toNatClampNeg)) i_207_76 (k_83 hG) (l_83 hG) o2 rfl rfl ?_
    have o5 := h.1
    replace h := h.2
    refine Y_iast i_207_77 hka hla o5 rfl ?_
    refine Y_al1 i_207_78 ?_
    refine Y_il2 i_207_79 ?_
    refine Y_iconst (v := 3) i_207_80 (by decide) ?_
    refine Y_iadd i_207_81 ?_
    refine Y_bipush (v := 30) i_207_82 (by decide) ?_
    refine Y_iadd i_207_84 ?_
    refine Y_il3 i_207_85 ?_
    refine Y_iadd i_207_86 ?_
    refine Y_al0 i_207_87 ?_
    refine Y_gR i_207_88 ow_207 lf_10_79 (k_68 hG) (r_68_26 hG) ?_
    refine Y_il3 i_207_91 ?_
    refine Y_iaload (k := x3.toNatClampNeg) (v := ((wF (wF (wF A a ((x2 + 3) + x3).toNatClampNeg (A 81 x3.toNatClampNeg)) a (((x2 + 3) + 10) + x3).toNatClampNeg ((wF A a ((x2 + 3) + x3).toNatClampNeg (A 81 x3.toNatClampNeg)) 82 x3.toNatClampNeg)) a (((x2 + 3) + 20) + x3).toNatClampNeg ((wF (wF A a ((x2 + 3) + x3).toNatClampNeg (A 81 x3.toNatClampNeg)) a (((x2 + 3) + 10) + x3).toNatClampNeg ((wF A a ((x2 + 3) + x3).toNatClampNeg (A 81 x3.toNatClampNeg)) 82 x3.toNatClampNeg)) 83 x3.toNatClampNeg)) 84 x3.toNatClampNeg)) i_207_92 (k_84 hG) (l_84 hG) o2 rfl rfl ?_
    have o6 := h.1
    replace h := h.2
    refine Y_iast i_207_93 hka hla o6 rfl ?_
    refine Y_ii3 (v := 1) i_207_94 (by decide) rfl ?_
    refine Y_goto i_207_97 ?_
    exact h
  · replace h := h.2 e1
    exact Y_vret i_207_100 rt_207 h
/- 208 Model.unpack([II)V -/
theorem t_208_0 {d : Nat} {F A : Nat → Nat → Int32} {J : Nat → Nat → Int64} {G : pG} {Q : pR → pM → Prop} {SL p q : Nat} {a na : Nat} {x2 : Int32} (hG : Geo G SL p q) (hka : gK G a = 20) (hla : gL G a = na) (h : inB x2 na = true ∧ inB (x2 + 1) na = true ∧ inB (x2 + 2) na = true ∧ (X d 208 27 [.ref 68, .ref a, .int x2, .int 0] [] ((wF (wF (wF F 68 28 (A a x2.toNatClampNeg)) 68 29 (A a (x2 + 1).toNatClampNeg)) 68 30 (A a (x2 + 2).toNatClampNeg)), A, J, G) Q)) : X d 208 0 [.ref 68, .ref a, .int x2, .null] [] (F, A, J, G) Q := by
  refine Y_al0 i_208_0 ?_
  refine Y_al1 i_208_1 ?_
  refine Y_il2 i_208_2 ?_
  have o1 := h.1
  replace h := h.2
  refine Y_iaload (k := x2.toNatClampNeg) (v := (A a x2.toNatClampNeg)) i_208_3 hka hla o1 rfl rfl ?_
  refine Y_pI i_208_4 ow_208 lf_10_150 (k_68 hG) ?_
  refine Y_al0 i_208_7 ?_
  refine Y_al1 i_208_8 ?_
  refine Y_il2 i_208_9 ?_
  refine Y_iconst (v := 1) i_208_10 (by decide) ?_
  refine Y_iadd i_208_11 ?_
  have o2 := h.1
  replace h := h.2
  refine Y_iaload (k := (x2 + 1).toNatClampNeg) (v := (A a (x2 + 1).toNatClampNeg)) i_208_12 hka hla o2 rfl rfl ?_
  refine Y_pI i_208_13 ow_208 lf_10_282 (k_68 hG) ?_
  refine Y_al0 i_208_16 ?_
  refine Y_al1 i_208_17 ?_
  refine Y_il2 i_208_18 ?_
  refine Y_iconst (v := 2) i_208_19 (by decide) ?_
  refine Y_iadd i_208_20 ?_
  have o3 := h.1
  replace h := h.2
  refine Y_iaload (k := (x2 + 2).toNatClampNeg) (v := (A a (x2 + 2).toNatClampNeg)) i_208_21 hka hla o3 rfl rfl ?_
  refine Y_pI i_208_22 ow_208 lf_10_85 (k_68 hG) ?_
  refine Y_iconst (v := 0) i_208_25 (by decide) ?_
  refine Y_is3 i_208_26 rfl ?_
  exact h
theorem t_208_27 {d : Nat} {F A : Nat → Nat → Int32} {J : Nat → Nat → Int64} {G : pG} {Q : pR → pM → Prop} {SL p q : Nat} {a na : Nat} {x2 x3 : Int32} (hG : Geo G SL p q) (hka : gK G a = 20) (hla : gL G a = na) (h : ((x3 < 10 → inB ((x2 + 3) + x3) na = true ∧ inB x3 10 = true ∧ inB (((x2 + 3) + 10) + x3) na = true ∧ inB (((x2 + 3) + 20) + x3) na = true ∧ inB (((x2 + 3) + 30) + x3) na = true ∧ (X d 208 27 [.ref 68, .ref a, .int x2, .int (x3 + 1)] [] (F, (wF (wF (wF (wF A 81 x3.toNatClampNeg (A a ((x2 + 3) + x3).toNatClampNeg)) 82 x3.toNatClampNeg ((wF A 81 x3.toNatClampNeg (A a ((x2 + 3) + x3).toNatClampNeg)) a (((x2 + 3) + 10) + x3).toNatClampNeg)) 83 x3.toNatClampNeg ((wF (wF A 81 x3.toNatClampNeg (A a ((x2 + 3) + x3).toNatClampNeg)) 82 x3.toNatClampNeg ((wF A 81 x3.toNatClampNeg (A a ((x2 + 3) + x3).toNatClampNeg)) a (((x2 + 3) + 10) + x3).toNatClampNeg)) a (((x2 + 3) + 20) + x3).toNatClampNeg)) 84 x3.toNatClampNeg ((wF (wF (wF A 81 x3.toNatClampNeg (A a ((x2 + 3) + x3).toNatClampNeg)) 82 x3.toNatClampNeg ((wF A 81 x3.toNatClampNeg (A a ((x2 + 3) + x3).toNatClampNeg)) a (((x2 + 3) + 10) + x3).toNatClampNeg)) 83 x3.toNatClampNeg ((wF (wF A 81 x3.toNatClampNeg (A a ((x2 + 3) + x3).toNatClampNeg)) 82 x3.toNatClampNeg ((wF A 81 x3.toNatClampNeg (A a ((x2 + 3) + x3).toNatClampNeg)) a (((x2 + 3) + 10) + x3).toNatClampNeg)) a (((x2 + 3) + 20) + x3).toNatClampNeg)) a (((x2 + 3) + 30) + x3).toNatClampNeg)), J, G) Q)) ∧ (¬ x3 < 10 → Q (.inl none) (F, A, J, G)))) : X d 208 27 [.ref 68, .ref a, .int x2, .int x3] [] (F, A, J, G) Q := by
  refine Y_il3 i_208_27 ?_
  refine Y_bipush (v := 10) i_208_28 (by decide) ?_
  refine Y_cge i_208_30 (fun e1 => ?_) (fun e1 => ?_)
  · replace h := h.1 e1
    refine Y_al0 i_208_33 ?_
    refine Y_gR i_208_34 ow_208 lf_10_70 (k_68 hG) (r_68_23 hG) ?_
    refine Y_il3 i_208_37 ?_
    refine Y_al1 i_208_38 ?_
    refine Y_il2 i_208_39 ?_
    refine Y_iconst (v := 3) i_208_40 (by decide) ?_
    refine Y_iadd i_208_41 ?_
    refine Y_il3 i_208_42 ?_
    refine Y_iadd i_208_43 ?_
    have o2 := h.1
    replace h := h.2
    refine Y_iaload (k := ((x2 + 3) + x3).toNatClampNeg) (v := (A a ((x2 + 3) + x3).toNatClampNeg)) i_208_44 hka hla o2 rfl rfl ?_
    have o3 := h.1
    replace h := h.2
    refine Y_iast i_208_45 (k_81 hG) (l_81 hG) o3 rfl ?_
    refine Y_al0 i_208_46 ?_
    refine Y_gR i_208_47 ow_208 lf_10_73 (k_68 hG) (r_68_24 hG) ?_
    refine Y_il3 i_208_50 ?_
    refine Y_al1 i_208_51 ?_
    refine Y_il2 i_208_52 ?_
    refine Y_iconst (v := 3) i_208_53 (by decide) ?_
    refine Y_iadd i_208_54 ?_
    refine Y_bipush (v := 10) i_208_55 (by decide) ?_
    refine Y_iadd i_208_57 ?_
    refine Y_il3 i_208_58 ?_
    refine Y_iadd i_208_59 ?_
    have o4 := h.1
    replace h := h.2
    refine Y_iaload (k := (((x2 + 3) + 10) + x3).toNatClampNeg) (v := ((wF A 81 x3.toNatClampNeg (A a ((x2 + 3) + x3).toNatClampNeg)) a (((x2 + 3) + 10) + x3).toNatClampNeg)) i_208_60 hka hla o4 rfl rfl ?_
    refine Y_iast i_208_61 (k_82 hG) (l_82 hG) o3 rfl ?_
    refine Y_al0 i_208_62 ?_
    refine Y_gR i_208_63 ow_208 lf_10_76 (k_68 hG) (r_68_25 hG) ?_
    refine Y_il3 i_208_66 ?_
    refine Y_al1 i_208_67 ?_
    refine Y_il2 i_208_68 ?_
    refine Y_iconst (v := 3) i_208_69 (by decide) ?_
    refine Y_iadd i_208_70 ?_
    refine Y_bipush (v := 20) i_208_71 (by decide) ?_
    refine Y_iadd i_208_73 ?_
    refine Y_il3 i_208_74 ?_
    refine Y_iadd i_208_75 ?_
    have o5 := h.1
    replace h := h.2
    refine Y_iaload (k := (((x2 + 3) + 20) + x3).toNatClampNeg) (v := ((wF (wF A 81 x3.toNatClampNeg (A a ((x2 + 3) + x3).toNatClampNeg)) 82 x3.toNatClampNeg ((wF A 81 x3.toNatClampNeg (A a ((x2 + 3) + x3).toNatClampNeg)) a (((x2 + 3) + 10) + x3).toNatClampNeg)) a (((x2 + 3) + 20) + x3).toNatClampNeg)) i_208_76 hka hla o5 rfl rfl ?_
    refine Y_iast i_208_77 (k_83 hG) (l_83 hG) o3 rfl ?_
    refine Y_al0 i_208_78 ?_
    refine Y_gR i_208_79 ow_208 lf_10_79 (k_68 hG) (r_68_26 hG) ?_
    refine Y_il3 i_208_82 ?_
    refine Y_al1 i_208_83 ?_
    refine Y_il2 i_208_84 ?_
    refine Y_iconst (v := 3) i_208_85 (by decide) ?_
    refine Y_iadd i_208_86 ?_
    refine Y_bipush (v := 30) i_208_87 (by decide) ?_
    refine Y_iadd i_208_89 ?_
    refine Y_il3 i_208_90 ?_
    refine Y_iadd i_208_91 ?_
    have o6 := h.1
    replace h := h.2
    refine Y_iaload (k := (((x2 + 3) + 30) + x3).toNatClampNeg) (v := ((wF (wF (wF A 81 x3.toNatClampNeg (A a ((x2 + 3) + x3).toNatClampNeg)) 82 x3.toNatClampNeg ((wF A 81 x3.toNatClampNeg (A a ((x2 + 3) + x3).toNatClampNeg)) a (((x2 + 3) + 10) + x3).toNatClampNeg)) 83 x3.toNatClampNeg ((wF (wF A 81 x3.toNatClampNeg (A a ((x2 + 3) + x3).toNatClampNeg)) 82 x3.toNatClampNeg ((wF A 81 x3.toNatClampNeg (A a ((x2 + 3) + x3).toNatClampNeg)) a (((x2 + 3) + 10) + x3).toNatClampNeg)) a (((x2 + 3) + 20) + x3).toNatClampNeg)) a (((x2 + 3) + 30) + x3).toNatClampNeg)) i_208_92 hka hla o6 rfl rfl ?_
    refine Y_iast i_208_93 (k_84 hG) (l_84 hG) o3 rfl ?_
    refine Y_ii3 (v := 1) i_208_94 (by decide) rfl ?_
    refine Y_goto i_208_97 ?_
    exact h
  · replace h := h.2 e1
    exact Y_vret i_208_100 rt_208 h
/- 213 Model.loadOn(I)I -/
theorem t_213_0 {d : Nat} {F A : Nat → Nat → Int32} {J : Nat → Nat → Int64} {G : pG} {Q : pR → pM → Prop} {SL p q : Nat} {x1 : Int32} (hG : Geo G SL p q) (h : inB x1 10 = true ∧ inB (A 81 x1.toNatClampNeg) 10 = true ∧ (X d 213 16 [.ref 68, .int x1, .int (A 82 (A 81 x1.toNatClampNeg).toNatClampNeg), .int (x1 + 1)] [] (F, A, J, G) Q)) : X d 213 0 [.ref 68, .int x1, .null, .null] [] (F, A, J, G) Q := by
  refine Y_al0 i_213_0 ?_
  refine Y_gR i_213_1 ow_213 lf_10_73 (k_68 hG) (r_68_24 hG) ?_
  refine Y_al0 i_213_4 ?_
  refine Y_gR i_213_5 ow_213 lf_10_70 (k_68 hG) (r_68_23 hG) ?_
  refine Y_il1 i_213_8 ?_
  have o1 := h.1
  replace h := h.2
  refine Y_iaload (k := x1.toNatClampNeg) (v := (A 81 x1.toNatClampNeg)) i_213_9 (k_81 hG) (l_81 hG) o1 rfl rfl ?_
  have o2 := h.1
  replace h := h.2
  refine Y_iaload (k := (A 81 x1.toNatClampNeg).toNatClampNeg) (v := (A 82 (A 81 x1.toNatClampNeg).toNatClampNeg)) i_213_10 (k_82 hG) (l_82 hG) o2 rfl rfl ?_
  refine Y_is2 i_213_11 rfl ?_
  refine Y_il1 i_213_12 ?_
  refine Y_iconst (v := 1) i_213_13 (by decide) ?_
  refine Y_iadd i_213_14 ?_
  refine Y_is3 i_213_15 rfl ?_
  exact h
theorem t_213_16 {d : Nat} {F A : Nat → Nat → Int32} {J : Nat → Nat → Int64} {G : pG} {Q : pR → pM → Prop} {SL p q : Nat} {x1 x2 x3 : Int32} (hG : Geo G SL p q) (h : ((x3 < (F 68 28) → inB x3 10 = true ∧ inB (A 81 x3.toNatClampNeg) 20 = true ∧ inB (A 81 x3.toNatClampNeg) 10 = true ∧ (X d 213 16 [.ref 68, .int x1, .int (x2 + ((A 74 (A 81 x3.toNatClampNeg).toNatClampNeg) + (A 82 (A 81 x3.toNatClampNeg).toNatClampNeg))), .int (x3 + 1)] [] (F, A, J, G) Q)) ∧ (¬ x3 < (F 68 28) → Q (.inl (some (.int x2))) (F, A, J, G)))) : X d 213 16 [.ref 68, .int x1, .int x2, .int x3] [] (F, A, J, G) Q := by
  refine Y_il3 i_213_16 ?_
  refine Y_al0 i_213_17 ?_
  refine Y_gI (v := (F 68 28)) i_213_18 ow_213 lf_10_150 (by decide) (k_68 hG) rfl ?_
  refine Y_cge i_213_21 (fun e1 => ?_) (fun e1 => ?_)
  · replace h := h.1 e1
    refine Y_il2 i_213_24 ?_
    refine Y_al0 i_213_25 ?_
    refine Y_gR i_213_26 ow_213 lf_10_47 (k_68 hG) (r_68_6 hG) ?_
    refine Y_al0 i_213_29 ?_
    refine Y_gR i_213_30 ow_213 lf_10_70 (k_68 hG) (r_68_23 hG) ?_
    refine Y_il3 i_213_33 ?_
    have o2 := h.1
    replace h := h.2
    refine Y_iaload (k := x3.toNatClampNeg) (v := (A 81 x3.toNatClampNeg)) i_213_34 (k_81 hG) (l_81 hG) o2 rfl rfl ?_
    have o3 := h.1
    replace h := h.2
    refine Y_iaload (k := (A 81 x3.toNatClampNeg).toNatClampNeg) (v := (A 74 (A 81 x3.toNatClampNeg).toNatClampNeg)) i_213_35 (k_74 hG) (l_74 hG) o3 rfl rfl ?_
    refine Y_al0 i_213_36 ?_
    refine Y_gR i_213_37 ow_213 lf_10_73 (k_68 hG) (r_68_24 hG) ?_
    refine Y_al0 i_213_40 ?_
    refine Y_gR i_213_41 ow_213 lf_10_70 (k_68 hG) (r_68_23 hG) ?_
    refine Y_il3 i_213_44 ?_
    refine Y_iaload (k := x3.toNatClampNeg) (v := (A 81 x3.toNatClampNeg)) i_213_45 (k_81 hG) (l_81 hG) o2 rfl rfl ?_
    have o4 := h.1
    replace h := h.2
    refine Y_iaload (k := (A 81 x3.toNatClampNeg).toNatClampNeg) (v := (A 82 (A 81 x3.toNatClampNeg).toNatClampNeg)) i_213_46 (k_82 hG) (l_82 hG) o4 rfl rfl ?_
    refine Y_iadd i_213_47 ?_
    refine Y_iadd i_213_48 ?_
    refine Y_is2 i_213_49 rfl ?_
    refine Y_ii3 (v := 1) i_213_50 (by decide) rfl ?_
    refine Y_goto i_213_53 ?_
    exact h
  · replace h := h.2 e1
    refine Y_il2 i_213_56 ?_
    exact Y_iret i_213_57 rt_213 h
/- 215 Model.tiltAt(I)I -/
theorem t_215_0 {d : Nat} {F A : Nat → Nat → Int32} {J : Nat → Nat → Int64} {G : pG} {Q : pR → pM → Prop} {SL p q : Nat} {x1 : Int32} (hG : Geo G SL p q) (h : X (d + 1) 215 4 [.ref 68, .int x1, .int 0, .int 0] [] (F, A, J, G) Q) : X (d + 1) 215 0 [.ref 68, .int x1, .null, .null] [] (F, A, J, G) Q := by
  refine Y_iconst (v := 0) i_215_0 (by decide) ?_
  refine Y_is2 i_215_1 rfl ?_
  refine Y_iconst (v := 0) i_215_2 (by decide) ?_
  refine Y_is3 i_215_3 rfl ?_
  exact h
theorem t_215_4 {d : Nat} {F A : Nat → Nat → Int32} {J : Nat → Nat → Int64} {G : pG} {Q : pR → pM → Prop} {SL p q : Nat} {x1 x2 x3 : Int32} (hG : Geo G SL p q) (h : ((x1 < x3 → Q (.inl (some (.int x2))) (F, A, J, G)) ∧ (¬ x1 < x3 → inB x3 10 = true ∧ inB (A 81 x3.toNatClampNeg) 10 = true ∧ (X (d + 1) 215 4 [.ref 68, .int x1, .int (x2 + (lnS (A 73 (A 81 x3.toNatClampNeg).toNatClampNeg) (A 84 (A 81 x3.toNatClampNeg).toNatClampNeg) (A 83 (A 81 x3.toNatClampNeg).toNatClampNeg))), .int (x3 + 1)] [] (F, A, J, G) Q)))) : X (d + 1) 215 4 [.ref 68, .int x1, .int x2, .int x3] [] (F, A, J, G) Q := by
  refine Y_il3 i_215_4 ?_
  refine Y_il1 i_215_5 ?_
  refine Y_cgt i_215_6 (fun e1 => ?_) (fun e1 => ?_)
  · replace h := h.1 e1
    refine Y_il2 i_215_28 ?_
    exact Y_iret i_215_29 rt_215 h
  · replace h := h.2 e1
    refine Y_il2 i_215_9 ?_
    refine Y_al0 i_215_10 ?_
    refine Y_al0 i_215_11 ?_
    refine Y_gR i_215_12 ow_215 lf_10_70 (k_68 hG) (r_68_23 hG) ?_
    refine Y_il3 i_215_15 ?_
    have o2 := h.1
    replace h := h.2
    refine Y_iaload (k := x3.toNatClampNeg) (v := (A 81 x3.toNatClampNeg)) i_215_16 (k_81 hG) (l_81 hG) o2 rfl rfl ?_
    have o3 := h.1
    replace h := h.2
    refine Y_iv1 (L0 := [.ref 68, .int (A 81 x3.toNatClampNeg)]) i_215_17 ow_215 lm_10_305 ((k_68 hG).trans ow_212.symm) rfl mx_212 rfl rfl hd_215 ?_
    refine c_212 hG o3 (KKi ?_)
    refine Y_iadd i_215_20 ?_
    refine Y_is2 i_215_21 rfl ?_
    refine Y_ii3 (v := 1) i_215_22 (by decide) rfl ?_
    refine Y_goto i_215_25 ?_
    exact h
/- 216 Model.isHeld(I)Z -/
theorem t_216_0 {d : Nat} {F A : Nat → Nat → Int32} {J : Nat → Nat → Int64} {G : pG} {Q : pR → pM → Prop} {SL p q : Nat} {x1 : Int32} (hG : Geo G SL p q) (h : X (d + 2) 213 0 [.ref 68, .int x1, .null, .null] [] (F, A, J, G) (KK (d + 3) 216 5 [.ref 68, .int x1] [] Q)) : X (d + 3) 216 0 [.ref 68, .int x1] [] (F, A, J, G) Q := by
  refine Y_al0 i_216_0 ?_
  refine Y_il1 i_216_1 ?_
  exact Y_iv1 (L0 := [.ref 68, .int x1, .null, .null]) i_216_2 ow_216 lm_10_308 ((k_68 hG).trans ow_213.symm) rfl mx_213 rfl rfl hd_216 h
theorem k_216_5 {d : Nat} {F A : Nat → Nat → Int32} {J : Nat → Nat → Int64} {G : pG} {Q : pR → pM → Prop} {SL p q : Nat} {x1 r r : Int32} (hG : Geo G SL p q) (h : inB x1 10 = true ∧ inB (A 81 x1.toNatClampNeg) 10 = true ∧ inB (A 73 (A 81 x1.toNatClampNeg).toNatClampNeg) 4 = true ∧ Wrm A ∧ (((carS (A 73 (A 81 x1.toNatClampNeg).toNatClampNeg) (A 75 (A 81 x1.toNatClampNeg).toNatClampNeg) (F 68 29) (bI (decide (x1 = F 68 28 - 1)))) < r → Q (.inl (some (.int 0))) (F, A, J, G)) ∧ (¬ (carS (A 73 (A 81 x1.toNatClampNeg).toNatClampNeg) (A 75 (A 81 x1.toNatClampNeg).toNatClampNeg) (F 68 29) (bI (decide (x1 = F 68 28 - 1)))) < r → X (d + 2) 215 0 [.ref 68, .int x1, .null, .null] [] (F, A, J, G) (KK (d + 3) 216 18 [.ref 68, .int x1] [] Q)))) : KK (d + 3) 216 5 [.ref 68, .int x1] [] Q (.inl (some (.int r))) (F, A, J, G) := by
  refine KKi ?_
  refine Y_al0 i_216_5 ?_
  refine Y_il1 i_216_6 ?_
  have o1 := h.1
  replace h := h.2
  have o2 := h.1
  replace h := h.2
  have o3 := h.1
  replace h := h.2
  have o4 := h.1
  replace h := h.2
  refine Y_iv1 (L0 := [.ref 68, .int x1]) i_216_7 ow_216 lm_10_311 ((k_68 hG).trans ow_214.symm) rfl mx_214 rfl rfl hd_216 ?_
  refine c_214 hG o1 o2 o3 o4 (KKi ?_)
  refine Y_cgt i_216_10 (fun e5 => ?_) (fun e5 => ?_)
  · replace h := h.1 e5
    refine Y_iconst (v := 0) i_216_34 (by decide) ?_
    exact Y_bret i_216_35 rt_216 (by decide) h
  · replace h := h.2 e5
    refine Y_al0 i_216_13 ?_
    refine Y_il1 i_216_14 ?_
    exact Y_iv1 (L0 := [.ref 68, .int x1, .null, .null]) i_216_15 ow_216 lm_10_314 ((k_68 hG).trans ow_215.symm) rfl mx_215 rfl rfl hd_216 h
theorem k_216_18 {d : Nat} {F A : Nat → Nat → Int32} {J : Nat → Nat → Int64} {G : pG} {Q : pR → pM → Prop} {SL p q : Nat} {x1 r r : Int32} (hG : Geo G SL p q) (h : (((A 72 1) < (jabs r) → Q (.inl (some (.int 0))) (F, A, J, G)) ∧ (¬ (A 72 1) < (jabs r) → Q (.inl (some (.int 1))) (F, A, J, G)))) : KK (d + 3) 216 18 [.ref 68, .int x1] [] Q (.inl (some (.int r))) (F, A, J, G) := by
  refine KKi ?_
  refine Y_abs i_216_18 ow_216 lm_10_317 rfl ?_
  refine Y_al0 i_216_21 ?_
  refine Y_gR i_216_22 ow_216 lf_10_42 (k_68 hG) (r_68_4 hG) ?_
  refine Y_iconst (v := 1) i_216_25 (by decide) ?_
  refine Y_iaload (k := 1) (v := (A 72 1)) i_216_26 (k_72 hG) (l_72 hG) (by decide) (by decide) rfl ?_
  refine Y_cgt i_216_27 (fun e1 => ?_) (fun e1 => ?_)
  · replace h := h.1 e1
    refine Y_iconst (v := 0) i_216_34 (by decide) ?_
    exact Y_bret i_216_35 rt_216 (by decide) h
  · replace h := h.2 e1
    refine Y_iconst (v := 1) i_216_30 (by decide) ?_
    refine Y_goto i_216_31 ?_
    exact Y_bret i_216_35 rt_216 (by decide) h
/- 217 Model.breaksAt()I -/
theorem t_217_0 {d : Nat} {F A : Nat → Nat → Int32} {J : Nat → Nat → Int64} {G : pG} {Q : pR → pM → Prop} {SL p q : Nat} (hG : Geo G SL p q) (h : X (d + 4) 217 2 [.ref 68, .int 0] [] (F, A, J, G) Q) : X (d + 4) 217 0 [.ref 68, .null] [] (F, A, J, G) Q := by
  refine Y_iconst (v := 0) i_217_0 (by decide) ?_
  refine Y_is1 i_217_1 rfl ?_
  exact h
theorem t_217_2 {d : Nat} {F A : Nat → Nat → Int32} {J : Nat → Nat → Int64} {G : pG} {Q : pR → pM → Prop} {SL p q : Nat} {x1 : Int32} (hG : Geo G SL p q) (h : ((x1 < (F 68 28) → X (d + 3) 216 0 [.ref 68, .int x1] [] (F, A, J, G) (KK (d + 4) 217 15 [.ref 68, .int x1] [] Q)) ∧ (¬ x1 < (F 68 28) → Q (.inl (some (.int (-1)))) (F, A, J, G)))) : X (d + 4) 217 2 [.ref 68, .int x1] [] (F, A, J, G) Q := by
  refine Y_il1 i_217_2 ?_
  refine Y_al0 i_217_3 ?_
  refine Y_gI (v := (F 68 28)) i_217_4 ow_217 lf_10_150 (by decide) (k_68 hG) rfl ?_
  refine Y_cge i_217_7 (fun e1 => ?_) (fun e1 => ?_)
  · replace h := h.1 e1
    refine Y_al0 i_217_10 ?_
    refine Y_il1 i_217_11 ?_
    exact Y_iv1 (L0 := [.ref 68, .int x1]) i_217_12 ow_217 lm_10_320 ((k_68 hG).trans ow_216.symm) rfl mx_216 rfl rfl hd_217 h
  · replace h := h.2 e1
    refine Y_iconst (v := (-1)) i_217_26 (by decide) ?_
    exact Y_iret i_217_27 rt_217 h
theorem k_217_15 {d : Nat} {F A : Nat → Nat → Int32} {J : Nat → Nat → Int64} {G : pG} {Q : pR → pM → Prop} {SL p q : Nat} {x1 r r : Int32} (hG : Geo G SL p q) (h : ((r = 0 → Q (.inl (some (.int x1))) (F, A, J, G)) ∧ (¬ r = 0 → X (d + 4) 217 2 [.ref 68, .int (x1 + 1)] [] (F, A, J, G) Q))) : KK (d + 4) 217 15 [.ref 68, .int x1] [] Q (.inl (some (.int r))) (F, A, J, G) := by
  refine KKi ?_
  refine Y_zne i_217_15 (fun e1 => ?_) (fun e1 => ?_)
  · replace h := h.1 e1
    refine Y_il1 i_217_18 ?_
    exact Y_iret i_217_19 rt_217 h
  · replace h := h.2 e1
    refine Y_ii1 (v := 1) i_217_20 (by decide) rfl ?_
    refine Y_goto i_217_23 ?_
    exact h
/- 218 Model.stands()Z -/
theorem t_218_0 {d : Nat} {F A : Nat → Nat → Int32} {J : Nat → Nat → Int64} {G : pG} {Q : pR → pM → Prop} {SL p q : Nat} (hG : Geo G SL p q) (h : X (d + 4) 217 0 [.ref 68, .null] [] (F, A, J, G) (KK (d + 5) 218 4 [.ref 68] [] Q)) : X (d + 5) 218 0 [.ref 68] [] (F, A, J, G) Q := by
  refine Y_al0 i_218_0 ?_
  exact Y_iv0 (L0 := [.ref 68, .null]) i_218_1 ow_218 lm_10_323 ((k_68 hG).trans ow_217.symm) rfl mx_217 rfl rfl hd_218 h
theorem k_218_4 {d : Nat} {F A : Nat → Nat → Int32} {J : Nat → Nat → Int64} {G : pG} {Q : pR → pM → Prop} {SL p q : Nat} {r r : Int32} (hG : Geo G SL p q) (h : ((r = (-1) → Q (.inl (some (.int 1))) (F, A, J, G)) ∧ (¬ r = (-1) → Q (.inl (some (.int 0))) (F, A, J, G)))) : KK (d + 5) 218 4 [.ref 68] [] Q (.inl (some (.int r))) (F, A, J, G) := by
  refine KKi ?_
  refine Y_iconst (v := (-1)) i_218_4 (by decide) ?_
  refine Y_cne i_218_5 (fun e1 => ?_) (fun e1 => ?_)
  · replace h := h.1 e1
    refine Y_iconst (v := 1) i_218_8 (by decide) ?_
    refine Y_goto i_218_9 ?_
    exact Y_bret i_218_13 rt_218 (by decide) h
  · replace h := h.2 e1
    refine Y_iconst (v := 0) i_218_12 (by decide) ?_
    exact Y_bret i_218_13 rt_218 (by decide) h
/- 219 Model.moreNow()I -/
theorem t_219_0 {d : Nat} {F A : Nat → Nat → Int32} {J : Nat → Nat → Int64} {G : pG} {Q : pR → pM → Prop} {SL p q : Nat} (hG : Geo G SL p q) (h : X (d + 5) 218 0 [.ref 68] [] (F, A, J, G) (KK (d + 6) 219 4 [.ref 68, .null, .null] [] Q)) : X (d + 6) 219 0 [.ref 68, .null, .null] [] (F, A, J, G) Q := by
  refine Y_al0 i_219_0 ?_
  exact Y_iv0 (L0 := [.ref 68]) i_219_1 ow_219 lm_10_326 ((k_68 hG).trans ow_218.symm) rfl mx_218 rfl rfl hd_219 h
theorem k_219_4 {d : Nat} {F A : Nat → Nat → Int32} {J : Nat → Nat → Int64} {G : pG} {Q : pR → pM → Prop} {SL p q : Nat} {r r : Int32} (hG : Geo G SL p q) (h : ((r = 0 → Q (.inl (some (.int (-1)))) (F, A, J, G)) ∧ (¬ r = 0 → X (d + 6) 219 15 [.ref 68, .int 9999, .int 0] [] (F, A, J, G) Q))) : KK (d + 6) 219 4 [.ref 68, .null, .null] [] Q (.inl (some (.int r))) (F, A, J, G) := by
  refine KKi ?_
  refine Y_zne i_219_4 (fun e1 => ?_) (fun e1 => ?_)
  · replace h := h.1 e1
    refine Y_iconst (v := (-1)) i_219_7 (by decide) ?_
    exact Y_iret i_219_8 rt_219 h
  · replace h := h.2 e1
    refine Y_sipush (v := 9999) i_219_9 (by decide) ?_
    refine Y_is1 i_219_12 rfl ?_
    refine Y_iconst (v := 0) i_219_13 (by decide) ?_
    refine Y_is2 i_219_14 rfl ?_
    exact h
theorem t_219_15 {d : Nat} {F A : Nat → Nat → Int32} {J : Nat → Nat → Int64} {G : pG} {Q : pR → pM → Prop} {SL p q : Nat} {x1 x2 : Int32} (hG : Geo G SL p q) (h : ((x2 < (F 68 28) → inB x2 10 = true ∧ inB (A 81 x2.toNatClampNeg) 10 = true ∧ inB (A 73 (A 81 x2.toNatClampNeg).toNatClampNeg) 4 = true ∧ Wrm A ∧ (X (d + 5) 213 0 [.ref 68, .int x2, .null, .null] [] (F, A, J, G) (KK (d + 6) 219 34 [.ref 68, .int x1, .int x2] [.int (carS (A 73 (A 81 x2.toNatClampNeg).toNatClampNeg) (A 75 (A 81 x2.toNatClampNeg).toNatClampNeg) (F 68 29) (bI (decide (x2 = F 68 28 - 1)))), .int x1] Q))) ∧ (¬ x2 < (F 68 28) → Q (.inl (some (.int x1))) (F, A, J, G)))) : X (d + 6) 219 15 [.ref 68, .int x1, .int x2] [] (F, A, J, G) Q := by
  refine Y_il2 i_219_15 ?_
  refine Y_al0 i_219_16 ?_
  refine Y_gI (v := (F 68 28)) i_219_17 ow_219 lf_10_150 (by decide) (k_68 hG) rfl ?_
  refine Y_cge i_219_20 (fun e1 => ?_) (fun e1 => ?_)
  · replace h := h.1 e1
    refine Y_il1 i_219_23 ?_
    refine Y_al0 i_219_24 ?_
    refine Y_il2 i_219_25 ?_
    have o2 := h.1
    replace h := h.2
    have o3 := h.1
    replace h := h.2
    have o4 := h.1
    replace h := h.2
    have o5 := h.1
    replace h := h.2
    refine Y_iv1 (L0 := [.ref 68, .int x2]) i_219_26 ow_219 lm_10_311 ((k_68 hG).trans ow_214.symm) rfl mx_214 rfl rfl hd_219 ?_
    refine c_214 hG o2 o3 o4 o5 (KKi ?_)
    refine Y_al0 i_219_29 ?_
    refine Y_il2 i_219_30 ?_
    exact Y_iv1 (L0 := [.ref 68, .int x2, .null, .null]) i_219_31 ow_219 lm_10_308 ((k_68 hG).trans ow_213.symm) rfl mx_213 rfl rfl hd_219 h
  · replace h := h.2 e1
    refine Y_il1 i_219_45 ?_
    exact Y_iret i_219_46 rt_219 h
theorem k_219_34 {d : Nat} {F A : Nat → Nat → Int32} {J : Nat → Nat → Int64} {G : pG} {Q : pR → pM → Prop} {SL p q : Nat} {x1 x2 r s0 s1 r : Int32} (hG : Geo G SL p q) (h : X (d + 6) 219 15 [.ref 68, .int (jmin s1 (s0 - r)), .int (x2 + 1)] [] (F, A, J, G) Q) : KK (d + 6) 219 34 [.ref 68, .int x1, .int x2] [.int s0, .int s1] Q (.inl (some (.int r))) (F, A, J, G) := by
  refine KKi ?_
  refine Y_isub i_219_34 ?_
  refine Y_min i_219_35 ow_219 lm_10_183 rfl ?_
  refine Y_is1 i_219_38 rfl ?_
  refine Y_ii2 (v := 1) i_219_39 (by decide) rfl ?_
  refine Y_goto i_219_42 ?_
  exact h
/- 220 Model.fullNow()I -/
theorem t_220_0 {d : Nat} {F A : Nat → Nat → Int32} {J : Nat → Nat → Int64} {G : pG} {Q : pR → pM → Prop} {SL p q : Nat} (hG : Geo G SL p q) (h : X d 220 4 [.ref 68, .int 0, .int 0] [] (F, A, J, G) Q) : X d 220 0 [.ref 68, .null, .null] [] (F, A, J, G) Q := by
  refine Y_iconst (v := 0) i_220_0 (by decide) ?_
  refine Y_is1 i_220_1 rfl ?_
  refine Y_iconst (v := 0) i_220_2 (by decide) ?_
  refine Y_is2 i_220_3 rfl ?_
  exact h
theorem t_220_4 {d : Nat} {F A : Nat → Nat → Int32} {J : Nat → Nat → Int64} {G : pG} {Q : pR → pM → Prop} {SL p q : Nat} {x1 x2 : Int32} (hG : Geo G SL p q) (h : ((x2 < (F 68 28) → inB x2 10 = true ∧ inB (A 81 x2.toNatClampNeg) 10 = true ∧ inB (A 81 x2.toNatClampNeg) 20 = true ∧ (((A 82 (A 81 x2.toNatClampNeg).toNatClampNeg) < (A 77 (A 81 x2.toNatClampNeg).toNatClampNeg) → X d 220 4 [.ref 68, .int (x1 ||| 0), .int (x2 + 1)] [] (F, A, J, G) Q) ∧ (¬ (A 82 (A 81 x2.toNatClampNeg).toNatClampNeg) < (A 77 (A 81 x2.toNatClampNeg).toNatClampNeg) → X d 220 4 [.ref 68, .int (x1 ||| ((1 : Int32) <<< ((A 81 x2.toNatClampNeg) &&& 31))), .int (x2 + 1)] [] (F, A, J, G) Q))) ∧ (¬ x2 < (F 68 28) → Q (.inl (some (.int x1))) (F, A, J, G)))) : X d 220 4 [.ref 68, .int x1, .int x2] [] (F, A, J, G) Q := by
  refine Y_il2 i_220_4 ?_
  refine Y_al0 i_220_5 ?_
  refine Y_gI (v := (F 68 28)) i_220_6 ow_220 lf_10_150 (by decide) (k_68 hG) rfl ?_
  refine Y_cge i_220_9 (fun e1 => ?_) (fun e1 => ?_)
  · replace h := h.1 e1
    refine Y_il1 i_220_12 ?_
    refine Y_al0 i_220_13 ?_
    refine Y_gR i_220_14 ow_220 lf_10_73 (k_68 hG) (r_68_24 hG) ?_
    refine Y_al0 i_220_17 ?_
    refine Y_gR i_220_18 ow_220 lf_10_70 (k_68 hG) (r_68_23 hG) ?_
    refine Y_il2 i_220_21 ?_
    have o2 := h.1
    replace h := h.2
    refine Y_iaload (k := x2.toNatClampNeg) (v := (A 81 x2.toNatClampNeg)) i_220_22 (k_81 hG) (l_81 hG) o2 rfl rfl ?_
    have o3 := h.1
    replace h := h.2
    refine Y_iaload (k := (A 81 x2.toNatClampNeg).toNatClampNeg) (v := (A 82 (A 81 x2.toNatClampNeg).toNatClampNeg)) i_220_23 (k_82 hG) (l_82 hG) o3 rfl rfl ?_
    refine Y_al0 i_220_24 ?_
    refine Y_gR i_220_25 ow_220 lf_10_55 (k_68 hG) (r_68_9 hG) ?_
    refine Y_al0 i_220_28 ?_
    refine Y_gR i_220_29 ow_220 lf_10_70 (k_68 hG) (r_68_23 hG) ?_
    refine Y_il2 i_220_32 ?_
    refine Y_iaload (k := x2.toNatClampNeg) (v := (A 81 x2.toNatClampNeg)) i_220_33 (k_81 hG) (l_81 hG) o2 rfl rfl ?_
    have o4 := h.1
    replace h := h.2
    refine Y_iaload (k := (A 81 x2.toNatClampNeg).toNatClampNeg) (v := (A 77 (A 81 x2.toNatClampNeg).toNatClampNeg)) i_220_34 (k_77 hG) (l_77 hG) o4 rfl rfl ?_
    refine Y_clt i_220_35 (fun e5 => ?_) (fun e5 => ?_)
    · replace h := h.1 e5
      refine Y_iconst (v := 0) i_220_49 (by decide) ?_
      refine Y_ior i_220_50 ?_
      refine Y_is1 i_220_51 rfl ?_
      refine Y_ii2 (v := 1) i_220_52 (by decide) rfl ?_
      refine Y_goto i_220_55 ?_
      exact h
    · replace h := h.2 e5
      refine Y_iconst (v := 1) i_220_38 (by decide) ?_
      refine Y_al0 i_220_39 ?_
      refine Y_gR i_220_40 ow_220 lf_10_70 (k_68 hG) (r_68_23 hG) ?_
      refine Y_il2 i_220_43 ?_
      refine Y_iaload (k := x2.toNatClampNeg) (v := (A 81 x2.toNatClampNeg)) i_220_44 (k_81 hG) (l_81 hG) o2 rfl rfl ?_
      refine Y_ishl i_220_45 ?_
      refine Y_goto i_220_46 ?_
      refine Y_ior i_220_50 ?_
      refine Y_is1 i_220_51 rfl ?_
      refine Y_ii2 (v := 1) i_220_52 (by decide) rfl ?_
      refine Y_goto i_220_55 ?_
      exact h
  · replace h := h.2 e1
    refine Y_il1 i_220_58 ?_
    exact Y_iret i_220_59 rt_220 h
/- 222 Model.count(I)I -/
theorem t_222_0 {d : Nat} {F A : Nat → Nat → Int32} {J : Nat → Nat → Int64} {G : pG} {Q : pR → pM → Prop} {SL p q : Nat} {x1 : Int32} (hG : Geo G SL p q) (h : ((x1 = 0 → Q (.inl (some (.int (A 72 0)))) ((wF F 68 3 0), A, J, G)) ∧ (x1 = 1 → Q (.inl (some (.int (F 68 28)))) ((wF F 68 3 0), A, J, G)) ∧ (x1 = 2 → inB (x1 - 1) 8 = true ∧ (Q (.inl (some (.int (A 72 (x1 - 1).toNatClampNeg)))) ((wF F 68 3 0), A, J, G))) ∧ (x1 = 3 → inB (x1 - 1) 8 = true ∧ (Q (.inl (some (.int (A 72 (x1 - 1).toNatClampNeg)))) ((wF F 68 3 0), A, J, G))) ∧ (x1 = 4 → X (d + 5) 218 0 [.ref 68] [] ((wF F 68 3 0), A, J, G) (KK (d + 6) 222 105 [.ref 68, .int x1] [] Q)) ∧ (x1 = 5 → X (d + 5) 217 0 [.ref 68, .null] [] ((wF F 68 3 0), A, J, G) (KK (d + 6) 222 118 [.ref 68, .int x1] [] Q)) ∧ (x1 = 6 → Q (.inl (some (.int (F 68 30)))) ((wF F 68 3 0), A, J, G)) ∧ (x1 = 7 → X (d + 5) 220 0 [.ref 68, .null, .null] [] ((wF F 68 3 0), A, J, G) (KK (d + 6) 222 128 [.ref 68, .int x1] [] Q)) ∧ (x1 = 8 → Q (.inl (some (.int (F 68 29)))) ((wF F 68 3 0), A, J, G)) ∧ (x1 = 9 → Q (.inl (some (.int (F 68 31)))) ((wF F 68 3 0), A, J, G)) ∧ (x1 = 10 → Q (.inl (some (.int (F 68 32)))) ((wF F 68 3 0), A, J, G)) ∧ (x1 = 11 → Q (.inl (some (.int (F 68 13)))) ((wF F 68 3 0), A, J, G)) ∧ (x1 = 12 → inB (x1 - 12) 3 = true ∧ (Q (.inl (some (.int (A 79 (x1 - 12).toNatClampNeg)))) ((wF F 68 3 0), A, J, G))) ∧ (x1 = 13 → inB (x1 - 12) 3 = true ∧ (Q (.inl (some (.int (A 79 (x1 - 12).toNatClampNeg)))) ((wF F 68 3 0), A, J, G))) ∧ (x1 = 14 → inB (x1 - 12) 3 = true ∧ (Q (.inl (some (.int (A 79 (x1 - 12).toNatClampNeg)))) ((wF F 68 3 0), A, J, G))) ∧ (((x1 : Int32).toInt < 0 ∨ 14 < (x1 : Int32).toInt) → Q (.inl (some (.int 0))) ((wF (wF F 68 3 0) 68 3 1), A, J, G)))) : X (d + 6) 222 0 [.ref 68, .int x1] [] (F, A, J, G) Q := by
  refine Y_al0 i_222_0 ?_
  refine Y_iconst (v := 0) i_222_1 (by decide) ?_
  refine Y_pI i_222_2 ow_222 lf_10_143 (k_68 hG) ?_
  refine Y_il1 i_222_5 ?_
  by_cases f0 : x1 = 0
  · replace h := h.1 f0
    refine Y_sw (t := 80) f0 i_222_6 (fun _ => rfl) rfl (fun _ => rfl) (fun _ => rfl) ?_
    refine Y_al0 i_222_80 ?_
    refine Y_gR i_222_81 ow_222 lf_10_42 (k_68 hG) (r_68_4 hG) ?_
    refine Y_iconst (v := 0) i_222_84 (by decide) ?_
    refine Y_iaload (k := 0) (v := (A 72 0)) i_222_85 (k_72 hG) (l_72 hG) (by decide) (by decide) rfl ?_
    exact Y_iret i_222_86 rt_222 h
  by_cases f1 : x1 = 1
  · replace h := h.2.1 f1
    refine Y_sw (t := 87) f1 i_222_6 (fun _ => rfl) rfl (fun _ => rfl) (fun _ => rfl) ?_
    refine Y_al0 i_222_87 ?_
    refine Y_gI (v := (F 68 28)) i_222_88 ow_222 lf_10_150 (by decide) (k_68 hG) (by simp [wF, wJ, va_up, cpR, bF, bA]) ?_
    exact Y_iret i_222_91 rt_222 h
  by_cases f2 : x1 = 2
  · replace h := h.2.2.1 f2
    refine Y_sw (t := 92) f2 i_222_6 (fun _ => rfl) rfl (fun _ => rfl) (fun _ => rfl) ?_
    refine Y_al0 i_222_92 ?_
    refine Y_gR i_222_93 ow_222 lf_10_42 (k_68 hG) (r_68_4 hG) ?_
    refine Y_il1 i_222_96 ?_
    refine Y_iconst (v := 1) i_222_97 (by decide) ?_
    refine Y_isub i_222_98 ?_
    have o1 := h.1
    replace h := h.2
    refine Y_iaload (k := (x1 - 1).toNatClampNeg) (v := (A 72 (x1 - 1).toNatClampNeg)) i_222_99 (k_72 hG) (l_72 hG) o1 rfl rfl ?_
    exact Y_iret i_222_100 rt_222 h
  by_cases f3 : x1 = 3
  · replace h := h.2.2.2.1 f3
    refine Y_sw (t := 92) f3 i_222_6 (fun _ => rfl) rfl (fun _ => rfl) (fun _ => rfl) ?_
    refine Y_al0 i_222_92 ?_
    refine Y_gR i_222_93 ow_222 lf_10_42 (k_68 hG) (r_68_4 hG) ?_
    refine Y_il1 i_222_96 ?_
    refine Y_iconst (v := 1) i_222_97 (by decide) ?_
    refine Y_isub i_222_98 ?_
    have o2 := h.1
    replace h := h.2
    refine Y_iaload (k := (x1 - 1).toNatClampNeg) (v := (A 72 (x1 - 1).toNatClampNeg)) i_222_99 (k_72 hG) (l_72 hG) o2 rfl rfl ?_
    exact Y_iret i_222_100 rt_222 h
  by_cases f4 : x1 = 4
  · replace h := h.2.2.2.2.1 f4
    refine Y_sw (t := 101) f4 i_222_6 (fun _ => rfl) rfl (fun _ => rfl) (fun _ => rfl) ?_
    refine Y_al0 i_222_101 ?_
    exact Y_iv0 (L0 := [.ref 68]) i_222_102 ow_222 lm_10_326 ((k_68 hG).trans ow_218.symm) rfl mx_218 rfl rfl hd_222 h
  by_cases f5 : x1 = 5
  · replace h := h.2.2.2.2.2.1 f5
    refine Y_sw (t := 114) f5 i_222_6 (fun _ => rfl) rfl (fun _ => rfl) (fun _ => rfl) ?_
    refine Y_al0 i_222_114 ?_
    exact Y_iv0 (L0 := [.ref 68, .null]) i_222_115 ow_222 lm_10_323 ((k_68 hG).trans ow_217.symm) rfl mx_217 rfl rfl hd_222 h
  by_cases f6 : x1 = 6
  · replace h := h.2.2.2.2.2.2.1 f6
    refine Y_sw (t := 119) f6 i_222_6 (fun _ => rfl) rfl (fun _ => rfl) (fun _ => rfl) ?_
    refine Y_al0 i_222_119 ?_
    refine Y_gI (v := (F 68 30)) i_222_120 ow_222 lf_10_85 (by decide) (k_68 hG) (by simp [wF, wJ, va_up, cpR, bF, bA]) ?_
    exact Y_iret i_222_123 rt_222 h
  by_cases f7 : x1 = 7
  · replace h := h.2.2.2.2.2.2.2.1 f7
    refine Y_sw (t := 124) f7 i_222_6 (fun _ => rfl) rfl (fun _ => rfl) (fun _ => rfl) ?_
    refine Y_al0 i_222_124 ?_
    exact Y_iv0 (L0 := [.ref 68, .null, .null]) i_222_125 ow_222 lm_10_330 ((k_68 hG).trans ow_220.symm) rfl mx_220 rfl rfl hd_222 h
  by_cases f8 : x1 = 8
  · replace h := h.2.2.2.2.2.2.2.2.1 f8
    refine Y_sw (t := 129) f8 i_222_6 (fun _ => rfl) rfl (fun _ => rfl) (fun _ => rfl) ?_
    refine Y_al0 i_222_129 ?_
    refine Y_gI (v := (F 68 29)) i_222_130 ow_222 lf_10_282 (by decide) (k_68 hG) (by simp [wF, wJ, va_up, cpR, bF, bA]) ?_
    exact Y_iret i_222_133 rt_222 h
  by_cases f9 : x1 = 9
  · replace h := h.2.2.2.2.2.2.2.2.2.1 f9
    refine Y_sw (t := 134) f9 i_222_6 (fun _ => rfl) rfl (fun _ => rfl) (fun _ => rfl) ?_
    refine Y_al0 i_222_134 ?_
    refine Y_gI (v := (F 68 31)) i_222_135 ow_222 lf_10_285 (by decide) (k_68 hG) (by simp [wF, wJ, va_up, cpR, bF, bA]) ?_
    exact Y_iret i_222_138 rt_222 h
  by_cases f10 : x1 = 10
  · replace h := h.2.2.2.2.2.2.2.2.2.2.1 f10
    refine Y_sw (t := 139) f10 i_222_6 (fun _ => rfl) rfl (fun _ => rfl) (fun _ => rfl) ?_
    refine Y_al0 i_222_139 ?_
    refine Y_gI (v := (F 68 32)) i_222_140 ow_222 lf_10_288 (by decide) (k_68 hG) (by simp [wF, wJ, va_up, cpR, bF, bA]) ?_
    exact Y_iret i_222_143 rt_222 h
  by_cases f11 : x1 = 11
  · replace h := h.2.2.2.2.2.2.2.2.2.2.2.1 f11
    refine Y_sw (t := 144) f11 i_222_6 (fun _ => rfl) rfl (fun _ => rfl) (fun _ => rfl) ?_
    refine Y_al0 i_222_144 ?_
    refine Y_gI (v := (F 68 13)) i_222_145 ow_222 lf_10_153 (by decide) (k_68 hG) (by simp [wF, wJ, va_up, cpR, bF, bA]) ?_
    exact Y_iret i_222_148 rt_222 h
  by_cases f12 : x1 = 12
  · replace h := h.2.2.2.2.2.2.2.2.2.2.2.2.1 f12
    refine Y_sw (t := 149) f12 i_222_6 (fun _ => rfl) rfl (fun _ => rfl) (fun _ => rfl) ?_
    refine Y_al0 i_222_149 ?_
    refine Y_gR i_222_150 ow_222 lf_10_60 (k_68 hG) (r_68_11 hG) ?_
    refine Y_il1 i_222_153 ?_
    refine Y_bipush (v := 12) i_222_154 (by decide) ?_
    refine Y_isub i_222_156 ?_
    have o3 := h.1
    replace h := h.2
    refine Y_iaload (k := (x1 - 12).toNatClampNeg) (v := (A 79 (x1 - 12).toNatClampNeg)) i_222_157 (k_79 hG) (l_79 hG) o3 rfl rfl ?_
    exact Y_iret i_222_158 rt_222 h
  by_cases f13 : x1 = 13
  · replace h := h.2.2.2.2.2.2.2.2.2.2.2.2.2.1 f13
    refine Y_sw (t := 149) f13 i_222_6 (fun _ => rfl) rfl (fun _ => rfl) (fun _ => rfl) ?_
    refine Y_al0 i_222_149 ?_
    refine Y_gR i_222_150 ow_222 lf_10_60 (k_68 hG) (r_68_11 hG) ?_
    refine Y_il1 i_222_153 ?_
    refine Y_bipush (v := 12) i_222_154 (by decide) ?_
    refine Y_isub i_222_156 ?_
    have o4 := h.1
    replace h := h.2
    refine Y_iaload (k := (x1 - 12).toNatClampNeg) (v := (A 79 (x1 - 12).toNatClampNeg)) i_222_157 (k_79 hG) (l_79 hG) o4 rfl rfl ?_
    exact Y_iret i_222_158 rt_222 h
  by_cases f14 : x1 = 14
  · replace h := h.2.2.2.2.2.2.2.2.2.2.2.2.2.2.1 f14
    refine Y_sw (t := 149) f14 i_222_6 (fun _ => rfl) rfl (fun _ => rfl) (fun _ => rfl) ?_
    refine Y_al0 i_222_149 ?_
    refine Y_gR i_222_150 ow_222 lf_10_60 (k_68 hG) (r_68_11 hG) ?_
    refine Y_il1 i_222_153 ?_
    refine Y_bipush (v := 12) i_222_154 (by decide) ?_
    refine Y_isub i_222_156 ?_
    have o5 := h.1
    replace h := h.2
    refine Y_iaload (k := (x1 - 12).toNatClampNeg) (v := (A 79 (x1 - 12).toNatClampNeg)) i_222_157 (k_79 hG) (l_79 hG) o5 rfl rfl ?_
    exact Y_iret i_222_158 rt_222 h
  have eD : (x1 : Int32).toInt < 0 ∨ 14 < (x1 : Int32).toInt := by
    have q := ts_out (x := x1) (lo := 0) (n := 15) (by
      intro j hj
      have : j = 0 ∨ j = 1 ∨ j = 2 ∨ j = 3 ∨ j = 4 ∨ j = 5 ∨ j = 6 ∨ j = 7 ∨ j = 8 ∨ j = 9 ∨ j = 10 ∨ j = 11 ∨ j = 12 ∨ j = 13 ∨ j = 14 := by omega
      rcases this with rfl | rfl | rfl | rfl | rfl | rfl | rfl | rfl | rfl | rfl | rfl | rfl | rfl | rfl | rfl
      · exact ne_toInt f0 (by decide)
      · exact ne_toInt f1 (by decide)
      · exact ne_toInt f2 (by decide)
      · exact ne_toInt f3 (by decide)
      · exact ne_toInt f4 (by decide)
      · exact ne_toInt f5 (by decide)
      · exact ne_toInt f6 (by decide)
      · exact ne_toInt f7 (by decide)
      · exact ne_toInt f8 (by decide)
      · exact ne_toInt f9 (by decide)
      · exact ne_toInt f10 (by decide)
      · exact ne_toInt f11 (by decide)
      · exact ne_toInt f12 (by decide)
      · exact ne_toInt f13 (by decide)
      · exact ne_toInt f14 (by decide)
      )
    omega
  replace h := h.2.2.2.2.2.2.2.2.2.2.2.2.2.2.2 eD
  refine Y_tsD (t := 159) eD i_222_6 (by decide) ?_
  refine Y_al0 i_222_159 ?_
  refine Y_iconst (v := 1) i_222_160 (by decide) ?_
  refine Y_iv1 (L0 := [.ref 68, .int 1]) i_222_161 ow_222 lm_10_269 ((k_68 hG).trans ow_176.symm) rfl mx_176 rfl rfl hd_222 ?_
  refine Y_al0 i_176_0 ?_
  refine Y_il1 i_176_1 ?_
  refine Y_pI i_176_2 ow_176 lf_10_143 (k_68 hG) ?_
  refine Y_iconst (v := 0) i_176_5 (by decide) ?_
  refine Y_iret i_176_6 rt_176 (KKi ?_)
  exact Y_iret i_222_164 rt_222 h
theorem k_222_105 {d : Nat} {F A : Nat → Nat → Int32} {J : Nat → Nat → Int64} {G : pG} {Q : pR → pM → Prop} {SL p q : Nat} {x1 r r : Int32} (hG : Geo G SL p q) (h : ((r = 0 → Q (.inl (some (.int 0))) (F, A, J, G)) ∧ (¬ r = 0 → Q (.inl (some (.int 1))) (F, A, J, G)))) : KK (d + 6) 222 105 [.ref 68, .int x1] [] Q (.inl (some (.int r))) (F, A, J, G) := by
  refine KKi ?_
  refine Y_zeq i_222_105 (fun e1 => ?_) (fun e1 => ?_)
  · replace h := h.1 e1
    refine Y_iconst (v := 0) i_222_112 (by decide) ?_
    exact Y_iret i_222_113 rt_222 h
  · replace h := h.2 e1
    refine Y_iconst (v := 1) i_222_108 (by decide) ?_
    refine Y_goto i_222_109 ?_
    exact Y_iret i_222_113 rt_222 h
theorem k_222_118 {d : Nat} {F A : Nat → Nat → Int32} {J : Nat → Nat → Int64} {G : pG} {Q : pR → pM → Prop} {SL p q : Nat} {x1 r r : Int32} (hG : Geo G SL p q) (h : Q (.inl (some (.int r))) (F, A, J, G)) : KK (d + 6) 222 118 [.ref 68, .int x1] [] Q (.inl (some (.int r))) (F, A, J, G) := by
  refine KKi ?_
  exact Y_iret i_222_118 rt_222 h
theorem k_222_128 {d : Nat} {F A : Nat → Nat → Int32} {J : Nat → Nat → Int64} {G : pG} {Q : pR → pM → Prop} {SL p q : Nat} {x1 r r : Int32} (hG : Geo G SL p q) (h : Q (.inl (some (.int r))) (F, A, J, G)) : KK (d + 6) 222 128 [.ref 68, .int x1] [] Q (.inl (some (.int r))) (F, A, J, G) := by
  refine KKi ?_
  exact Y_iret i_222_128 rt_222 h
/- 223 Model.table(II)I -/
theorem t_223_0 {d : Nat} {F A : Nat → Nat → Int32} {J : Nat → Nat → Int64} {G : pG} {Q : pR → pM → Prop} {SL p q : Nat} {x1 x2 : Int32} (hG : Geo G SL p q) (h : hB (A 72 0) = true ∧ (((inR x1 (A 72 0)) = true → ((x2 = 0 → inB x1 20 = true ∧ (Q (.inl (some (.int (A 73 x1.toNatClampNeg)))) ((wF F 68 3 0), A, J, G))) ∧ (x2 = 1 → inB x1 20 = true ∧ (Q (.inl (some (.int (A 74 x1.toNatClampNeg)))) ((wF F 68 3 0), A, J, G))) ∧ (x2 = 2 → inB x1 20 = true ∧ inB (A 73 x1.toNatClampNeg) 4 = true ∧ (Q (.inl (some (.int (jmax 0 ((A 75 x1.toNatClampNeg) - ((A 71 (A 73 x1.toNatClampNeg).toNatClampNeg) * (F 68 29))))))) ((wF F 68 3 0), A, J, G))) ∧ (x2 = 3 → inB x1 10 = true ∧ (Q (.inl (some (.int (A 84 x1.toNatClampNeg)))) ((wF F 68 3 0), A, J, G))) ∧ (x2 = 4 → inB x1 20 = true ∧ (Q (.inl (some (.int (A 77 x1.toNatClampNeg)))) ((wF F 68 3 0), A, J, G))) ∧ (x2 = 5 → inB x1 10 = true ∧ (Q (.inl (some (.int (A 82 x1.toNatClampNeg)))) ((wF F 68 3 0), A, J, G))) ∧ (x2 = 6 → inB x1 10 = true ∧ (Q (.inl (some (.int (A 83 x1.toNatClampNeg)))) ((wF F 68 3 0), A, J, G))) ∧ (x2 = 7 → hB ((wF F 68 3 0) 68 28) = true ∧ (Q (.inl (some (.int (lvI (A 81) ((wF F 68 3 0) 68 28) x1)))) ((wF F 68 3 0), A, J, G))) ∧ (((x2 : Int32).toInt < 0 ∨ 7 < (x2 : Int32).toInt) → Q (.inl (some (.int 0))) ((wF (wF F 68 3 0) 68 3 1), A, J, G)))) ∧ ((inR x1 (A 72 0)) = false → Q (.inl (some (.int 0))) ((wF (wF F 68 3 0) 68 3 1), A, J, G)))) : X (d + 2) 223 0 [.ref 68, .int x1, .int x2] [] (F, A, J, G) Q := by
  refine Y_al0 i_223_0 ?_
  refine Y_iconst (v := 0) i_223_1 (by decide) ?_
  refine Y_pI i_223_2 ow_223 lf_10_143 (k_68 hG) ?_
  refine Y_al0 i_223_5 ?_
  refine Y_il1 i_223_6 ?_
  have o1 := h.1
  replace h := h.2
  refine Y_iv1 (L0 := [.ref 68, .int x1]) i_223_7 ow_223 lm_10_333 ((k_68 hG).trans ow_180.symm) rfl mx_180 rfl rfl hd_223 ?_
  refine c_180 hG o1 (KKi ?_)
  refine Y_bne i_223_10 (fun e2 => ?_) (fun e2 => ?_)
  · replace h := h.1 e2
    refine Y_il2 i_223_19 ?_
    by_cases f0 : x2 = 0
    · replace h := h.1 f0
      refine Y_sw (t := 68) f0 i_223_20 (fun _ => rfl) rfl (fun _ => rfl) (fun _ => rfl) ?_
      refine Y_al0 i_223_68 ?_
      refine Y_gR i_223_69 ow_223 lf_10_45 (k_68 hG) (r_68_5 hG) ?_
      refine Y_il1 i_223_72 ?_
      have o3 := h.1
      replace h := h.2
      refine Y_iaload (k := x1.toNatClampNeg) (v := (A 73 x1.toNatClampNeg)) i_223_73 (k_73 hG) (l_73 hG) o3 rfl rfl ?_
      exact Y_iret i_223_74 rt_223 h
    by_cases f1 : x2 = 1
    · replace h := h.2.1 f1
      refine Y_sw (t := 75) f1 i_223_20 (fun _ => rfl) rfl (fun _ => rfl) (fun _ => rfl) ?_
      refine Y_al0 i_223_75 ?_
      refine Y_gR i_223_76 ow_223 lf_10_47 (k_68 hG) (r_68_6 hG) ?_
      refine Y_il1 i_223_79 ?_
      have o4 := h.1
      replace h := h.2
      refine Y_iaload (k := x1.toNatClampNeg) (v := (A 74 x1.toNatClampNeg)) i_223_80 (k_74 hG) (l_74 hG) o4 rfl rfl ?_
      exact Y_iret i_223_81 rt_223 h
    by_cases f2 : x2 = 2
    · replace h := h.2.2.1 f2
      refine Y_sw (t := 82) f2 i_223_20 (fun _ => rfl) rfl (fun _ => rfl) (fun _ => rfl) ?_
      refine Y_iconst (v := 0) i_223_82 (by decide) ?_
      refine Y_al0 i_223_83 ?_
      refine Y_gR i_223_84 ow_223 lf_10_49 (k_68 hG) (r_68_7 hG) ?_
      refine Y_il1 i_223_87 ?_
      have o5 := h.1
      replace h := h.2
      refine Y_iaload (k := x1.toNatClampNeg) (v := (A 75 x1.toNatClampNeg)) i_223_88 (k_75 hG) (l_75 hG) o5 rfl rfl ?_
      refine Y_al0 i_223_89 ?_
      refine Y_il1 i_223_90 ?_
      refine Y_iv1 (L0 := [.ref 68, .int x1]) i_223_91 ow_223 lm_10_295 ((k_68 hG).trans ow_210.symm) rfl mx_210 rfl rfl hd_223 ?_
      refine Y_al0 i_210_0 ?_
      refine Y_gR i_210_1 ow_210 lf_10_38 (k_68 hG) (r_68_2 hG) ?_
      refine Y_al0 i_210_4 ?_
      refine Y_gR i_210_5 ow_210 lf_10_45 (k_68 hG) (r_68_5 hG) ?_
      refine Y_il1 i_210_8 ?_
      refine Y_iaload (k := x1.toNatClampNeg) (v := (A 73 x1.toNatClampNeg)) i_210_9 (k_73 hG) (l_73 hG) o5 rfl rfl ?_
      have o6 := h.1
      replace h := h.2
      refine Y_iaload (k := (A 73 x1.toNatClampNeg).toNatClampNeg) (v := (A 71 (A 73 x1.toNatClampNeg).toNatClampNeg)) i_210_10 (k_71 hG) (l_71 hG) o6 rfl rfl ?_
      refine Y_al0 i_210_11 ?_
      refine Y_gI (v := (F 68 29)) i_210_12 ow_210 lf_10_282 (by decide) (k_68 hG) (by simp [wF, wJ, va_up, cpR, bF, bA]) ?_
      refine Y_imul i_210_15 ?_
      refine Y_iret i_210_16 rt_210 (KKi ?_)
      refine Y_isub i_223_94 ?_
      refine Y_max i_223_95 ow_223 lm_10_298 rfl ?_
      exact Y_iret i_223_98 rt_223 h
    by_cases f3 : x2 = 3
    · replace h := h.2.2.2.1 f3
      refine Y_sw (t := 99) f3 i_223_20 (fun _ => rfl) rfl (fun _ => rfl) (fun _ => rfl) ?_
      refine Y_al0 i_223_99 ?_
      refine Y_gR i_223_100 ow_223 lf_10_79 (k_68 hG) (r_68_26 hG) ?_
      refine Y_il1 i_223_103 ?_
      have o7 := h.1
      replace h := h.2
      refine Y_iaload (k := x1.toNatClampNeg) (v := (A 84 x1.toNatClampNeg)) i_223_104 (k_84 hG) (l_84 hG) o7 rfl rfl ?_
      exact Y_iret i_223_105 rt_223 h
    by_cases f4 : x2 = 4
    · replace h := h.2.2.2.2.1 f4
      refine Y_sw (t := 106) f4 i_223_20 (fun _ => rfl) rfl (fun _ => rfl) (fun _ => rfl) ?_
      refine Y_al0 i_223_106 ?_
      refine Y_gR i_223_107 ow_223 lf_10_55 (k_68 hG) (r_68_9 hG) ?_
      refine Y_il1 i_223_110 ?_
      have o8 := h.1
      replace h := h.2
      refine Y_iaload (k := x1.toNatClampNeg) (v := (A 77 x1.toNatClampNeg)) i_223_111 (k_77 hG) (l_77 hG) o8 rfl rfl ?_
      exact Y_iret i_223_112 rt_223 h
    by_cases f5 : x2 = 5
    · replace h := h.2.2.2.2.2.1 f5
      refine Y_sw (t := 113) f5 i_223_20 (fun _ => rfl) rfl (fun _ => rfl) (fun _ => rfl) ?_
      refine Y_al0 i_223_113 ?_
      refine Y_gR i_223_114 ow_223 lf_10_73 (k_68 hG) (r_68_24 hG) ?_
      refine Y_il1 i_223_117 ?_
      have o9 := h.1
      replace h := h.2
      refine Y_iaload (k := x1.toNatClampNeg) (v := (A 82 x1.toNatClampNeg)) i_223_118 (k_82 hG) (l_82 hG) o9 rfl rfl ?_
      exact Y_iret i_223_119 rt_223 h
    by_cases f6 : x2 = 6
    · replace h := h.2.2.2.2.2.2.1 f6
      refine Y_sw (t := 120) f6 i_223_20 (fun _ => rfl) rfl (fun _ => rfl) (fun _ => rfl) ?_
      refine Y_al0 i_223_120 ?_
      refine Y_gR i_223_121 ow_223 lf_10_76 (k_68 hG) (r_68_25 hG) ?_
      refine Y_il1 i_223_124 ?_
      have o10 := h.1
      replace h := h.2
      refine Y_iaload (k := x1.toNatClampNeg) (v := (A 83 x1.toNatClampNeg)) i_223_125 (k_83 hG) (l_83 hG) o10 rfl rfl ?_
      exact Y_iret i_223_126 rt_223 h
    by_cases f7 : x2 = 7
    · replace h := h.2.2.2.2.2.2.2.1 f7
      refine Y_sw (t := 127) f7 i_223_20 (fun _ => rfl) rfl (fun _ => rfl) (fun _ => rfl) ?_
      refine Y_al0 i_223_127 ?_
      refine Y_il1 i_223_128 ?_
      have o11 := h.1
      replace h := h.2
      refine Y_iv1 (L0 := [.ref 68, .int x1, .null]) i_223_129 ow_223 lm_10_336 ((k_68 hG).trans ow_209.symm) rfl mx_209 rfl rfl hd_223 ?_
      refine c_209 hG o11 (KKi ?_)
      exact Y_iret i_223_132 rt_223 h
    have eD : (x2 : Int32).toInt < 0 ∨ 7 < (x2 : Int32).toInt := by
      have q := ts_out (x := x2) (lo := 0) (n := 8) (by
        intro j hj
        have : j = 0 ∨ j = 1 ∨ j = 2 ∨ j = 3 ∨ j = 4 ∨ j = 5 ∨ j = 6 ∨ j = 7 := by omega
        rcases this with rfl | rfl | rfl | rfl | rfl | rfl | rfl | rfl
        · exact ne_toInt f0 (by decide)
        · exact ne_toInt f1 (by decide)
        · exact ne_toInt f2 (by decide)
        · exact ne_toInt f3 (by decide)
        · exact ne_toInt f4 (by decide)
        · exact ne_toInt f5 (by decide)
        · exact ne_toInt f6 (by decide)
        · exact ne_toInt f7 (by decide)
        )
      omega
    replace h := h.2.2.2.2.2.2.2.2 eD
    refine Y_tsD (t := 133) eD i_223_20 (by decide) ?_
    refine Y_al0 i_223_133 ?_
    refine Y_iconst (v := 1) i_223_134 (by decide) ?_
    refine Y_iv1 (L0 := [.ref 68, .int 1]) i_223_135 ow_223 lm_10_269 ((k_68 hG).trans ow_176.symm) rfl mx_176 rfl rfl hd_223 ?_
    refine Y_al0 i_176_0 ?_
    refine Y_il1 i_176_1 ?_
    refine Y_pI i_176_2 ow_176 lf_10_143 (k_68 hG) ?_
    refine Y_iconst (v := 0) i_176_5 (by decide) ?_
    refine Y_iret i_176_6 rt_176 (KKi ?_)
    exact Y_iret i_223_138 rt_223 h
  · replace h := h.2 e2
    refine Y_al0 i_223_13 ?_
    refine Y_iconst (v := 1) i_223_14 (by decide) ?_
    refine Y_iv1 (L0 := [.ref 68, .int 1]) i_223_15 ow_223 lm_10_269 ((k_68 hG).trans ow_176.symm) rfl mx_176 rfl rfl hd_223 ?_
    refine Y_al0 i_176_0 ?_
    refine Y_il1 i_176_1 ?_
    refine Y_pI i_176_2 ow_176 lf_10_143 (k_68 hG) ?_
    refine Y_iconst (v := 0) i_176_5 (by decide) ?_
    refine Y_iret i_176_6 rt_176 (KKi ?_)
    exact Y_iret i_223_18 rt_223 h
/- 224 Model.by()I -/
theorem t_224_0 {d : Nat} {F A : Nat → Nat → Int32} {J : Nat → Nat → Int64} {G : pG} {Q : pR → pM → Prop} {SL p q : Nat} (hG : Geo G SL p q) (h : hB ((wF F 68 3 0) 68 28) = true ∧ (Q (.inl (some (.int ((((1 : Int32) <<< ((A 72 0) &&& 31)) - 1) &&& ((bitsI (A 81) ((wF F 68 3 0) 68 28)) ^^^ (-1)))))) ((wF F 68 3 0), A, J, G))) : X (d + 1) 224 0 [.ref 68] [] (F, A, J, G) Q := by
  refine Y_al0 i_224_0 ?_
  refine Y_iconst (v := 0) i_224_1 (by decide) ?_
  refine Y_pI i_224_2 ow_224 lf_10_143 (k_68 hG) ?_
  refine Y_iconst (v := 1) i_224_5 (by decide) ?_
  refine Y_al0 i_224_6 ?_
  refine Y_gR i_224_7 ow_224 lf_10_42 (k_68 hG) (r_68_4 hG) ?_
  refine Y_iconst (v := 0) i_224_10 (by decide) ?_
  refine Y_iaload (k := 0) (v := (A 72 0)) i_224_11 (k_72 hG) (l_72 hG) (by decide) (by decide) rfl ?_
  refine Y_ishl i_224_12 ?_
  refine Y_iconst (v := 1) i_224_13 (by decide) ?_
  refine Y_isub i_224_14 ?_
  refine Y_al0 i_224_15 ?_
  have o1 := h.1
  replace h := h.2
  refine Y_iv0 (L0 := [.ref 68, .null, .null]) i_224_16 ow_224 lm_10_339 ((k_68 hG).trans ow_221.symm) rfl mx_221 rfl rfl hd_224 ?_
  refine c_221 hG o1 (KKi ?_)
  refine Y_iconst (v := (-1)) i_224_19 (by decide) ?_
  refine Y_ixor i_224_20 ?_
  refine Y_iand i_224_21 ?_
  exact Y_iret i_224_22 rt_224 h
/- 225 Model.level(II)I -/
theorem t_225_0 {d : Nat} {F A : Nat → Nat → Int32} {J : Nat → Nat → Int64} {G : pG} {Q : pR → pM → Prop} {SL p q : Nat} {x1 x2 : Int32} (hG : Geo G SL p q) (h : hB ((wF F 68 3 0) 68 28) = true ∧ (((inR x1 ((wF F 68 3 0) 68 28)) = true → (((inL x2.toInt64 0 4) = true → ((x2 = 0 → inB x1 10 = true ∧ (Q (.inl (some (.int (A 81 x1.toNatClampNeg)))) ((wF F 68 3 0), A, J, G))) ∧ (¬ x2 = 0 → ((x2 = 1 → X (d + 3) 213 0 [.ref 68, .int x1, .null, .null] [] ((wF F 68 3 0), A, J, G) (KK (d + 4) 225 54 [.ref 68, .int x1, .int x2] [] Q)) ∧ (¬ x2 = 1 → ((x2 = 2 → inB x1 10 = true ∧ inB (A 81 x1.toNatClampNeg) 10 = true ∧ inB (A 73 (A 81 x1.toNatClampNeg).toNatClampNeg) 4 = true ∧ Wrm A ∧ (Q (.inl (some (.int (carS (A 73 (A 81 x1.toNatClampNeg).toNatClampNeg) (A 75 (A 81 x1.toNatClampNeg).toNatClampNeg) ((wF F 68 3 0) 68 29) (bI (decide (x1 = (wF F 68 3 0) 68 28 - 1))))))) ((wF F 68 3 0), A, J, G))) ∧ (¬ x2 = 2 → ((x2 = 3 → X (d + 3) 215 0 [.ref 68, .int x1, .null, .null] [] ((wF F 68 3 0), A, J, G) (KK (d + 4) 225 80 [.ref 68, .int x1, .int x2] [] Q)) ∧ (¬ x2 = 3 → X (d + 3) 216 0 [.ref 68, .int x1] [] ((wF F 68 3 0), A, J, G) (KK (d + 4) 225 88 [.ref 68, .int x1, .int x2] [] Q)))))))))) ∧ ((inL x2.toInt64 0 4) = false → Q (.inl (some (.int 0))) ((wF (wF F 68 3 0) 68 3 1), A, J, G)))) ∧ ((inR x1 ((wF F 68 3 0) 68 28)) = false → Q (.inl (some (.int 0))) ((wF (wF F 68 3 0) 68 3 1), A, J, G)))) : X (d + 4) 225 0 [.ref 68, .int x1, .int x2] [] (F, A, J, G) Q := by
  refine Y_al0 i_225_0 ?_
  refine Y_iconst (v := 0) i_225_1 (by decide) ?_
  refine Y_pI i_225_2 ow_225 lf_10_143 (k_68 hG) ?_
  refine Y_al0 i_225_5 ?_
  refine Y_il1 i_225_6 ?_
  have o1 := h.1
  replace h := h.2
  refine Y_iv1 (L0 := [.ref 68, .int x1]) i_225_7 ow_225 lm_10_342 ((k_68 hG).trans ow_181.symm) rfl mx_181 rfl rfl hd_225 ?_
  refine c_181 hG o1 (KKi ?_)
  refine Y_beq i_225_10 (fun e2 => ?_) (fun e2 => ?_)
  · replace h := h.1 e2
    refine Y_il2 i_225_13 ?_
    refine Y_i2l i_225_14 ?_
    refine Y_lconst (v := 0) i_225_15 (by decide) ?_
    refine Y_ldcL i_225_16 ow_225 lj_10_345 ?_
    refine Y_is_3 (L0 := [.long x2.toInt64, .null, .long 0, .null, .long 4, .null]) i_225_19 ow_225 lm_10_146 rfl mx_178 rfl rfl hd_225 ?_
    refine c_178 hG (KKi ?_)
    refine Y_bne i_225_22 (fun e3 => ?_) (fun e3 => ?_)
    · replace h := h.1 e3
      refine Y_il2 i_225_31 ?_
      refine Y_zne i_225_32 (fun e4 => ?_) (fun e4 => ?_)
      · replace h := h.1 e4
        refine Y_al0 i_225_35 ?_
        refine Y_gR i_225_36 ow_225 lf_10_70 (k_68 hG) (r_68_23 hG) ?_
        refine Y_il1 i_225_39 ?_
        have o5 := h.1
        replace h := h.2
        refine Y_iaload (k := x1.toNatClampNeg) (v := (A 81 x1.toNatClampNeg)) i_225_40 (k_81 hG) (l_81 hG) o5 rfl rfl ?_
        refine Y_goto i_225_41 ?_
        exact Y_iret i_225_96 rt_225 h
      · replace h := h.2 e4
        refine Y_il2 i_225_44 ?_
        refine Y_iconst (v := 1) i_225_45 (by decide) ?_
        refine Y_cne i_225_46 (fun e6 => ?_) (fun e6 => ?_)
        · replace h := h.1 e6
          refine Y_al0 i_225_49 ?_
          refine Y_il1 i_225_50 ?_
          exact Y_iv1 (L0 := [.ref 68, .int x1, .null, .null]) i_225_51 ow_225 lm_10_308 ((k_68 hG).trans ow_213.symm) rfl mx_213 rfl rfl hd_225 h
        · replace h := h.2 e6
          refine Y_il2 i_225_57 ?_
          refine Y_iconst (v := 2) i_225_58 (by decide) ?_
          refine Y_cne i_225_59 (fun e7 => ?_) (fun e7 => ?_)
          · replace h := h.1 e7
            refine Y_al0 i_225_62 ?_
            refine Y_il1 i_225_63 ?_
            have o8 := h.1
            replace h := h.2
            have o9 := h.1
            replace h := h.2
            have o10 := h.1
            replace h := h.2
            have o11 := h.1
            replace h := h.2
            refine Y_iv1 (L0 := [.ref 68, .int x1]) i_225_64 ow_225 lm_10_311 ((k_68 hG).trans ow_214.symm) rfl mx_214 rfl rfl hd_225 ?_
            refine c_214 hG o8 o9 o10 o11 (KKi ?_)
            refine Y_goto i_225_67 ?_
            exact Y_iret i_225_96 rt_225 h
          · replace h := h.2 e7
            refine Y_il2 i_225_70 ?_
            refine Y_iconst (v := 3) i_225_71 (by decide) ?_
            refine Y_cne i_225_72 (fun e12 => ?_) (fun e12 => ?_)
            · replace h := h.1 e12
              refine Y_al0 i_225_75 ?_
              refine Y_il1 i_225_76 ?_
              exact Y_iv1 (L0 := [.ref 68, .int x1, .null, .null]) i_225_77 ow_225 lm_10_314 ((k_68 hG).trans ow_215.symm) rfl mx_215 rfl rfl hd_225 h
            · replace h := h.2 e12
              refine Y_al0 i_225_83 ?_
              refine Y_il1 i_225_84 ?_
              exact Y_iv1 (L0 := [.ref 68, .int x1]) i_225_85 ow_225 lm_10_320 ((k_68 hG).trans ow_216.symm) rfl mx_216 rfl rfl hd_225 h
    · replace h := h.2 e3
      refine Y_al0 i_225_25 ?_
      refine Y_iconst (v := 1) i_225_26 (by decide) ?_
      refine Y_iv1 (L0 := [.ref 68, .int 1]) i_225_27 ow_225 lm_10_269 ((k_68 hG).trans ow_176.symm) rfl mx_176 rfl rfl hd_225 ?_
      refine Y_al0 i_176_0 ?_
      refine Y_il1 i_176_1 ?_
      refine Y_pI i_176_2 ow_176 lf_10_143 (k_68 hG) ?_
      refine Y_iconst (v := 0) i_176_5 (by decide) ?_
      refine Y_iret i_176_6 rt_176 (KKi ?_)
      exact Y_iret i_225_30 rt_225 h
  · replace h := h.2 e2
    refine Y_al0 i_225_25 ?_
    refine Y_iconst (v := 1) i_225_26 (by decide) ?_
    refine Y_iv1 (L0 := [.ref 68, .int 1]) i_225_27 ow_225 lm_10_269 ((k_68 hG).trans ow_176.symm) rfl mx_176 rfl rfl hd_225 ?_
    refine Y_al0 i_176_0 ?_
    refine Y_il1 i_176_1 ?_
    refine Y_pI i_176_2 ow_176 lf_10_143 (k_68 hG) ?_
    refine Y_iconst (v := 0) i_176_5 (by decide) ?_
    refine Y_iret i_176_6 rt_176 (KKi ?_)
    exact Y_iret i_225_30 rt_225 h
theorem k_225_54 {d : Nat} {F A : Nat → Nat → Int32} {J : Nat → Nat → Int64} {G : pG} {Q : pR → pM → Prop} {SL p q : Nat} {x1 x2 r r : Int32} (hG : Geo G SL p q) (h : Q (.inl (some (.int r))) (F, A, J, G)) : KK (d + 4) 225 54 [.ref 68, .int x1, .int x2] [] Q (.inl (some (.int r))) (F, A, J, G) := by
  refine KKi ?_
  refine Y_goto i_225_54 ?_
  exact Y_iret i_225_96 rt_225 h
theorem k_225_80 {d : Nat} {F A : Nat → Nat → Int32} {J : Nat → Nat → Int64} {G : pG} {Q : pR → pM → Prop} {SL p q : Nat} {x1 x2 r r : Int32} (hG : Geo G SL p q) (h : Q (.inl (some (.int r))) (F, A, J, G)) : KK (d + 4) 225 80 [.ref 68, .int x1, .int x2] [] Q (.inl (some (.int r))) (F, A, J, G) := by
  refine KKi ?_
  refine Y_goto i_225_80 ?_
  exact Y_iret i_225_96 rt_225 h
theorem k_225_88 {d : Nat} {F A : Nat → Nat → Int32} {J : Nat → Nat → Int64} {G : pG} {Q : pR → pM → Prop} {SL p q : Nat} {x1 x2 r r : Int32} (hG : Geo G SL p q) (h : ((r = 0 → Q (.inl (some (.int 0))) (F, A, J, G)) ∧ (¬ r = 0 → Q (.inl (some (.int 1))) (F, A, J, G)))) : KK (d + 4) 225 88 [.ref 68, .int x1, .int x2] [] Q (.inl (some (.int r))) (F, A, J, G) := by
  refine KKi ?_
  refine Y_zeq i_225_88 (fun e1 => ?_) (fun e1 => ?_)
  · replace h := h.1 e1
    refine Y_iconst (v := 0) i_225_95 (by decide) ?_
    exact Y_iret i_225_96 rt_225 h
  · replace h := h.2 e1
    refine Y_iconst (v := 1) i_225_91 (by decide) ?_
    refine Y_goto i_225_92 ?_
    exact Y_iret i_225_96 rt_225 h
/- 226 Model.refuse(I)I -/
theorem t_226_0 {d : Nat} {F A : Nat → Nat → Int32} {J : Nat → Nat → Int64} {G : pG} {Q : pR → pM → Prop} {SL p q : Nat} {x1 : Int32} (hG : Geo G SL p q) (h : inB x1 3 = true ∧ (Q (.inl (some (.int (-1)))) (F, (wF A 79 x1.toNatClampNeg ((A 79 x1.toNatClampNeg) + 1)), J, G))) : X d 226 0 [.ref 68, .int x1] [] (F, A, J, G) Q := by
  refine Y_al0 i_226_0 ?_
  refine Y_gR i_226_1 ow_226 lf_10_60 (k_68 hG) (r_68_11 hG) ?_
  refine Y_il1 i_226_4 ?_
  refine Y_dup2 i_226_5 rfl rfl ?_
  have o1 := h.1
  replace h := h.2
  refine Y_iaload (k := x1.toNatClampNeg) (v := (A 79 x1.toNatClampNeg)) i_226_6 (k_79 hG) (l_79 hG) o1 rfl rfl ?_
  refine Y_iconst (v := 1) i_226_7 (by decide) ?_
  refine Y_iadd i_226_8 ?_
  refine Y_iast i_226_9 (k_79 hG) (l_79 hG) o1 rfl ?_
  refine Y_iconst (v := (-1)) i_226_10 (by decide) ?_
  exact Y_iret i_226_11 rt_226 h
/- 227 Model.refuseFar()I -/
theorem t_227_0 {d : Nat} {F A : Nat → Nat → Int32} {J : Nat → Nat → Int64} {G : pG} {Q : pR → pM → Prop} {SL p q : Nat} (hG : Geo G SL p q) (h : Q (.inl (some (.int (-99)))) (F, (wF A 79 1 ((A 79 1) + 1)), J, G)) : X d 227 0 [.ref 68] [] (F, A, J, G) Q := by
  refine Y_al0 i_227_0 ?_
  refine Y_gR i_227_1 ow_227 lf_10_60 (k_68 hG) (r_68_11 hG) ?_
  refine Y_iconst (v := 1) i_227_4 (by decide) ?_
  refine Y_dup2 i_227_5 rfl rfl ?_
  refine Y_iaload (k := 1) (v := (A 79 1)) i_227_6 (k_79 hG) (l_79 hG) (by decide) (by decide) rfl ?_
  refine Y_iconst (v := 1) i_227_7 (by decide) ?_
  refine Y_iadd i_227_8 ?_
  refine Y_iast (k := 1) i_227_9 (k_79 hG) (l_79 hG) (by decide) (by decide) ?_
  refine Y_bipush (v := (-99)) i_227_10 (by decide) ?_
  exact Y_iret i_227_12 rt_227 h
/- 228 Model.keep()V -/
theorem t_228_0 {d : Nat} {F A : Nat → Nat → Int32} {J : Nat → Nat → Int64} {G : pG} {Q : pR → pM → Prop} {SL p q : Nat} (hG : Geo G SL p q) (h : (((F 68 31) = 40 → X (d + 1) 228 12 [.ref 68, .int 43] [] (F, A, J, G) Q) ∧ (¬ (F 68 31) = 40 → X d 207 0 [.ref 68, .ref 85, .int ((43 : Int32) * (F 68 31)), .null] [] (F, A, J, G) (KK (d + 1) 228 67 [.ref 68, .null] [] Q)))) : X (d + 1) 228 0 [.ref 68, .null] [] (F, A, J, G) Q := by
  refine Y_al0 i_228_0 ?_
  refine Y_gI (v := (F 68 31)) i_228_1 ow_228 lf_10_285 (by decide) (k_68 hG) rfl ?_
  refine Y_bipush (v := 40) i_228_4 (by decide) ?_
  refine Y_cne i_228_6 (fun e1 => ?_) (fun e1 => ?_)
  · replace h := h.1 e1
    refine Y_bipush (v := 43) i_228_9 (by decide) ?_
    refine Y_is1 i_228_11 rfl ?_
    exact h
  · replace h := h.2 e1
    refine Y_al0 i_228_52 ?_
    refine Y_al0 i_228_53 ?_
    refine Y_gR i_228_54 ow_228 lf_10_82 (k_68 hG) (r_68_27 hG) ?_
    refine Y_bipush (v := 43) i_228_57 (by decide) ?_
    refine Y_al0 i_228_59 ?_
    refine Y_gI (v := (F 68 31)) i_228_60 ow_228 lf_10_285 (by decide) (k_68 hG) rfl ?_
    refine Y_imul i_228_63 ?_
    exact Y_iv2 (L0 := [.ref 68, .ref 85, .int ((43 : Int32) * (F 68 31)), .null]) i_228_64 ow_228 lm_10_347 ((k_68 hG).trans ow_207.symm) rfl mx_207 rfl rfl hd_228 h
theorem t_228_12 {d : Nat} {F A : Nat → Nat → Int32} {J : Nat → Nat → Int64} {G : pG} {Q : pR → pM → Prop} {SL p q : Nat} {x1 : Int32} (hG : Geo G SL p q) (h : ((x1 < 1720 → inB x1 1720 = true ∧ inB (x1 - 43) 1720 = true ∧ (X (d + 1) 228 12 [.ref 68, .int (x1 + 1)] [] (F, (wF A 85 (x1 - 43).toNatClampNeg (A 85 x1.toNatClampNeg)), J, G) Q)) ∧ (¬ x1 < 1720 → X d 207 0 [.ref 68, .ref 85, .int ((43 : Int32) * ((F 68 31) - 1)), .null] [] ((wF F 68 31 ((F 68 31) - 1)), A, J, G) (KK (d + 1) 228 67 [.ref 68, .int x1] [] Q)))) : X (d + 1) 228 12 [.ref 68, .int x1] [] (F, A, J, G) Q := by
  refine Y_il1 i_228_12 ?_
  refine Y_al0 i_228_13 ?_
  refine Y_gR i_228_14 ow_228 lf_10_82 (k_68 hG) (r_68_27 hG) ?_
  refine Y_alen (v := 1720) i_228_17 (Or.inl (k_85 hG)) (l_85 hG) (by decide) ?_
  refine Y_cge i_228_18 (fun e1 => ?_) (fun e1 => ?_)
  · replace h := h.1 e1
    refine Y_al0 i_228_21 ?_
    refine Y_gR i_228_22 ow_228 lf_10_82 (k_68 hG) (r_68_27 hG) ?_
    refine Y_il1 i_228_25 ?_
    refine Y_bipush (v := 43) i_228_26 (by decide) ?_
    refine Y_isub i_228_28 ?_
    refine Y_al0 i_228_29 ?_
    refine Y_gR i_228_30 ow_228 lf_10_82 (k_68 hG) (r_68_27 hG) ?_
    refine Y_il1 i_228_33 ?_
    have o2 := h.1
    replace h := h.2
    refine Y_iaload (k := x1.toNatClampNeg) (v := (A 85 x1.toNatClampNeg)) i_228_34 (k_85 hG) (l_85 hG) o2 rfl rfl ?_
    have o3 := h.1
    replace h := h.2
    refine Y_iast i_228_35 (k_85 hG) (l_85 hG) o3 rfl ?_
    refine Y_ii1 (v := 1) i_228_36 (by decide) rfl ?_
    refine Y_goto i_228_39 ?_
    exact h
  · replace h := h.2 e1
    refine Y_al0 i_228_42 ?_
    refine Y_dup i_228_43 rfl ?_
    refine Y_gI (v := (F 68 31)) i_228_44 ow_228 lf_10_285 (by decide) (k_68 hG) rfl ?_
    refine Y_iconst (v := 1) i_228_47 (by decide) ?_
    refine Y_isub i_228_48 ?_
    refine Y_pI i_228_49 ow_228 lf_10_285 (k_68 hG) ?_
    refine Y_al0 i_228_52 ?_
    refine Y_al0 i_228_53 ?_
    refine Y_gR i_228_54 ow_228 lf_10_82 (k_68 hG) (r_68_27 hG) ?_
    refine Y_bipush (v := 43) i_228_57 (by decide) ?_
    refine Y_al0 i_228_59 ?_
    refine Y_gI (v := ((F 68 31) - 1)) i_228_60 ow_228 lf_10_285 (by decide) (k_68 hG) (by simp [wF, wJ, va_up, cpR, bF, bA]) ?_
    refine Y_imul i_228_63 ?_
    exact Y_iv2 (L0 := [.ref 68, .ref 85, .int ((43 : Int32) * ((F 68 31) - 1)), .null]) i_228_64 ow_228 lm_10_347 ((k_68 hG).trans ow_207.symm) rfl mx_207 rfl rfl hd_228 h
theorem k_228_67 {d : Nat} {F A : Nat → Nat → Int32} {J : Nat → Nat → Int64} {G : pG} {Q : pR → pM → Prop} {SL p q : Nat} {v1 : Value} (hG : Geo G SL p q) (h : Q (.inl none) ((wF F 68 31 ((F 68 31) + 1)), A, J, G)) : KK (d + 1) 228 67 [.ref 68, v1] [] Q (.inl none) (F, A, J, G) := by
  refine KKv ?_
  refine Y_al0 i_228_67 ?_
  refine Y_dup i_228_68 rfl ?_
  refine Y_gI (v := (F 68 31)) i_228_69 ow_228 lf_10_285 (by decide) (k_68 hG) rfl ?_
  refine Y_iconst (v := 1) i_228_72 (by decide) ?_
  refine Y_iadd i_228_73 ?_
  refine Y_pI i_228_74 ow_228 lf_10_285 (k_68 hG) ?_
  exact Y_vret i_228_77 rt_228 h
/- 229 Model.put(II)I -/
theorem t_229_0 {d : Nat} {F A : Nat → Nat → Int32} {J : Nat → Nat → Int64} {G : pG} {Q : pR → pM → Prop} {SL p q : Nat} {x1 x2 : Int32} (hG : Geo G SL p q) (h : hB (A 72 0) = true ∧ (((inR x1 (A 72 0)) = true → hB ((wF F 68 3 0) 68 28) = true ∧ (((lvI (A 81) ((wF F 68 3 0) 68 28) x1) = (-1) → ((x2 < 0 → Q (.inl (some (.int (-1)))) ((wF F 68 3 0), (wF A 79 1 ((A 79 1) + 1)), J, G)) ∧ (¬ x2 < 0 → (((F 68 28) < x2 → Q (.inl (some (.int (-1)))) ((wF F 68 3 0), (wF A 79 1 ((A 79 1) + 1)), J, G)) ∧ (¬ (F 68 28) < x2 → X (d + 1) 228 0 [.ref 68, .null] [] ((wF F 68 3 0), A, J, G) (KK (d + 2) 229 50 [.ref 68, .int x1, .int x2, .null] [] Q)))))) ∧ (¬ (lvI (A 81) ((wF F 68 3 0) 68 28) x1) = (-1) → Q (.inl (some (.int (-1)))) ((wF F 68 3 0), (wF A 79 1 ((A 79 1) + 1)), J, G)))) ∧ ((inR x1 (A 72 0)) = false → Q (.inl (some (.int 0))) ((wF (wF F 68 3 0) 68 3 1), A, J, G)))) : X (d + 2) 229 0 [.ref 68, .int x1, .int x2, .null] [] (F, A, J, G) Q := by
  refine Y_al0 i_229_0 ?_
  refine Y_iconst (v := 0) i_229_1 (by decide) ?_
  refine Y_pI i_229_2 ow_229 lf_10_143 (k_68 hG) ?_
  refine Y_al0 i_229_5 ?_
  refine Y_il1 i_229_6 ?_
  have o1 := h.1
  replace h := h.2
  refine Y_iv1 (L0 := [.ref 68, .int x1]) i_229_7 ow_229 lm_10_333 ((k_68 hG).trans ow_180.symm) rfl mx_180 rfl rfl hd_229 ?_
  refine c_180 hG o1 (KKi ?_)
  refine Y_bne i_229_10 (fun e2 => ?_) (fun e2 => ?_)
  · replace h := h.1 e2
    refine Y_al0 i_229_19 ?_
    refine Y_il1 i_229_20 ?_
    have o3 := h.1
    replace h := h.2
    refine Y_iv1 (L0 := [.ref 68, .int x1, .null]) i_229_21 ow_229 lm_10_336 ((k_68 hG).trans ow_209.symm) rfl mx_209 rfl rfl hd_229 ?_
    refine c_209 hG o3 (KKi ?_)
    refine Y_iconst (v := (-1)) i_229_24 (by decide) ?_
    refine Y_cne i_229_25 (fun e4 => ?_) (fun e4 => ?_)
    · replace h := h.1 e4
      refine Y_il2 i_229_28 ?_
      refine Y_zlt i_229_29 (fun e5 => ?_) (fun e5 => ?_)
      · replace h := h.1 e5
        refine Y_al0 i_229_40 ?_
        refine Y_iconst (v := 1) i_229_41 (by decide) ?_
        refine Y_iv1 (L0 := [.ref 68, .int 1]) i_229_42 ow_229 lm_10_351 ((k_68 hG).trans ow_226.symm) rfl mx_226 rfl rfl hd_229 ?_
        refine Y_al0 i_226_0 ?_
        refine Y_gR i_226_1 ow_226 lf_10_60 (k_68 hG) (r_68_11 hG) ?_
        refine Y_il1 i_226_4 ?_
        refine Y_dup2 i_226_5 rfl rfl ?_
        refine Y_iaload (k := 1) (v := (A 79 1)) i_226_6 (k_79 hG) (l_79 hG) (by decide) (by decide) rfl ?_
        refine Y_iconst (v := 1) i_226_7 (by decide) ?_
        refine Y_iadd i_226_8 ?_
        refine Y_iast (k := 1) i_226_9 (k_79 hG) (l_79 hG) (by decide) (by decide) ?_
        refine Y_iconst (v := (-1)) i_226_10 (by decide) ?_
        refine Y_iret i_226_11 rt_226 (KKi ?_)
        exact Y_iret i_229_45 rt_229 h
      · replace h := h.2 e5
        refine Y_il2 i_229_32 ?_
        refine Y_al0 i_229_33 ?_
        refine Y_gI (v := (F 68 28)) i_229_34 ow_229 lf_10_150 (by decide) (k_68 hG) (by simp [wF, wJ, va_up, cpR, bF, bA]) ?_
        refine Y_cle i_229_37 (fun e6 => ?_) (fun e6 => ?_)
        · replace h := h.1 e6
          refine Y_al0 i_229_40 ?_
          refine Y_iconst (v := 1) i_229_41 (by decide) ?_
          refine Y_iv1 (L0 := [.ref 68, .int 1]) i_229_42 ow_229 lm_10_351 ((k_68 hG).trans ow_226.symm) rfl mx_226 rfl rfl hd_229 ?_
          refine Y_al0 i_226_0 ?_
          refine Y_gR i_226_1 ow_226 lf_10_60 (k_68 hG) (r_68_11 hG) ?_
          refine Y_il1 i_226_4 ?_
          refine Y_dup2 i_226_5 rfl rfl ?_
          refine Y_iaload (k := 1) (v := (A 79 1)) i_226_6 (k_79 hG) (l_79 hG) (by decide) (by decide) rfl ?_
          refine Y_iconst (v := 1) i_226_7 (by decide) ?_
          refine Y_iadd i_226_8 ?_
          refine Y_iast (k := 1) i_226_9 (k_79 hG) (l_79 hG) (by decide) (by decide) ?_
          refine Y_iconst (v := (-1)) i_226_10 (by decide) ?_
          refine Y_iret i_226_11 rt_226 (KKi ?_)
          exact Y_iret i_229_45 rt_229 h
        · replace h := h.2 e6
          refine Y_al0 i_229_46 ?_
          exact Y_iv0 (L0 := [.ref 68, .null]) i_229_47 ow_229 lm_10_354 ((k_68 hG).trans ow_228.symm) rfl mx_228 rfl rfl hd_229 h
    · replace h := h.2 e4
      refine Y_al0 i_229_40 ?_
      refine Y_iconst (v := 1) i_229_41 (by decide) ?_
      refine Y_iv1 (L0 := [.ref 68, .int 1]) i_229_42 ow_229 lm_10_351 ((k_68 hG).trans ow_226.symm) rfl mx_226 rfl rfl hd_229 ?_
      refine Y_al0 i_226_0 ?_
      refine Y_gR i_226_1 ow_226 lf_10_60 (k_68 hG) (r_68_11 hG) ?_
      refine Y_il1 i_226_4 ?_
      refine Y_dup2 i_226_5 rfl rfl ?_
      refine Y_iaload (k := 1) (v := (A 79 1)) i_226_6 (k_79 hG) (l_79 hG) (by decide) (by decide) rfl ?_
      refine Y_iconst (v := 1) i_226_7 (by decide) ?_
      refine Y_iadd i_226_8 ?_
      refine Y_iast (k := 1) i_226_9 (k_79 hG) (l_79 hG) (by decide) (by decide) ?_
      refine Y_iconst (v := (-1)) i_226_10 (by decide) ?_
      refine Y_iret i_226_11 rt_226 (KKi ?_)
      exact Y_iret i_229_45 rt_229 h
  · replace h := h.2 e2
    refine Y_al0 i_229_13 ?_
    refine Y_iconst (v := 1) i_229_14 (by decide) ?_
    refine Y_iv1 (L0 := [.ref 68, .int 1]) i_229_15 ow_229 lm_10_269 ((k_68 hG).trans ow_176.symm) rfl mx_176 rfl rfl hd_229 ?_
    refine Y_al0 i_176_0 ?_
    refine Y_il1 i_176_1 ?_
    refine Y_pI i_176_2 ow_176 lf_10_143 (k_68 hG) ?_
    refine Y_iconst (v := 0) i_176_5 (by decide) ?_
    refine Y_iret i_176_6 rt_176 (KKi ?_)
    exact Y_iret i_229_18 rt_229 h
theorem k_229_50 {d : Nat} {F A : Nat → Nat → Int32} {J : Nat → Nat → Int64} {G : pG} {Q : pR → pM → Prop} {SL p q : Nat} {x1 x2 : Int32} (hG : Geo G SL p q) (h : X (d + 2) 229 55 [.ref 68, .int x1, .int x2, .int (F 68 28)] [] (F, A, J, G) Q) : KK (d + 2) 229 50 [.ref 68, .int x1, .int x2, .null] [] Q (.inl none) (F, A, J, G) := by
  refine KKv ?_
  refine Y_al0 i_229_50 ?_
  refine Y_gI (v := (F 68 28)) i_229_51 ow_229 lf_10_150 (by decide) (k_68 hG) rfl ?_
  refine Y_is3 i_229_54 rfl ?_
  exact h
theorem t_229_55 {d : Nat} {F A : Nat → Nat → Int32} {J : Nat → Nat → Int64} {G : pG} {Q : pR → pM → Prop} {SL p q : Nat} {x1 x2 x3 : Int32} (hG : Geo G SL p q) (h : ((x2 < x3 → inB (x3 - 1) 10 = true ∧ inB x3 10 = true ∧ (X (d + 2) 229 55 [.ref 68, .int x1, .int x2, .int (x3 + (-1))] [] (F, (wF A 81 x3.toNatClampNeg (A 81 (x3 - 1).toNatClampNeg)), J, G) Q)) ∧ (¬ x2 < x3 → inB x2 10 = true ∧ (Q (.inl (some (.int ((F 68 28) + 1)))) ((wF F 68 28 ((F 68 28) + 1)), (wF A 81 x2.toNatClampNeg x1), J, G))))) : X (d + 2) 229 55 [.ref 68, .int x1, .int x2, .int x3] [] (F, A, J, G) Q := by
  refine Y_il3 i_229_55 ?_
  refine Y_il2 i_229_56 ?_
  refine Y_cle i_229_57 (fun e1 => ?_) (fun e1 => ?_)
  · replace h := h.1 e1
    refine Y_al0 i_229_60 ?_
    refine Y_gR i_229_61 ow_229 lf_10_70 (k_68 hG) (r_68_23 hG) ?_
    refine Y_il3 i_229_64 ?_
    refine Y_al0 i_229_65 ?_
    refine Y_gR i_229_66 ow_229 lf_10_70 (k_68 hG) (r_68_23 hG) ?_
    refine Y_il3 i_229_69 ?_
    refine Y_iconst (v := 1) i_229_70 (by decide) ?_
    refine Y_isub i_229_71 ?_
    have o2 := h.1
    replace h := h.2
    refine Y_iaload (k := (x3 - 1).toNatClampNeg) (v := (A 81 (x3 - 1).toNatClampNeg)) i_229_72 (k_81 hG) (l_81 hG) o2 rfl rfl ?_
    have o3 := h.1
    replace h := h.2
    refine Y_iast i_229_73 (k_81 hG) (l_81 hG) o3 rfl ?_
    refine Y_ii3 (v := (-1)) i_229_74 (by decide) rfl ?_
    refine Y_goto i_229_77 ?_
    exact h
  · replace h := h.2 e1
    refine Y_al0 i_229_80 ?_
    refine Y_gR i_229_81 ow_229 lf_10_70 (k_68 hG) (r_68_23 hG) ?_
    refine Y_il2 i_229_84 ?_
    refine Y_il1 i_229_85 ?_
    have o4 := h.1
    replace h := h.2
    refine Y_iast i_229_86 (k_81 hG) (l_81 hG) o4 rfl ?_
    refine Y_al0 i_229_87 ?_
    refine Y_dup i_229_88 rfl ?_
    refine Y_gI (v := (F 68 28)) i_229_89 ow_229 lf_10_150 (by decide) (k_68 hG) rfl ?_
    refine Y_iconst (v := 1) i_229_92 (by decide) ?_
    refine Y_iadd i_229_93 ?_
    refine Y_pI i_229_94 ow_229 lf_10_150 (k_68 hG) ?_
    refine Y_al0 i_229_97 ?_
    refine Y_gI (v := ((F 68 28) + 1)) i_229_98 ow_229 lf_10_150 (by decide) (k_68 hG) (by simp [wF, wJ, va_up, cpR, bF, bA]) ?_
    exact Y_iret i_229_101 rt_229 h
/- 230 Model.takeOff(I)V -/
theorem t_230_0 {d : Nat} {F A : Nat → Nat → Int32} {J : Nat → Nat → Int64} {G : pG} {Q : pR → pM → Prop} {SL p q : Nat} {x1 : Int32} (hG : Geo G SL p q) (h : hB (F 68 28) = true ∧ (X (d + 1) 230 18 [.ref 68, .int x1, .int (lvI (A 81) (F 68 28) x1), .int (lvI (A 81) (F 68 28) x1)] [] ((wF F 68 28 ((F 68 28) - 1)), A, J, G) Q)) : X (d + 1) 230 0 [.ref 68, .int x1, .null, .null] [] (F, A, J, G) Q := by
  refine Y_al0 i_230_0 ?_
  refine Y_il1 i_230_1 ?_
  have o1 := h.1
  replace h := h.2
  refine Y_iv1 (L0 := [.ref 68, .int x1, .null]) i_230_2 ow_230 lm_10_336 ((k_68 hG).trans ow_209.symm) rfl mx_209 rfl rfl hd_230 ?_
  refine c_209 hG o1 (KKi ?_)
  refine Y_is2 i_230_5 rfl ?_
  refine Y_al0 i_230_6 ?_
  refine Y_dup i_230_7 rfl ?_
  refine Y_gI (v := (F 68 28)) i_230_8 ow_230 lf_10_150 (by decide) (k_68 hG) rfl ?_
  refine Y_iconst (v := 1) i_230_11 (by decide) ?_
  refine Y_isub i_230_12 ?_
  refine Y_pI i_230_13 ow_230 lf_10_150 (k_68 hG) ?_
  refine Y_il2 i_230_16 ?_
  refine Y_is3 i_230_17 rfl ?_
  exact h
theorem t_230_18 {d : Nat} {F A : Nat → Nat → Int32} {J : Nat → Nat → Int64} {G : pG} {Q : pR → pM → Prop} {SL p q : Nat} {x1 x2 x3 : Int32} (hG : Geo G SL p q) (h : ((x3 < (F 68 28) → inB (x3 + 1) 10 = true ∧ inB x3 10 = true ∧ (X (d + 1) 230 18 [.ref 68, .int x1, .int x2, .int (x3 + 1)] [] (F, (wF A 81 x3.toNatClampNeg (A 81 (x3 + 1).toNatClampNeg)), J, G) Q)) ∧ (¬ x3 < (F 68 28) → inB x1 10 = true ∧ (Q (.inl none) (F, (wF A 82 x1.toNatClampNeg 0), J, G))))) : X (d + 1) 230 18 [.ref 68, .int x1, .int x2, .int x3] [] (F, A, J, G) Q := by
  refine Y_il3 i_230_18 ?_
  refine Y_al0 i_230_19 ?_
  refine Y_gI (v := (F 68 28)) i_230_20 ow_230 lf_10_150 (by decide) (k_68 hG) rfl ?_
  refine Y_cge i_230_23 (fun e1 => ?_) (fun e1 => ?_)
  · replace h := h.1 e1
    refine Y_al0 i_230_26 ?_
    refine Y_gR i_230_27 ow_230 lf_10_70 (k_68 hG) (r_68_23 hG) ?_
    refine Y_il3 i_230_30 ?_
    refine Y_al0 i_230_31 ?_
    refine Y_gR i_230_32 ow_230 lf_10_70 (k_68 hG) (r_68_23 hG) ?_
    refine Y_il3 i_230_35 ?_
    refine Y_iconst (v := 1) i_230_36 (by decide) ?_
    refine Y_iadd i_230_37 ?_
    have o2 := h.1
    replace h := h.2
    refine Y_iaload (k := (x3 + 1).toNatClampNeg) (v := (A 81 (x3 + 1).toNatClampNeg)) i_230_38 (k_81 hG) (l_81 hG) o2 rfl rfl ?_
    have o3 := h.1
    replace h := h.2
    refine Y_iast i_230_39 (k_81 hG) (l_81 hG) o3 rfl ?_
    refine Y_ii3 (v := 1) i_230_40 (by decide) rfl ?_
    refine Y_goto i_230_43 ?_
    exact h
  · replace h := h.2 e1
    refine Y_al0 i_230_46 ?_
    refine Y_gR i_230_47 ow_230 lf_10_73 (k_68 hG) (r_68_24 hG) ?_
    refine Y_il1 i_230_50 ?_
    refine Y_iconst (v := 0) i_230_51 (by decide) ?_
    have o4 := h.1
    replace h := h.2
    refine Y_iast i_230_52 (k_82 hG) (l_82 hG) o4 rfl ?_
    exact Y_vret i_230_53 rt_230 h
/- 231 Model.take(I)I -/
theorem t_231_0 {d : Nat} {F A : Nat → Nat → Int32} {J : Nat → Nat → Int64} {G : pG} {Q : pR → pM → Prop} {SL p q : Nat} {x1 : Int32} (hG : Geo G SL p q) (h : hB (A 72 0) = true ∧ (((inR x1 (A 72 0)) = true → hB ((wF F 68 3 0) 68 28) = true ∧ (((lvI (A 81) ((wF F 68 3 0) 68 28) x1) = (-1) → Q (.inl (some (.int (-1)))) ((wF F 68 3 0), (wF A 79 1 ((A 79 1) + 1)), J, G)) ∧ (¬ (lvI (A 81) ((wF F 68 3 0) 68 28) x1) = (-1) → X (d + 1) 228 0 [.ref 68, .null] [] ((wF F 68 3 0), A, J, G) (KK (d + 2) 231 40 [.ref 68, .int x1, .int (lvI (A 81) ((wF F 68 3 0) 68 28) x1)] [] Q)))) ∧ ((inR x1 (A 72 0)) = false → Q (.inl (some (.int 0))) ((wF (wF F 68 3 0) 68 3 1), A, J, G)))) : X (d + 2) 231 0 [.ref 68, .int x1, .null] [] (F, A, J, G) Q := by
  refine Y_al0 i_231_0 ?_
  refine Y_iconst (v := 0) i_231_1 (by decide) ?_
  refine Y_pI i_231_2 ow_231 lf_10_143 (k_68 hG) ?_
  refine Y_al0 i_231_5 ?_
  refine Y_il1 i_231_6 ?_
  have o1 := h.1
  replace h := h.2
  refine Y_iv1 (L0 := [.ref 68, .int x1]) i_231_7 ow_231 lm_10_333 ((k_68 hG).trans ow_180.symm) rfl mx_180 rfl rfl hd_231 ?_
  refine c_180 hG o1 (KKi ?_)
  refine Y_bne i_231_10 (fun e2 => ?_) (fun e2 => ?_)
  · replace h := h.1 e2
    refine Y_al0 i_231_19 ?_
    refine Y_il1 i_231_20 ?_
    have o3 := h.1
    replace h := h.2
    refine Y_iv1 (L0 := [.ref 68, .int x1, .null]) i_231_21 ow_231 lm_10_336 ((k_68 hG).trans ow_209.symm) rfl mx_209 rfl rfl hd_231 ?_
    refine c_209 hG o3 (KKi ?_)
    refine Y_is2 i_231_24 rfl ?_
    refine Y_il2 i_231_25 ?_
    refine Y_iconst (v := (-1)) i_231_26 (by decide) ?_
    refine Y_cne i_231_27 (fun e4 => ?_) (fun e4 => ?_)
    · replace h := h.1 e4
      refine Y_al0 i_231_30 ?_
      refine Y_iconst (v := 1) i_231_31 (by decide) ?_
      refine Y_iv1 (L0 := [.ref 68, .int 1]) i_231_32 ow_231 lm_10_351 ((k_68 hG).trans ow_226.symm) rfl mx_226 rfl rfl hd_231 ?_
      refine Y_al0 i_226_0 ?_
      refine Y_gR i_226_1 ow_226 lf_10_60 (k_68 hG) (r_68_11 hG) ?_
      refine Y_il1 i_226_4 ?_
      refine Y_dup2 i_226_5 rfl rfl ?_
      refine Y_iaload (k := 1) (v := (A 79 1)) i_226_6 (k_79 hG) (l_79 hG) (by decide) (by decide) rfl ?_
      refine Y_iconst (v := 1) i_226_7 (by decide) ?_
      refine Y_iadd i_226_8 ?_
      refine Y_iast (k := 1) i_226_9 (k_79 hG) (l_79 hG) (by decide) (by decide) ?_
      refine Y_iconst (v := (-1)) i_226_10 (by decide) ?_
      refine Y_iret i_226_11 rt_226 (KKi ?_)
      exact Y_iret i_231_35 rt_231 h
    · replace h := h.2 e4
      refine Y_al0 i_231_36 ?_
      exact Y_iv0 (L0 := [.ref 68, .null]) i_231_37 ow_231 lm_10_354 ((k_68 hG).trans ow_228.symm) rfl mx_228 rfl rfl hd_231 h
  · replace h := h.2 e2
    refine Y_al0 i_231_13 ?_
    refine Y_iconst (v := 1) i_231_14 (by decide) ?_
    refine Y_iv1 (L0 := [.ref 68, .int 1]) i_231_15 ow_231 lm_10_269 ((k_68 hG).trans ow_176.symm) rfl mx_176 rfl rfl hd_231 ?_
    refine Y_al0 i_176_0 ?_
    refine Y_il1 i_176_1 ?_
    refine Y_pI i_176_2 ow_176 lf_10_143 (k_68 hG) ?_
    refine Y_iconst (v := 0) i_176_5 (by decide) ?_
    refine Y_iret i_176_6 rt_176 (KKi ?_)
    exact Y_iret i_231_18 rt_231 h
theorem k_231_40 {d : Nat} {F A : Nat → Nat → Int32} {J : Nat → Nat → Int64} {G : pG} {Q : pR → pM → Prop} {SL p q : Nat} {x1 x2 : Int32} (hG : Geo G SL p q) (h : X (d + 1) 230 0 [.ref 68, .int x1, .null, .null] [] (F, A, J, G) (KK (d + 2) 231 45 [.ref 68, .int x1, .int x2] [] Q)) : KK (d + 2) 231 40 [.ref 68, .int x1, .int x2] [] Q (.inl none) (F, A, J, G) := by
  refine KKv ?_
  refine Y_al0 i_231_40 ?_
  refine Y_il1 i_231_41 ?_
  exact Y_iv1 (L0 := [.ref 68, .int x1, .null, .null]) i_231_42 ow_231 lm_10_357 ((k_68 hG).trans ow_230.symm) rfl mx_230 rfl rfl hd_231 h
theorem k_231_45 {d : Nat} {F A : Nat → Nat → Int32} {J : Nat → Nat → Int64} {G : pG} {Q : pR → pM → Prop} {SL p q : Nat} {x1 x2 : Int32} (hG : Geo G SL p q) (h : Q (.inl (some (.int x2))) (F, A, J, G)) : KK (d + 2) 231 45 [.ref 68, .int x1, .int x2] [] Q (.inl none) (F, A, J, G) := by
  refine KKv ?_
  refine Y_il2 i_231_45 ?_
  exact Y_iret i_231_46 rt_231 h
/- 232 Model.exchange(II)V -/
theorem t_232_0 {d : Nat} {F A : Nat → Nat → Int32} {J : Nat → Nat → Int64} {G : pG} {Q : pR → pM → Prop} {SL p q : Nat} {x1 x2 : Int32} (hG : Geo G SL p q) (h : inB x1 10 = true ∧ inB x2 10 = true ∧ (Q (.inl none) (F, (wF (wF A 81 x1.toNatClampNeg (A 81 x2.toNatClampNeg)) 81 x2.toNatClampNeg (A 81 x1.toNatClampNeg)), J, G))) : X d 232 0 [.ref 68, .int x1, .int x2, .null] [] (F, A, J, G) Q := by
  refine Y_al0 i_232_0 ?_
  refine Y_gR i_232_1 ow_232 lf_10_70 (k_68 hG) (r_68_23 hG) ?_
  refine Y_il1 i_232_4 ?_
  have o1 := h.1
  replace h := h.2
  refine Y_iaload (k := x1.toNatClampNeg) (v := (A 81 x1.toNatClampNeg)) i_232_5 (k_81 hG) (l_81 hG) o1 rfl rfl ?_
  refine Y_is3 i_232_6 rfl ?_
  refine Y_al0 i_232_7 ?_
  refine Y_gR i_232_8 ow_232 lf_10_70 (k_68 hG) (r_68_23 hG) ?_
  refine Y_il1 i_232_11 ?_
  refine Y_al0 i_232_12 ?_
  refine Y_gR i_232_13 ow_232 lf_10_70 (k_68 hG) (r_68_23 hG) ?_
  refine Y_il2 i_232_16 ?_
  have o2 := h.1
  replace h := h.2
  refine Y_iaload (k := x2.toNatClampNeg) (v := (A 81 x2.toNatClampNeg)) i_232_17 (k_81 hG) (l_81 hG) o2 rfl rfl ?_
  refine Y_iast i_232_18 (k_81 hG) (l_81 hG) o1 rfl ?_
  refine Y_al0 i_232_19 ?_
  refine Y_gR i_232_20 ow_232 lf_10_70 (k_68 hG) (r_68_23 hG) ?_
  refine Y_il2 i_232_23 ?_
  refine Y_il3 i_232_24 ?_
  refine Y_iast i_232_25 (k_81 hG) (l_81 hG) o2 rfl ?_
  exact Y_vret i_232_26 rt_232 h
/- 233 Model.change(II)Z -/
theorem t_233_0 {d : Nat} {F A : Nat → Nat → Int32} {J : Nat → Nat → Int64} {G : pG} {Q : pR → pM → Prop} {SL p q : Nat} {x1 x2 : Int32} (hG : Geo G SL p q) (h : hB ((wF F 68 3 0) 68 28) = true ∧ (((inR x1 ((wF F 68 3 0) 68 28)) = true → (((inR x2 ((wF F 68 3 0) 68 28)) = true → ((x1 = x2 → Q (.inl (some (.int 0))) ((wF F 68 3 0), (wF A 79 1 ((A 79 1) + 1)), J, G)) ∧ (¬ x1 = x2 → X (d + 1) 228 0 [.ref 68, .null] [] ((wF F 68 3 0), A, J, G) (KK (d + 2) 233 48 [.ref 68, .int x1, .int x2] [] Q)))) ∧ ((inR x2 ((wF F 68 3 0) 68 28)) = false → Q (.inl (some (.int 0))) ((wF (wF F 68 3 0) 68 3 1), A, J, G)))) ∧ ((inR x1 ((wF F 68 3 0) 68 28)) = false → Q (.inl (some (.int 0))) ((wF (wF F 68 3 0) 68 3 1), A, J, G)))) : X (d + 2) 233 0 [.ref 68, .int x1, .int x2] [] (F, A, J, G) Q := by
  refine Y_al0 i_233_0 ?_
  refine Y_iconst (v := 0) i_233_1 (by decide) ?_
  refine Y_pI i_233_2 ow_233 lf_10_143 (k_68 hG) ?_
  refine Y_al0 i_233_5 ?_
  refine Y_il1 i_233_6 ?_
  have o1 := h.1
  replace h := h.2
  refine Y_iv1 (L0 := [.ref 68, .int x1]) i_233_7 ow_233 lm_10_342 ((k_68 hG).trans ow_181.symm) rfl mx_181 rfl rfl hd_233 ?_
  refine c_181 hG o1 (KKi ?_)
  refine Y_beq i_233_10 (fun e2 => ?_) (fun e2 => ?_)
  · replace h := h.1 e2
    refine Y_al0 i_233_13 ?_
    refine Y_il2 i_233_14 ?_
    refine Y_iv1 (L0 := [.ref 68, .int x2]) i_233_15 ow_233 lm_10_342 ((k_68 hG).trans ow_181.symm) rfl mx_181 rfl rfl hd_233 ?_
    refine c_181 hG o1 (KKi ?_)
    refine Y_bne i_233_18 (fun e3 => ?_) (fun e3 => ?_)
    · replace h := h.1 e3
      refine Y_il1 i_233_27 ?_
      refine Y_il2 i_233_28 ?_
      refine Y_cne i_233_29 (fun e4 => ?_) (fun e4 => ?_)
      · replace h := h.1 e4
        refine Y_al0 i_233_32 ?_
        refine Y_gR i_233_33 ow_233 lf_10_60 (k_68 hG) (r_68_11 hG) ?_
        refine Y_iconst (v := 1) i_233_36 (by decide) ?_
        refine Y_dup2 i_233_37 rfl rfl ?_
        refine Y_iaload (k := 1) (v := (A 79 1)) i_233_38 (k_79 hG) (l_79 hG) (by decide) (by decide) rfl ?_
        refine Y_iconst (v := 1) i_233_39 (by decide) ?_
        refine Y_iadd i_233_40 ?_
        refine Y_iast (k := 1) i_233_41 (k_79 hG) (l_79 hG) (by decide) (by decide) ?_
        refine Y_iconst (v := 0) i_233_42 (by decide) ?_
        exact Y_bret i_233_43 rt_233 (by decide) h
      · replace h := h.2 e4
        refine Y_al0 i_233_44 ?_
        exact Y_iv0 (L0 := [.ref 68, .null]) i_233_45 ow_233 lm_10_354 ((k_68 hG).trans ow_228.symm) rfl mx_228 rfl rfl hd_233 h
    · replace h := h.2 e3
      refine Y_al0 i_233_21 ?_
      refine Y_iconst (v := 1) i_233_22 (by decide) ?_
      refine Y_iv1 (L0 := [.ref 68, .int 1]) i_233_23 ow_233 lm_10_360 ((k_68 hG).trans ow_177.symm) rfl mx_177 rfl rfl hd_233 ?_
      refine Y_al0 i_177_0 ?_
      refine Y_il1 i_177_1 ?_
      refine Y_pI i_177_2 ow_177 lf_10_143 (k_68 hG) ?_
      refine Y_iconst (v := 0) i_177_5 (by decide) ?_
      refine Y_bret i_177_6 rt_177 (by decide) (KKi ?_)
      exact Y_bret i_233_26 rt_233 (by decide) h
  · replace h := h.2 e2
    refine Y_al0 i_233_21 ?_
    refine Y_iconst (v := 1) i_233_22 (by decide) ?_
    refine Y_iv1 (L0 := [.ref 68, .int 1]) i_233_23 ow_233 lm_10_360 ((k_68 hG).trans ow_177.symm) rfl mx_177 rfl rfl hd_233 ?_
    refine Y_al0 i_177_0 ?_
    refine Y_il1 i_177_1 ?_
    refine Y_pI i_177_2 ow_177 lf_10_143 (k_68 hG) ?_
    refine Y_iconst (v := 0) i_177_5 (by decide) ?_
    refine Y_bret i_177_6 rt_177 (by decide) (KKi ?_)
    exact Y_bret i_233_26 rt_233 (by decide) h
theorem k_233_48 {d : Nat} {F A : Nat → Nat → Int32} {J : Nat → Nat → Int64} {G : pG} {Q : pR → pM → Prop} {SL p q : Nat} {x1 x2 : Int32} (hG : Geo G SL p q) (h : inB x1 10 = true ∧ inB x2 10 = true ∧ (Q (.inl (some (.int 1))) (F, (wF (wF A 81 x1.toNatClampNeg (A 81 x2.toNatClampNeg)) 81 x2.toNatClampNeg (A 81 x1.toNatClampNeg)), J, G))) : KK (d + 2) 233 48 [.ref 68, .int x1, .int x2] [] Q (.inl none) (F, A, J, G) := by
  refine KKv ?_
  refine Y_al0 i_233_48 ?_
  refine Y_il1 i_233_49 ?_
  refine Y_il2 i_233_50 ?_
  refine Y_iv2 (L0 := [.ref 68, .int x1, .int x2, .null]) i_233_51 ow_233 lm_10_363 ((k_68 hG).trans ow_232.symm) rfl mx_232 rfl rfl hd_233 ?_
  refine Y_al0 i_232_0 ?_
  refine Y_gR i_232_1 ow_232 lf_10_70 (k_68 hG) (r_68_23 hG) ?_
  refine Y_il1 i_232_4 ?_
  have o1 := h.1
  replace h := h.2
  refine Y_iaload (k := x1.toNatClampNeg) (v := (A 81 x1.toNatClampNeg)) i_232_5 (k_81 hG) (l_81 hG) o1 rfl rfl ?_
  refine Y_is3 i_232_6 rfl ?_
  refine Y_al0 i_232_7 ?_
  refine Y_gR i_232_8 ow_232 lf_10_70 (k_68 hG) (r_68_23 hG) ?_
  refine Y_il1 i_232_11 ?_
  refine Y_al0 i_232_12 ?_
  refine Y_gR i_232_13 ow_232 lf_10_70 (k_68 hG) (r_68_23 hG) ?_
  refine Y_il2 i_232_16 ?_
  have o2 := h.1
  replace h := h.2
  refine Y_iaload (k := x2.toNatClampNeg) (v := (A 81 x2.toNatClampNeg)) i_232_17 (k_81 hG) (l_81 hG) o2 rfl rfl ?_
  refine Y_iast i_232_18 (k_81 hG) (l_81 hG) o1 rfl ?_
  refine Y_al0 i_232_19 ?_
  refine Y_gR i_232_20 ow_232 lf_10_70 (k_68 hG) (r_68_23 hG) ?_
  refine Y_il2 i_232_23 ?_
  refine Y_il3 i_232_24 ?_
  refine Y_iast i_232_25 (k_81 hG) (l_81 hG) o2 rfl ?_
  refine Y_vret i_232_26 rt_232 (KKv ?_)
  refine Y_iconst (v := 1) i_233_54 (by decide) ?_
  exact Y_bret i_233_55 rt_233 (by decide) h
/- 234 Model.wedge(II)I -/
theorem t_234_0 {d : Nat} {F A : Nat → Nat → Int32} {J : Nat → Nat → Int64} {G : pG} {Q : pR → pM → Prop} {SL p q : Nat} {x1 x2 : Int32} (hG : Geo G SL p q) (h : hB (A 72 0) = true ∧ (((inR x1 (A 72 0)) = true → (((inL x2.toInt64 (-9) 9) = true → X (d + 1) 228 0 [.ref 68, .null] [] ((wF F 68 3 0), A, J, G) (KK (d + 2) 234 42 [.ref 68, .int x1, .int x2, .null] [] Q)) ∧ ((inL x2.toInt64 (-9) 9) = false → Q (.inl (some (.int (-99)))) ((wF F 68 3 0), (wF A 79 1 ((A 79 1) + 1)), J, G)))) ∧ ((inR x1 (A 72 0)) = false → Q (.inl (some (.int 0))) ((wF (wF F 68 3 0) 68 3 1), A, J, G)))) : X (d + 2) 234 0 [.ref 68, .int x1, .int x2, .null] [] (F, A, J, G) Q := by
  refine Y_al0 i_234_0 ?_
  refine Y_iconst (v := 0) i_234_1 (by decide) ?_
  refine Y_pI i_234_2 ow_234 lf_10_143 (k_68 hG) ?_
  refine Y_al0 i_234_5 ?_
  refine Y_il1 i_234_6 ?_
  have o1 := h.1
  replace h := h.2
  refine Y_iv1 (L0 := [.ref 68, .int x1]) i_234_7 ow_234 lm_10_333 ((k_68 hG).trans ow_180.symm) rfl mx_180 rfl rfl hd_234 ?_
  refine c_180 hG o1 (KKi ?_)
  refine Y_bne i_234_10 (fun e2 => ?_) (fun e2 => ?_)
  · replace h := h.1 e2
    refine Y_il2 i_234_19 ?_
    refine Y_i2l i_234_20 ?_
    refine Y_ldcL i_234_21 ow_234 lj_10_367 ?_
    refine Y_ldcL i_234_24 ow_234 lj_10_369 ?_
    refine Y_is_3 (L0 := [.long x2.toInt64, .null, .long (-9), .null, .long 9, .null]) i_234_27 ow_234 lm_10_146 rfl mx_178 rfl rfl hd_234 ?_
    refine c_178 hG (KKi ?_)
    refine Y_bne i_234_30 (fun e3 => ?_) (fun e3 => ?_)
    · replace h := h.1 e3
      refine Y_al0 i_234_38 ?_
      exact Y_iv0 (L0 := [.ref 68, .null]) i_234_39 ow_234 lm_10_354 ((k_68 hG).trans ow_228.symm) rfl mx_228 rfl rfl hd_234 h
    · replace h := h.2 e3
      refine Y_al0 i_234_33 ?_
      refine Y_iv0 (L0 := [.ref 68]) i_234_34 ow_234 lm_10_371 ((k_68 hG).trans ow_227.symm) rfl mx_227 rfl rfl hd_234 ?_
      refine Y_al0 i_227_0 ?_
      refine Y_gR i_227_1 ow_227 lf_10_60 (k_68 hG) (r_68_11 hG) ?_
      refine Y_iconst (v := 1) i_227_4 (by decide) ?_
      refine Y_dup2 i_227_5 rfl rfl ?_
      refine Y_iaload (k := 1) (v := (A 79 1)) i_227_6 (k_79 hG) (l_79 hG) (by decide) (by decide) rfl ?_
      refine Y_iconst (v := 1) i_227_7 (by decide) ?_
      refine Y_iadd i_227_8 ?_
      refine Y_iast (k := 1) i_227_9 (k_79 hG) (l_79 hG) (by decide) (by decide) ?_
      refine Y_bipush (v := (-99)) i_227_10 (by decide) ?_
      refine Y_iret i_227_12 rt_227 (KKi ?_)
      exact Y_iret i_234_37 rt_234 h
  · replace h := h.2 e2
    refine Y_al0 i_234_13 ?_
    refine Y_iconst (v := 1) i_234_14 (by decide) ?_
    refine Y_iv1 (L0 := [.ref 68, .int 1]) i_234_15 ow_234 lm_10_269 ((k_68 hG).trans ow_176.symm) rfl mx_176 rfl rfl hd_234 ?_
    refine Y_al0 i_176_0 ?_
    refine Y_il1 i_176_1 ?_
    refine Y_pI i_176_2 ow_176 lf_10_143 (k_68 hG) ?_
    refine Y_iconst (v := 0) i_176_5 (by decide) ?_
    refine Y_iret i_176_6 rt_176 (KKi ?_)
    exact Y_iret i_234_18 rt_234 h
theorem k_234_42 {d : Nat} {F A : Nat → Nat → Int32} {J : Nat → Nat → Int64} {G : pG} {Q : pR → pM → Prop} {SL p q : Nat} {x1 x2 : Int32} (hG : Geo G SL p q) (h : inB x1 10 = true ∧ (Q (.inl (some (.int (A 83 x1.toNatClampNeg)))) (F, (wF A 83 x1.toNatClampNeg x2), J, G))) : KK (d + 2) 234 42 [.ref 68, .int x1, .int x2, .null] [] Q (.inl none) (F, A, J, G) := by
  refine KKv ?_
  refine Y_al0 i_234_42 ?_
  refine Y_gR i_234_43 ow_234 lf_10_76 (k_68 hG) (r_68_25 hG) ?_
  refine Y_il1 i_234_46 ?_
  have o1 := h.1
  replace h := h.2
  refine Y_iaload (k := x1.toNatClampNeg) (v := (A 83 x1.toNatClampNeg)) i_234_47 (k_83 hG) (l_83 hG) o1 rfl rfl ?_
  refine Y_is3 i_234_48 rfl ?_
  refine Y_al0 i_234_49 ?_
  refine Y_gR i_234_50 ow_234 lf_10_76 (k_68 hG) (r_68_25 hG) ?_
  refine Y_il1 i_234_53 ?_
  refine Y_il2 i_234_54 ?_
  refine Y_iast i_234_55 (k_83 hG) (l_83 hG) o1 rfl ?_
  refine Y_il3 i_234_56 ?_
  exact Y_iret i_234_57 rt_234 h
/- 235 Model.saw(II)I -/
theorem t_235_0 {d : Nat} {F A : Nat → Nat → Int32} {J : Nat → Nat → Int64} {G : pG} {Q : pR → pM → Prop} {SL p q : Nat} {x1 x2 : Int32} (hG : Geo G SL p q) (h : hB (A 72 0) = true ∧ (((inR x1 (A 72 0)) = true → (((inL x2.toInt64 (-9) 9) = true → X (d + 1) 228 0 [.ref 68, .null] [] ((wF F 68 3 0), A, J, G) (KK (d + 2) 235 42 [.ref 68, .int x1, .int x2, .null] [] Q)) ∧ ((inL x2.toInt64 (-9) 9) = false → Q (.inl (some (.int (-99)))) ((wF F 68 3 0), (wF A 79 1 ((A 79 1) + 1)), J, G)))) ∧ ((inR x1 (A 72 0)) = false → Q (.inl (some (.int 0))) ((wF (wF F 68 3 0) 68 3 1), A, J, G)))) : X (d + 2) 235 0 [.ref 68, .int x1, .int x2, .null] [] (F, A, J, G) Q := by
  refine Y_al0 i_235_0 ?_
  refine Y_iconst (v := 0) i_235_1 (by decide) ?_
  refine Y_pI i_235_2 ow_235 lf_10_143 (k_68 hG) ?_
  refine Y_al0 i_235_5 ?_
  refine Y_il1 i_235_6 ?_
  have o1 := h.1
  replace h := h.2
  refine Y_iv1 (L0 := [.ref 68, .int x1]) i_235_7 ow_235 lm_10_333 ((k_68 hG).trans ow_180.symm) rfl mx_180 rfl rfl hd_235 ?_
  refine c_180 hG o1 (KKi ?_)
  refine Y_bne i_235_10 (fun e2 => ?_) (fun e2 => ?_)
  · replace h := h.1 e2
    refine Y_il2 i_235_19 ?_
    refine Y_i2l i_235_20 ?_
    refine Y_ldcL i_235_21 ow_235 lj_10_367 ?_
    refine Y_ldcL i_235_24 ow_235 lj_10_369 ?_
    refine Y_is_3 (L0 := [.long x2.toInt64, .null, .long (-9), .null, .long 9, .null]) i_235_27 ow_235 lm_10_146 rfl mx_178 rfl rfl hd_235 ?_
    refine c_178 hG (KKi ?_)
    refine Y_bne i_235_30 (fun e3 => ?_) (fun e3 => ?_)
    · replace h := h.1 e3
      refine Y_al0 i_235_38 ?_
      exact Y_iv0 (L0 := [.ref 68, .null]) i_235_39 ow_235 lm_10_354 ((k_68 hG).trans ow_228.symm) rfl mx_228 rfl rfl hd_235 h
    · replace h := h.2 e3
      refine Y_al0 i_235_33 ?_
      refine Y_iv0 (L0 := [.ref 68]) i_235_34 ow_235 lm_10_371 ((k_68 hG).trans ow_227.symm) rfl mx_227 rfl rfl hd_235 ?_
      refine Y_al0 i_227_0 ?_
      refine Y_gR i_227_1 ow_227 lf_10_60 (k_68 hG) (r_68_11 hG) ?_
      refine Y_iconst (v := 1) i_227_4 (by decide) ?_
      refine Y_dup2 i_227_5 rfl rfl ?_
      refine Y_iaload (k := 1) (v := (A 79 1)) i_227_6 (k_79 hG) (l_79 hG) (by decide) (by decide) rfl ?_
      refine Y_iconst (v := 1) i_227_7 (by decide) ?_
      refine Y_iadd i_227_8 ?_
      refine Y_iast (k := 1) i_227_9 (k_79 hG) (l_79 hG) (by decide) (by decide) ?_
      refine Y_bipush (v := (-99)) i_227_10 (by decide) ?_
      refine Y_iret i_227_12 rt_227 (KKi ?_)
      exact Y_iret i_235_37 rt_235 h
  · replace h := h.2 e2
    refine Y_al0 i_235_13 ?_
    refine Y_iconst (v := 1) i_235_14 (by decide) ?_
    refine Y_iv1 (L0 := [.ref 68, .int 1]) i_235_15 ow_235 lm_10_269 ((k_68 hG).trans ow_176.symm) rfl mx_176 rfl rfl hd_235 ?_
    refine Y_al0 i_176_0 ?_
    refine Y_il1 i_176_1 ?_
    refine Y_pI i_176_2 ow_176 lf_10_143 (k_68 hG) ?_
    refine Y_iconst (v := 0) i_176_5 (by decide) ?_
    refine Y_iret i_176_6 rt_176 (KKi ?_)
    exact Y_iret i_235_18 rt_235 h
theorem k_235_42 {d : Nat} {F A : Nat → Nat → Int32} {J : Nat → Nat → Int64} {G : pG} {Q : pR → pM → Prop} {SL p q : Nat} {x1 x2 : Int32} (hG : Geo G SL p q) (h : inB x1 10 = true ∧ (Q (.inl (some (.int (A 84 x1.toNatClampNeg)))) (F, (wF A 84 x1.toNatClampNeg x2), J, G))) : KK (d + 2) 235 42 [.ref 68, .int x1, .int x2, .null] [] Q (.inl none) (F, A, J, G) := by
  refine KKv ?_
  refine Y_al0 i_235_42 ?_
  refine Y_gR i_235_43 ow_235 lf_10_79 (k_68 hG) (r_68_26 hG) ?_
  refine Y_il1 i_235_46 ?_
  have o1 := h.1
  replace h := h.2
  refine Y_iaload (k := x1.toNatClampNeg) (v := (A 84 x1.toNatClampNeg)) i_235_47 (k_84 hG) (l_84 hG) o1 rfl rfl ?_
  refine Y_is3 i_235_48 rfl ?_
  refine Y_al0 i_235_49 ?_
  refine Y_gR i_235_50 ow_235 lf_10_79 (k_68 hG) (r_68_26 hG) ?_
  refine Y_il1 i_235_53 ?_
  refine Y_il2 i_235_54 ?_
  refine Y_iast i_235_55 (k_84 hG) (l_84 hG) o1 rfl ?_
  refine Y_il3 i_235_56 ?_
  exact Y_iret i_235_57 rt_235 h
/- 237 Model.valueNow()I -/
theorem t_237_0 {d : Nat} {F A : Nat → Nat → Int32} {J : Nat → Nat → Int64} {G : pG} {Q : pR → pM → Prop} {SL p q : Nat} (hG : Geo G SL p q) (h : X (d + 1) 237 4 [.ref 68, .int 0, .int 0, .null] [] (F, A, J, G) Q) : X (d + 1) 237 0 [.ref 68, .null, .null, .null] [] (F, A, J, G) Q := by
  refine Y_iconst (v := 0) i_237_0 (by decide) ?_
  refine Y_is1 i_237_1 rfl ?_
  refine Y_iconst (v := 0) i_237_2 (by decide) ?_
  refine Y_is2 i_237_3 rfl ?_
  exact h
theorem t_237_4 {d : Nat} {F A : Nat → Nat → Int32} {J : Nat → Nat → Int64} {G : pG} {Q : pR → pM → Prop} {SL p q : Nat} {x1 x2 : Int32} {v3 : Value} (hG : Geo G SL p q) (h : ((x2 < (A 72 3) → inB x2 1200 = true ∧ (((-20) < (A 78 x2.toNatClampNeg) → (((A 78 x2.toNatClampNeg) < 0 → inB ((-1 : Int32) - (A 78 x2.toNatClampNeg)) 6 = true ∧ inB x1 64 = true ∧ (X (d + 1) 237 4 [.ref 68, .int (x1 + 1), .int (x2 + 1), .int (A 78 x2.toNatClampNeg)] [] (F, (wF A 87 x1.toNatClampNeg (A 86 ((-1 : Int32) - (A 78 x2.toNatClampNeg)).toNatClampNeg)), J, G) Q)) ∧ (¬ (A 78 x2.toNatClampNeg) < 0 → inB x1 64 = true ∧ (X (d + 1) 237 4 [.ref 68, .int (x1 + 1), .int (x2 + 1), .int (A 78 x2.toNatClampNeg)] [] (F, (wF A 87 x1.toNatClampNeg (A 78 x2.toNatClampNeg)), J, G) Q)))) ∧ (¬ (-20) < (A 78 x2.toNatClampNeg) → (((A 78 x2.toNatClampNeg) = (-28) → inB (x1 - 1) 64 = true ∧ (((A 87 (x1 - 1).toNatClampNeg) = 0 → X (d + 1) 237 4 [.ref 68, .int x1, .int (x2 + 1), .int (A 78 x2.toNatClampNeg)] [] (F, (wF A 87 (x1 - 1).toNatClampNeg 1), J, G) Q) ∧ (¬ (A 87 (x1 - 1).toNatClampNeg) = 0 → X (d + 1) 237 4 [.ref 68, .int x1, .int (x2 + 1), .int (A 78 x2.toNatClampNeg)] [] (F, (wF A 87 (x1 - 1).toNatClampNeg 0), J, G) Q))) ∧ (¬ (A 78 x2.toNatClampNeg) = (-28) → inB ((x1 + (-1)) - 1) 64 = true ∧ inB (x1 + (-1)) 64 = true ∧ (X (d + 1) 237 4 [.ref 68, .int (x1 + (-1)), .int (x2 + 1), .int (A 78 x2.toNatClampNeg)] [] (F, (wF A 87 ((x1 + (-1)) - 1).toNatClampNeg (opR (A 78 x2.toNatClampNeg) (A 87 ((x1 + (-1)) - 1).toNatClampNeg) (A 87 (x1 + (-1)).toNatClampNeg))), J, G) Q)))))) ∧ (¬ x2 < (A 72 3) → Q (.inl (some (.int (A 87 0)))) (F, A, J, G)))) : X (d + 1) 237 4 [.ref 68, .int x1, .int x2, v3] [] (F, A, J, G) Q := by
  refine Y_il2 i_237_4 ?_
  refine Y_al0 i_237_5 ?_
  refine Y_gR i_237_6 ow_237 lf_10_42 (k_68 hG) (r_68_4 hG) ?_
  refine Y_iconst (v := 3) i_237_9 (by decide) ?_
  refine Y_iaload (k := 3) (v := (A 72 3)) i_237_10 (k_72 hG) (l_72 hG) (by decide) (by decide) rfl ?_
  refine Y_cge i_237_11 (fun e1 => ?_) (fun e1 => ?_)
  · replace h := h.1 e1
    refine Y_al0 i_237_14 ?_
    refine Y_gR i_237_15 ow_237 lf_10_57 (k_68 hG) (r_68_10 hG) ?_
    refine Y_il2 i_237_18 ?_
    have o2 := h.1
    replace h := h.2
    refine Y_iaload (k := x2.toNatClampNeg) (v := (A 78 x2.toNatClampNeg)) i_237_19 (k_78 hG) (l_78 hG) o2 rfl rfl ?_
    refine Y_is3 i_237_20 rfl ?_
    refine Y_il3 i_237_21 ?_
    refine Y_bipush (v := (-20)) i_237_22 (by decide) ?_
    refine Y_cle i_237_24 (fun e3 => ?_) (fun e3 => ?_)
    · replace h := h.1 e3
      refine Y_al0 i_237_27 ?_
      refine Y_gR i_237_28 ow_237 lf_10_91 (k_68 hG) (r_68_34 hG) ?_
      refine Y_il1 i_237_31 ?_
      refine Y_il3 i_237_32 ?_
      refine Y_zlt i_237_33 (fun e4 => ?_) (fun e4 => ?_)
      · replace h := h.1 e4
        refine Y_al0 i_237_40 ?_
        refine Y_gR i_237_41 ow_237 lf_10_88 (k_68 hG) (r_68_33 hG) ?_
        refine Y_iconst (v := (-1)) i_237_44 (by decide) ?_
        refine Y_il3 i_237_45 ?_
        refine Y_isub i_237_46 ?_
        have o5 := h.1
        replace h := h.2
        refine Y_iaload (k := ((-1 : Int32) - (A 78 x2.toNatClampNeg)).toNatClampNeg) (v := (A 86 ((-1 : Int32) - (A 78 x2.toNatClampNeg)).toNatClampNeg)) i_237_47 (k_86 hG) (l_86 hG) o5 rfl rfl ?_
        have o6 := h.1
        replace h := h.2
        refine Y_iast i_237_48 (k_87 hG) (l_87 hG) o6 rfl ?_
        refine Y_ii1 (v := 1) i_237_49 (by decide) rfl ?_
        refine Y_goto i_237_52 ?_
        refine Y_ii2 (v := 1) i_237_117 (by decide) rfl ?_
        refine Y_goto i_237_120 ?_
        exact h
      · replace h := h.2 e4
        refine Y_il3 i_237_36 ?_
        refine Y_goto i_237_37 ?_
        have o7 := h.1
        replace h := h.2
        refine Y_iast i_237_48 (k_87 hG) (l_87 hG) o7 rfl ?_
        refine Y_ii1 (v := 1) i_237_49 (by decide) rfl ?_
        refine Y_goto i_237_52 ?_
        refine Y_ii2 (v := 1) i_237_117 (by decide) rfl ?_
        refine Y_goto i_237_120 ?_
        exact h
    · replace h := h.2 e3
      refine Y_il3 i_237_55 ?_
      refine Y_bipush (v := (-28)) i_237_56 (by decide) ?_
      refine Y_cne i_237_58 (fun e8 => ?_) (fun e8 => ?_)
      · replace h := h.1 e8
        refine Y_al0 i_237_61 ?_
        refine Y_gR i_237_62 ow_237 lf_10_91 (k_68 hG) (r_68_34 hG) ?_
        refine Y_il1 i_237_65 ?_
        refine Y_iconst (v := 1) i_237_66 (by decide) ?_
        refine Y_isub i_237_67 ?_
        refine Y_al0 i_237_68 ?_
        refine Y_gR i_237_69 ow_237 lf_10_91 (k_68 hG) (r_68_34 hG) ?_
        refine Y_il1 i_237_72 ?_
        refine Y_iconst (v := 1) i_237_73 (by decide) ?_
        refine Y_isub i_237_74 ?_
        have o9 := h.1
        replace h := h.2
        refine Y_iaload (k := (x1 - 1).toNatClampNeg) (v := (A 87 (x1 - 1).toNatClampNeg)) i_237_75 (k_87 hG) (l_87 hG) o9 rfl rfl ?_
        refine Y_zeq i_237_76 (fun e10 => ?_) (fun e10 => ?_)
        · replace h := h.1 e10
          refine Y_iconst (v := 1) i_237_83 (by decide) ?_
          refine Y_iast i_237_84 (k_87 hG) (l_87 hG) o9 rfl ?_
          refine Y_goto i_237_85 ?_
          refine Y_ii2 (v := 1) i_237_117 (by decide) rfl ?_
          refine Y_goto i_237_120 ?_
          exact h
        · replace h := h.2 e10
          refine Y_iconst (v := 0) i_237_79 (by decide) ?_
          refine Y_goto i_237_80 ?_
          refine Y_iast i_237_84 (k_87 hG) (l_87 hG) o9 rfl ?_
          refine Y_goto i_237_85 ?_
          refine Y_ii2 (v := 1) i_237_117 (by decide) rfl ?_
          refine Y_goto i_237_120 ?_
          exact h
      · replace h := h.2 e8
        refine Y_ii1 (v := (-1)) i_237_88 (by decide) rfl ?_
        refine Y_al0 i_237_91 ?_
        refine Y_gR i_237_92 ow_237 lf_10_91 (k_68 hG) (r_68_34 hG) ?_
        refine Y_il1 i_237_95 ?_
        refine Y_iconst (v := 1) i_237_96 (by decide) ?_
        refine Y_isub i_237_97 ?_
        refine Y_il3 i_237_98 ?_
        refine Y_al0 i_237_99 ?_
        refine Y_gR i_237_100 ow_237 lf_10_91 (k_68 hG) (r_68_34 hG) ?_
        refine Y_il1 i_237_103 ?_
        refine Y_iconst (v := 1) i_237_104 (by decide) ?_
        refine Y_isub i_237_105 ?_
        have o11 := h.1
        replace h := h.2
        refine Y_iaload (k := ((x1 + (-1)) - 1).toNatClampNeg) (v := (A 87 ((x1 + (-1)) - 1).toNatClampNeg)) i_237_106 (k_87 hG) (l_87 hG) o11 rfl rfl ?_
        refine Y_al0 i_237_107 ?_
        refine Y_gR i_237_108 ow_237 lf_10_91 (k_68 hG) (r_68_34 hG) ?_
        refine Y_il1 i_237_111 ?_
        have o12 := h.1
        replace h := h.2
        refine Y_iaload (k := (x1 + (-1)).toNatClampNeg) (v := (A 87 (x1 + (-1)).toNatClampNeg)) i_237_112 (k_87 hG) (l_87 hG) o12 rfl rfl ?_
        refine Y_is_3 (L0 := [.int (A 78 x2.toNatClampNeg), .int (A 87 ((x1 + (-1)) - 1).toNatClampNeg), .int (A 87 (x1 + (-1)).toNatClampNeg)]) i_237_113 ow_237 lm_10_374 rfl mx_236 rfl rfl hd_237 ?_
        refine c_236 hG (KKi ?_)
        refine Y_iast i_237_116 (k_87 hG) (l_87 hG) o11 rfl ?_
        refine Y_ii2 (v := 1) i_237_117 (by decide) rfl ?_
        refine Y_goto i_237_120 ?_
        exact h
  · replace h := h.2 e1
    refine Y_al0 i_237_123 ?_
    refine Y_gR i_237_124 ow_237 lf_10_91 (k_68 hG) (r_68_34 hG) ?_
    refine Y_iconst (v := 0) i_237_127 (by decide) ?_
    refine Y_iaload (k := 0) (v := (A 87 0)) i_237_128 (k_87 hG) (l_87 hG) (by decide) (by decide) rfl ?_
    exact Y_iret i_237_129 rt_237 h
/- 238 Model.eat(I)I -/
theorem t_238_0 {d : Nat} {F A : Nat → Nat → Int32} {J : Nat → Nat → Int64} {G : pG} {Q : pR → pM → Prop} {SL p q : Nat} {x1 : Int32} (hG : Geo G SL p q) (h : X (d + 2) 238 4 [.ref 68, .int x1, .int x1, .int 0, .null, .null] [] (F, A, J, G) Q) : X (d + 2) 238 0 [.ref 68, .int x1, .null, .null, .null, .null] [] (F, A, J, G) Q := by
  refine Y_il1 i_238_0 ?_
  refine Y_is2 i_238_1 rfl ?_
  refine Y_iconst (v := 0) i_238_2 (by decide) ?_
  refine Y_is3 i_238_3 rfl ?_
  exact h
theorem t_238_4 {d : Nat} {F A : Nat → Nat → Int32} {J : Nat → Nat → Int64} {G : pG} {Q : pR → pM → Prop} {SL p q : Nat} {x1 x2 x3 : Int32} {v4 v5 : Value} (hG : Geo G SL p q) (h : ((x3 < (F 68 28) → inB x3 10 = true ∧ inB (A 81 x3.toNatClampNeg) 20 = true ∧ (((A 72 3) = 0 → inB (A 81 x3.toNatClampNeg) 10 = true ∧ (X (d + 2) 238 4 [.ref 68, .int x1, .int (x2 - ((wF (wF (wF (wF (wF (wF (wF A 86 0 x3) 86 1 (A 77 (A 81 x3.toNatClampNeg).toNatClampNeg)) 86 2 x2) 86 3 (A 73 (A 81 x3.toNatClampNeg).toNatClampNeg)) 86 4 (((F 68 28) - 1) - x3)) 86 5 (A 74 (A 81 x3.toNatClampNeg).toNatClampNeg)) 82 (A 81 x3.toNatClampNeg).toNatClampNeg (jmax 0 (jmin x2 (A 77 (A 81 x3.toNatClampNeg).toNatClampNeg)))) 82 (A 81 x3.toNatClampNeg).toNatClampNeg)), .int (x3 + 1), .int (A 81 x3.toNatClampNeg), .int (A 77 (A 81 x3.toNatClampNeg).toNatClampNeg)] [] (F, (wF (wF (wF (wF (wF (wF (wF A 86 0 x3) 86 1 (A 77 (A 81 x3.toNatClampNeg).toNatClampNeg)) 86 2 x2) 86 3 (A 73 (A 81 x3.toNatClampNeg).toNatClampNeg)) 86 4 (((F 68 28) - 1) - x3)) 86 5 (A 74 (A 81 x3.toNatClampNeg).toNatClampNeg)) 82 (A 81 x3.toNatClampNeg).toNatClampNeg (jmax 0 (jmin x2 (A 77 (A 81 x3.toNatClampNeg).toNatClampNeg)))), J, G) Q)) ∧ (¬ (A 72 3) = 0 → X (d + 1) 237 0 [.ref 68, .null, .null, .null] [] (F, (wF (wF (wF (wF (wF (wF A 86 0 x3) 86 1 (A 77 (A 81 x3.toNatClampNeg).toNatClampNeg)) 86 2 x2) 86 3 (A 73 (A 81 x3.toNatClampNeg).toNatClampNeg)) 86 4 (((F 68 28) - 1) - x3)) 86 5 (A 74 (A 81 x3.toNatClampNeg).toNatClampNeg)), J, G) (KK (d + 2) 238 110 [.ref 68, .int x1, .int x2, .int x3, .int (A 81 x3.toNatClampNeg), v5] [] Q)))) ∧ (¬ x3 < (F 68 28) → Q (.inl (some (.int x2))) (F, A, J, G)))) : X (d + 2) 238 4 [.ref 68, .int x1, .int x2, .int x3, v4, v5] [] (F, A, J, G) Q := by
  refine Y_il3 i_238_4 ?_
  refine Y_al0 i_238_5 ?_
  refine Y_gI (v := (F 68 28)) i_238_6 ow_238 lf_10_150 (by decide) (k_68 hG) rfl ?_
  refine Y_cge i_238_9 (fun e1 => ?_) (fun e1 => ?_)
  · replace h := h.1 e1
    refine Y_al0 i_238_12 ?_
    refine Y_gR i_238_13 ow_238 lf_10_70 (k_68 hG) (r_68_23 hG) ?_
    refine Y_il3 i_238_16 ?_
    have o2 := h.1
    replace h := h.2
    refine Y_iaload (k := x3.toNatClampNeg) (v := (A 81 x3.toNatClampNeg)) i_238_17 (k_81 hG) (l_81 hG) o2 rfl rfl ?_
    refine Y_is4 i_238_18 rfl ?_
    refine Y_al0 i_238_20 ?_
    refine Y_gR i_238_21 ow_238 lf_10_88 (k_68 hG) (r_68_33 hG) ?_
    refine Y_iconst (v := 0) i_238_24 (by decide) ?_
    refine Y_il3 i_238_25 ?_
    refine Y_iast (k := 0) i_238_26 (k_86 hG) (l_86 hG) (by decide) (by decide) ?_
    refine Y_al0 i_238_27 ?_
    refine Y_gR i_238_28 ow_238 lf_10_88 (k_68 hG) (r_68_33 hG) ?_
    refine Y_iconst (v := 1) i_238_31 (by decide) ?_
    refine Y_al0 i_238_32 ?_
    refine Y_gR i_238_33 ow_238 lf_10_55 (k_68 hG) (r_68_9 hG) ?_
    refine Y_il4 i_238_36 ?_
    have o3 := h.1
    replace h := h.2
    refine Y_iaload (k := (A 81 x3.toNatClampNeg).toNatClampNeg) (v := (A 77 (A 81 x3.toNatClampNeg).toNatClampNeg)) i_238_38 (k_77 hG) (l_77 hG) o3 rfl (by simp [wF, wJ, va_up, cpR, bF, bA]) ?_
    refine Y_iast (k := 1) i_238_39 (k_86 hG) (l_86 hG) (by decide) (by decide) ?_
    refine Y_al0 i_238_40 ?_
    refine Y_gR i_238_41 ow_238 lf_10_88 (k_68 hG) (r_68_33 hG) ?_
    refine Y_iconst (v := 2) i_238_44 (by decide) ?_
    refine Y_il2 i_238_45 ?_
    refine Y_iast (k := 2) i_238_46 (k_86 hG) (l_86 hG) (by decide) (by decide) ?_
    refine Y_al0 i_238_47 ?_
    refine Y_gR i_238_48 ow_238 lf_10_88 (k_68 hG) (r_68_33 hG) ?_
    refine Y_iconst (v := 3) i_238_51 (by decide) ?_
    refine Y_al0 i_238_52 ?_
    refine Y_gR i_238_53 ow_238 lf_10_45 (k_68 hG) (r_68_5 hG) ?_
    refine Y_il4 i_238_56 ?_
    refine Y_iaload (k := (A 81 x3.toNatClampNeg).toNatClampNeg) (v := (A 73 (A 81 x3.toNatClampNeg).toNatClampNeg)) i_238_58 (k_73 hG) (l_73 hG) o3 rfl (by simp [wF, wJ, va_up, cpR, bF, bA]) ?_
    refine Y_iast (k := 3) i_238_59 (k_86 hG) (l_86 hG) (by decide) (by decide) ?_
    refine Y_al0 i_238_60 ?_
    refine Y_gR i_238_61 ow_238 lf_10_88 (k_68 hG) (r_68_33 hG) ?_
    refine Y_iconst (v := 4) i_238_64 (by decide) ?_
    refine Y_al0 i_238_65 ?_
    refine Y_gI (v := (F 68 28)) i_238_66 ow_238 lf_10_150 (by decide) (k_68 hG) rfl ?_
    refine Y_iconst (v := 1) i_238_69 (by decide) ?_
    refine Y_isub i_238_70 ?_
    refine Y_il3 i_238_71 ?_
    refine Y_isub i_238_72 ?_
    refine Y_iast (k := 4) i_238_73 (k_86 hG) (l_86 hG) (by decide) (by decide) ?_
    refine Y_al0 i_238_74 ?_
    refine Y_gR i_238_75 ow_238 lf_10_88 (k_68 hG) (r_68_33 hG) ?_
    refine Y_iconst (v := 5) i_238_78 (by decide) ?_
    refine Y_al0 i_238_79 ?_
    refine Y_gR i_238_80 ow_238 lf_10_47 (k_68 hG) (r_68_6 hG) ?_
    refine Y_il4 i_238_83 ?_
    refine Y_iaload (k := (A 81 x3.toNatClampNeg).toNatClampNeg) (v := (A 74 (A 81 x3.toNatClampNeg).toNatClampNeg)) i_238_85 (k_74 hG) (l_74 hG) o3 rfl (by simp [wF, wJ, va_up, cpR, bF, bA]) ?_
    refine Y_iast (k := 5) i_238_86 (k_86 hG) (l_86 hG) (by decide) (by decide) ?_
    refine Y_al0 i_238_87 ?_
    refine Y_gR i_238_88 ow_238 lf_10_42 (k_68 hG) (r_68_4 hG) ?_
    refine Y_iconst (v := 3) i_238_91 (by decide) ?_
    refine Y_iaload (k := 3) (v := (A 72 3)) i_238_92 (k_72 hG) (l_72 hG) (by decide) (by decide) (by simp [wF, wJ, va_up, cpR, bF, bA]) ?_
    refine Y_zne i_238_93 (fun e4 => ?_) (fun e4 => ?_)
    · replace h := h.1 e4
      refine Y_al0 i_238_96 ?_
      refine Y_gR i_238_97 ow_238 lf_10_55 (k_68 hG) (r_68_9 hG) ?_
      refine Y_il4 i_238_100 ?_
      refine Y_iaload (k := (A 81 x3.toNatClampNeg).toNatClampNeg) (v := (A 77 (A 81 x3.toNatClampNeg).toNatClampNeg)) i_238_102 (k_77 hG) (l_77 hG) o3 rfl (by simp [wF, wJ, va_up, cpR, bF, bA]) ?_
      refine Y_goto i_238_103 ?_
      refine Y_is5 i_238_110 rfl ?_
      refine Y_al0 i_238_112 ?_
      refine Y_gR i_238_113 ow_238 lf_10_73 (k_68 hG) (r_68_24 hG) ?_
      refine Y_il4 i_238_116 ?_
      refine Y_iconst (v := 0) i_238_118 (by decide) ?_
      refine Y_il2 i_238_119 ?_
      refine Y_il5 i_238_120 ?_
      refine Y_min i_238_122 ow_238 lm_10_183 rfl ?_
      refine Y_max i_238_125 ow_238 lm_10_298 rfl ?_
      have o5 := h.1
      replace h := h.2
      refine Y_iast i_238_128 (k_82 hG) (l_82 hG) o5 rfl ?_
      refine Y_il2 i_238_129 ?_
      refine Y_al0 i_238_130 ?_
      refine Y_gR i_238_131 ow_238 lf_10_73 (k_68 hG) (r_68_24 hG) ?_
      refine Y_il4 i_238_134 ?_
      refine Y_iaload (k := (A 81 x3.toNatClampNeg).toNatClampNeg) (v := ((wF (wF (wF (wF (wF (wF (wF A 86 0 x3) 86 1 (A 77 (A 81 x3.toNatClampNeg).toNatClampNeg)) 86 2 x2) 86 3 (A 73 (A 81 x3.toNatClampNeg).toNatClampNeg)) 86 4 (((F 68 28) - 1) - x3)) 86 5 (A 74 (A 81 x3.toNatClampNeg).toNatClampNeg)) 82 (A 81 x3.toNatClampNeg).toNatClampNeg (jmax 0 (jmin x2 (A 77 (A 81 x3.toNatClampNeg).toNatClampNeg)))) 82 (A 81 x3.toNatClampNeg).toNatClampNeg)) i_238_136 (k_82 hG) (l_82 hG) o5 rfl rfl ?_
      refine Y_isub i_238_137 ?_
      refine Y_is2 i_238_138 rfl ?_
      refine Y_ii3 (v := 1) i_238_139 (by decide) rfl ?_
      refine Y_goto i_238_142 ?_
      exact h
    · replace h := h.2 e4
      refine Y_al0 i_238_106 ?_
      exact Y_iv0 (L0 := [.ref 68, .null, .null, .null]) i_238_107 ow_238 lm_10_378 ((k_68 hG).trans ow_237.symm) rfl mx_237 rfl rfl hd_238 h
  · replace h := h.2 e1
    refine Y_il2 i_238_145 ?_
    exact Y_iret i_238_146 rt_238 h
theorem k_238_110 {d : Nat} {F A : Nat → Nat → Int32} {J : Nat → Nat → Int64} {G : pG} {Q : pR → pM → Prop} {SL p q : Nat} {x1 x2 x3 x4 r r : Int32} {v5 : Value} (hG : Geo G SL p q) (h : inB x4 10 = true ∧ (X (d + 2) 238 4 [.ref 68, .int x1, .int (x2 - ((wF A 82 x4.toNatClampNeg (jmax 0 (jmin x2 r))) 82 x4.toNatClampNeg)), .int (x3 + 1), .int x4, .int r] [] (F, (wF A 82 x4.toNatClampNeg (jmax 0 (jmin x2 r))), J, G) Q)) : KK (d + 2) 238 110 [.ref 68, .int x1, .int x2, .int x3, .int x4, v5] [] Q (.inl (some (.int r))) (F, A, J, G) := by
  refine KKi ?_
  refine Y_is5 i_238_110 rfl ?_
  refine Y_al0 i_238_112 ?_
  refine Y_gR i_238_113 ow_238 lf_10_73 (k_68 hG) (r_68_24 hG) ?_
  refine Y_il4 i_238_116 ?_
  refine Y_iconst (v := 0) i_238_118 (by decide) ?_
  refine Y_il2 i_238_119 ?_
  refine Y_il5 i_238_120 ?_
  refine Y_min i_238_122 ow_238 lm_10_183 rfl ?_
  refine Y_max i_238_125 ow_238 lm_10_298 rfl ?_
  have o1 := h.1
  replace h := h.2
  refine Y_iast i_238_128 (k_82 hG) (l_82 hG) o1 rfl ?_
  refine Y_il2 i_238_129 ?_
  refine Y_al0 i_238_130 ?_
  refine Y_gR i_238_131 ow_238 lf_10_73 (k_68 hG) (r_68_24 hG) ?_
  refine Y_il4 i_238_134 ?_
  refine Y_iaload (k := x4.toNatClampNeg) (v := ((wF A 82 x4.toNatClampNeg (jmax 0 (jmin x2 r))) 82 x4.toNatClampNeg)) i_238_136 (k_82 hG) (l_82 hG) o1 rfl rfl ?_
  refine Y_isub i_238_137 ?_
  refine Y_is2 i_238_138 rfl ?_
  refine Y_ii3 (v := 1) i_238_139 (by decide) rfl ?_
  refine Y_goto i_238_142 ?_
  exact h
/- 239 Model.supper()I -/
theorem t_239_0 {d : Nat} {F A : Nat → Nat → Int32} {J : Nat → Nat → Int64} {G : pG} {Q : pR → pM → Prop} {SL p q : Nat} (hG : Geo G SL p q) (h : X (d + 2) 228 0 [.ref 68, .null] [] ((wF F 68 3 0), A, J, G) (KK (d + 3) 239 9 [.ref 68] [] Q)) : X (d + 3) 239 0 [.ref 68] [] (F, A, J, G) Q := by
  refine Y_al0 i_239_0 ?_
  refine Y_iconst (v := 0) i_239_1 (by decide) ?_
  refine Y_pI i_239_2 ow_239 lf_10_143 (k_68 hG) ?_
  refine Y_al0 i_239_5 ?_
  exact Y_iv0 (L0 := [.ref 68, .null]) i_239_6 ow_239 lm_10_354 ((k_68 hG).trans ow_228.symm) rfl mx_228 rfl rfl hd_239 h
theorem k_239_9 {d : Nat} {F A : Nat → Nat → Int32} {J : Nat → Nat → Int64} {G : pG} {Q : pR → pM → Prop} {SL p q : Nat} (hG : Geo G SL p q) (h : X (d + 2) 238 0 [.ref 68, .int (A 72 2), .null, .null, .null, .null] [] (F, A, J, G) (KK (d + 3) 239 20 [.ref 68] [.ref 68] Q)) : KK (d + 3) 239 9 [.ref 68] [] Q (.inl none) (F, A, J, G) := by
  refine KKv ?_
  refine Y_al0 i_239_9 ?_
  refine Y_al0 i_239_10 ?_
  refine Y_al0 i_239_11 ?_
  refine Y_gR i_239_12 ow_239 lf_10_42 (k_68 hG) (r_68_4 hG) ?_
  refine Y_iconst (v := 2) i_239_15 (by decide) ?_
  refine Y_iaload (k := 2) (v := (A 72 2)) i_239_16 (k_72 hG) (l_72 hG) (by decide) (by decide) rfl ?_
  exact Y_iv1 (L0 := [.ref 68, .int (A 72 2), .null, .null, .null, .null]) i_239_17 ow_239 lm_10_381 ((k_68 hG).trans ow_238.symm) rfl mx_238 rfl rfl hd_239 h
theorem k_239_20 {d : Nat} {F A : Nat → Nat → Int32} {J : Nat → Nat → Int64} {G : pG} {Q : pR → pM → Prop} {SL p q : Nat} {r r : Int32} (hG : Geo G SL p q) (h : Q (.inl (some (.int r))) ((wF F 68 30 r), A, J, G)) : KK (d + 3) 239 20 [.ref 68] [.ref 68] Q (.inl (some (.int r))) (F, A, J, G) := by
  refine KKi ?_
  refine Y_pI i_239_20 ow_239 lf_10_85 (k_68 hG) ?_
  refine Y_al0 i_239_23 ?_
  refine Y_gI (v := r) i_239_24 ow_239 lf_10_85 (by decide) (k_68 hG) (by simp [wF, wJ, va_up, cpR, bF, bA]) ?_
  exact Y_iret i_239_27 rt_239 h
/- 240 Model.years(I)I -/
theorem t_240_0 {d : Nat} {F A : Nat → Nat → Int32} {J : Nat → Nat → Int64} {G : pG} {Q : pR → pM → Prop} {SL p q : Nat} {x1 : Int32} (hG : Geo G SL p q) (h : (((inL x1.toInt64 1 30) = true → ((999 < ((F 68 29) + x1) → Q (.inl (some (.int (-1)))) ((wF F 68 3 0), (wF A 79 1 ((A 79 1) + 1)), J, G)) ∧ (¬ 999 < ((F 68 29) + x1) → X (d + 1) 228 0 [.ref 68, .null] [] ((wF F 68 3 0), A, J, G) (KK (d + 2) 240 39 [.ref 68, .int x1] [] Q)))) ∧ ((inL x1.toInt64 1 30) = false → Q (.inl (some (.int (-1)))) ((wF F 68 3 0), (wF A 79 1 ((A 79 1) + 1)), J, G)))) : X (d + 2) 240 0 [.ref 68, .int x1] [] (F, A, J, G) Q := by
  refine Y_al0 i_240_0 ?_
  refine Y_iconst (v := 0) i_240_1 (by decide) ?_
  refine Y_pI i_240_2 ow_240 lf_10_143 (k_68 hG) ?_
  refine Y_il1 i_240_5 ?_
  refine Y_i2l i_240_6 ?_
  refine Y_lconst (v := 1) i_240_7 (by decide) ?_
  refine Y_ldcL i_240_8 ow_240 lj_10_384 ?_
  refine Y_is_3 (L0 := [.long x1.toInt64, .null, .long 1, .null, .long 30, .null]) i_240_11 ow_240 lm_10_146 rfl mx_178 rfl rfl hd_240 ?_
  refine c_178 hG (KKi ?_)
  refine Y_beq i_240_14 (fun e1 => ?_) (fun e1 => ?_)
  · replace h := h.1 e1
    refine Y_al0 i_240_17 ?_
    refine Y_gI (v := (F 68 29)) i_240_18 ow_240 lf_10_282 (by decide) (k_68 hG) (by simp [wF, wJ, va_up, cpR, bF, bA]) ?_
    refine Y_il1 i_240_21 ?_
    refine Y_iadd i_240_22 ?_
    refine Y_sipush (v := 999) i_240_23 (by decide) ?_
    refine Y_cle i_240_26 (fun e2 => ?_) (fun e2 => ?_)
    · replace h := h.1 e2
      refine Y_al0 i_240_29 ?_
      refine Y_iconst (v := 1) i_240_30 (by decide) ?_
      refine Y_iv1 (L0 := [.ref 68, .int 1]) i_240_31 ow_240 lm_10_351 ((k_68 hG).trans ow_226.symm) rfl mx_226 rfl rfl hd_240 ?_
      refine Y_al0 i_226_0 ?_
      refine Y_gR i_226_1 ow_226 lf_10_60 (k_68 hG) (r_68_11 hG) ?_
      refine Y_il1 i_226_4 ?_
      refine Y_dup2 i_226_5 rfl rfl ?_
      refine Y_iaload (k := 1) (v := (A 79 1)) i_226_6 (k_79 hG) (l_79 hG) (by decide) (by decide) rfl ?_
      refine Y_iconst (v := 1) i_226_7 (by decide) ?_
      refine Y_iadd i_226_8 ?_
      refine Y_iast (k := 1) i_226_9 (k_79 hG) (l_79 hG) (by decide) (by decide) ?_
      refine Y_iconst (v := (-1)) i_226_10 (by decide) ?_
      refine Y_iret i_226_11 rt_226 (KKi ?_)
      exact Y_iret i_240_34 rt_240 h
    · replace h := h.2 e2
      refine Y_al0 i_240_35 ?_
      exact Y_iv0 (L0 := [.ref 68, .null]) i_240_36 ow_240 lm_10_354 ((k_68 hG).trans ow_228.symm) rfl mx_228 rfl rfl hd_240 h
  · replace h := h.2 e1
    refine Y_al0 i_240_29 ?_
    refine Y_iconst (v := 1) i_240_30 (by decide) ?_
    refine Y_iv1 (L0 := [.ref 68, .int 1]) i_240_31 ow_240 lm_10_351 ((k_68 hG).trans ow_226.symm) rfl mx_226 rfl rfl hd_240 ?_
    refine Y_al0 i_226_0 ?_
    refine Y_gR i_226_1 ow_226 lf_10_60 (k_68 hG) (r_68_11 hG) ?_
    refine Y_il1 i_226_4 ?_
    refine Y_dup2 i_226_5 rfl rfl ?_
    refine Y_iaload (k := 1) (v := (A 79 1)) i_226_6 (k_79 hG) (l_79 hG) (by decide) (by decide) rfl ?_
    refine Y_iconst (v := 1) i_226_7 (by decide) ?_
    refine Y_iadd i_226_8 ?_
    refine Y_iast (k := 1) i_226_9 (k_79 hG) (l_79 hG) (by decide) (by decide) ?_
    refine Y_iconst (v := (-1)) i_226_10 (by decide) ?_
    refine Y_iret i_226_11 rt_226 (KKi ?_)
    exact Y_iret i_240_34 rt_240 h
theorem k_240_39 {d : Nat} {F A : Nat → Nat → Int32} {J : Nat → Nat → Int64} {G : pG} {Q : pR → pM → Prop} {SL p q : Nat} {x1 : Int32} (hG : Geo G SL p q) (h : Q (.inl (some (.int ((F 68 29) + x1)))) ((wF F 68 29 ((F 68 29) + x1)), A, J, G)) : KK (d + 2) 240 39 [.ref 68, .int x1] [] Q (.inl none) (F, A, J, G) := by
  refine KKv ?_
  refine Y_al0 i_240_39 ?_
  refine Y_dup i_240_40 rfl ?_
  refine Y_gI (v := (F 68 29)) i_240_41 ow_240 lf_10_282 (by decide) (k_68 hG) rfl ?_
  refine Y_il1 i_240_44 ?_
  refine Y_iadd i_240_45 ?_
  refine Y_pI i_240_46 ow_240 lf_10_282 (k_68 hG) ?_
  refine Y_al0 i_240_49 ?_
  refine Y_gI (v := ((F 68 29) + x1)) i_240_50 ow_240 lf_10_282 (by decide) (k_68 hG) (by simp [wF, wJ, va_up, cpR, bF, bA]) ?_
  exact Y_iret i_240_53 rt_240 h
/- 241 Model.undo()I -/
theorem t_241_0 {d : Nat} {F A : Nat → Nat → Int32} {J : Nat → Nat → Int64} {G : pG} {Q : pR → pM → Prop} {SL p q : Nat} (hG : Geo G SL p q) (h : (((F 68 31) = 0 → Q (.inl (some (.int (-1)))) ((wF F 68 3 0), A, J, G)) ∧ (¬ (F 68 31) = 0 → X d 208 0 [.ref 68, .ref 85, .int ((43 : Int32) * ((F 68 31) - 1)), .null] [] ((wF (wF F 68 3 0) 68 31 ((F 68 31) - 1)), A, J, G) (KK (d + 1) 241 39 [.ref 68] [] Q)))) : X (d + 1) 241 0 [.ref 68] [] (F, A, J, G) Q := by
  refine Y_al0 i_241_0 ?_
  refine Y_iconst (v := 0) i_241_1 (by decide) ?_
  refine Y_pI i_241_2 ow_241 lf_10_143 (k_68 hG) ?_
  refine Y_al0 i_241_5 ?_
  refine Y_gI (v := (F 68 31)) i_241_6 ow_241 lf_10_285 (by decide) (k_68 hG) (by simp [wF, wJ, va_up, cpR, bF, bA]) ?_
  refine Y_zne i_241_9 (fun e1 => ?_) (fun e1 => ?_)
  · replace h := h.1 e1
    refine Y_iconst (v := (-1)) i_241_12 (by decide) ?_
    exact Y_iret i_241_13 rt_241 h
  · replace h := h.2 e1
    refine Y_al0 i_241_14 ?_
    refine Y_dup i_241_15 rfl ?_
    refine Y_gI (v := (F 68 31)) i_241_16 ow_241 lf_10_285 (by decide) (k_68 hG) (by simp [wF, wJ, va_up, cpR, bF, bA]) ?_
    refine Y_iconst (v := 1) i_241_19 (by decide) ?_
    refine Y_isub i_241_20 ?_
    refine Y_pI i_241_21 ow_241 lf_10_285 (k_68 hG) ?_
    refine Y_al0 i_241_24 ?_
    refine Y_al0 i_241_25 ?_
    refine Y_gR i_241_26 ow_241 lf_10_82 (k_68 hG) (r_68_27 hG) ?_
    refine Y_bipush (v := 43) i_241_29 (by decide) ?_
    refine Y_al0 i_241_31 ?_
    refine Y_gI (v := ((F 68 31) - 1)) i_241_32 ow_241 lf_10_285 (by decide) (k_68 hG) (by simp [wF, wJ, va_up, cpR, bF, bA]) ?_
    refine Y_imul i_241_35 ?_
    exact Y_iv2 (L0 := [.ref 68, .ref 85, .int ((43 : Int32) * ((F 68 31) - 1)), .null]) i_241_36 ow_241 lm_10_386 ((k_68 hG).trans ow_208.symm) rfl mx_208 rfl rfl hd_241 h
theorem k_241_39 {d : Nat} {F A : Nat → Nat → Int32} {J : Nat → Nat → Int64} {G : pG} {Q : pR → pM → Prop} {SL p q : Nat} (hG : Geo G SL p q) (h : Q (.inl (some (.int (F 68 31)))) (F, A, J, G)) : KK (d + 1) 241 39 [.ref 68] [] Q (.inl none) (F, A, J, G) := by
  refine KKv ?_
  refine Y_al0 i_241_39 ?_
  refine Y_gI (v := (F 68 31)) i_241_40 ow_241 lf_10_285 (by decide) (k_68 hG) rfl ?_
  exact Y_iret i_241_43 rt_241 h
/- 242 Model.more()I -/
theorem t_242_0 {d : Nat} {F A : Nat → Nat → Int32} {J : Nat → Nat → Int64} {G : pG} {Q : pR → pM → Prop} {SL p q : Nat} (hG : Geo G SL p q) (h : X (d + 6) 219 0 [.ref 68, .null, .null] [] ((wF F 68 3 0), A, J, G) (KK (d + 7) 242 9 [.ref 68] [] Q)) : X (d + 7) 242 0 [.ref 68] [] (F, A, J, G) Q := by
  refine Y_al0 i_242_0 ?_
  refine Y_iconst (v := 0) i_242_1 (by decide) ?_
  refine Y_pI i_242_2 ow_242 lf_10_143 (k_68 hG) ?_
  refine Y_al0 i_242_5 ?_
  exact Y_iv0 (L0 := [.ref 68, .null, .null]) i_242_6 ow_242 lm_10_389 ((k_68 hG).trans ow_219.symm) rfl mx_219 rfl rfl hd_242 h
theorem k_242_9 {d : Nat} {F A : Nat → Nat → Int32} {J : Nat → Nat → Int64} {G : pG} {Q : pR → pM → Prop} {SL p q : Nat} {r r : Int32} (hG : Geo G SL p q) (h : Q (.inl (some (.int r))) (F, A, J, G)) : KK (d + 7) 242 9 [.ref 68] [] Q (.inl (some (.int r))) (F, A, J, G) := by
  refine KKi ?_
  exact Y_iret i_242_9 rt_242 h
/- 243 Model.without(I)Z -/
theorem t_243_0 {d : Nat} {F A : Nat → Nat → Int32} {J : Nat → Nat → Int64} {G : pG} {Q : pR → pM → Prop} {SL p q : Nat} {x1 : Int32} (hG : Geo G SL p q) (h : hB (A 72 0) = true ∧ (((inR x1 (A 72 0)) = true → hB ((wF F 68 3 0) 68 28) = true ∧ (((lvI (A 81) ((wF F 68 3 0) 68 28) x1) = (-1) → Q (.inl (some (.int 0))) ((wF F 68 3 0), A, J, G)) ∧ (¬ (lvI (A 81) ((wF F 68 3 0) 68 28) x1) = (-1) → X (d + 5) 207 0 [.ref 68, .ref 88, .int 0, .null] [] ((wF F 68 3 0), A, J, G) (KK (d + 6) 243 39 [.ref 68, .int x1, .null] [] Q)))) ∧ ((inR x1 (A 72 0)) = false → Q (.inl (some (.int 0))) ((wF (wF F 68 3 0) 68 3 1), A, J, G)))) : X (d + 6) 243 0 [.ref 68, .int x1, .null] [] (F, A, J, G) Q := by
  refine Y_al0 i_243_0 ?_
  refine Y_iconst (v := 0) i_243_1 (by decide) ?_
  refine Y_pI i_243_2 ow_243 lf_10_143 (k_68 hG) ?_
  refine Y_al0 i_243_5 ?_
  refine Y_il1 i_243_6 ?_
  have o1 := h.1
  replace h := h.2
  refine Y_iv1 (L0 := [.ref 68, .int x1]) i_243_7 ow_243 lm_10_333 ((k_68 hG).trans ow_180.symm) rfl mx_180 rfl rfl hd_243 ?_
  refine c_180 hG o1 (KKi ?_)
  refine Y_bne i_243_10 (fun e2 => ?_) (fun e2 => ?_)
  · replace h := h.1 e2
    refine Y_al0 i_243_19 ?_
    refine Y_il1 i_243_20 ?_
    have o3 := h.1
    replace h := h.2
    refine Y_iv1 (L0 := [.ref 68, .int x1, .null]) i_243_21 ow_243 lm_10_336 ((k_68 hG).trans ow_209.symm) rfl mx_209 rfl rfl hd_243 ?_
    refine c_209 hG o3 (KKi ?_)
    refine Y_iconst (v := (-1)) i_243_24 (by decide) ?_
    refine Y_cne i_243_25 (fun e4 => ?_) (fun e4 => ?_)
    · replace h := h.1 e4
      refine Y_iconst (v := 0) i_243_28 (by decide) ?_
      exact Y_bret i_243_29 rt_243 (by decide) h
    · replace h := h.2 e4
      refine Y_al0 i_243_30 ?_
      refine Y_al0 i_243_31 ?_
      refine Y_gR i_243_32 ow_243 lf_10_94 (k_68 hG) (r_68_35 hG) ?_
      refine Y_iconst (v := 0) i_243_35 (by decide) ?_
      exact Y_iv2 (L0 := [.ref 68, .ref 88, .int 0, .null]) i_243_36 ow_243 lm_10_347 ((k_68 hG).trans ow_207.symm) rfl mx_207 rfl rfl hd_243 h
  · replace h := h.2 e2
    refine Y_al0 i_243_13 ?_
    refine Y_iconst (v := 1) i_243_14 (by decide) ?_
    refine Y_iv1 (L0 := [.ref 68, .int 1]) i_243_15 ow_243 lm_10_360 ((k_68 hG).trans ow_177.symm) rfl mx_177 rfl rfl hd_243 ?_
    refine Y_al0 i_177_0 ?_
    refine Y_il1 i_177_1 ?_
    refine Y_pI i_177_2 ow_177 lf_10_143 (k_68 hG) ?_
    refine Y_iconst (v := 0) i_177_5 (by decide) ?_
    refine Y_bret i_177_6 rt_177 (by decide) (KKi ?_)
    exact Y_bret i_243_18 rt_243 (by decide) h
theorem k_243_39 {d : Nat} {F A : Nat → Nat → Int32} {J : Nat → Nat → Int64} {G : pG} {Q : pR → pM → Prop} {SL p q : Nat} {x1 : Int32} (hG : Geo G SL p q) (h : X (d + 5) 230 0 [.ref 68, .int x1, .null, .null] [] (F, A, J, G) (KK (d + 6) 243 44 [.ref 68, .int x1, .null] [] Q)) : KK (d + 6) 243 39 [.ref 68, .int x1, .null] [] Q (.inl none) (F, A, J, G) := by
  refine KKv ?_
  refine Y_al0 i_243_39 ?_
  refine Y_il1 i_243_40 ?_
  exact Y_iv1 (L0 := [.ref 68, .int x1, .null, .null]) i_243_41 ow_243 lm_10_357 ((k_68 hG).trans ow_230.symm) rfl mx_230 rfl rfl hd_243 h
theorem k_243_44 {d : Nat} {F A : Nat → Nat → Int32} {J : Nat → Nat → Int64} {G : pG} {Q : pR → pM → Prop} {SL p q : Nat} {x1 : Int32} (hG : Geo G SL p q) (h : X (d + 5) 218 0 [.ref 68] [] (F, A, J, G) (KK (d + 6) 243 48 [.ref 68, .int x1, .null] [] Q)) : KK (d + 6) 243 44 [.ref 68, .int x1, .null] [] Q (.inl none) (F, A, J, G) := by
  refine KKv ?_
  refine Y_al0 i_243_44 ?_
  exact Y_iv0 (L0 := [.ref 68]) i_243_45 ow_243 lm_10_326 ((k_68 hG).trans ow_218.symm) rfl mx_218 rfl rfl hd_243 h
theorem k_243_48 {d : Nat} {F A : Nat → Nat → Int32} {J : Nat → Nat → Int64} {G : pG} {Q : pR → pM → Prop} {SL p q : Nat} {x1 r r : Int32} (hG : Geo G SL p q) (h : X (d + 5) 208 0 [.ref 68, .ref 88, .int 0, .null] [] (F, A, J, G) (KK (d + 6) 243 58 [.ref 68, .int x1, .int r] [] Q)) : KK (d + 6) 243 48 [.ref 68, .int x1, .null] [] Q (.inl (some (.int r))) (F, A, J, G) := by
  refine KKi ?_
  refine Y_is2 i_243_48 rfl ?_
  refine Y_al0 i_243_49 ?_
  refine Y_al0 i_243_50 ?_
  refine Y_gR i_243_51 ow_243 lf_10_94 (k_68 hG) (r_68_35 hG) ?_
  refine Y_iconst (v := 0) i_243_54 (by decide) ?_
  exact Y_iv2 (L0 := [.ref 68, .ref 88, .int 0, .null]) i_243_55 ow_243 lm_10_386 ((k_68 hG).trans ow_208.symm) rfl mx_208 rfl rfl hd_243 h
theorem k_243_58 {d : Nat} {F A : Nat → Nat → Int32} {J : Nat → Nat → Int64} {G : pG} {Q : pR → pM → Prop} {SL p q : Nat} {x1 x2 : Int32} (hG : Geo G SL p q) (h : (x2 = 0 ∨ x2 = 1) ∧ (Q (.inl (some (.int x2))) (F, A, J, G))) : KK (d + 6) 243 58 [.ref 68, .int x1, .int x2] [] Q (.inl none) (F, A, J, G) := by
  refine KKv ?_
  refine Y_il2 i_243_58 ?_
  have o1 := h.1
  replace h := h.2
  exact Y_bret i_243_59 rt_243 o1 h
/- 244 Model.tellSums()V -/
theorem t_244_0 {d : Nat} {F A : Nat → Nat → Int32} {J : Nat → Nat → Int64} {G : pG} {Q : pR → pM → Prop} {SL p q : Nat} (hG : Geo G SL p q) (h : X (d + 1) 244 16 [.ref 68, .int 0, .null] [] (F, (wF (wF A 89 0 0) 90 0 0), J, G) Q) : X (d + 1) 244 0 [.ref 68, .null, .null] [] (F, A, J, G) Q := by
  refine Y_al0 i_244_0 ?_
  refine Y_gR i_244_1 ow_244 lf_10_97 (k_68 hG) (r_68_36 hG) ?_
  refine Y_iconst (v := 0) i_244_4 (by decide) ?_
  refine Y_iconst (v := 0) i_244_5 (by decide) ?_
  refine Y_iast (k := 0) i_244_6 (k_89 hG) (l_89 hG) (by decide) (by decide) ?_
  refine Y_al0 i_244_7 ?_
  refine Y_gR i_244_8 ow_244 lf_10_100 (k_68 hG) (r_68_37 hG) ?_
  refine Y_iconst (v := 0) i_244_11 (by decide) ?_
  refine Y_iconst (v := 0) i_244_12 (by decide) ?_
  refine Y_iast (k := 0) i_244_13 (k_90 hG) (l_90 hG) (by decide) (by decide) ?_
  refine Y_iconst (v := 0) i_244_14 (by decide) ?_
  refine Y_is1 i_244_15 rfl ?_
  exact h
theorem t_244_16 {d : Nat} {F A : Nat → Nat → Int32} {J : Nat → Nat → Int64} {G : pG} {Q : pR → pM → Prop} {SL p q : Nat} {x1 : Int32} {v2 : Value} (hG : Geo G SL p q) (h : ((x1 < (A 72 0) → X (d + 1) 244 28 [.ref 68, .int x1, .int 0] [] (F, A, J, G) Q) ∧ (¬ x1 < (A 72 0) → Q (.inl none) (F, A, J, G)))) : X (d + 1) 244 16 [.ref 68, .int x1, v2] [] (F, A, J, G) Q := by
  refine Y_il1 i_244_16 ?_
  refine Y_al0 i_244_17 ?_
  refine Y_gR i_244_18 ow_244 lf_10_42 (k_68 hG) (r_68_4 hG) ?_
  refine Y_iconst (v := 0) i_244_21 (by decide) ?_
  refine Y_iaload (k := 0) (v := (A 72 0)) i_244_22 (k_72 hG) (l_72 hG) (by decide) (by decide) rfl ?_
  refine Y_cge i_244_23 (fun e1 => ?_) (fun e1 => ?_)
  · replace h := h.1 e1
    refine Y_iconst (v := 0) i_244_26 (by decide) ?_
    refine Y_is2 i_244_27 rfl ?_
    exact h
  · replace h := h.2 e1
    exact Y_vret i_244_99 rt_244 h
theorem t_244_28 {d : Nat} {F A : Nat → Nat → Int32} {J : Nat → Nat → Int64} {G : pG} {Q : pR → pM → Prop} {SL p q : Nat} {x1 x2 : Int32} (hG : Geo G SL p q) (h : ((x2 < ((1 : Int32) <<< (x1 &&& 31)) → inB x2 1024 = true ∧ inB x1 20 = true ∧ inB x1 10 = true ∧ inB (x2 ||| ((1 : Int32) <<< (x1 &&& 31))) 1024 = true ∧ (X (d + 1) 244 28 [.ref 68, .int x1, .int (x2 + 1)] [] (F, (wF (wF A 89 (x2 ||| ((1 : Int32) <<< (x1 &&& 31))).toNatClampNeg (((A 89 x2.toNatClampNeg) + (A 74 x1.toNatClampNeg)) + (A 82 x1.toNatClampNeg))) 90 (x2 ||| ((1 : Int32) <<< (x1 &&& 31))).toNatClampNeg ((A 90 x2.toNatClampNeg) + (lnS (A 73 x1.toNatClampNeg) (A 84 x1.toNatClampNeg) (A 83 x1.toNatClampNeg)))), J, G) Q)) ∧ (¬ x2 < ((1 : Int32) <<< (x1 &&& 31)) → X (d + 1) 244 16 [.ref 68, .int (x1 + 1), .int x2] [] (F, A, J, G) Q))) : X (d + 1) 244 28 [.ref 68, .int x1, .int x2] [] (F, A, J, G) Q := by
  refine Y_il2 i_244_28 ?_
  refine Y_iconst (v := 1) i_244_29 (by decide) ?_
  refine Y_il1 i_244_30 ?_
  refine Y_ishl i_244_31 ?_
  refine Y_cge i_244_32 (fun e1 => ?_) (fun e1 => ?_)
  · replace h := h.1 e1
    refine Y_al0 i_244_35 ?_
    refine Y_gR i_244_36 ow_244 lf_10_97 (k_68 hG) (r_68_36 hG) ?_
    refine Y_il2 i_244_39 ?_
    refine Y_iconst (v := 1) i_244_40 (by decide) ?_
    refine Y_il1 i_244_41 ?_
    refine Y_ishl i_244_42 ?_
    refine Y_ior i_244_43 ?_
    refine Y_al0 i_244_44 ?_
    refine Y_gR i_244_45 ow_244 lf_10_97 (k_68 hG) (r_68_36 hG) ?_
    refine Y_il2 i_244_48 ?_
    have o2 := h.1
    replace h := h.2
    refine Y_iaload (k := x2.toNatClampNeg) (v := (A 89 x2.toNatClampNeg)) i_244_49 (k_89 hG) (l_89 hG) o2 rfl rfl ?_
    refine Y_al0 i_244_50 ?_
    refine Y_gR i_244_51 ow_244 lf_10_47 (k_68 hG) (r_68_6 hG) ?_
    refine Y_il1 i_244_54 ?_
    have o3 := h.1
    replace h := h.2
    refine Y_iaload (k := x1.toNatClampNeg) (v := (A 74 x1.toNatClampNeg)) i_244_55 (k_74 hG) (l_74 hG) o3 rfl rfl ?_
    refine Y_iadd i_244_56 ?_
    refine Y_al0 i_244_57 ?_
    refine Y_gR i_244_58 ow_244 lf_10_73 (k_68 hG) (r_68_24 hG) ?_
    refine Y_il1 i_244_61 ?_
    have o4 := h.1
    replace h := h.2
    refine Y_iaload (k := x1.toNatClampNeg) (v := (A 82 x1.toNatClampNeg)) i_244_62 (k_82 hG) (l_82 hG) o4 rfl rfl ?_
    refine Y_iadd i_244_63 ?_
    have o5 := h.1
    replace h := h.2
    refine Y_iast i_244_64 (k_89 hG) (l_89 hG) o5 rfl ?_
    refine Y_al0 i_244_65 ?_
    refine Y_gR i_244_66 ow_244 lf_10_100 (k_68 hG) (r_68_37 hG) ?_
    refine Y_il2 i_244_69 ?_
    refine Y_iconst (v := 1) i_244_70 (by decide) ?_
    refine Y_il1 i_244_71 ?_
    refine Y_ishl i_244_72 ?_
    refine Y_ior i_244_73 ?_
    refine Y_al0 i_244_74 ?_
    refine Y_gR i_244_75 ow_244 lf_10_100 (k_68 hG) (r_68_37 hG) ?_
    refine Y_il2 i_244_78 ?_
    refine Y_iaload (k := x2.toNatClampNeg) (v := (A 90 x2.toNatClampNeg)) i_244_79 (k_90 hG) (l_90 hG) o2 rfl (by simp [wF, wJ, va_up, cpR, bF, bA]) ?_
    refine Y_al0 i_244_80 ?_
    refine Y_il1 i_244_81 ?_
    refine Y_iv1 (L0 := [.ref 68, .int x1]) i_244_82 ow_244 lm_10_305 ((k_68 hG).trans ow_212.symm) rfl mx_212 rfl rfl hd_244 ?_
    refine c_212 hG o4 (KKi' (v' := (lnS (A 73 x1.toNatClampNeg) (A 84 x1.toNatClampNeg) (A 83 x1.toNatClampNeg))) (by simp [wF, wJ, va_up, cpR, bF, bA]) ?_)
    refine Y_iadd i_244_85 ?_
    refine Y_iast i_244_86 (k_90 hG) (l_90 hG) o5 rfl ?_
    refine Y_ii2 (v := 1) i_244_87 (by decide) rfl ?_
    refine Y_goto i_244_90 ?_
    exact h
  · replace h := h.2 e1
    refine Y_ii1 (v := 1) i_244_93 (by decide) rfl ?_
    refine Y_goto i_244_96 ?_
    exact h
/- 246 Model.fits(III)Z -/
theorem t_246_0 {d : Nat} {F A : Nat → Nat → Int32} {J : Nat → Nat → Int64} {G : pG} {Q : pR → pM → Prop} {SL p q : Nat} {x1 x2 x3 : Int32} (hG : Geo G SL p q) (h : (((isO (F 68 39) x2) = true → inB x1 1024 = true ∧ (((nI (pcn x1.toNatClampNeg)) < (F 68 40) → Q (.inl (some (.int 0))) (F, A, J, G)) ∧ (¬ (nI (pcn x1.toNatClampNeg)) < (F 68 40) → inB x3 1024 = true ∧ inB (x1 ||| ((1 : Int32) <<< (x2 &&& 31))) 1024 = true ∧ inB x2 10 = true ∧ (((x1 ||| ((1 : Int32) <<< (x2 &&& 31))) = x3 → inB x2 20 = true ∧ inB (A 73 x2.toNatClampNeg) 4 = true ∧ Wrm A ∧ (((carS (A 73 x2.toNatClampNeg) (A 75 x2.toNatClampNeg) (F 68 29) 1) < (((A 89 x3.toNatClampNeg) - (A 89 (x1 ||| ((1 : Int32) <<< (x2 &&& 31))).toNatClampNeg)) + (A 82 x2.toNatClampNeg)) → Q (.inl (some (.int 0))) (F, A, J, G)) ∧ (¬ (carS (A 73 x2.toNatClampNeg) (A 75 x2.toNatClampNeg) (F 68 29) 1) < (((A 89 x3.toNatClampNeg) - (A 89 (x1 ||| ((1 : Int32) <<< (x2 &&& 31))).toNatClampNeg)) + (A 82 x2.toNatClampNeg)) → (((A 72 1) < (jabs (A 90 (x1 ||| ((1 : Int32) <<< (x2 &&& 31))).toNatClampNeg)) → Q (.inl (some (.int 0))) (F, A, J, G)) ∧ (¬ (A 72 1) < (jabs (A 90 (x1 ||| ((1 : Int32) <<< (x2 &&& 31))).toNatClampNeg)) → Q (.inl (some (.int 1))) (F, A, J, G)))))) ∧ (¬ (x1 ||| ((1 : Int32) <<< (x2 &&& 31))) = x3 → inB x2 20 = true ∧ inB (A 73 x2.toNatClampNeg) 4 = true ∧ Wrm A ∧ (((carS (A 73 x2.toNatClampNeg) (A 75 x2.toNatClampNeg) (F 68 29) 0) < (((A 89 x3.toNatClampNeg) - (A 89 (x1 ||| ((1 : Int32) <<< (x2 &&& 31))).toNatClampNeg)) + (A 82 x2.toNatClampNeg)) → Q (.inl (some (.int 0))) (F, A, J, G)) ∧ (¬ (carS (A 73 x2.toNatClampNeg) (A 75 x2.toNatClampNeg) (F 68 29) 0) < (((A 89 x3.toNatClampNeg) - (A 89 (x1 ||| ((1 : Int32) <<< (x2 &&& 31))).toNatClampNeg)) + (A 82 x2.toNatClampNeg)) → (((A 72 1) < (jabs (A 90 (x1 ||| ((1 : Int32) <<< (x2 &&& 31))).toNatClampNeg)) → Q (.inl (some (.int 0))) (F, A, J, G)) ∧ (¬ (A 72 1) < (jabs (A 90 (x1 ||| ((1 : Int32) <<< (x2 &&& 31))).toNatClampNeg)) → Q (.inl (some (.int 1))) (F, A, J, G)))))))))) ∧ ((isO (F 68 39) x2) = false → inB x3 1024 = true ∧ inB (x1 ||| ((1 : Int32) <<< (x2 &&& 31))) 1024 = true ∧ inB x2 10 = true ∧ (((x1 ||| ((1 : Int32) <<< (x2 &&& 31))) = x3 → inB x2 20 = true ∧ inB (A 73 x2.toNatClampNeg) 4 = true ∧ Wrm A ∧ (((carS (A 73 x2.toNatClampNeg) (A 75 x2.toNatClampNeg) (F 68 29) 1) < (((A 89 x3.toNatClampNeg) - (A 89 (x1 ||| ((1 : Int32) <<< (x2 &&& 31))).toNatClampNeg)) + (A 82 x2.toNatClampNeg)) → Q (.inl (some (.int 0))) (F, A, J, G)) ∧ (¬ (carS (A 73 x2.toNatClampNeg) (A 75 x2.toNatClampNeg) (F 68 29) 1) < (((A 89 x3.toNatClampNeg) - (A 89 (x1 ||| ((1 : Int32) <<< (x2 &&& 31))).toNatClampNeg)) + (A 82 x2.toNatClampNeg)) → (((A 72 1) < (jabs (A 90 (x1 ||| ((1 : Int32) <<< (x2 &&& 31))).toNatClampNeg)) → Q (.inl (some (.int 0))) (F, A, J, G)) ∧ (¬ (A 72 1) < (jabs (A 90 (x1 ||| ((1 : Int32) <<< (x2 &&& 31))).toNatClampNeg)) → Q (.inl (some (.int 1))) (F, A, J, G)))))) ∧ (¬ (x1 ||| ((1 : Int32) <<< (x2 &&& 31))) = x3 → inB x2 20 = true ∧ inB (A 73 x2.toNatClampNeg) 4 = true ∧ Wrm A ∧ (((carS (A 73 x2.toNatClampNeg) (A 75 x2.toNatClampNeg) (F 68 29) 0) < (((A 89 x3.toNatClampNeg) - (A 89 (x1 ||| ((1 : Int32) <<< (x2 &&& 31))).toNatClampNeg)) + (A 82 x2.toNatClampNeg)) → Q (.inl (some (.int 0))) (F, A, J, G)) ∧ (¬ (carS (A 73 x2.toNatClampNeg) (A 75 x2.toNatClampNeg) (F 68 29) 0) < (((A 89 x3.toNatClampNeg) - (A 89 (x1 ||| ((1 : Int32) <<< (x2 &&& 31))).toNatClampNeg)) + (A 82 x2.toNatClampNeg)) → (((A 72 1) < (jabs (A 90 (x1 ||| ((1 : Int32) <<< (x2 &&& 31))).toNatClampNeg)) → Q (.inl (some (.int 0))) (F, A, J, G)) ∧ (¬ (A 72 1) < (jabs (A 90 (x1 ||| ((1 : Int32) <<< (x2 &&& 31))).toNatClampNeg)) → Q (.inl (some (.int 1))) (F, A, J, G)))))))))) : X (d + 2) 246 0 [.ref 68, .int x1, .int x2, .int x3, .null] [] (F, A, J, G) Q := by
  refine Y_il1 i_246_0 ?_
  refine Y_iconst (v := 1) i_246_1 (by decide) ?_
  refine Y_il2 i_246_2 ?_
  refine Y_ishl i_246_3 ?_
  refine Y_ior i_246_4 ?_
  refine Y_is4 i_246_5 rfl ?_
  refine Y_al0 i_246_7 ?_
  refine Y_gI (v := (F 68 39)) i_246_8 ow_246 lf_10_392 (by decide) (k_68 hG) rfl ?_
  refine Y_il2 i_246_11 ?_
  refine Y_is_2 (L0 := [.int (F 68 39), .int x2]) i_246_12 ow_246 lm_10_395 rfl mx_179 rfl rfl hd_246 ?_
  refine c_179 hG (KKi ?_)
  refine Y_beq i_246_15 (fun e1 => ?_) (fun e1 => ?_)
  · replace h := h.1 e1
    refine Y_il1 i_246_18 ?_
    have o2 := h.1
    replace h := h.2
    refine Y_is_1 (L0 := [.int x1, .null, .null]) i_246_19 ow_246 lm_10_399 rfl mx_245 rfl rfl hd_246 ?_
    refine c_245 hG o2 (KKi ?_)
    refine Y_al0 i_246_22 ?_
    refine Y_gI (v := (F 68 40)) i_246_23 ow_246 lf_10_402 (by decide) (k_68 hG) rfl ?_
    refine Y_cge i_246_26 (fun e3 => ?_) (fun e3 => ?_)
    · replace h := h.1 e3
      refine Y_iconst (v := 0) i_246_29 (by decide) ?_
      exact Y_bret i_246_30 rt_246 (by decide) h
    · replace h := h.2 e3
      refine Y_al0 i_246_31 ?_
      refine Y_gR i_246_32 ow_246 lf_10_97 (k_68 hG) (r_68_36 hG) ?_
      refine Y_il3 i_246_35 ?_
      have o4 := h.1
      replace h := h.2
      refine Y_iaload (k := x3.toNatClampNeg) (v := (A 89 x3.toNatClampNeg)) i_246_36 (k_89 hG) (l_89 hG) o4 rfl rfl ?_
      refine Y_al0 i_246_37 ?_
      refine Y_gR i_246_38 ow_246 lf_10_97 (k_68 hG) (r_68_36 hG) ?_
      refine Y_il4 i_246_41 ?_
      have o5 := h.1
      replace h := h.2
      refine Y_iaload (k := (x1 ||| ((1 : Int32) <<< (x2 &&& 31))).toNatClampNeg) (v := (A 89 (x1 ||| ((1 : Int32) <<< (x2 &&& 31))).toNatClampNeg)) i_246_43 (k_89 hG) (l_89 hG) o5 rfl rfl ?_
      refine Y_isub i_246_44 ?_
      refine Y_al0 i_246_45 ?_
      refine Y_gR i_246_46 ow_246 lf_10_73 (k_68 hG) (r_68_24 hG) ?_
      refine Y_il2 i_246_49 ?_
      have o6 := h.1
      replace h := h.2
      refine Y_iaload (k := x2.toNatClampNeg) (v := (A 82 x2.toNatClampNeg)) i_246_50 (k_82 hG) (l_82 hG) o6 rfl rfl ?_
      refine Y_iadd i_246_51 ?_
      refine Y_al0 i_246_52 ?_
      refine Y_il2 i_246_53 ?_
      refine Y_il4 i_246_54 ?_
      refine Y_il3 i_246_56 ?_
      refine Y_cne i_246_57 (fun e7 => ?_) (fun e7 => ?_)
      · replace h := h.1 e7
        refine Y_iconst (v := 1) i_246_60 (by decide) ?_
        refine Y_goto i_246_61 ?_
        have o8 := h.1
        replace h := h.2
        have o9 := h.1
        replace h := h.2
        have o10 := h.1
        replace h := h.2
        refine Y_iv2 (L0 := [.ref 68, .int x2, .int 1, .null]) i_246_65 ow_246 lm_10_301 ((k_68 hG).trans ow_211.symm) rfl mx_211 rfl rfl hd_246 ?_
        refine c_211 hG o8 o9 o10 (KKi ?_)
        refine Y_cgt i_246_68 (fun e11 => ?_) (fun e11 => ?_)
        · replace h := h.1 e11
          refine Y_iconst (v := 0) i_246_94 (by decide) ?_
          exact Y_bret i_246_95 rt_246 (by decide) h
        · replace h := h.2 e11
          refine Y_al0 i_246_71 ?_
          refine Y_gR i_246_72 ow_246 lf_10_100 (k_68 hG) (r_68_37 hG) ?_
          refine Y_il4 i_246_75 ?_
          refine Y_iaload (k := (x1 ||| ((1 : Int32) <<< (x2 &&& 31))).toNatClampNeg) (v := (A 90 (x1 ||| ((1 : Int32) <<< (x2 &&& 31))).toNatClampNeg)) i_246_77 (k_90 hG) (l_90 hG) o5 rfl rfl ?_
          refine Y_abs i_246_78 ow_246 lm_10_317 rfl ?_
          refine Y_al0 i_246_81 ?_
          refine Y_gR i_246_82 ow_246 lf_10_42 (k_68 hG) (r_68_4 hG) ?_
          refine Y_iconst (v := 1) i_246_85 (by decide) ?_
          refine Y_iaload (k := 1) (v := (A 72 1)) i_246_86 (k_72 hG) (l_72 hG) (by decide) (by decide) rfl ?_
          refine Y_cgt i_246_87 (fun e12 => ?_) (fun e12 => ?_)
          · replace h := h.1 e12
            refine Y_iconst (v := 0) i_246_94 (by decide) ?_
            exact Y_bret i_246_95 rt_246 (by decide) h
          · replace h := h.2 e12
            refine Y_iconst (v := 1) i_246_90 (by decide) ?_
            refine Y_goto i_246_91 ?_
            exact Y_bret i_246_95 rt_246 (by decide) h
      · replace h := h.2 e7
        refine Y_iconst (v := 0) i_246_64 (by decide) ?_
        have o13 := h.1
        replace h := h.2
        have o14 := h.1
        replace h := h.2
        have o15 := h.1
        replace h := h.2
        refine Y_iv2 (L0 := [.ref 68, .int x2, .int 0, .null]) i_246_65 ow_246 lm_10_301 ((k_68 hG).trans ow_211.symm) rfl mx_211 rfl rfl hd_246 ?_
        refine c_211 hG o13 o14 o15 (KKi ?_)
        refine Y_cgt i_246_68 (fun e16 => ?_) (fun e16 => ?_)
        · replace h := h.1 e16
          refine Y_iconst (v := 0) i_246_94 (by decide) ?_
          exact Y_bret i_246_95 rt_246 (by decide) h
        · replace h := h.2 e16
          refine Y_al0 i_246_71 ?_
          refine Y_gR i_246_72 ow_246 lf_10_100 (k_68 hG) (r_68_37 hG) ?_
          refine Y_il4 i_246_75 ?_
          refine Y_iaload (k := (x1 ||| ((1 : Int32) <<< (x2 &&& 31))).toNatClampNeg) (v := (A 90 (x1 ||| ((1 : Int32) <<< (x2 &&& 31))).toNatClampNeg)) i_246_77 (k_90 hG) (l_90 hG) o5 rfl rfl ?_
          refine Y_abs i_246_78 ow_246 lm_10_317 rfl ?_
          refine Y_al0 i_246_81 ?_
          refine Y_gR i_246_82 ow_246 lf_10_42 (k_68 hG) (r_68_4 hG) ?_
          refine Y_iconst (v := 1) i_246_85 (by decide) ?_
          refine Y_iaload (k := 1) (v := (A 72 1)) i_246_86 (k_72 hG) (l_72 hG) (by decide) (by decide) rfl ?_
          refine Y_cgt i_246_87 (fun e17 => ?_) (fun e17 => ?_)
          · replace h := h.1 e17
            refine Y_iconst (v := 0) i_246_94 (by decide) ?_
            exact Y_bret i_246_95 rt_246 (by decide) h
          · replace h := h.2 e17
            refine Y_iconst (v := 1) i_246_90 (by decide) ?_
            refine Y_goto i_246_91 ?_
            exact Y_bret i_246_95 rt_246 (by decide) h
  · replace h := h.2 e1
    refine Y_al0 i_246_31 ?_
    refine Y_gR i_246_32 ow_246 lf_10_97 (k_68 hG) (r_68_36 hG) ?_
    refine Y_il3 i_246_35 ?_
    have o18 := h.1
    replace h := h.2
    refine Y_iaload (k := x3.toNatClampNeg) (v := (A 89 x3.toNatClampNeg)) i_246_36 (k_89 hG) (l_89 hG) o18 rfl rfl ?_
    refine Y_al0 i_246_37 ?_
    refine Y_gR i_246_38 ow_246 lf_10_97 (k_68 hG) (r_68_36 hG) ?_
    refine Y_il4 i_246_41 ?_
    have o19 := h.1
    replace h := h.2
    refine Y_iaload (k := (x1 ||| ((1 : Int32) <<< (x2 &&& 31))).toNatClampNeg) (v := (A 89 (x1 ||| ((1 : Int32) <<< (x2 &&& 31))).toNatClampNeg)) i_246_43 (k_89 hG) (l_89 hG) o19 rfl rfl ?_
    refine Y_isub i_246_44 ?_
    refine Y_al0 i_246_45 ?_
    refine Y_gR i_246_46 ow_246 lf_10_73 (k_68 hG) (r_68_24 hG) ?_
    refine Y_il2 i_246_49 ?_
    have o20 := h.1
    replace h := h.2
    refine Y_iaload (k := x2.toNatClampNeg) (v := (A 82 x2.toNatClampNeg)) i_246_50 (k_82 hG) (l_82 hG) o20 rfl rfl ?_
    refine Y_iadd i_246_51 ?_
    refine Y_al0 i_246_52 ?_
    refine Y_il2 i_246_53 ?_
    refine Y_il4 i_246_54 ?_
    refine Y_il3 i_246_56 ?_
    refine Y_cne i_246_57 (fun e21 => ?_) (fun e21 => ?_)
    · replace h := h.1 e21
      refine Y_iconst (v := 1) i_246_60 (by decide) ?_
      refine Y_goto i_246_61 ?_
      have o22 := h.1
      replace h := h.2
      have o23 := h.1
      replace h := h.2
      have o24 := h.1
      replace h := h.2
      refine Y_iv2 (L0 := [.ref 68, .int x2, .int 1, .null]) i_246_65 ow_246 lm_10_301 ((k_68 hG).trans ow_211.symm) rfl mx_211 rfl rfl hd_246 ?_
      refine c_211 hG o22 o23 o24 (KKi ?_)
      refine Y_cgt i_246_68 (fun e25 => ?_) (fun e25 => ?_)
      · replace h := h.1 e25
        refine Y_iconst (v := 0) i_246_94 (by decide) ?_
        exact Y_bret i_246_95 rt_246 (by decide) h
      · replace h := h.2 e25
        refine Y_al0 i_246_71 ?_
        refine Y_gR i_246_72 ow_246 lf_10_100 (k_68 hG) (r_68_37 hG) ?_
        refine Y_il4 i_246_75 ?_
        refine Y_iaload (k := (x1 ||| ((1 : Int32) <<< (x2 &&& 31))).toNatClampNeg) (v := (A 90 (x1 ||| ((1 : Int32) <<< (x2 &&& 31))).toNatClampNeg)) i_246_77 (k_90 hG) (l_90 hG) o19 rfl rfl ?_
        refine Y_abs i_246_78 ow_246 lm_10_317 rfl ?_
        refine Y_al0 i_246_81 ?_
        refine Y_gR i_246_82 ow_246 lf_10_42 (k_68 hG) (r_68_4 hG) ?_
        refine Y_iconst (v := 1) i_246_85 (by decide) ?_
        refine Y_iaload (k := 1) (v := (A 72 1)) i_246_86 (k_72 hG) (l_72 hG) (by decide) (by decide) rfl ?_
        refine Y_cgt i_246_87 (fun e26 => ?_) (fun e26 => ?_)
        · replace h := h.1 e26
          refine Y_iconst (v := 0) i_246_94 (by decide) ?_
          exact Y_bret i_246_95 rt_246 (by decide) h
        · replace h := h.2 e26
          refine Y_iconst (v := 1) i_246_90 (by decide) ?_
          refine Y_goto i_246_91 ?_
          exact Y_bret i_246_95 rt_246 (by decide) h
    · replace h := h.2 e21
      refine Y_iconst (v := 0) i_246_64 (by decide) ?_
      have o27 := h.1
      replace h := h.2
      have o28 := h.1
      replace h := h.2
      have o29 := h.1
      replace h := h.2
      refine Y_iv2 (L0 := [.ref 68, .int x2, .int 0, .null]) i_246_65 ow_246 lm_10_301 ((k_68 hG).trans ow_211.symm) rfl mx_211 rfl rfl hd_246 ?_
      refine c_211 hG o27 o28 o29 (KKi ?_)
      refine Y_cgt i_246_68 (fun e30 => ?_) (fun e30 => ?_)
      · replace h := h.1 e30
        refine Y_iconst (v := 0) i_246_94 (by decide) ?_
        exact Y_bret i_246_95 rt_246 (by decide) h
      · replace h := h.2 e30
        refine Y_al0 i_246_71 ?_
        refine Y_gR i_246_72 ow_246 lf_10_100 (k_68 hG) (r_68_37 hG) ?_
        refine Y_il4 i_246_75 ?_
        refine Y_iaload (k := (x1 ||| ((1 : Int32) <<< (x2 &&& 31))).toNatClampNeg) (v := (A 90 (x1 ||| ((1 : Int32) <<< (x2 &&& 31))).toNatClampNeg)) i_246_77 (k_90 hG) (l_90 hG) o19 rfl rfl ?_
        refine Y_abs i_246_78 ow_246 lm_10_317 rfl ?_
        refine Y_al0 i_246_81 ?_
        refine Y_gR i_246_82 ow_246 lf_10_42 (k_68 hG) (r_68_4 hG) ?_
        refine Y_iconst (v := 1) i_246_85 (by decide) ?_
        refine Y_iaload (k := 1) (v := (A 72 1)) i_246_86 (k_72 hG) (l_72 hG) (by decide) (by decide) rfl ?_
        refine Y_cgt i_246_87 (fun e31 => ?_) (fun e31 => ?_)
        · replace h := h.1 e31
          refine Y_iconst (v := 0) i_246_94 (by decide) ?_
          exact Y_bret i_246_95 rt_246 (by decide) h
        · replace h := h.2 e31
          refine Y_iconst (v := 1) i_246_90 (by decide) ?_
          refine Y_goto i_246_91 ?_
          exact Y_bret i_246_95 rt_246 (by decide) h
/- 247 Model.tellWays(I)V -/
theorem t_247_0 {d : Nat} {F A : Nat → Nat → Int32} {J : Nat → Nat → Int64} {G : pG} {Q : pR → pM → Prop} {SL p q : Nat} {x1 : Int32} (hG : Geo G SL p q) (h : inB x1 1024 = true ∧ (X (d + 3) 247 9 [.ref 68, .int x1, .int x1, .null] [] (F, A, (wJ J 91 x1.toNatClampNeg 1), G) Q)) : X (d + 3) 247 0 [.ref 68, .int x1, .null, .null] [] (F, A, J, G) Q := by
  refine Y_al0 i_247_0 ?_
  refine Y_gR i_247_1 ow_247 lf_10_103 (k_68 hG) (r_68_38 hG) ?_
  refine Y_il1 i_247_4 ?_
  refine Y_lconst (v := 1) i_247_5 (by decide) ?_
  have o1 := h.1
  replace h := h.2
  refine Y_last i_247_6 (k_91 hG) (l_91 hG) o1 rfl ?_
  refine Y_il1 i_247_7 ?_
  refine Y_is2 i_247_8 rfl ?_
  exact h
theorem t_247_9 {d : Nat} {F A : Nat → Nat → Int32} {J : Nat → Nat → Int64} {G : pG} {Q : pR → pM → Prop} {SL p q : Nat} {x1 x2 : Int32} {v3 : Value} (hG : Geo G SL p q) (h : ((x2 = 0 → Q (.inl none) (F, A, J, G)) ∧ (¬ x2 = 0 → inB ((x2 - 1) &&& x1) 1024 = true ∧ (X (d + 3) 247 28 [.ref 68, .int x1, .int ((x2 - 1) &&& x1), .int 0] [] (F, A, (wJ J 91 ((x2 - 1) &&& x1).toNatClampNeg 0), G) Q)))) : X (d + 3) 247 9 [.ref 68, .int x1, .int x2, v3] [] (F, A, J, G) Q := by
  refine Y_il2 i_247_9 ?_
  refine Y_zeq i_247_10 (fun e1 => ?_) (fun e1 => ?_)
  · replace h := h.1 e1
    exact Y_vret i_247_103 rt_247 h
  · replace h := h.2 e1
    refine Y_il2 i_247_13 ?_
    refine Y_iconst (v := 1) i_247_14 (by decide) ?_
    refine Y_isub i_247_15 ?_
    refine Y_il1 i_247_16 ?_
    refine Y_iand i_247_17 ?_
    refine Y_is2 i_247_18 rfl ?_
    refine Y_al0 i_247_19 ?_
    refine Y_gR i_247_20 ow_247 lf_10_103 (k_68 hG) (r_68_38 hG) ?_
    refine Y_il2 i_247_23 ?_
    refine Y_lconst (v := 0) i_247_24 (by decide) ?_
    have o2 := h.1
    replace h := h.2
    refine Y_last i_247_25 (k_91 hG) (l_91 hG) o2 rfl ?_
    refine Y_iconst (v := 0) i_247_26 (by decide) ?_
    refine Y_is3 i_247_27 rfl ?_
    exact h
theorem t_247_28 {d : Nat} {F A : Nat → Nat → Int32} {J : Nat → Nat → Int64} {G : pG} {Q : pR → pM → Prop} {SL p q : Nat} {x1 x2 x3 : Int32} (hG : Geo G SL p q) (h : ((x3 < (A 72 0) → (((isO (x1 &&& (x2 ^^^ (-1))) x3) = true → inB (x2 ||| ((1 : Int32) <<< (x3 &&& 31))) 1024 = true ∧ ((0 < (J 91 (x2 ||| ((1 : Int32) <<< (x3 &&& 31))).toNatClampNeg) → (((isO (F 68 39) x3) = true → inB x2 1024 = true ∧ (((nI (pcn x2.toNatClampNeg)) < (F 68 40) → X (d + 3) 247 28 [.ref 68, .int x1, .int x2, .int (x3 + 1)] [] (F, A, J, G) Q) ∧ (¬ (nI (pcn x2.toNatClampNeg)) < (F 68 40) → inB x1 1024 = true ∧ inB x3 10 = true ∧ (((x2 ||| ((1 : Int32) <<< (x3 &&& 31))) = x1 → inB x3 20 = true ∧ inB (A 73 x3.toNatClampNeg) 4 = true ∧ Wrm A ∧ (((carS (A 73 x3.toNatClampNeg) (A 75 x3.toNatClampNeg) (F 68 29) 1) < (((A 89 x1.toNatClampNeg) - (A 89 (x2 ||| ((1 : Int32) <<< (x3 &&& 31))).toNatClampNeg)) + (A 82 x3.toNatClampNeg)) → X (d + 3) 247 28 [.ref 68, .int x1, .int x2, .int (x3 + 1)] [] (F, A, J, G) Q) ∧ (¬ (carS (A 73 x3.toNatClampNeg) (A 75 x3.toNatClampNeg) (F 68 29) 1) < (((A 89 x1.toNatClampNeg) - (A 89 (x2 ||| ((1 : Int32) <<< (x3 &&& 31))).toNatClampNeg)) + (A 82 x3.toNatClampNeg)) → (((A 72 1) < (jabs (A 90 (x2 ||| ((1 : Int32) <<< (x3 &&& 31))).toNatClampNeg)) → X (d + 3) 247 28 [.ref 68, .int x1, .int x2, .int (x3 + 1)] [] (F, A, J, G) Q) ∧ (¬ (A 72 1) < (jabs (A 90 (x2 ||| ((1 : Int32) <<< (x3 &&& 31))).toNatClampNeg)) → X (d + 3) 247 28 [.ref 68, .int x1, .int x2, .int (x3 + 1)] [] (F, A, (wJ J 91 x2.toNatClampNeg ((J 91 x2.toNatClampNeg) + (J 91 (x2 ||| ((1 : Int32) <<< (x3 &&& 31))).toNatClampNeg))), G) Q))))) ∧ (¬ (x2 ||| ((1 : Int32) <<< (x3 &&& 31))) = x1 → inB x3 20 = true ∧ inB (A 73 x3.toNatClampNeg) 4 = true ∧ Wrm A ∧ (((carS (A 73 x3.toNatClampNeg) (A 75 x3.toNatClampNeg) (F 68 29) 0) < (((A 89 x1.toNatClampNeg) - (A 89 (x2 ||| ((1 : Int32) <<< (x3 &&& 31))).toNatClampNeg)) + (A 82 x3.toNatClampNeg)) → X (d + 3) 247 28 [.ref 68, .int x1, .int x2, .int (x3 + 1)] [] (F, A, J, G) Q) ∧ (¬ (carS (A 73 x3.toNatClampNeg) (A 75 x3.toNatClampNeg) (F 68 29) 0) < (((A 89 x1.toNatClampNeg) - (A 89 (x2 ||| ((1 : Int32) <<< (x3 &&& 31))).toNatClampNeg)) + (A 82 x3.toNatClampNeg)) → (((A 72 1) < (jabs (A 90 (x2 ||| ((1 : Int32) <<< (x3 &&& 31))).toNatClampNeg)) → X (d + 3) 247 28 [.ref 68, .int x1, .int x2, .int (x3 + 1)] [] (F, A, J, G) Q) ∧ (¬ (A 72 1) < (jabs (A 90 (x2 ||| ((1 : Int32) <<< (x3 &&& 31))).toNatClampNeg)) → X (d + 3) 247 28 [.ref 68, .int x1, .int x2, .int (x3 + 1)] [] (F, A, (wJ J 91 x2.toNatClampNeg ((J 91 x2.toNatClampNeg) + (J 91 (x2 ||| ((1 : Int32) <<< (x3 &&& 31))).toNatClampNeg))), G) Q))))))))) ∧ ((isO (F 68 39) x3) = false → inB x1 1024 = true ∧ inB x3 10 = true ∧ (((x2 ||| ((1 : Int32) <<< (x3 &&& 31))) = x1 → inB x3 20 = true ∧ inB (A 73 x3.toNatClampNeg) 4 = true ∧ Wrm A ∧ (((carS (A 73 x3.toNatClampNeg) (A 75 x3.toNatClampNeg) (F 68 29) 1) < (((A 89 x1.toNatClampNeg) - (A 89 (x2 ||| ((1 : Int32) <<< (x3 &&& 31))).toNatClampNeg)) + (A 82 x3.toNatClampNeg)) → X (d + 3) 247 28 [.ref 68, .int x1, .int x2, .int (x3 + 1)] [] (F, A, J, G) Q) ∧ (¬ (carS (A 73 x3.toNatClampNeg) (A 75 x3.toNatClampNeg) (F 68 29) 1) < (((A 89 x1.toNatClampNeg) - (A 89 (x2 ||| ((1 : Int32) <<< (x3 &&& 31))).toNatClampNeg)) + (A 82 x3.toNatClampNeg)) → (((A 72 1) < (jabs (A 90 (x2 ||| ((1 : Int32) <<< (x3 &&& 31))).toNatClampNeg)) → X (d + 3) 247 28 [.ref 68, .int x1, .int x2, .int (x3 + 1)] [] (F, A, J, G) Q) ∧ (¬ (A 72 1) < (jabs (A 90 (x2 ||| ((1 : Int32) <<< (x3 &&& 31))).toNatClampNeg)) → inB x2 1024 = true ∧ (X (d + 3) 247 28 [.ref 68, .int x1, .int x2, .int (x3 + 1)] [] (F, A, (wJ J 91 x2.toNatClampNeg ((J 91 x2.toNatClampNeg) + (J 91 (x2 ||| ((1 : Int32) <<< (x3 &&& 31))).toNatClampNeg))), G) Q)))))) ∧ (¬ (x2 ||| ((1 : Int32) <<< (x3 &&& 31))) = x1 → inB x3 20 = true ∧ inB (A 73 x3.toNatClampNeg) 4 = true ∧ Wrm A ∧ (((carS (A 73 x3.toNatClampNeg) (A 75 x3.toNatClampNeg) (F 68 29) 0) < (((A 89 x1.toNatClampNeg) - (A 89 (x2 ||| ((1 : Int32) <<< (x3 &&& 31))).toNatClampNeg)) + (A 82 x3.toNatClampNeg)) → X (d + 3) 247 28 [.ref 68, .int x1, .int x2, .int (x3 + 1)] [] (F, A, J, G) Q) ∧ (¬ (carS (A 73 x3.toNatClampNeg) (A 75 x3.toNatClampNeg) (F 68 29) 0) < (((A 89 x1.toNatClampNeg) - (A 89 (x2 ||| ((1 : Int32) <<< (x3 &&& 31))).toNatClampNeg)) + (A 82 x3.toNatClampNeg)) → (((A 72 1) < (jabs (A 90 (x2 ||| ((1 : Int32) <<< (x3 &&& 31))).toNatClampNeg)) → X (d + 3) 247 28 [.ref 68, .int x1, .int x2, .int (x3 + 1)] [] (F, A, J, G) Q) ∧ (¬ (A 72 1) < (jabs (A 90 (x2 ||| ((1 : Int32) <<< (x3 &&& 31))).toNatClampNeg)) → inB x2 1024 = true ∧ (X (d + 3) 247 28 [.ref 68, .int x1, .int x2, .int (x3 + 1)] [] (F, A, (wJ J 91 x2.toNatClampNeg ((J 91 x2.toNatClampNeg) + (J 91 (x2 ||| ((1 : Int32) <<< (x3 &&& 31))).toNatClampNeg))), G) Q)))))))))) ∧ (¬ 0 < (J 91 (x2 ||| ((1 : Int32) <<< (x3 &&& 31))).toNatClampNeg) → X (d + 3) 247 28 [.ref 68, .int x1, .int x2, .int (x3 + 1)] [] (F, A, J, G) Q))) ∧ ((isO (x1 &&& (x2 ^^^ (-1))) x3) = false → X (d + 3) 247 28 [.ref 68, .int x1, .int x2, .int (x3 + 1)] [] (F, A, J, G) Q))) ∧ (¬ x3 < (A 72 0) → X (d + 3) 247 9 [.ref 68, .int x1, .int x2, .int x3] [] (F, A, J, G) Q))) : X (d + 3) 247 28 [.ref 68, .int x1, .int x2, .int x3] [] (F, A, J, G) Q := by
  refine Y_il3 i_247_28 ?_
  refine Y_al0 i_247_29 ?_
  refine Y_gR i_247_30 ow_247 lf_10_42 (k_68 hG) (r_68_4 hG) ?_
  refine Y_iconst (v := 0) i_247_33 (by decide) ?_
  refine Y_iaload (k := 0) (v := (A 72 0)) i_247_34 (k_72 hG) (l_72 hG) (by decide) (by decide) rfl ?_
  refine Y_cge i_247_35 (fun e1 => ?_) (fun e1 => ?_)
  · replace h := h.1 e1
    refine Y_il1 i_247_38 ?_
    refine Y_il2 i_247_39 ?_
    refine Y_iconst (v := (-1)) i_247_40 (by decide) ?_
    refine Y_ixor i_247_41 ?_
    refine Y_iand i_247_42 ?_
    refine Y_il3 i_247_43 ?_
    refine Y_is_2 (L0 := [.int (x1 &&& (x2 ^^^ (-1))), .int x3]) i_247_44 ow_247 lm_10_395 rfl mx_179 rfl rfl hd_247 ?_
    refine c_179 hG (KKi ?_)
    refine Y_beq i_247_47 (fun e2 => ?_) (fun e2 => ?_)
    · replace h := h.1 e2
      refine Y_al0 i_247_50 ?_
      refine Y_gR i_247_51 ow_247 lf_10_103 (k_68 hG) (r_68_38 hG) ?_
      refine Y_il2 i_247_54 ?_
      refine Y_iconst (v := 1) i_247_55 (by decide) ?_
      refine Y_il3 i_247_56 ?_
      refine Y_ishl i_247_57 ?_
      refine Y_ior i_247_58 ?_
      have o3 := h.1
      replace h := h.2
      refine Y_laload (k := (x2 ||| ((1 : Int32) <<< (x3 &&& 31))).toNatClampNeg) (v := (J 91 (x2 ||| ((1 : Int32) <<< (x3 &&& 31))).toNatClampNeg)) i_247_59 (k_91 hG) (l_91 hG) o3 rfl rfl ?_
      refine Y_lconst (v := 0) i_247_60 (by decide) ?_
      refine Y_lcmp i_247_61 ?_
      refine Y_wle i_247_62 (fun e4 => ?_) (fun e4 => ?_)
      · replace h := h.1 e4
        refine Y_al0 i_247_65 ?_
        refine Y_il2 i_247_66 ?_
        refine Y_il3 i_247_67 ?_
        refine Y_il1 i_247_68 ?_
        refine Y_iv3 (L0 := [.ref 68, .int x2, .int x3, .int x1, .null]) i_247_69 ow_247 lm_10_405 ((k_68 hG).trans ow_246.symm) rfl mx_246 rfl rfl hd_247 ?_
        refine Y_il1 i_246_0 ?_
        refine Y_iconst (v := 1) i_246_1 (by decide) ?_
        refine Y_il2 i_246_2 ?_
        refine Y_ishl i_246_3 ?_
        refine Y_ior i_246_4 ?_
        refine Y_is4 i_246_5 rfl ?_
        refine Y_al0 i_246_7 ?_
        refine Y_gI (v := (F 68 39)) i_246_8 ow_246 lf_10_392 (by decide) (k_68 hG) rfl ?_
        refine Y_il2 i_246_11 ?_
        refine Y_is_2 (L0 := [.int (F 68 39), .int x3]) i_246_12 ow_246 lm_10_395 rfl mx_179 rfl rfl hd_246 ?_
        refine c_179 hG (KKi ?_)
        refine Y_beq i_246_15 (fun e5 => ?_) (fun e5 => ?_)
        · replace h := h.1 e5
          refine Y_il1 i_246_18 ?_
          have o6 := h.1
          replace h := h.2
          refine Y_is_1 (L0 := [.int x2, .null, .null]) i_246_19 ow_246 lm_10_399 rfl mx_245 rfl rfl hd_246 ?_
          refine c_245 hG o6 (KKi ?_)
          refine Y_al0 i_246_22 ?_
          refine Y_gI (v := (F 68 40)) i_246_23 ow_246 lf_10_402 (by decide) (k_68 hG) rfl ?_
          refine Y_cge i_246_26 (fun e7 => ?_) (fun e7 => ?_)
          · replace h := h.1 e7
            refine Y_iconst (v := 0) i_246_29 (by decide) ?_
            refine Y_bret i_246_30 rt_246 (by decide) (KKi ?_)
            refine Y_zT i_247_72 (by decide) ?_
            refine Y_ii3 (v := 1) i_247_94 (by decide) rfl ?_
            refine Y_goto i_247_97 ?_
            exact h
          · replace h := h.2 e7
            refine Y_al0 i_246_31 ?_
            refine Y_gR i_246_32 ow_246 lf_10_97 (k_68 hG) (r_68_36 hG) ?_
            refine Y_il3 i_246_35 ?_
            have o8 := h.1
            replace h := h.2
            refine Y_iaload (k := x1.toNatClampNeg) (v := (A 89 x1.toNatClampNeg)) i_246_36 (k_89 hG) (l_89 hG) o8 rfl rfl ?_
            refine Y_al0 i_246_37 ?_
            refine Y_gR i_246_38 ow_246 lf_10_97 (k_68 hG) (r_68_36 hG) ?_
            refine Y_il4 i_246_41 ?_
            refine Y_iaload (k := (x2 ||| ((1 : Int32) <<< (x3 &&& 31))).toNatClampNeg) (v := (A 89 (x2 ||| ((1 : Int32) <<< (x3 &&& 31))).toNatClampNeg)) i_246_43 (k_89 hG) (l_89 hG) o3 rfl rfl ?_
            refine Y_isub i_246_44 ?_
            refine Y_al0 i_246_45 ?_
            refine Y_gR i_246_46 ow_246 lf_10_73 (k_68 hG) (r_68_24 hG) ?_
            refine Y_il2 i_246_49 ?_
            have o9 := h.1
            replace h := h.2
            refine Y_iaload (k := x3.toNatClampNeg) (v := (A 82 x3.toNatClampNeg)) i_246_50 (k_82 hG) (l_82 hG) o9 rfl rfl ?_
            refine Y_iadd i_246_51 ?_
            refine Y_al0 i_246_52 ?_
            refine Y_il2 i_246_53 ?_
            refine Y_il4 i_246_54 ?_
            refine Y_il3 i_246_56 ?_
            refine Y_cne i_246_57 (fun e10 => ?_) (fun e10 => ?_)
            · replace h := h.1 e10
              refine Y_iconst (v := 1) i_246_60 (by decide) ?_
              refine Y_goto i_246_61 ?_
              have o11 := h.1
              replace h := h.2
              have o12 := h.1
              replace h := h.2
              have o13 := h.1
              replace h := h.2
              refine Y_iv2 (L0 := [.ref 68, .int x3, .int 1, .null]) i_246_65 ow_246 lm_10_301 ((k_68 hG).trans ow_211.symm) rfl mx_211 rfl rfl hd_246 ?_
              refine c_211 hG o11 o12 o13 (KKi ?_)
              refine Y_cgt i_246_68 (fun e14 => ?_) (fun e14 => ?_)
              · replace h := h.1 e14
                refine Y_iconst (v := 0) i_246_94 (by decide) ?_
                refine Y_bret i_246_95 rt_246 (by decide) (KKi ?_)
                refine Y_zT i_247_72 (by decide) ?_
                refine Y_ii3 (v := 1) i_247_94 (by decide) rfl ?_
                refine Y_goto i_247_97 ?_
                exact h
              · replace h := h.2 e14
                refine Y_al0 i_246_71 ?_
                refine Y_gR i_246_72 ow_246 lf_10_100 (k_68 hG) (r_68_37 hG) ?_
                refine Y_il4 i_246_75 ?_
                refine Y_iaload (k := (x2 ||| ((1 : Int32) <<< (x3 &&& 31))).toNatClampNeg) (v := (A 90 (x2 ||| ((1 : Int32) <<< (x3 &&& 31))).toNatClampNeg)) i_246_77 (k_90 hG) (l_90 hG) o3 rfl rfl ?_
                refine Y_abs i_246_78 ow_246 lm_10_317 rfl ?_
                refine Y_al0 i_246_81 ?_
                refine Y_gR i_246_82 ow_246 lf_10_42 (k_68 hG) (r_68_4 hG) ?_
                refine Y_iconst (v := 1) i_246_85 (by decide) ?_
                refine Y_iaload (k := 1) (v := (A 72 1)) i_246_86 (k_72 hG) (l_72 hG) (by decide) (by decide) rfl ?_
                refine Y_cgt i_246_87 (fun e15 => ?_) (fun e15 => ?_)
                · replace h := h.1 e15
                  refine Y_iconst (v := 0) i_246_94 (by decide) ?_
                  refine Y_bret i_246_95 rt_246 (by decide) (KKi ?_)
                  refine Y_zT i_247_72 (by decide) ?_
                  refine Y_ii3 (v := 1) i_247_94 (by decide) rfl ?_
                  refine Y_goto i_247_97 ?_
                  exact h
                · replace h := h.2 e15
                  refine Y_iconst (v := 1) i_246_90 (by decide) ?_
                  refine Y_goto i_246_91 ?_
                  refine Y_bret i_246_95 rt_246 (by decide) (KKi ?_)
                  refine Y_zF i_247_72 (by decide) ?_
                  refine Y_al0 i_247_75 ?_
                  refine Y_gR i_247_76 ow_247 lf_10_103 (k_68 hG) (r_68_38 hG) ?_
                  refine Y_il2 i_247_79 ?_
                  refine Y_dup2 i_247_80 rfl rfl ?_
                  refine Y_laload (k := x2.toNatClampNeg) (v := (J 91 x2.toNatClampNeg)) i_247_81 (k_91 hG) (l_91 hG) o6 rfl rfl ?_
                  refine Y_al0 i_247_82 ?_
                  refine Y_gR i_247_83 ow_247 lf_10_103 (k_68 hG) (r_68_38 hG) ?_
                  refine Y_il2 i_247_86 ?_
                  refine Y_iconst (v := 1) i_247_87 (by decide) ?_
                  refine Y_il3 i_247_88 ?_
                  refine Y_ishl i_247_89 ?_
                  refine Y_ior i_247_90 ?_
                  refine Y_laload (k := (x2 ||| ((1 : Int32) <<< (x3 &&& 31))).toNatClampNeg) (v := (J 91 (x2 ||| ((1 : Int32) <<< (x3 &&& 31))).toNatClampNeg)) i_247_91 (k_91 hG) (l_91 hG) o3 rfl rfl ?_
                  refine Y_ladd i_247_92 ?_
                  refine Y_last i_247_93 (k_91 hG) (l_91 hG) o6 rfl ?_
                  refine Y_ii3 (v := 1) i_247_94 (by decide) rfl ?_
                  refine Y_goto i_247_97 ?_
                  exact h
            · replace h := h.2 e10
              refine Y_iconst (v := 0) i_246_64 (by decide) ?_
              have o16 := h.1
              replace h := h.2
              have o17 := h.1
              replace h := h.2
              have o18 := h.1
              replace h := h.2
              refine Y_iv2 (L0 := [.ref 68, .int x3, .int 0, .null]) i_246_65 ow_246 lm_10_301 ((k_68 hG).trans ow_211.symm) rfl mx_211 rfl rfl hd_246 ?_
              refine c_211 hG o16 o17 o18 (KKi ?_)
              refine Y_cgt i_246_68 (fun e19 => ?_) (fun e19 => ?_)
              · replace h := h.1 e19
                refine Y_iconst (v := 0) i_246_94 (by decide) ?_
                refine Y_bret i_246_95 rt_246 (by decide) (KKi ?_)
                refine Y_zT i_247_72 (by decide) ?_
                refine Y_ii3 (v := 1) i_247_94 (by decide) rfl ?_
                refine Y_goto i_247_97 ?_
                exact h
              · replace h := h.2 e19
                refine Y_al0 i_246_71 ?_
                refine Y_gR i_246_72 ow_246 lf_10_100 (k_68 hG) (r_68_37 hG) ?_
                refine Y_il4 i_246_75 ?_
                refine Y_iaload (k := (x2 ||| ((1 : Int32) <<< (x3 &&& 31))).toNatClampNeg) (v := (A 90 (x2 ||| ((1 : Int32) <<< (x3 &&& 31))).toNatClampNeg)) i_246_77 (k_90 hG) (l_90 hG) o3 rfl rfl ?_
                refine Y_abs i_246_78 ow_246 lm_10_317 rfl ?_
                refine Y_al0 i_246_81 ?_
                refine Y_gR i_246_82 ow_246 lf_10_42 (k_68 hG) (r_68_4 hG) ?_
                refine Y_iconst (v := 1) i_246_85 (by decide) ?_
                refine Y_iaload (k := 1) (v := (A 72 1)) i_246_86 (k_72 hG) (l_72 hG) (by decide) (by decide) rfl ?_
                refine Y_cgt i_246_87 (fun e20 => ?_) (fun e20 => ?_)
                · replace h := h.1 e20
                  refine Y_iconst (v := 0) i_246_94 (by decide) ?_
                  refine Y_bret i_246_95 rt_246 (by decide) (KKi ?_)
                  refine Y_zT i_247_72 (by decide) ?_
                  refine Y_ii3 (v := 1) i_247_94 (by decide) rfl ?_
                  refine Y_goto i_247_97 ?_
                  exact h
                · replace h := h.2 e20
                  refine Y_iconst (v := 1) i_246_90 (by decide) ?_
                  refine Y_goto i_246_91 ?_
                  refine Y_bret i_246_95 rt_246 (by decide) (KKi ?_)
                  refine Y_zF i_247_72 (by decide) ?_
                  refine Y_al0 i_247_75 ?_
                  refine Y_gR i_247_76 ow_247 lf_10_103 (k_68 hG) (r_68_38 hG) ?_
                  refine Y_il2 i_247_79 ?_
                  refine Y_dup2 i_247_80 rfl rfl ?_
                  refine Y_laload (k := x2.toNatClampNeg) (v := (J 91 x2.toNatClampNeg)) i_247_81 (k_91 hG) (l_91 hG) o6 rfl rfl ?_
                  refine Y_al0 i_247_82 ?_
                  refine Y_gR i_247_83 ow_247 lf_10_103 (k_68 hG) (r_68_38 hG) ?_
                  refine Y_il2 i_247_86 ?_
                  refine Y_iconst (v := 1) i_247_87 (by decide) ?_
                  refine Y_il3 i_247_88 ?_
                  refine Y_ishl i_247_89 ?_
                  refine Y_ior i_247_90 ?_
                  refine Y_laload (k := (x2 ||| ((1 : Int32) <<< (x3 &&& 31))).toNatClampNeg) (v := (J 91 (x2 ||| ((1 : Int32) <<< (x3 &&& 31))).toNatClampNeg)) i_247_91 (k_91 hG) (l_91 hG) o3 rfl rfl ?_
                  refine Y_ladd i_247_92 ?_
                  refine Y_last i_247_93 (k_91 hG) (l_91 hG) o6 rfl ?_
                  refine Y_ii3 (v := 1) i_247_94 (by decide) rfl ?_
                  refine Y_goto i_247_97 ?_
                  exact h
        · replace h := h.2 e5
          refine Y_al0 i_246_31 ?_
          refine Y_gR i_246_32 ow_246 lf_10_97 (k_68 hG) (r_68_36 hG) ?_
          refine Y_il3 i_246_35 ?_
          have o21 := h.1
          replace h := h.2
          refine Y_iaload (k := x1.toNatClampNeg) (v := (A 89 x1.toNatClampNeg)) i_246_36 (k_89 hG) (l_89 hG) o21 rfl rfl ?_
          refine Y_al0 i_246_37 ?_
          refine Y_gR i_246_38 ow_246 lf_10_97 (k_68 hG) (r_68_36 hG) ?_
          refine Y_il4 i_246_41 ?_
          refine Y_iaload (k := (x2 ||| ((1 : Int32) <<< (x3 &&& 31))).toNatClampNeg) (v := (A 89 (x2 ||| ((1 : Int32) <<< (x3 &&& 31))).toNatClampNeg)) i_246_43 (k_89 hG) (l_89 hG) o3 rfl rfl ?_
          refine Y_isub i_246_44 ?_
          refine Y_al0 i_246_45 ?_
          refine Y_gR i_246_46 ow_246 lf_10_73 (k_68 hG) (r_68_24 hG) ?_
          refine Y_il2 i_246_49 ?_
          have o22 := h.1
          replace h := h.2
          refine Y_iaload (k := x3.toNatClampNeg) (v := (A 82 x3.toNatClampNeg)) i_246_50 (k_82 hG) (l_82 hG) o22 rfl rfl ?_
          refine Y_iadd i_246_51 ?_
          refine Y_al0 i_246_52 ?_
          refine Y_il2 i_246_53 ?_
          refine Y_il4 i_246_54 ?_
          refine Y_il3 i_246_56 ?_
          refine Y_cne i_246_57 (fun e23 => ?_) (fun e23 => ?_)
          · replace h := h.1 e23
            refine Y_iconst (v := 1) i_246_60 (by decide) ?_
            refine Y_goto i_246_61 ?_
            have o24 := h.1
            replace h := h.2
            have o25 := h.1
            replace h := h.2
            have o26 := h.1
            replace h := h.2
            refine Y_iv2 (L0 := [.ref 68, .int x3, .int 1, .null]) i_246_65 ow_246 lm_10_301 ((k_68 hG).trans ow_211.symm) rfl mx_211 rfl rfl hd_246 ?_
            refine c_211 hG o24 o25 o26 (KKi ?_)
            refine Y_cgt i_246_68 (fun e27 => ?_) (fun e27 => ?_)
            · replace h := h.1 e27
              refine Y_iconst (v := 0) i_246_94 (by decide) ?_
              refine Y_bret i_246_95 rt_246 (by decide) (KKi ?_)
              refine Y_zT i_247_72 (by decide) ?_
              refine Y_ii3 (v := 1) i_247_94 (by decide) rfl ?_
              refine Y_goto i_247_97 ?_
              exact h
            · replace h := h.2 e27
              refine Y_al0 i_246_71 ?_
              refine Y_gR i_246_72 ow_246 lf_10_100 (k_68 hG) (r_68_37 hG) ?_
              refine Y_il4 i_246_75 ?_
              refine Y_iaload (k := (x2 ||| ((1 : Int32) <<< (x3 &&& 31))).toNatClampNeg) (v := (A 90 (x2 ||| ((1 : Int32) <<< (x3 &&& 31))).toNatClampNeg)) i_246_77 (k_90 hG) (l_90 hG) o3 rfl rfl ?_
              refine Y_abs i_246_78 ow_246 lm_10_317 rfl ?_
              refine Y_al0 i_246_81 ?_
              refine Y_gR i_246_82 ow_246 lf_10_42 (k_68 hG) (r_68_4 hG) ?_
              refine Y_iconst (v := 1) i_246_85 (by decide) ?_
              refine Y_iaload (k := 1) (v := (A 72 1)) i_246_86 (k_72 hG) (l_72 hG) (by decide) (by decide) rfl ?_
              refine Y_cgt i_246_87 (fun e28 => ?_) (fun e28 => ?_)
              · replace h := h.1 e28
                refine Y_iconst (v := 0) i_246_94 (by decide) ?_
                refine Y_bret i_246_95 rt_246 (by decide) (KKi ?_)
                refine Y_zT i_247_72 (by decide) ?_
                refine Y_ii3 (v := 1) i_247_94 (by decide) rfl ?_
                refine Y_goto i_247_97 ?_
                exact h
              · replace h := h.2 e28
                refine Y_iconst (v := 1) i_246_90 (by decide) ?_
                refine Y_goto i_246_91 ?_
                refine Y_bret i_246_95 rt_246 (by decide) (KKi ?_)
                refine Y_zF i_247_72 (by decide) ?_
                refine Y_al0 i_247_75 ?_
                refine Y_gR i_247_76 ow_247 lf_10_103 (k_68 hG) (r_68_38 hG) ?_
                refine Y_il2 i_247_79 ?_
                refine Y_dup2 i_247_80 rfl rfl ?_
                have o29 := h.1
                replace h := h.2
                refine Y_laload (k := x2.toNatClampNeg) (v := (J 91 x2.toNatClampNeg)) i_247_81 (k_91 hG) (l_91 hG) o29 rfl rfl ?_
                refine Y_al0 i_247_82 ?_
                refine Y_gR i_247_83 ow_247 lf_10_103 (k_68 hG) (r_68_38 hG) ?_
                refine Y_il2 i_247_86 ?_
                refine Y_iconst (v := 1) i_247_87 (by decide) ?_
                refine Y_il3 i_247_88 ?_
                refine Y_ishl i_247_89 ?_
                refine Y_ior i_247_90 ?_
                refine Y_laload (k := (x2 ||| ((1 : Int32) <<< (x3 &&& 31))).toNatClampNeg) (v := (J 91 (x2 ||| ((1 : Int32) <<< (x3 &&& 31))).toNatClampNeg)) i_247_91 (k_91 hG) (l_91 hG) o3 rfl rfl ?_
                refine Y_ladd i_247_92 ?_
                refine Y_last i_247_93 (k_91 hG) (l_91 hG) o29 rfl ?_
                refine Y_ii3 (v := 1) i_247_94 (by decide) rfl ?_
                refine Y_goto i_247_97 ?_
                exact h
          · replace h := h.2 e23
            refine Y_iconst (v := 0) i_246_64 (by decide) ?_
            have o30 := h.1
            replace h := h.2
            have o31 := h.1
            replace h := h.2
            have o32 := h.1
            replace h := h.2
            refine Y_iv2 (L0 := [.ref 68, .int x3, .int 0, .null]) i_246_65 ow_246 lm_10_301 ((k_68 hG).trans ow_211.symm) rfl mx_211 rfl rfl hd_246 ?_
            refine c_211 hG o30 o31 o32 (KKi ?_)
            refine Y_cgt i_246_68 (fun e33 => ?_) (fun e33 => ?_)
            · replace h := h.1 e33
              refine Y_iconst (v := 0) i_246_94 (by decide) ?_
              refine Y_bret i_246_95 rt_246 (by decide) (KKi ?_)
              refine Y_zT i_247_72 (by decide) ?_
              refine Y_ii3 (v := 1) i_247_94 (by decide) rfl ?_
              refine Y_goto i_247_97 ?_
              exact h
            · replace h := h.2 e33
              refine Y_al0 i_246_71 ?_
              refine Y_gR i_246_72 ow_246 lf_10_100 (k_68 hG) (r_68_37 hG) ?_
              refine Y_il4 i_246_75 ?_
              refine Y_iaload (k := (x2 ||| ((1 : Int32) <<< (x3 &&& 31))).toNatClampNeg) (v := (A 90 (x2 ||| ((1 : Int32) <<< (x3 &&& 31))).toNatClampNeg)) i_246_77 (k_90 hG) (l_90 hG) o3 rfl rfl ?_
              refine Y_abs i_246_78 ow_246 lm_10_317 rfl ?_
              refine Y_al0 i_246_81 ?_
              refine Y_gR i_246_82 ow_246 lf_10_42 (k_68 hG) (r_68_4 hG) ?_
              refine Y_iconst (v := 1) i_246_85 (by decide) ?_
              refine Y_iaload (k := 1) (v := (A 72 1)) i_246_86 (k_72 hG) (l_72 hG) (by decide) (by decide) rfl ?_
              refine Y_cgt i_246_87 (fun e34 => ?_) (fun e34 => ?_)
              · replace h := h.1 e34
                refine Y_iconst (v := 0) i_246_94 (by decide) ?_
                refine Y_bret i_246_95 rt_246 (by decide) (KKi ?_)
                refine Y_zT i_247_72 (by decide) ?_
                refine Y_ii3 (v := 1) i_247_94 (by decide) rfl ?_
                refine Y_goto i_247_97 ?_
                exact h
              · replace h := h.2 e34
                refine Y_iconst (v := 1) i_246_90 (by decide) ?_
                refine Y_goto i_246_91 ?_
                refine Y_bret i_246_95 rt_246 (by decide) (KKi ?_)
                refine Y_zF i_247_72 (by decide) ?_
                refine Y_al0 i_247_75 ?_
                refine Y_gR i_247_76 ow_247 lf_10_103 (k_68 hG) (r_68_38 hG) ?_
                refine Y_il2 i_247_79 ?_
                refine Y_dup2 i_247_80 rfl rfl ?_
                have o35 := h.1
                replace h := h.2
                refine Y_laload (k := x2.toNatClampNeg) (v := (J 91 x2.toNatClampNeg)) i_247_81 (k_91 hG) (l_91 hG) o35 rfl rfl ?_
                refine Y_al0 i_247_82 ?_
                refine Y_gR i_247_83 ow_247 lf_10_103 (k_68 hG) (r_68_38 hG) ?_
                refine Y_il2 i_247_86 ?_
                refine Y_iconst (v := 1) i_247_87 (by decide) ?_
                refine Y_il3 i_247_88 ?_
                refine Y_ishl i_247_89 ?_
                refine Y_ior i_247_90 ?_
                refine Y_laload (k := (x2 ||| ((1 : Int32) <<< (x3 &&& 31))).toNatClampNeg) (v := (J 91 (x2 ||| ((1 : Int32) <<< (x3 &&& 31))).toNatClampNeg)) i_247_91 (k_91 hG) (l_91 hG) o3 rfl rfl ?_
                refine Y_ladd i_247_92 ?_
                refine Y_last i_247_93 (k_91 hG) (l_91 hG) o35 rfl ?_
                refine Y_ii3 (v := 1) i_247_94 (by decide) rfl ?_
                refine Y_goto i_247_97 ?_
                exact h
      · replace h := h.2 e4
        refine Y_ii3 (v := 1) i_247_94 (by decide) rfl ?_
        refine Y_goto i_247_97 ?_
        exact h
    · replace h := h.2 e2
      refine Y_ii3 (v := 1) i_247_94 (by decide) rfl ?_
      refine Y_goto i_247_97 ?_
      exact h
  · replace h := h.2 e1
    refine Y_goto i_247_100 ?_
    exact h
/- 248 Model.mostSet()I -/
theorem t_248_0 {d : Nat} {F A : Nat → Nat → Int32} {J : Nat → Nat → Int64} {G : pG} {Q : pR → pM → Prop} {SL p q : Nat} (hG : Geo G SL p q) (h : X (d + 3) 244 0 [.ref 68, .null, .null] [] ((wF F 68 39 0), A, J, G) (KK (d + 4) 248 9 [.ref 68, .null, .null] [] Q)) : X (d + 4) 248 0 [.ref 68, .null, .null] [] (F, A, J, G) Q := by
  refine Y_al0 i_248_0 ?_
  refine Y_iconst (v := 0) i_248_1 (by decide) ?_
  refine Y_pI i_248_2 ow_248 lf_10_392 (k_68 hG) ?_
  refine Y_al0 i_248_5 ?_
  exact Y_iv0 (L0 := [.ref 68, .null, .null]) i_248_6 ow_248 lm_10_409 ((k_68 hG).trans ow_244.symm) rfl mx_244 rfl rfl hd_248 h
theorem k_248_9 {d : Nat} {F A : Nat → Nat → Int32} {J : Nat → Nat → Int64} {G : pG} {Q : pR → pM → Prop} {SL p q : Nat} (hG : Geo G SL p q) (h : X (d + 4) 248 13 [.ref 68, .int 0, .int 1] [] (F, A, J, G) Q) : KK (d + 4) 248 9 [.ref 68, .null, .null] [] Q (.inl none) (F, A, J, G) := by
  refine KKv ?_
  refine Y_iconst (v := 0) i_248_9 (by decide) ?_
  refine Y_is1 i_248_10 rfl ?_
  refine Y_iconst (v := 1) i_248_11 (by decide) ?_
  refine Y_is2 i_248_12 rfl ?_
  exact h
theorem t_248_13 {d : Nat} {F A : Nat → Nat → Int32} {J : Nat → Nat → Int64} {G : pG} {Q : pR → pM → Prop} {SL p q : Nat} {x1 x2 : Int32} (hG : Geo G SL p q) (h : ((x2 < ((1 : Int32) <<< ((A 72 0) &&& 31)) → inB x2 1024 = true ∧ inB x1 1024 = true ∧ (((nI (pcn x1.toNatClampNeg)) < (nI (pcn x2.toNatClampNeg)) → X (d + 3) 247 0 [.ref 68, .int x2, .null, .null] [] (F, A, J, G) (KK (d + 4) 248 44 [.ref 68, .int x1, .int x2] [] Q)) ∧ (¬ (nI (pcn x1.toNatClampNeg)) < (nI (pcn x2.toNatClampNeg)) → X (d + 4) 248 13 [.ref 68, .int x1, .int (x2 + 1)] [] (F, A, J, G) Q))) ∧ (¬ x2 < ((1 : Int32) <<< ((A 72 0) &&& 31)) → Q (.inl (some (.int x1))) (F, A, J, G)))) : X (d + 4) 248 13 [.ref 68, .int x1, .int x2] [] (F, A, J, G) Q := by
  refine Y_il2 i_248_13 ?_
  refine Y_iconst (v := 1) i_248_14 (by decide) ?_
  refine Y_al0 i_248_15 ?_
  refine Y_gR i_248_16 ow_248 lf_10_42 (k_68 hG) (r_68_4 hG) ?_
  refine Y_iconst (v := 0) i_248_19 (by decide) ?_
  refine Y_iaload (k := 0) (v := (A 72 0)) i_248_20 (k_72 hG) (l_72 hG) (by decide) (by decide) rfl ?_
  refine Y_ishl i_248_21 ?_
  refine Y_cge i_248_22 (fun e1 => ?_) (fun e1 => ?_)
  · replace h := h.1 e1
    refine Y_il2 i_248_25 ?_
    have o2 := h.1
    replace h := h.2
    refine Y_is_1 (L0 := [.int x2, .null, .null]) i_248_26 ow_248 lm_10_399 rfl mx_245 rfl rfl hd_248 ?_
    refine c_245 hG o2 (KKi ?_)
    refine Y_il1 i_248_29 ?_
    have o3 := h.1
    replace h := h.2
    refine Y_is_1 (L0 := [.int x1, .null, .null]) i_248_30 ow_248 lm_10_399 rfl mx_245 rfl rfl hd_248 ?_
    refine c_245 hG o3 (KKi ?_)
    refine Y_cgt i_248_33 (fun e4 => ?_) (fun e4 => ?_)
    · replace h := h.1 e4
      refine Y_al0 i_248_39 ?_
      refine Y_il2 i_248_40 ?_
      exact Y_iv1 (L0 := [.ref 68, .int x2, .null, .null]) i_248_41 ow_248 lm_10_412 ((k_68 hG).trans ow_247.symm) rfl mx_247 rfl rfl hd_248 h
    · replace h := h.2 e4
      refine Y_goto i_248_36 ?_
      refine Y_ii2 (v := 1) i_248_57 (by decide) rfl ?_
      refine Y_goto i_248_60 ?_
      exact h
  · replace h := h.2 e1
    refine Y_il1 i_248_63 ?_
    exact Y_iret i_248_64 rt_248 h
theorem k_248_44 {d : Nat} {F A : Nat → Nat → Int32} {J : Nat → Nat → Int64} {G : pG} {Q : pR → pM → Prop} {SL p q : Nat} {x1 x2 : Int32} (hG : Geo G SL p q) (h : ((0 < (J 91 0) → X (d + 4) 248 13 [.ref 68, .int x2, .int (x2 + 1)] [] (F, A, J, G) Q) ∧ (¬ 0 < (J 91 0) → X (d + 4) 248 13 [.ref 68, .int x1, .int (x2 + 1)] [] (F, A, J, G) Q))) : KK (d + 4) 248 44 [.ref 68, .int x1, .int x2] [] Q (.inl none) (F, A, J, G) := by
  refine KKv ?_
  refine Y_al0 i_248_44 ?_
  refine Y_gR i_248_45 ow_248 lf_10_103 (k_68 hG) (r_68_38 hG) ?_
  refine Y_iconst (v := 0) i_248_48 (by decide) ?_
  refine Y_laload (k := 0) (v := (J 91 0)) i_248_49 (k_91 hG) (l_91 hG) (by decide) (by decide) rfl ?_
  refine Y_lconst (v := 0) i_248_50 (by decide) ?_
  refine Y_lcmp i_248_51 ?_
  refine Y_wle i_248_52 (fun e1 => ?_) (fun e1 => ?_)
  · replace h := h.1 e1
    refine Y_il2 i_248_55 ?_
    refine Y_is1 i_248_56 rfl ?_
    refine Y_ii2 (v := 1) i_248_57 (by decide) rfl ?_
    refine Y_goto i_248_60 ?_
    exact h
  · replace h := h.2 e1
    refine Y_ii2 (v := 1) i_248_57 (by decide) rfl ?_
    refine Y_goto i_248_60 ?_
    exact h
/- 249 Model.most(I)I -/
theorem t_249_0 {d : Nat} {F A : Nat → Nat → Int32} {J : Nat → Nat → Int64} {G : pG} {Q : pR → pM → Prop} {SL p q : Nat} {x1 : Int32} (hG : Geo G SL p q) (h : ((x1 < 0 → Q (.inl (some (.int 0))) ((wF (wF F 68 3 0) 68 3 1), A, J, G)) ∧ (¬ x1 < 0 → ((1 < x1 → Q (.inl (some (.int 0))) ((wF (wF F 68 3 0) 68 3 1), A, J, G)) ∧ (¬ 1 < x1 → X (d + 4) 248 0 [.ref 68, .null, .null] [] ((wF F 68 3 0), A, J, G) (KK (d + 5) 249 24 [.ref 68, .int x1, .null] [] Q)))))) : X (d + 5) 249 0 [.ref 68, .int x1, .null] [] (F, A, J, G) Q := by
  refine Y_al0 i_249_0 ?_
  refine Y_iconst (v := 0) i_249_1 (by decide) ?_
  refine Y_pI i_249_2 ow_249 lf_10_143 (k_68 hG) ?_
  refine Y_il1 i_249_5 ?_
  refine Y_zlt i_249_6 (fun e1 => ?_) (fun e1 => ?_)
  · replace h := h.1 e1
    refine Y_al0 i_249_14 ?_
    refine Y_iconst (v := 1) i_249_15 (by decide) ?_
    refine Y_iv1 (L0 := [.ref 68, .int 1]) i_249_16 ow_249 lm_10_269 ((k_68 hG).trans ow_176.symm) rfl mx_176 rfl rfl hd_249 ?_
    refine Y_al0 i_176_0 ?_
    refine Y_il1 i_176_1 ?_
    refine Y_pI i_176_2 ow_176 lf_10_143 (k_68 hG) ?_
    refine Y_iconst (v := 0) i_176_5 (by decide) ?_
    refine Y_iret i_176_6 rt_176 (KKi ?_)
    exact Y_iret i_249_19 rt_249 h
  · replace h := h.2 e1
    refine Y_il1 i_249_9 ?_
    refine Y_iconst (v := 1) i_249_10 (by decide) ?_
    refine Y_cle i_249_11 (fun e2 => ?_) (fun e2 => ?_)
    · replace h := h.1 e2
      refine Y_al0 i_249_14 ?_
      refine Y_iconst (v := 1) i_249_15 (by decide) ?_
      refine Y_iv1 (L0 := [.ref 68, .int 1]) i_249_16 ow_249 lm_10_269 ((k_68 hG).trans ow_176.symm) rfl mx_176 rfl rfl hd_249 ?_
      refine Y_al0 i_176_0 ?_
      refine Y_il1 i_176_1 ?_
      refine Y_pI i_176_2 ow_176 lf_10_143 (k_68 hG) ?_
      refine Y_iconst (v := 0) i_176_5 (by decide) ?_
      refine Y_iret i_176_6 rt_176 (KKi ?_)
      exact Y_iret i_249_19 rt_249 h
    · replace h := h.2 e2
      refine Y_al0 i_249_20 ?_
      exact Y_iv0 (L0 := [.ref 68, .null, .null]) i_249_21 ow_249 lm_10_415 ((k_68 hG).trans ow_248.symm) rfl mx_248 rfl rfl hd_249 h
theorem k_249_24 {d : Nat} {F A : Nat → Nat → Int32} {J : Nat → Nat → Int64} {G : pG} {Q : pR → pM → Prop} {SL p q : Nat} {x1 r r : Int32} (hG : Geo G SL p q) (h : ((x1 = 0 → inB r 1024 = true ∧ (Q (.inl (some (.int (nI (pcn r.toNatClampNeg))))) (F, A, J, G))) ∧ (¬ x1 = 0 → Q (.inl (some (.int r))) (F, A, J, G)))) : KK (d + 5) 249 24 [.ref 68, .int x1, .null] [] Q (.inl (some (.int r))) (F, A, J, G) := by
  refine KKi ?_
  refine Y_is2 i_249_24 rfl ?_
  refine Y_il1 i_249_25 ?_
  refine Y_zne i_249_26 (fun e1 => ?_) (fun e1 => ?_)
  · replace h := h.1 e1
    refine Y_il2 i_249_29 ?_
    have o2 := h.1
    replace h := h.2
    refine Y_is_1 (L0 := [.int r, .null, .null]) i_249_30 ow_249 lm_10_399 rfl mx_245 rfl rfl hd_249 ?_
    refine c_245 hG o2 (KKi ?_)
    refine Y_goto i_249_33 ?_
    exact Y_iret i_249_37 rt_249 h
  · replace h := h.2 e1
    refine Y_il2 i_249_36 ?_
    exact Y_iret i_249_37 rt_249 h
/- 250 Model.row(I)I -/
theorem t_250_0 {d : Nat} {F A : Nat → Nat → Int32} {J : Nat → Nat → Int64} {G : pG} {Q : pR → pM → Prop} {SL p q : Nat} {x1 : Int32} (hG : Geo G SL p q) (h : X (d + 4) 248 0 [.ref 68, .null, .null] [] ((wF F 68 3 0), A, J, G) (KK (d + 5) 250 9 [.ref 68, .int x1, .null, .null, .null, .null, .null] [] Q)) : X (d + 5) 250 0 [.ref 68, .int x1, .null, .null, .null, .null, .null] [] (F, A, J, G) Q := by
  refine Y_al0 i_250_0 ?_
  refine Y_iconst (v := 0) i_250_1 (by decide) ?_
  refine Y_pI i_250_2 ow_250 lf_10_143 (k_68 hG) ?_
  refine Y_al0 i_250_5 ?_
  exact Y_iv0 (L0 := [.ref 68, .null, .null]) i_250_6 ow_250 lm_10_415 ((k_68 hG).trans ow_248.symm) rfl mx_248 rfl rfl hd_250 h
theorem k_250_9 {d : Nat} {F A : Nat → Nat → Int32} {J : Nat → Nat → Int64} {G : pG} {Q : pR → pM → Prop} {SL p q : Nat} {x1 r r : Int32} (hG : Geo G SL p q) (h : inB r 1024 = true ∧ (((inL x1.toInt64 0 (((nI (pcn r.toNatClampNeg)) - 1).toInt64)) = true → X (d + 4) 247 0 [.ref 68, .int r, .null, .null] [] (F, A, J, G) (KK (d + 5) 250 37 [.ref 68, .int x1, .int r, .null, .null, .null, .null] [] Q)) ∧ ((inL x1.toInt64 0 (((nI (pcn r.toNatClampNeg)) - 1).toInt64)) = false → Q (.inl (some (.int 0))) ((wF F 68 3 1), A, J, G)))) : KK (d + 5) 250 9 [.ref 68, .int x1, .null, .null, .null, .null, .null] [] Q (.inl (some (.int r))) (F, A, J, G) := by
  refine KKi ?_
  refine Y_is2 i_250_9 rfl ?_
  refine Y_il1 i_250_10 ?_
  refine Y_i2l i_250_11 ?_
  refine Y_lconst (v := 0) i_250_12 (by decide) ?_
  refine Y_il2 i_250_13 ?_
  have o1 := h.1
  replace h := h.2
  refine Y_is_1 (L0 := [.int r, .null, .null]) i_250_14 ow_250 lm_10_399 rfl mx_245 rfl rfl hd_250 ?_
  refine c_245 hG o1 (KKi ?_)
  refine Y_iconst (v := 1) i_250_17 (by decide) ?_
  refine Y_isub i_250_18 ?_
  refine Y_i2l i_250_19 ?_
  refine Y_is_3 (L0 := [.long x1.toInt64, .null, .long 0, .null, .long (((nI (pcn r.toNatClampNeg)) - 1).toInt64), .null]) i_250_20 ow_250 lm_10_146 rfl mx_178 rfl rfl hd_250 ?_
  refine c_178 hG (KKi ?_)
  refine Y_bne i_250_23 (fun e2 => ?_) (fun e2 => ?_)
  · replace h := h.1 e2
    refine Y_al0 i_250_32 ?_
    refine Y_il2 i_250_33 ?_
    exact Y_iv1 (L0 := [.ref 68, .int r, .null, .null]) i_250_34 ow_250 lm_10_412 ((k_68 hG).trans ow_247.symm) rfl mx_247 rfl rfl hd_250 h
  · replace h := h.2 e2
    refine Y_al0 i_250_26 ?_
    refine Y_iconst (v := 1) i_250_27 (by decide) ?_
    refine Y_iv1 (L0 := [.ref 68, .int 1]) i_250_28 ow_250 lm_10_269 ((k_68 hG).trans ow_176.symm) rfl mx_176 rfl rfl hd_250 ?_
    refine Y_al0 i_176_0 ?_
    refine Y_il1 i_176_1 ?_
    refine Y_pI i_176_2 ow_176 lf_10_143 (k_68 hG) ?_
    refine Y_iconst (v := 0) i_176_5 (by decide) ?_
    refine Y_iret i_176_6 rt_176 (KKi ?_)
    exact Y_iret i_250_31 rt_250 h
theorem k_250_37 {d : Nat} {F A : Nat → Nat → Int32} {J : Nat → Nat → Int64} {G : pG} {Q : pR → pM → Prop} {SL p q : Nat} {x1 x2 : Int32} (hG : Geo G SL p q) (h : X (d + 5) 250 45 [.ref 68, .int x1, .int x2, .int 0, .int (-1), .int 0, .null] [] (F, A, J, G) Q) : KK (d + 5) 250 37 [.ref 68, .int x1, .int x2, .null, .null, .null, .null] [] Q (.inl none) (F, A, J, G) := by
  refine KKv ?_
  refine Y_iconst (v := 0) i_250_37 (by decide) ?_
  refine Y_is3 i_250_38 rfl ?_
  refine Y_iconst (v := (-1)) i_250_39 (by decide) ?_
  refine Y_is4 i_250_40 rfl ?_
  refine Y_iconst (v := 0) i_250_42 (by decide) ?_
  refine Y_is5 i_250_43 rfl ?_
  exact h
theorem t_250_45 {d : Nat} {F A : Nat → Nat → Int32} {J : Nat → Nat → Int64} {G : pG} {Q : pR → pM → Prop} {SL p q : Nat} {x1 x2 x3 x4 x5 : Int32} {v6 : Value} (hG : Geo G SL p q) (h : ((x1 < x5 → Q (.inl (some (.int x4))) (F, A, J, G)) ∧ (¬ x1 < x5 → X (d + 5) 250 57 [.ref 68, .int x1, .int x2, .int x3, .int (-1), .int x5, .int 0] [] (F, A, J, G) Q))) : X (d + 5) 250 45 [.ref 68, .int x1, .int x2, .int x3, .int x4, .int x5, v6] [] (F, A, J, G) Q := by
  refine Y_il5 i_250_45 ?_
  refine Y_il1 i_250_47 ?_
  refine Y_cgt i_250_48 (fun e1 => ?_) (fun e1 => ?_)
  · replace h := h.1 e1
    refine Y_il4 i_250_137 ?_
    exact Y_iret i_250_139 rt_250 h
  · replace h := h.2 e1
    refine Y_iconst (v := (-1)) i_250_51 (by decide) ?_
    refine Y_is4 i_250_52 rfl ?_
    refine Y_iconst (v := 0) i_250_54 (by decide) ?_
    refine Y_is6 i_250_55 rfl ?_
    exact h
theorem t_250_57 {d : Nat} {F A : Nat → Nat → Int32} {J : Nat → Nat → Int64} {G : pG} {Q : pR → pM → Prop} {SL p q : Nat} {x1 x2 x3 x4 x5 x6 : Int32} (hG : Geo G SL p q) (h : ((x6 < (A 72 0) → ((x4 = (-1) → (((isO (x2 &&& (x3 ^^^ (-1))) x6) = true → inB (x3 ||| ((1 : Int32) <<< (x6 &&& 31))) 1024 = true ∧ ((0 < (J 91 (x3 ||| ((1 : Int32) <<< (x6 &&& 31))).toNatClampNeg) → (((isO (F 68 39) x6) = true → inB x3 1024 = true ∧ (((nI (pcn x3.toNatClampNeg)) < (F 68 40) → X (d + 5) 250 57 [.ref 68, .int x1, .int x2, .int x3, .int x4, .int x5, .int (x6 + 1)] [] (F, A, J, G) Q) ∧ (¬ (nI (pcn x3.toNatClampNeg)) < (F 68 40) → inB x2 1024 = true ∧ inB x6 10 = true ∧ (((x3 ||| ((1 : Int32) <<< (x6 &&& 31))) = x2 → inB x6 20 = true ∧ inB (A 73 x6.toNatClampNeg) 4 = true ∧ Wrm A ∧ (((carS (A 73 x6.toNatClampNeg) (A 75 x6.toNatClampNeg) (F 68 29) 1) < (((A 89 x2.toNatClampNeg) - (A 89 (x3 ||| ((1 : Int32) <<< (x6 &&& 31))).toNatClampNeg)) + (A 82 x6.toNatClampNeg)) → X (d + 5) 250 57 [.ref 68, .int x1, .int x2, .int x3, .int x4, .int x5, .int (x6 + 1)] [] (F, A, J, G) Q) ∧ (¬ (carS (A 73 x6.toNatClampNeg) (A 75 x6.toNatClampNeg) (F 68 29) 1) < (((A 89 x2.toNatClampNeg) - (A 89 (x3 ||| ((1 : Int32) <<< (x6 &&& 31))).toNatClampNeg)) + (A 82 x6.toNatClampNeg)) → (((A 72 1) < (jabs (A 90 (x3 ||| ((1 : Int32) <<< (x6 &&& 31))).toNatClampNeg)) → X (d + 5) 250 57 [.ref 68, .int x1, .int x2, .int x3, .int x4, .int x5, .int (x6 + 1)] [] (F, A, J, G) Q) ∧ (¬ (A 72 1) < (jabs (A 90 (x3 ||| ((1 : Int32) <<< (x6 &&& 31))).toNatClampNeg)) → X (d + 5) 250 57 [.ref 68, .int x1, .int x2, .int x3, .int x6, .int x5, .int (x6 + 1)] [] (F, A, J, G) Q))))) ∧ (¬ (x3 ||| ((1 : Int32) <<< (x6 &&& 31))) = x2 → inB x6 20 = true ∧ inB (A 73 x6.toNatClampNeg) 4 = true ∧ Wrm A ∧ (((carS (A 73 x6.toNatClampNeg) (A 75 x6.toNatClampNeg) (F 68 29) 0) < (((A 89 x2.toNatClampNeg) - (A 89 (x3 ||| ((1 : Int32) <<< (x6 &&& 31))).toNatClampNeg)) + (A 82 x6.toNatClampNeg)) → X (d + 5) 250 57 [.ref 68, .int x1, .int x2, .int x3, .int x4, .int x5, .int (x6 + 1)] [] (F, A, J, G) Q) ∧ (¬ (carS (A 73 x6.toNatClampNeg) (A 75 x6.toNatClampNeg) (F 68 29) 0) < (((A 89 x2.toNatClampNeg) - (A 89 (x3 ||| ((1 : Int32) <<< (x6 &&& 31))).toNatClampNeg)) + (A 82 x6.toNatClampNeg)) → (((A 72 1) < (jabs (A 90 (x3 ||| ((1 : Int32) <<< (x6 &&& 31))).toNatClampNeg)) → X (d + 5) 250 57 [.ref 68, .int x1, .int x2, .int x3, .int x4, .int x5, .int (x6 + 1)] [] (F, A, J, G) Q) ∧ (¬ (A 72 1) < (jabs (A 90 (x3 ||| ((1 : Int32) <<< (x6 &&& 31))).toNatClampNeg)) → X (d + 5) 250 57 [.ref 68, .int x1, .int x2, .int x3, .int x6, .int x5, .int (x6 + 1)] [] (F, A, J, G) Q))))))))) ∧ ((isO (F 68 39) x6) = false → inB x2 1024 = true ∧ inB x6 10 = true ∧ (((x3 ||| ((1 : Int32) <<< (x6 &&& 31))) = x2 → inB x6 20 = true ∧ inB (A 73 x6.toNatClampNeg) 4 = true ∧ Wrm A ∧ (((carS (A 73 x6.toNatClampNeg) (A 75 x6.toNatClampNeg) (F 68 29) 1) < (((A 89 x2.toNatClampNeg) - (A 89 (x3 ||| ((1 : Int32) <<< (x6 &&& 31))).toNatClampNeg)) + (A 82 x6.toNatClampNeg)) → X (d + 5) 250 57 [.ref 68, .int x1, .int x2, .int x3, .int x4, .int x5, .int (x6 + 1)] [] (F, A, J, G) Q) ∧ (¬ (carS (A 73 x6.toNatClampNeg) (A 75 x6.toNatClampNeg) (F 68 29) 1) < (((A 89 x2.toNatClampNeg) - (A 89 (x3 ||| ((1 : Int32) <<< (x6 &&& 31))).toNatClampNeg)) + (A 82 x6.toNatClampNeg)) → (((A 72 1) < (jabs (A 90 (x3 ||| ((1 : Int32) <<< (x6 &&& 31))).toNatClampNeg)) → X (d + 5) 250 57 [.ref 68, .int x1, .int x2, .int x3, .int x4, .int x5, .int (x6 + 1)] [] (F, A, J, G) Q) ∧ (¬ (A 72 1) < (jabs (A 90 (x3 ||| ((1 : Int32) <<< (x6 &&& 31))).toNatClampNeg)) → X (d + 5) 250 57 [.ref 68, .int x1, .int x2, .int x3, .int x6, .int x5, .int (x6 + 1)] [] (F, A, J, G) Q))))) ∧ (¬ (x3 ||| ((1 : Int32) <<< (x6 &&& 31))) = x2 → inB x6 20 = true ∧ inB (A 73 x6.toNatClampNeg) 4 = true ∧ Wrm A ∧ (((carS (A 73 x6.toNatClampNeg) (A 75 x6.toNatClampNeg) (F 68 29) 0) < (((A 89 x2.toNatClampNeg) - (A 89 (x3 ||| ((1 : Int32) <<< (x6 &&& 31))).toNatClampNeg)) + (A 82 x6.toNatClampNeg)) → X (d + 5) 250 57 [.ref 68, .int x1, .int x2, .int x3, .int x4, .int x5, .int (x6 + 1)] [] (F, A, J, G) Q) ∧ (¬ (carS (A 73 x6.toNatClampNeg) (A 75 x6.toNatClampNeg) (F 68 29) 0) < (((A 89 x2.toNatClampNeg) - (A 89 (x3 ||| ((1 : Int32) <<< (x6 &&& 31))).toNatClampNeg)) + (A 82 x6.toNatClampNeg)) → (((A 72 1) < (jabs (A 90 (x3 ||| ((1 : Int32) <<< (x6 &&& 31))).toNatClampNeg)) → X (d + 5) 250 57 [.ref 68, .int x1, .int x2, .int x3, .int x4, .int x5, .int (x6 + 1)] [] (F, A, J, G) Q) ∧ (¬ (A 72 1) < (jabs (A 90 (x3 ||| ((1 : Int32) <<< (x6 &&& 31))).toNatClampNeg)) → X (d + 5) 250 57 [.ref 68, .int x1, .int x2, .int x3, .int x6, .int x5, .int (x6 + 1)] [] (F, A, J, G) Q))))))))) ∧ (¬ 0 < (J 91 (x3 ||| ((1 : Int32) <<< (x6 &&& 31))).toNatClampNeg) → X (d + 5) 250 57 [.ref 68, .int x1, .int x2, .int x3, .int x4, .int x5, .int (x6 + 1)] [] (F, A, J, G) Q))) ∧ ((isO (x2 &&& (x3 ^^^ (-1))) x6) = false → X (d + 5) 250 57 [.ref 68, .int x1, .int x2, .int x3, .int x4, .int x5, .int (x6 + 1)] [] (F, A, J, G) Q))) ∧ (¬ x4 = (-1) → X (d + 5) 250 45 [.ref 68, .int x1, .int x2, .int (x3 ||| ((1 : Int32) <<< (x4 &&& 31))), .int x4, .int (x5 + 1), .int x6] [] (F, A, J, G) Q))) ∧ (¬ x6 < (A 72 0) → X (d + 5) 250 45 [.ref 68, .int x1, .int x2, .int (x3 ||| ((1 : Int32) <<< (x4 &&& 31))), .int x4, .int (x5 + 1), .int x6] [] (F, A, J, G) Q))) : X (d + 5) 250 57 [.ref 68, .int x1, .int x2, .int x3, .int x4, .int x5, .int x6] [] (F, A, J, G) Q := by
  refine Y_il6 i_250_57 ?_
  refine Y_al0 i_250_59 ?_
  refine Y_gR i_250_60 ow_250 lf_10_42 (k_68 hG) (r_68_4 hG) ?_
  refine Y_iconst (v := 0) i_250_63 (by decide) ?_
  refine Y_iaload (k := 0) (v := (A 72 0)) i_250_64 (k_72 hG) (l_72 hG) (by decide) (by decide) rfl ?_
  refine Y_cge i_250_65 (fun e1 => ?_) (fun e1 => ?_)
  · replace h := h.1 e1
    refine Y_il4 i_250_68 ?_
    refine Y_iconst (v := (-1)) i_250_70 (by decide) ?_
    refine Y_cne i_250_71 (fun e2 => ?_) (fun e2 => ?_)
    · replace h := h.1 e2
      refine Y_il2 i_250_74 ?_
      refine Y_il3 i_250_75 ?_
      refine Y_iconst (v := (-1)) i_250_76 (by decide) ?_
      refine Y_ixor i_250_77 ?_
      refine Y_iand i_250_78 ?_
      refine Y_il6 i_250_79 ?_
      refine Y_is_2 (L0 := [.int (x2 &&& (x3 ^^^ (-1))), .int x6]) i_250_81 ow_250 lm_10_395 rfl mx_179 rfl rfl hd_250 ?_
      refine c_179 hG (KKi ?_)
      refine Y_beq i_250_84 (fun e3 => ?_) (fun e3 => ?_)
      · replace h := h.1 e3
        refine Y_al0 i_250_87 ?_
        refine Y_gR i_250_88 ow_250 lf_10_103 (k_68 hG) (r_68_38 hG) ?_
        refine Y_il3 i_250_91 ?_
        refine Y_iconst (v := 1) i_250_92 (by decide) ?_
        refine Y_il6 i_250_93 ?_
        refine Y_ishl i_250_95 ?_
        refine Y_ior i_250_96 ?_
        have o4 := h.1
        replace h := h.2
        refine Y_laload (k := (x3 ||| ((1 : Int32) <<< (x6 &&& 31))).toNatClampNeg) (v := (J 91 (x3 ||| ((1 : Int32) <<< (x6 &&& 31))).toNatClampNeg)) i_250_97 (k_91 hG) (l_91 hG) o4 rfl rfl ?_
        refine Y_lconst (v := 0) i_250_98 (by decide) ?_
        refine Y_lcmp i_250_99 ?_
        refine Y_wle i_250_100 (fun e5 => ?_) (fun e5 => ?_)
        · replace h := h.1 e5
          refine Y_al0 i_250_103 ?_
          refine Y_il3 i_250_104 ?_
          refine Y_il6 i_250_105 ?_
          refine Y_il2 i_250_107 ?_
          refine Y_iv3 (L0 := [.ref 68, .int x3, .int x6, .int x2, .null]) i_250_108 ow_250 lm_10_405 ((k_68 hG).trans ow_246.symm) rfl mx_246 rfl rfl hd_250 ?_
          refine Y_il1 i_246_0 ?_
          refine Y_iconst (v := 1) i_246_1 (by decide) ?_
          refine Y_il2 i_246_2 ?_
          refine Y_ishl i_246_3 ?_
          refine Y_ior i_246_4 ?_
          refine Y_is4 i_246_5 rfl ?_
          refine Y_al0 i_246_7 ?_
          refine Y_gI (v := (F 68 39)) i_246_8 ow_246 lf_10_392 (by decide) (k_68 hG) rfl ?_
          refine Y_il2 i_246_11 ?_
          refine Y_is_2 (L0 := [.int (F 68 39), .int x6]) i_246_12 ow_246 lm_10_395 rfl mx_179 rfl rfl hd_246 ?_
          refine c_179 hG (KKi ?_)
          refine Y_beq i_246_15 (fun e6 => ?_) (fun e6 => ?_)
          · replace h := h.1 e6
            refine Y_il1 i_246_18 ?_
            have o7 := h.1
            replace h := h.2
            refine Y_is_1 (L0 := [.int x3, .null, .null]) i_246_19 ow_246 lm_10_399 rfl mx_245 rfl rfl hd_246 ?_
            refine c_245 hG o7 (KKi ?_)
            refine Y_al0 i_246_22 ?_
            refine Y_gI (v := (F 68 40)) i_246_23 ow_246 lf_10_402 (by decide) (k_68 hG) rfl ?_
            refine Y_cge i_246_26 (fun e8 => ?_) (fun e8 => ?_)
            · replace h := h.1 e8
              refine Y_iconst (v := 0) i_246_29 (by decide) ?_
              refine Y_bret i_246_30 rt_246 (by decide) (KKi ?_)
              refine Y_zT i_250_111 (by decide) ?_
              refine Y_ii6 (v := 1) i_250_118 (by decide) rfl ?_
              refine Y_goto i_250_121 ?_
              exact h
            · replace h := h.2 e8
              refine Y_al0 i_246_31 ?_
              refine Y_gR i_246_32 ow_246 lf_10_97 (k_68 hG) (r_68_36 hG) ?_
              refine Y_il3 i_246_35 ?_
              have o9 := h.1
              replace h := h.2
              refine Y_iaload (k := x2.toNatClampNeg) (v := (A 89 x2.toNatClampNeg)) i_246_36 (k_89 hG) (l_89 hG) o9 rfl rfl ?_
              refine Y_al0 i_246_37 ?_
              refine Y_gR i_246_38 ow_246 lf_10_97 (k_68 hG) (r_68_36 hG) ?_
              refine Y_il4 i_246_41 ?_
              refine Y_iaload (k := (x3 ||| ((1 : Int32) <<< (x6 &&& 31))).toNatClampNeg) (v := (A 89 (x3 ||| ((1 : Int32) <<< (x6 &&& 31))).toNatClampNeg)) i_246_43 (k_89 hG) (l_89 hG) o4 rfl rfl ?_
              refine Y_isub i_246_44 ?_
              refine Y_al0 i_246_45 ?_
              refine Y_gR i_246_46 ow_246 lf_10_73 (k_68 hG) (r_68_24 hG) ?_
              refine Y_il2 i_246_49 ?_
              have o10 := h.1
              replace h := h.2
              refine Y_iaload (k := x6.toNatClampNeg) (v := (A 82 x6.toNatClampNeg)) i_246_50 (k_82 hG) (l_82 hG) o10 rfl rfl ?_
              refine Y_iadd i_246_51 ?_
              refine Y_al0 i_246_52 ?_
              refine Y_il2 i_246_53 ?_
              refine Y_il4 i_246_54 ?_
              refine Y_il3 i_246_56 ?_
              refine Y_cne i_246_57 (fun e11 => ?_) (fun e11 => ?_)
              · replace h := h.1 e11
                refine Y_iconst (v := 1) i_246_60 (by decide) ?_
                refine Y_goto i_246_61 ?_
                have o12 := h.1
                replace h := h.2
                have o13 := h.1
                replace h := h.2
                have o14 := h.1
                replace h := h.2
                refine Y_iv2 (L0 := [.ref 68, .int x6, .int 1, .null]) i_246_65 ow_246 lm_10_301 ((k_68 hG).trans ow_211.symm) rfl mx_211 rfl rfl hd_246 ?_
                refine c_211 hG o12 o13 o14 (KKi ?_)
                refine Y_cgt i_246_68 (fun e15 => ?_) (fun e15 => ?_)
                · replace h := h.1 e15
                  refine Y_iconst (v := 0) i_246_94 (by decide) ?_
                  refine Y_bret i_246_95 rt_246 (by decide) (KKi ?_)
                  refine Y_zT i_250_111 (by decide) ?_
                  refine Y_ii6 (v := 1) i_250_118 (by decide) rfl ?_
                  refine Y_goto i_250_121 ?_
                  exact h
                · replace h := h.2 e15
                  refine Y_al0 i_246_71 ?_
                  refine Y_gR i_246_72 ow_246 lf_10_100 (k_68 hG) (r_68_37 hG) ?_
                  refine Y_il4 i_246_75 ?_
                  refine Y_iaload (k := (x3 ||| ((1 : Int32) <<< (x6 &&& 31))).toNatClampNeg) (v := (A 90 (x3 ||| ((1 : Int32) <<< (x6 &&& 31))).toNatClampNeg)) i_246_77 (k_90 hG) (l_90 hG) o4 rfl rfl ?_
                  refine Y_abs i_246_78 ow_246 lm_10_317 rfl ?_
                  refine Y_al0 i_246_81 ?_
                  refine Y_gR i_246_82 ow_246 lf_10_42 (k_68 hG) (r_68_4 hG) ?_
                  refine Y_iconst (v := 1) i_246_85 (by decide) ?_
                  refine Y_iaload (k := 1) (v := (A 72 1)) i_246_86 (k_72 hG) (l_72 hG) (by decide) (by decide) rfl ?_
                  refine Y_cgt i_246_87 (fun e16 => ?_) (fun e16 => ?_)
                  · replace h := h.1 e16
                    refine Y_iconst (v := 0) i_246_94 (by decide) ?_
                    refine Y_bret i_246_95 rt_246 (by decide) (KKi ?_)
                    refine Y_zT i_250_111 (by decide) ?_
                    refine Y_ii6 (v := 1) i_250_118 (by decide) rfl ?_
                    refine Y_goto i_250_121 ?_
                    exact h
                  · replace h := h.2 e16
                    refine Y_iconst (v := 1) i_246_90 (by decide) ?_
                    refine Y_goto i_246_91 ?_
                    refine Y_bret i_246_95 rt_246 (by decide) (KKi ?_)
                    refine Y_zF i_250_111 (by decide) ?_
                    refine Y_il6 i_250_114 ?_
                    refine Y_is4 i_250_116 rfl ?_
                    refine Y_ii6 (v := 1) i_250_118 (by decide) rfl ?_
                    refine Y_goto i_250_121 ?_
                    exact h
              · replace h := h.2 e11
                refine Y_iconst (v := 0) i_246_64 (by decide) ?_
                have o17 := h.1
                replace h := h.2
                have o18 := h.1
                replace h := h.2
                have o19 := h.1
                replace h := h.2
                refine Y_iv2 (L0 := [.ref 68, .int x6, .int 0, .null]) i_246_65 ow_246 lm_10_301 ((k_68 hG).trans ow_211.symm) rfl mx_211 rfl rfl hd_246 ?_
                refine c_211 hG o17 o18 o19 (KKi ?_)
                refine Y_cgt i_246_68 (fun e20 => ?_) (fun e20 => ?_)
                · replace h := h.1 e20
                  refine Y_iconst (v := 0) i_246_94 (by decide) ?_
                  refine Y_bret i_246_95 rt_246 (by decide) (KKi ?_)
                  refine Y_zT i_250_111 (by decide) ?_
                  refine Y_ii6 (v := 1) i_250_118 (by decide) rfl ?_
                  refine Y_goto i_250_121 ?_
                  exact h
                · replace h := h.2 e20
                  refine Y_al0 i_246_71 ?_
                  refine Y_gR i_246_72 ow_246 lf_10_100 (k_68 hG) (r_68_37 hG) ?_
                  refine Y_il4 i_246_75 ?_
                  refine Y_iaload (k := (x3 ||| ((1 : Int32) <<< (x6 &&& 31))).toNatClampNeg) (v := (A 90 (x3 ||| ((1 : Int32) <<< (x6 &&& 31))).toNatClampNeg)) i_246_77 (k_90 hG) (l_90 hG) o4 rfl rfl ?_
                  refine Y_abs i_246_78 ow_246 lm_10_317 rfl ?_
                  refine Y_al0 i_246_81 ?_
                  refine Y_gR i_246_82 ow_246 lf_10_42 (k_68 hG) (r_68_4 hG) ?_
                  refine Y_iconst (v := 1) i_246_85 (by decide) ?_
                  refine Y_iaload (k := 1) (v := (A 72 1)) i_246_86 (k_72 hG) (l_72 hG) (by decide) (by decide) rfl ?_
                  refine Y_cgt i_246_87 (fun e21 => ?_) (fun e21 => ?_)
                  · replace h := h.1 e21
                    refine Y_iconst (v := 0) i_246_94 (by decide) ?_
                    refine Y_bret i_246_95 rt_246 (by decide) (KKi ?_)
                    refine Y_zT i_250_111 (by decide) ?_
                    refine Y_ii6 (v := 1) i_250_118 (by decide) rfl ?_
                    refine Y_goto i_250_121 ?_
                    exact h
                  · replace h := h.2 e21
                    refine Y_iconst (v := 1) i_246_90 (by decide) ?_
                    refine Y_goto i_246_91 ?_
                    refine Y_bret i_246_95 rt_246 (by decide) (KKi ?_)
                    refine Y_zF i_250_111 (by decide) ?_
                    refine Y_il6 i_250_114 ?_
                    refine Y_is4 i_250_116 rfl ?_
                    refine Y_ii6 (v := 1) i_250_118 (by decide) rfl ?_
                    refine Y_goto i_250_121 ?_
                    exact h
          · replace h := h.2 e6
            refine Y_al0 i_246_31 ?_
            refine Y_gR i_246_32 ow_246 lf_10_97 (k_68 hG) (r_68_36 hG) ?_
            refine Y_il3 i_246_35 ?_
            have o22 := h.1
            replace h := h.2
            refine Y_iaload (k := x2.toNatClampNeg) (v := (A 89 x2.toNatClampNeg)) i_246_36 (k_89 hG) (l_89 hG) o22 rfl rfl ?_
            refine Y_al0 i_246_37 ?_
            refine Y_gR i_246_38 ow_246 lf_10_97 (k_68 hG) (r_68_36 hG) ?_
            refine Y_il4 i_246_41 ?_
            refine Y_iaload (k := (x3 ||| ((1 : Int32) <<< (x6 &&& 31))).toNatClampNeg) (v := (A 89 (x3 ||| ((1 : Int32) <<< (x6 &&& 31))).toNatClampNeg)) i_246_43 (k_89 hG) (l_89 hG) o4 rfl rfl ?_
            refine Y_isub i_246_44 ?_
            refine Y_al0 i_246_45 ?_
            refine Y_gR i_246_46 ow_246 lf_10_73 (k_68 hG) (r_68_24 hG) ?_
            refine Y_il2 i_246_49 ?_
            have o23 := h.1
            replace h := h.2
            refine Y_iaload (k := x6.toNatClampNeg) (v := (A 82 x6.toNatClampNeg)) i_246_50 (k_82 hG) (l_82 hG) o23 rfl rfl ?_
            refine Y_iadd i_246_51 ?_
            refine Y_al0 i_246_52 ?_
            refine Y_il2 i_246_53 ?_
            refine Y_il4 i_246_54 ?_
            refine Y_il3 i_246_56 ?_
            refine Y_cne i_246_57 (fun e24 => ?_) (fun e24 => ?_)
            · replace h := h.1 e24
              refine Y_iconst (v := 1) i_246_60 (by decide) ?_
              refine Y_goto i_246_61 ?_
              have o25 := h.1
              replace h := h.2
              have o26 := h.1
              replace h := h.2
              have o27 := h.1
              replace h := h.2
              refine Y_iv2 (L0 := [.ref 68, .int x6, .int 1, .null]) i_246_65 ow_246 lm_10_301 ((k_68 hG).trans ow_211.symm) rfl mx_211 rfl rfl hd_246 ?_
              refine c_211 hG o25 o26 o27 (KKi ?_)
              refine Y_cgt i_246_68 (fun e28 => ?_) (fun e28 => ?_)
              · replace h := h.1 e28
                refine Y_iconst (v := 0) i_246_94 (by decide) ?_
                refine Y_bret i_246_95 rt_246 (by decide) (KKi ?_)
                refine Y_zT i_250_111 (by decide) ?_
                refine Y_ii6 (v := 1) i_250_118 (by decide) rfl ?_
                refine Y_goto i_250_121 ?_
                exact h
              · replace h := h.2 e28
                refine Y_al0 i_246_71 ?_
                refine Y_gR i_246_72 ow_246 lf_10_100 (k_68 hG) (r_68_37 hG) ?_
                refine Y_il4 i_246_75 ?_
                refine Y_iaload (k := (x3 ||| ((1 : Int32) <<< (x6 &&& 31))).toNatClampNeg) (v := (A 90 (x3 ||| ((1 : Int32) <<< (x6 &&& 31))).toNatClampNeg)) i_246_77 (k_90 hG) (l_90 hG) o4 rfl rfl ?_
                refine Y_abs i_246_78 ow_246 lm_10_317 rfl ?_
                refine Y_al0 i_246_81 ?_
                refine Y_gR i_246_82 ow_246 lf_10_42 (k_68 hG) (r_68_4 hG) ?_
                refine Y_iconst (v := 1) i_246_85 (by decide) ?_
                refine Y_iaload (k := 1) (v := (A 72 1)) i_246_86 (k_72 hG) (l_72 hG) (by decide) (by decide) rfl ?_
                refine Y_cgt i_246_87 (fun e29 => ?_) (fun e29 => ?_)
                · replace h := h.1 e29
                  refine Y_iconst (v := 0) i_246_94 (by decide) ?_
                  refine Y_bret i_246_95 rt_246 (by decide) (KKi ?_)
                  refine Y_zT i_250_111 (by decide) ?_
                  refine Y_ii6 (v := 1) i_250_118 (by decide) rfl ?_
                  refine Y_goto i_250_121 ?_
                  exact h
                · replace h := h.2 e29
                  refine Y_iconst (v := 1) i_246_90 (by decide) ?_
                  refine Y_goto i_246_91 ?_
                  refine Y_bret i_246_95 rt_246 (by decide) (KKi ?_)
                  refine Y_zF i_250_111 (by decide) ?_
                  refine Y_il6 i_250_114 ?_
                  refine Y_is4 i_250_116 rfl ?_
                  refine Y_ii6 (v := 1) i_250_118 (by decide) rfl ?_
                  refine Y_goto i_250_121 ?_
                  exact h
            · replace h := h.2 e24
              refine Y_iconst (v := 0) i_246_64 (by decide) ?_
              have o30 := h.1
              replace h := h.2
              have o31 := h.1
              replace h := h.2
              have o32 := h.1
              replace h := h.2
              refine Y_iv2 (L0 := [.ref 68, .int x6, .int 0, .null]) i_246_65 ow_246 lm_10_301 ((k_68 hG).trans ow_211.symm) rfl mx_211 rfl rfl hd_246 ?_
              refine c_211 hG o30 o31 o32 (KKi ?_)
              refine Y_cgt i_246_68 (fun e33 => ?_) (fun e33 => ?_)
              · replace h := h.1 e33
                refine Y_iconst (v := 0) i_246_94 (by decide) ?_
                refine Y_bret i_246_95 rt_246 (by decide) (KKi ?_)
                refine Y_zT i_250_111 (by decide) ?_
                refine Y_ii6 (v := 1) i_250_118 (by decide) rfl ?_
                refine Y_goto i_250_121 ?_
                exact h
              · replace h := h.2 e33
                refine Y_al0 i_246_71 ?_
                refine Y_gR i_246_72 ow_246 lf_10_100 (k_68 hG) (r_68_37 hG) ?_
                refine Y_il4 i_246_75 ?_
                refine Y_iaload (k := (x3 ||| ((1 : Int32) <<< (x6 &&& 31))).toNatClampNeg) (v := (A 90 (x3 ||| ((1 : Int32) <<< (x6 &&& 31))).toNatClampNeg)) i_246_77 (k_90 hG) (l_90 hG) o4 rfl rfl ?_
                refine Y_abs i_246_78 ow_246 lm_10_317 rfl ?_
                refine Y_al0 i_246_81 ?_
                refine Y_gR i_246_82 ow_246 lf_10_42 (k_68 hG) (r_68_4 hG) ?_
                refine Y_iconst (v := 1) i_246_85 (by decide) ?_
                refine Y_iaload (k := 1) (v := (A 72 1)) i_246_86 (k_72 hG) (l_72 hG) (by decide) (by decide) rfl ?_
                refine Y_cgt i_246_87 (fun e34 => ?_) (fun e34 => ?_)
                · replace h := h.1 e34
                  refine Y_iconst (v := 0) i_246_94 (by decide) ?_
                  refine Y_bret i_246_95 rt_246 (by decide) (KKi ?_)
                  refine Y_zT i_250_111 (by decide) ?_
                  refine Y_ii6 (v := 1) i_250_118 (by decide) rfl ?_
                  refine Y_goto i_250_121 ?_
                  exact h
                · replace h := h.2 e34
                  refine Y_iconst (v := 1) i_246_90 (by decide) ?_
                  refine Y_goto i_246_91 ?_
                  refine Y_bret i_246_95 rt_246 (by decide) (KKi ?_)
                  refine Y_zF i_250_111 (by decide) ?_
                  refine Y_il6 i_250_114 ?_
                  refine Y_is4 i_250_116 rfl ?_
                  refine Y_ii6 (v := 1) i_250_118 (by decide) rfl ?_
                  refine Y_goto i_250_121 ?_
                  exact h
        · replace h := h.2 e5
          refine Y_ii6 (v := 1) i_250_118 (by decide) rfl ?_
          refine Y_goto i_250_121 ?_
          exact h
      · replace h := h.2 e3
        refine Y_ii6 (v := 1) i_250_118 (by decide) rfl ?_
        refine Y_goto i_250_121 ?_
        exact h
    · replace h := h.2 e2
      refine Y_il3 i_250_124 ?_
      refine Y_iconst (v := 1) i_250_125 (by decide) ?_
      refine Y_il4 i_250_126 ?_
      refine Y_ishl i_250_128 ?_
      refine Y_ior i_250_129 ?_
      refine Y_is3 i_250_130 rfl ?_
      refine Y_ii5 (v := 1) i_250_131 (by decide) rfl ?_
      refine Y_goto i_250_134 ?_
      exact h
  · replace h := h.2 e1
    refine Y_il3 i_250_124 ?_
    refine Y_iconst (v := 1) i_250_125 (by decide) ?_
    refine Y_il4 i_250_126 ?_
    refine Y_ishl i_250_128 ?_
    refine Y_ior i_250_129 ?_
    refine Y_is3 i_250_130 rfl ?_
    refine Y_ii5 (v := 1) i_250_131 (by decide) rfl ?_
    refine Y_goto i_250_134 ?_
    exact h
/- 251 Model.ordersOf(I)J -/
theorem t_251_0 {d : Nat} {F A : Nat → Nat → Int32} {J : Nat → Nat → Int64} {G : pG} {Q : pR → pM → Prop} {SL p q : Nat} {x1 : Int32} (hG : Geo G SL p q) (h : X (d + 3) 244 0 [.ref 68, .null, .null] [] (F, A, J, G) (KK (d + 4) 251 4 [.ref 68, .int x1] [] Q)) : X (d + 4) 251 0 [.ref 68, .int x1] [] (F, A, J, G) Q := by
  refine Y_al0 i_251_0 ?_
  exact Y_iv0 (L0 := [.ref 68, .null, .null]) i_251_1 ow_251 lm_10_409 ((k_68 hG).trans ow_244.symm) rfl mx_244 rfl rfl hd_251 h
theorem k_251_4 {d : Nat} {F A : Nat → Nat → Int32} {J : Nat → Nat → Int64} {G : pG} {Q : pR → pM → Prop} {SL p q : Nat} {x1 : Int32} (hG : Geo G SL p q) (h : ((x1 = 0 → Q (.inl (some (.long 1))) (F, A, J, G)) ∧ (¬ x1 = 0 → X (d + 3) 247 0 [.ref 68, .int x1, .null, .null] [] (F, A, J, G) (KK (d + 4) 251 15 [.ref 68, .int x1] [] Q)))) : KK (d + 4) 251 4 [.ref 68, .int x1] [] Q (.inl none) (F, A, J, G) := by
  refine KKv ?_
  refine Y_il1 i_251_4 ?_
  refine Y_zne i_251_5 (fun e1 => ?_) (fun e1 => ?_)
  · replace h := h.1 e1
    refine Y_lconst (v := 1) i_251_8 (by decide) ?_
    exact Y_lret i_251_9 rt_251 h
  · replace h := h.2 e1
    refine Y_al0 i_251_10 ?_
    refine Y_il1 i_251_11 ?_
    exact Y_iv1 (L0 := [.ref 68, .int x1, .null, .null]) i_251_12 ow_251 lm_10_412 ((k_68 hG).trans ow_247.symm) rfl mx_247 rfl rfl hd_251 h
theorem k_251_15 {d : Nat} {F A : Nat → Nat → Int32} {J : Nat → Nat → Int64} {G : pG} {Q : pR → pM → Prop} {SL p q : Nat} {x1 : Int32} (hG : Geo G SL p q) (h : Q (.inl (some (.long (J 91 0)))) (F, A, J, G)) : KK (d + 4) 251 15 [.ref 68, .int x1] [] Q (.inl none) (F, A, J, G) := by
  refine KKv ?_
  refine Y_al0 i_251_15 ?_
  refine Y_gR i_251_16 ow_251 lf_10_103 (k_68 hG) (r_68_38 hG) ?_
  refine Y_iconst (v := 0) i_251_19 (by decide) ?_
  refine Y_laload (k := 0) (v := (J 91 0)) i_251_20 (k_91 hG) (l_91 hG) (by decide) (by decide) rfl ?_
  exact Y_lret i_251_21 rt_251 h
/- 252 Model.orders()J -/
theorem t_252_0 {d : Nat} {F A : Nat → Nat → Int32} {J : Nat → Nat → Int64} {G : pG} {Q : pR → pM → Prop} {SL p q : Nat} (hG : Geo G SL p q) (h : hB ((wF (wF F 68 3 0) 68 39 0) 68 28) = true ∧ (X (d + 4) 251 0 [.ref 68, .int (bitsI (A 81) ((wF (wF F 68 3 0) 68 39 0) 68 28))] [] ((wF (wF F 68 3 0) 68 39 0), A, J, G) (KK (d + 5) 252 18 [.ref 68] [] Q))) : X (d + 5) 252 0 [.ref 68] [] (F, A, J, G) Q := by
  refine Y_al0 i_252_0 ?_
  refine Y_iconst (v := 0) i_252_1 (by decide) ?_
  refine Y_pI i_252_2 ow_252 lf_10_143 (k_68 hG) ?_
  refine Y_al0 i_252_5 ?_
  refine Y_iconst (v := 0) i_252_6 (by decide) ?_
  refine Y_pI i_252_7 ow_252 lf_10_392 (k_68 hG) ?_
  refine Y_al0 i_252_10 ?_
  refine Y_al0 i_252_11 ?_
  have o1 := h.1
  replace h := h.2
  refine Y_iv0 (L0 := [.ref 68, .null, .null]) i_252_12 ow_252 lm_10_339 ((k_68 hG).trans ow_221.symm) rfl mx_221 rfl rfl hd_252 ?_
  refine c_221 hG o1 (KKi ?_)
  exact Y_iv1 (L0 := [.ref 68, .int (bitsI (A 81) ((wF (wF F 68 3 0) 68 39 0) 68 28))]) i_252_15 ow_252 lm_10_418 ((k_68 hG).trans ow_251.symm) rfl mx_251 rfl rfl hd_252 h
theorem k_252_18 {d : Nat} {F A : Nat → Nat → Int32} {J : Nat → Nat → Int64} {G : pG} {Q : pR → pM → Prop} {SL p q : Nat} {r r : Int64} (hG : Geo G SL p q) (h : Q (.inl (some (.long r))) (F, A, J, G)) : KK (d + 5) 252 18 [.ref 68] [] Q (.inl (some (.long r))) (F, A, J, G) := by
  refine KKl ?_
  exact Y_lret i_252_18 rt_252 h
/- 253 Model.lifted(II)J -/
theorem t_253_0 {d : Nat} {F A : Nat → Nat → Int32} {J : Nat → Nat → Int64} {G : pG} {Q : pR → pM → Prop} {SL p q : Nat} {x1 x2 : Int32} (hG : Geo G SL p q) (h : (((inL x1.toInt64 0 ((((1 : Int32) <<< ((A 72 0) &&& 31)) - 1).toInt64)) = true → (((inL x2.toInt64 0 10) = true → hB ((wF (wF (wF F 68 3 0) 68 39 x1) 68 40 x2) 68 28) = true ∧ (X (d + 4) 251 0 [.ref 68, .int (bitsI (A 81) ((wF (wF (wF F 68 3 0) 68 39 x1) 68 40 x2) 68 28))] [] ((wF (wF (wF F 68 3 0) 68 39 x1) 68 40 x2), A, J, G) (KK (d + 5) 253 62 [.ref 68, .int x1, .int x2, .null, .null] [] Q))) ∧ ((inL x2.toInt64 0 10) = false → Q (.inl (some (.long ((0 : Int32).toInt64)))) ((wF (wF F 68 3 0) 68 3 1), A, J, G)))) ∧ ((inL x1.toInt64 0 ((((1 : Int32) <<< ((A 72 0) &&& 31)) - 1).toInt64)) = false → Q (.inl (some (.long ((0 : Int32).toInt64)))) ((wF (wF F 68 3 0) 68 3 1), A, J, G)))) : X (d + 5) 253 0 [.ref 68, .int x1, .int x2, .null, .null] [] (F, A, J, G) Q := by
  refine Y_al0 i_253_0 ?_
  refine Y_iconst (v := 0) i_253_1 (by decide) ?_
  refine Y_pI i_253_2 ow_253 lf_10_143 (k_68 hG) ?_
  refine Y_il1 i_253_5 ?_
  refine Y_i2l i_253_6 ?_
  refine Y_lconst (v := 0) i_253_7 (by decide) ?_
  refine Y_iconst (v := 1) i_253_8 (by decide) ?_
  refine Y_al0 i_253_9 ?_
  refine Y_gR i_253_10 ow_253 lf_10_42 (k_68 hG) (r_68_4 hG) ?_
  refine Y_iconst (v := 0) i_253_13 (by decide) ?_
  refine Y_iaload (k := 0) (v := (A 72 0)) i_253_14 (k_72 hG) (l_72 hG) (by decide) (by decide) rfl ?_
  refine Y_ishl i_253_15 ?_
  refine Y_iconst (v := 1) i_253_16 (by decide) ?_
  refine Y_isub i_253_17 ?_
  refine Y_i2l i_253_18 ?_
  refine Y_is_3 (L0 := [.long x1.toInt64, .null, .long 0, .null, .long ((((1 : Int32) <<< ((A 72 0) &&& 31)) - 1).toInt64), .null]) i_253_19 ow_253 lm_10_146 rfl mx_178 rfl rfl hd_253 ?_
  refine c_178 hG (KKi ?_)
  refine Y_beq i_253_22 (fun e1 => ?_) (fun e1 => ?_)
  · replace h := h.1 e1
    refine Y_il2 i_253_25 ?_
    refine Y_i2l i_253_26 ?_
    refine Y_lconst (v := 0) i_253_27 (by decide) ?_
    refine Y_ldcL i_253_28 ow_253 lj_10_422 ?_
    refine Y_is_3 (L0 := [.long x2.toInt64, .null, .long 0, .null, .long 10, .null]) i_253_31 ow_253 lm_10_146 rfl mx_178 rfl rfl hd_253 ?_
    refine c_178 hG (KKi ?_)
    refine Y_bne i_253_34 (fun e2 => ?_) (fun e2 => ?_)
    · replace h := h.1 e2
      refine Y_al0 i_253_44 ?_
      refine Y_il1 i_253_45 ?_
      refine Y_pI i_253_46 ow_253 lf_10_392 (k_68 hG) ?_
      refine Y_al0 i_253_49 ?_
      refine Y_il2 i_253_50 ?_
      refine Y_pI i_253_51 ow_253 lf_10_402 (k_68 hG) ?_
      refine Y_al0 i_253_54 ?_
      refine Y_al0 i_253_55 ?_
      have o3 := h.1
      replace h := h.2
      refine Y_iv0 (L0 := [.ref 68, .null, .null]) i_253_56 ow_253 lm_10_339 ((k_68 hG).trans ow_221.symm) rfl mx_221 rfl rfl hd_253 ?_
      refine c_221 hG o3 (KKi ?_)
      exact Y_iv1 (L0 := [.ref 68, .int (bitsI (A 81) ((wF (wF (wF F 68 3 0) 68 39 x1) 68 40 x2) 68 28))]) i_253_59 ow_253 lm_10_418 ((k_68 hG).trans ow_251.symm) rfl mx_251 rfl rfl hd_253 h
    · replace h := h.2 e2
      refine Y_al0 i_253_37 ?_
      refine Y_iconst (v := 1) i_253_38 (by decide) ?_
      refine Y_iv1 (L0 := [.ref 68, .int 1]) i_253_39 ow_253 lm_10_269 ((k_68 hG).trans ow_176.symm) rfl mx_176 rfl rfl hd_253 ?_
      refine Y_al0 i_176_0 ?_
      refine Y_il1 i_176_1 ?_
      refine Y_pI i_176_2 ow_176 lf_10_143 (k_68 hG) ?_
      refine Y_iconst (v := 0) i_176_5 (by decide) ?_
      refine Y_iret i_176_6 rt_176 (KKi ?_)
      refine Y_i2l i_253_42 ?_
      exact Y_lret i_253_43 rt_253 h
  · replace h := h.2 e1
    refine Y_al0 i_253_37 ?_
    refine Y_iconst (v := 1) i_253_38 (by decide) ?_
    refine Y_iv1 (L0 := [.ref 68, .int 1]) i_253_39 ow_253 lm_10_269 ((k_68 hG).trans ow_176.symm) rfl mx_176 rfl rfl hd_253 ?_
    refine Y_al0 i_176_0 ?_
    refine Y_il1 i_176_1 ?_
    refine Y_pI i_176_2 ow_176 lf_10_143 (k_68 hG) ?_
    refine Y_iconst (v := 0) i_176_5 (by decide) ?_
    refine Y_iret i_176_6 rt_176 (KKi ?_)
    refine Y_i2l i_253_42 ?_
    exact Y_lret i_253_43 rt_253 h
theorem k_253_62 {d : Nat} {F A : Nat → Nat → Int32} {J : Nat → Nat → Int64} {G : pG} {Q : pR → pM → Prop} {SL p q : Nat} {x1 x2 : Int32} {r r : Int64} (hG : Geo G SL p q) (h : Q (.inl (some (.long r))) ((wF F 68 39 0), A, J, G)) : KK (d + 5) 253 62 [.ref 68, .int x1, .int x2, .null, .null] [] Q (.inl (some (.long r))) (F, A, J, G) := by
  refine KKl ?_
  refine Y_ls3 i_253_62 rfl ?_
  refine Y_al0 i_253_63 ?_
  refine Y_iconst (v := 0) i_253_64 (by decide) ?_
  refine Y_pI i_253_65 ow_253 lf_10_392 (k_68 hG) ?_
  refine Y_ll3 i_253_68 ?_
  exact Y_lret i_253_69 rt_253 h
/- 254 Model.wedgeLevel(I)V -/
theorem t_254_0 {d : Nat} {F A : Nat → Nat → Int32} {J : Nat → Nat → Int64} {G : pG} {Q : pR → pM → Prop} {SL p q : Nat} {x1 : Int32} (hG : Geo G SL p q) (h : inB x1 20 = true ∧ (((A 73 x1.toNatClampNeg) = 3 → X d 254 18 [.ref 68, .int x1, .int 2, .int 0, .null, .null] [] (F, A, J, G) Q) ∧ (¬ (A 73 x1.toNatClampNeg) = 3 → X d 254 18 [.ref 68, .int x1, .int 1, .int 0, .null, .null] [] (F, A, J, G) Q))) : X d 254 0 [.ref 68, .int x1, .null, .null, .null, .null] [] (F, A, J, G) Q := by
  refine Y_al0 i_254_0 ?_
  refine Y_gR i_254_1 ow_254 lf_10_45 (k_68 hG) (r_68_5 hG) ?_
  refine Y_il1 i_254_4 ?_
  have o1 := h.1
  replace h := h.2
  refine Y_iaload (k := x1.toNatClampNeg) (v := (A 73 x1.toNatClampNeg)) i_254_5 (k_73 hG) (l_73 hG) o1 rfl rfl ?_
  refine Y_iconst (v := 3) i_254_6 (by decide) ?_
  refine Y_cne i_254_7 (fun e2 => ?_) (fun e2 => ?_)
  · replace h := h.1 e2
    refine Y_iconst (v := 2) i_254_10 (by decide) ?_
    refine Y_goto i_254_11 ?_
    refine Y_is2 i_254_15 rfl ?_
    refine Y_iconst (v := 0) i_254_16 (by decide) ?_
    refine Y_is3 i_254_17 rfl ?_
    exact h
  · replace h := h.2 e2
    refine Y_iconst (v := 1) i_254_14 (by decide) ?_
    refine Y_is2 i_254_15 rfl ?_
    refine Y_iconst (v := 0) i_254_16 (by decide) ?_
    refine Y_is3 i_254_17 rfl ?_
    exact h
theorem t_254_18 {d : Nat} {F A : Nat → Nat → Int32} {J : Nat → Nat → Int64} {G : pG} {Q : pR → pM → Prop} {SL p q : Nat} {x1 x2 x3 : Int32} (hG : Geo G SL p q) (h : ((80 < x3 → X d 254 40 [.ref 68, .int x1, .int x2, .int 0, .null, .null] [] (F, A, J, G) Q) ∧ (¬ 80 < x3 → inB x3 81 = true ∧ (X d 254 18 [.ref 68, .int x1, .int x2, .int (x3 + 1), .null, .null] [] (F, (wF A 93 x3.toNatClampNeg 100000), J, G) Q)))) : X d 254 18 [.ref 68, .int x1, .int x2, .int x3, .null, .null] [] (F, A, J, G) Q := by
  refine Y_il3 i_254_18 ?_
  refine Y_bipush (v := 80) i_254_19 (by decide) ?_
  refine Y_cgt i_254_21 (fun e1 => ?_) (fun e1 => ?_)
  · replace h := h.1 e1
    refine Y_iconst (v := 0) i_254_38 (by decide) ?_
    refine Y_is3 i_254_39 rfl ?_
    exact h
  · replace h := h.2 e1
    refine Y_al0 i_254_24 ?_
    refine Y_gR i_254_25 ow_254 lf_10_110 (k_68 hG) (r_68_42 hG) ?_
    refine Y_il3 i_254_28 ?_
    refine Y_ldcI i_254_29 ow_254 li_10_182 ?_
    have o2 := h.1
    replace h := h.2
    refine Y_iast i_254_31 (k_93 hG) (l_93 hG) o2 rfl ?_
    refine Y_ii3 (v := 1) i_254_32 (by decide) rfl ?_
    refine Y_goto i_254_35 ?_
    exact h
theorem t_254_40 {d : Nat} {F A : Nat → Nat → Int32} {J : Nat → Nat → Int64} {G : pG} {Q : pR → pM → Prop} {SL p q : Nat} {x1 x2 x3 : Int32} {v4 v5 : Value} (hG : Geo G SL p q) (h : ((80 < x3 → X d 254 149 [.ref 68, .int x1, .int x2, .int 0, v4, v5] [] (F, A, J, G) Q) ∧ (¬ 80 < x3 → X d 254 50 [.ref 68, .int x1, .int x2, .int x3, .int (-9), v5] [] (F, A, J, G) Q))) : X d 254 40 [.ref 68, .int x1, .int x2, .int x3, v4, v5] [] (F, A, J, G) Q := by
  refine Y_il3 i_254_40 ?_
  refine Y_bipush (v := 80) i_254_41 (by decide) ?_
  refine Y_cgt i_254_43 (fun e1 => ?_) (fun e1 => ?_)
  · replace h := h.1 e1
    refine Y_iconst (v := 0) i_254_147 (by decide) ?_
    refine Y_is3 i_254_148 rfl ?_
    exact h
  · replace h := h.2 e1
    refine Y_bipush (v := (-9)) i_254_46 (by decide) ?_
    refine Y_is4 i_254_48 rfl ?_
    exact h
theorem t_254_50 {d : Nat} {F A : Nat → Nat → Int32} {J : Nat → Nat → Int64} {G : pG} {Q : pR → pM → Prop} {SL p q : Nat} {x1 x2 x3 x4 : Int32} {v5 : Value} (hG : Geo G SL p q) (h : ((9 < x4 → X d 254 40 [.ref 68, .int x1, .int x2, .int (x3 + 1), .int x4, v5] [] (F, A, J, G) Q) ∧ (¬ 9 < x4 → inB x3 81 = true ∧ (((A 92 x3.toNatClampNeg) < 100000 → inB x1 10 = true ∧ (((A 72 1) < (jabs ((x3 - 40) + (x2 * ((A 84 x1.toNatClampNeg) + x4)))) → X d 254 50 [.ref 68, .int x1, .int x2, .int x3, .int (x4 + 1), .int ((x3 - 40) + (x2 * ((A 84 x1.toNatClampNeg) + x4)))] [] (F, A, J, G) Q) ∧ (¬ (A 72 1) < (jabs ((x3 - 40) + (x2 * ((A 84 x1.toNatClampNeg) + x4)))) → inB (((x3 - 40) + (x2 * ((A 84 x1.toNatClampNeg) + x4))) + 40) 81 = true ∧ (X d 254 50 [.ref 68, .int x1, .int x2, .int x3, .int (x4 + 1), .int ((x3 - 40) + (x2 * ((A 84 x1.toNatClampNeg) + x4)))] [] (F, (wF A 93 (((x3 - 40) + (x2 * ((A 84 x1.toNatClampNeg) + x4))) + 40).toNatClampNeg (jmin (A 93 (((x3 - 40) + (x2 * ((A 84 x1.toNatClampNeg) + x4))) + 40).toNatClampNeg) ((A 92 x3.toNatClampNeg) + (jabs x4)))), J, G) Q)))) ∧ (¬ (A 92 x3.toNatClampNeg) < 100000 → X d 254 40 [.ref 68, .int x1, .int x2, .int (x3 + 1), .int x4, v5] [] (F, A, J, G) Q))))) : X d 254 50 [.ref 68, .int x1, .int x2, .int x3, .int x4, v5] [] (F, A, J, G) Q := by
  refine Y_il4 i_254_50 ?_
  refine Y_bipush (v := 9) i_254_52 (by decide) ?_
  refine Y_cgt i_254_54 (fun e1 => ?_) (fun e1 => ?_)
  · replace h := h.1 e1
    refine Y_ii3 (v := 1) i_254_141 (by decide) rfl ?_
    refine Y_goto i_254_144 ?_
    exact h
  · replace h := h.2 e1
    refine Y_al0 i_254_57 ?_
    refine Y_gR i_254_58 ow_254 lf_10_107 (k_68 hG) (r_68_41 hG) ?_
    refine Y_il3 i_254_61 ?_
    have o2 := h.1
    replace h := h.2
    refine Y_iaload (k := x3.toNatClampNeg) (v := (A 92 x3.toNatClampNeg)) i_254_62 (k_92 hG) (l_92 hG) o2 rfl rfl ?_
    refine Y_ldcI i_254_63 ow_254 li_10_182 ?_
    refine Y_cge i_254_65 (fun e3 => ?_) (fun e3 => ?_)
    · replace h := h.1 e3
      refine Y_il3 i_254_68 ?_
      refine Y_bipush (v := 40) i_254_69 (by decide) ?_
      refine Y_isub i_254_71 ?_
      refine Y_il2 i_254_72 ?_
      refine Y_al0 i_254_73 ?_
      refine Y_gR i_254_74 ow_254 lf_10_79 (k_68 hG) (r_68_26 hG) ?_
      refine Y_il1 i_254_77 ?_
      have o4 := h.1
      replace h := h.2
      refine Y_iaload (k := x1.toNatClampNeg) (v := (A 84 x1.toNatClampNeg)) i_254_78 (k_84 hG) (l_84 hG) o4 rfl rfl ?_
      refine Y_il4 i_254_79 ?_
      refine Y_iadd i_254_81 ?_
      refine Y_imul i_254_82 ?_
      refine Y_iadd i_254_83 ?_
      refine Y_is5 i_254_84 rfl ?_
      refine Y_il5 i_254_86 ?_
      refine Y_abs i_254_88 ow_254 lm_10_317 rfl ?_
      refine Y_al0 i_254_91 ?_
      refine Y_gR i_254_92 ow_254 lf_10_42 (k_68 hG) (r_68_4 hG) ?_
      refine Y_iconst (v := 1) i_254_95 (by decide) ?_
      refine Y_iaload (k := 1) (v := (A 72 1)) i_254_96 (k_72 hG) (l_72 hG) (by decide) (by decide) rfl ?_
      refine Y_cgt i_254_97 (fun e5 => ?_) (fun e5 => ?_)
      · replace h := h.1 e5
        refine Y_ii4 (v := 1) i_254_135 (by decide) rfl ?_
        refine Y_goto i_254_138 ?_
        exact h
      · replace h := h.2 e5
        refine Y_al0 i_254_100 ?_
        refine Y_gR i_254_101 ow_254 lf_10_110 (k_68 hG) (r_68_42 hG) ?_
        refine Y_il5 i_254_104 ?_
        refine Y_bipush (v := 40) i_254_106 (by decide) ?_
        refine Y_iadd i_254_108 ?_
        refine Y_al0 i_254_109 ?_
        refine Y_gR i_254_110 ow_254 lf_10_110 (k_68 hG) (r_68_42 hG) ?_
        refine Y_il5 i_254_113 ?_
        refine Y_bipush (v := 40) i_254_115 (by decide) ?_
        refine Y_iadd i_254_117 ?_
        have o6 := h.1
        replace h := h.2
        refine Y_iaload (k := (((x3 - 40) + (x2 * ((A 84 x1.toNatClampNeg) + x4))) + 40).toNatClampNeg) (v := (A 93 (((x3 - 40) + (x2 * ((A 84 x1.toNatClampNeg) + x4))) + 40).toNatClampNeg)) i_254_118 (k_93 hG) (l_93 hG) o6 rfl rfl ?_
        refine Y_al0 i_254_119 ?_
        refine Y_gR i_254_120 ow_254 lf_10_107 (k_68 hG) (r_68_41 hG) ?_
        refine Y_il3 i_254_123 ?_
        refine Y_iaload (k := x3.toNatClampNeg) (v := (A 92 x3.toNatClampNeg)) i_254_124 (k_92 hG) (l_92 hG) o2 rfl rfl ?_
        refine Y_il4 i_254_125 ?_
        refine Y_abs i_254_127 ow_254 lm_10_317 rfl ?_
        refine Y_iadd i_254_130 ?_
        refine Y_min i_254_131 ow_254 lm_10_183 rfl ?_
        refine Y_iast i_254_134 (k_93 hG) (l_93 hG) o6 rfl ?_
        refine Y_ii4 (v := 1) i_254_135 (by decide) rfl ?_
        refine Y_goto i_254_138 ?_
        exact h
    · replace h := h.2 e3
      refine Y_ii3 (v := 1) i_254_141 (by decide) rfl ?_
      refine Y_goto i_254_144 ?_
      exact h
theorem t_254_149 {d : Nat} {F A : Nat → Nat → Int32} {J : Nat → Nat → Int64} {G : pG} {Q : pR → pM → Prop} {SL p q : Nat} {x1 x2 x3 : Int32} {v4 v5 : Value} (hG : Geo G SL p q) (h : ((80 < x3 → Q (.inl none) (F, A, J, G)) ∧ (¬ 80 < x3 → inB x3 81 = true ∧ (X d 254 149 [.ref 68, .int x1, .int x2, .int (x3 + 1), v4, v5] [] (F, (wF A 92 x3.toNatClampNeg (A 93 x3.toNatClampNeg)), J, G) Q)))) : X d 254 149 [.ref 68, .int x1, .int x2, .int x3, v4, v5] [] (F, A, J, G) Q := by
  refine Y_il3 i_254_149 ?_
  refine Y_bipush (v := 80) i_254_150 (by decide) ?_
  refine Y_cgt i_254_152 (fun e1 => ?_) (fun e1 => ?_)
  · replace h := h.1 e1
    exact Y_vret i_254_173 rt_254 h
  · replace h := h.2 e1
    refine Y_al0 i_254_155 ?_
    refine Y_gR i_254_156 ow_254 lf_10_107 (k_68 hG) (r_68_41 hG) ?_
    refine Y_il3 i_254_159 ?_
    refine Y_al0 i_254_160 ?_
    refine Y_gR i_254_161 ow_254 lf_10_110 (k_68 hG) (r_68_42 hG) ?_
    refine Y_il3 i_254_164 ?_
    have o2 := h.1
    replace h := h.2
    refine Y_iaload (k := x3.toNatClampNeg) (v := (A 93 x3.toNatClampNeg)) i_254_165 (k_93 hG) (l_93 hG) o2 rfl rfl ?_
    refine Y_iast i_254_166 (k_92 hG) (l_92 hG) o2 rfl ?_
    refine Y_ii3 (v := 1) i_254_167 (by decide) rfl ?_
    refine Y_goto i_254_170 ?_
    exact h
/- 255 Model.wedges()I -/
theorem t_255_0 {d : Nat} {F A : Nat → Nat → Int32} {J : Nat → Nat → Int64} {G : pG} {Q : pR → pM → Prop} {SL p q : Nat} (hG : Geo G SL p q) (h : X (d + 1) 255 7 [.ref 68, .int 0, .null] [] ((wF F 68 3 0), A, J, G) Q) : X (d + 1) 255 0 [.ref 68, .null, .null] [] (F, A, J, G) Q := by
  refine Y_al0 i_255_0 ?_
  refine Y_iconst (v := 0) i_255_1 (by decide) ?_
  refine Y_pI i_255_2 ow_255 lf_10_143 (k_68 hG) ?_
  refine Y_iconst (v := 0) i_255_5 (by decide) ?_
  refine Y_is1 i_255_6 rfl ?_
  exact h
theorem t_255_7 {d : Nat} {F A : Nat → Nat → Int32} {J : Nat → Nat → Int64} {G : pG} {Q : pR → pM → Prop} {SL p q : Nat} {x1 : Int32} (hG : Geo G SL p q) (h : ((80 < x1 → X (d + 1) 255 37 [.ref 68, .int 0, .null] [] (F, (wF A 92 40 0), J, G) Q) ∧ (¬ 80 < x1 → inB x1 81 = true ∧ (X (d + 1) 255 7 [.ref 68, .int (x1 + 1), .null] [] (F, (wF A 92 x1.toNatClampNeg 100000), J, G) Q)))) : X (d + 1) 255 7 [.ref 68, .int x1, .null] [] (F, A, J, G) Q := by
  refine Y_il1 i_255_7 ?_
  refine Y_bipush (v := 80) i_255_8 (by decide) ?_
  refine Y_cgt i_255_10 (fun e1 => ?_) (fun e1 => ?_)
  · replace h := h.1 e1
    refine Y_al0 i_255_27 ?_
    refine Y_gR i_255_28 ow_255 lf_10_107 (k_68 hG) (r_68_41 hG) ?_
    refine Y_bipush (v := 40) i_255_31 (by decide) ?_
    refine Y_iconst (v := 0) i_255_33 (by decide) ?_
    refine Y_iast (k := 40) i_255_34 (k_92 hG) (l_92 hG) (by decide) (by decide) ?_
    refine Y_iconst (v := 0) i_255_35 (by decide) ?_
    refine Y_is1 i_255_36 rfl ?_
    exact h
  · replace h := h.2 e1
    refine Y_al0 i_255_13 ?_
    refine Y_gR i_255_14 ow_255 lf_10_107 (k_68 hG) (r_68_41 hG) ?_
    refine Y_il1 i_255_17 ?_
    refine Y_ldcI i_255_18 ow_255 li_10_182 ?_
    have o2 := h.1
    replace h := h.2
    refine Y_iast i_255_20 (k_92 hG) (l_92 hG) o2 rfl ?_
    refine Y_ii1 (v := 1) i_255_21 (by decide) rfl ?_
    refine Y_goto i_255_24 ?_
    exact h
theorem t_255_37 {d : Nat} {F A : Nat → Nat → Int32} {J : Nat → Nat → Int64} {G : pG} {Q : pR → pM → Prop} {SL p q : Nat} {x1 : Int32} (hG : Geo G SL p q) (h : ((x1 < (F 68 28) → inB x1 10 = true ∧ (X d 254 0 [.ref 68, .int (A 81 x1.toNatClampNeg), .null, .null, .null, .null] [] (F, A, J, G) (KK (d + 1) 255 55 [.ref 68, .int x1, .null] [] Q))) ∧ (¬ x1 < (F 68 28) → X (d + 1) 255 66 [.ref 68, .int 100000, .int 0] [] (F, A, J, G) Q))) : X (d + 1) 255 37 [.ref 68, .int x1, .null] [] (F, A, J, G) Q := by
  refine Y_il1 i_255_37 ?_
  refine Y_al0 i_255_38 ?_
  refine Y_gI (v := (F 68 28)) i_255_39 ow_255 lf_10_150 (by decide) (k_68 hG) rfl ?_
  refine Y_cge i_255_42 (fun e1 => ?_) (fun e1 => ?_)
  · replace h := h.1 e1
    refine Y_al0 i_255_45 ?_
    refine Y_al0 i_255_46 ?_
    refine Y_gR i_255_47 ow_255 lf_10_70 (k_68 hG) (r_68_23 hG) ?_
    refine Y_il1 i_255_50 ?_
    have o2 := h.1
    replace h := h.2
    refine Y_iaload (k := x1.toNatClampNeg) (v := (A 81 x1.toNatClampNeg)) i_255_51 (k_81 hG) (l_81 hG) o2 rfl rfl ?_
    exact Y_iv1 (L0 := [.ref 68, .int (A 81 x1.toNatClampNeg), .null, .null, .null, .null]) i_255_52 ow_255 lm_10_424 ((k_68 hG).trans ow_254.symm) rfl mx_254 rfl rfl hd_255 h
  · replace h := h.2 e1
    refine Y_ldcI i_255_61 ow_255 li_10_182 ?_
    refine Y_is1 i_255_63 rfl ?_
    refine Y_iconst (v := 0) i_255_64 (by decide) ?_
    refine Y_is2 i_255_65 rfl ?_
    exact h
theorem k_255_55 {d : Nat} {F A : Nat → Nat → Int32} {J : Nat → Nat → Int64} {G : pG} {Q : pR → pM → Prop} {SL p q : Nat} {x1 : Int32} (hG : Geo G SL p q) (h : X (d + 1) 255 37 [.ref 68, .int (x1 + 1), .null] [] (F, A, J, G) Q) : KK (d + 1) 255 55 [.ref 68, .int x1, .null] [] Q (.inl none) (F, A, J, G) := by
  refine KKv ?_
  refine Y_ii1 (v := 1) i_255_55 (by decide) rfl ?_
  refine Y_goto i_255_58 ?_
  exact h
theorem t_255_66 {d : Nat} {F A : Nat → Nat → Int32} {J : Nat → Nat → Int64} {G : pG} {Q : pR → pM → Prop} {SL p q : Nat} {x1 x2 : Int32} (hG : Geo G SL p q) (h : ((80 < x2 → ((x1 = 100000 → Q (.inl (some (.int (-1)))) (F, A, J, G)) ∧ (¬ x1 = 100000 → Q (.inl (some (.int x1))) (F, A, J, G)))) ∧ (¬ 80 < x2 → inB x2 81 = true ∧ (X (d + 1) 255 66 [.ref 68, .int (jmin x1 (A 92 x2.toNatClampNeg)), .int (x2 + 1)] [] (F, A, J, G) Q)))) : X (d + 1) 255 66 [.ref 68, .int x1, .int x2] [] (F, A, J, G) Q := by
  refine Y_il2 i_255_66 ?_
  refine Y_bipush (v := 80) i_255_67 (by decide) ?_
  refine Y_cgt i_255_69 (fun e1 => ?_) (fun e1 => ?_)
  · replace h := h.1 e1
    refine Y_il1 i_255_89 ?_
    refine Y_ldcI i_255_90 ow_255 li_10_182 ?_
    refine Y_cne i_255_92 (fun e2 => ?_) (fun e2 => ?_)
    · replace h := h.1 e2
      refine Y_iconst (v := (-1)) i_255_95 (by decide) ?_
      refine Y_goto i_255_96 ?_
      exact Y_iret i_255_100 rt_255 h
    · replace h := h.2 e2
      refine Y_il1 i_255_99 ?_
      exact Y_iret i_255_100 rt_255 h
  · replace h := h.2 e1
    refine Y_il1 i_255_72 ?_
    refine Y_al0 i_255_73 ?_
    refine Y_gR i_255_74 ow_255 lf_10_107 (k_68 hG) (r_68_41 hG) ?_
    refine Y_il2 i_255_77 ?_
    have o3 := h.1
    replace h := h.2
    refine Y_iaload (k := x2.toNatClampNeg) (v := (A 92 x2.toNatClampNeg)) i_255_78 (k_92 hG) (l_92 hG) o3 rfl rfl ?_
    refine Y_min i_255_79 ow_255 lm_10_183 rfl ?_
    refine Y_is1 i_255_82 rfl ?_
    refine Y_ii2 (v := 1) i_255_83 (by decide) rfl ?_
    refine Y_goto i_255_86 ?_
    exact h
/- 256 Model.when()I -/
theorem t_256_0 {d : Nat} {F A : Nat → Nat → Int32} {J : Nat → Nat → Int64} {G : pG} {Q : pR → pM → Prop} {SL p q : Nat} (hG : Geo G SL p q) (h : X (d + 6) 256 14 [.ref 68, .int (F 68 29), .int (-1), .int 0] [] ((wF F 68 3 0), A, J, G) Q) : X (d + 6) 256 0 [.ref 68, .null, .null, .null] [] (F, A, J, G) Q := by
  refine Y_al0 i_256_0 ?_
  refine Y_iconst (v := 0) i_256_1 (by decide) ?_
  refine Y_pI i_256_2 ow_256 lf_10_143 (k_68 hG) ?_
  refine Y_al0 i_256_5 ?_
  refine Y_gI (v := (F 68 29)) i_256_6 ow_256 lf_10_282 (by decide) (k_68 hG) (by simp [wF, wJ, va_up, cpR, bF, bA]) ?_
  refine Y_is1 i_256_9 rfl ?_
  refine Y_iconst (v := (-1)) i_256_10 (by decide) ?_
  refine Y_is2 i_256_11 rfl ?_
  refine Y_iconst (v := 0) i_256_12 (by decide) ?_
  refine Y_is3 i_256_13 rfl ?_
  exact h
theorem t_256_14 {d : Nat} {F A : Nat → Nat → Int32} {J : Nat → Nat → Int64} {G : pG} {Q : pR → pM → Prop} {SL p q : Nat} {x1 x2 x3 : Int32} (hG : Geo G SL p q) (h : ((99 < x3 → Q (.inl (some (.int x2))) ((wF F 68 29 x1), A, J, G)) ∧ (¬ 99 < x3 → ((x2 = (-1) → X (d + 5) 218 0 [.ref 68] [] ((wF F 68 29 (x1 + x3)), A, J, G) (KK (d + 6) 256 36 [.ref 68, .int x1, .int x2, .int x3] [] Q)) ∧ (¬ x2 = (-1) → Q (.inl (some (.int x2))) ((wF F 68 29 x1), A, J, G)))))) : X (d + 6) 256 14 [.ref 68, .int x1, .int x2, .int x3] [] (F, A, J, G) Q := by
  refine Y_il3 i_256_14 ?_
  refine Y_bipush (v := 99) i_256_15 (by decide) ?_
  refine Y_cgt i_256_17 (fun e1 => ?_) (fun e1 => ?_)
  · replace h := h.1 e1
    refine Y_al0 i_256_47 ?_
    refine Y_il1 i_256_48 ?_
    refine Y_pI i_256_49 ow_256 lf_10_282 (k_68 hG) ?_
    refine Y_il2 i_256_52 ?_
    exact Y_iret i_256_53 rt_256 h
  · replace h := h.2 e1
    refine Y_il2 i_256_20 ?_
    refine Y_iconst (v := (-1)) i_256_21 (by decide) ?_
    refine Y_cne i_256_22 (fun e2 => ?_) (fun e2 => ?_)
    · replace h := h.1 e2
      refine Y_al0 i_256_25 ?_
      refine Y_il1 i_256_26 ?_
      refine Y_il3 i_256_27 ?_
      refine Y_iadd i_256_28 ?_
      refine Y_pI i_256_29 ow_256 lf_10_282 (k_68 hG) ?_
      refine Y_al0 i_256_32 ?_
      exact Y_iv0 (L0 := [.ref 68]) i_256_33 ow_256 lm_10_326 ((k_68 hG).trans ow_218.symm) rfl mx_218 rfl rfl hd_256 h
    · replace h := h.2 e2
      refine Y_al0 i_256_47 ?_
      refine Y_il1 i_256_48 ?_
      refine Y_pI i_256_49 ow_256 lf_10_282 (k_68 hG) ?_
      refine Y_il2 i_256_52 ?_
      exact Y_iret i_256_53 rt_256 h
theorem k_256_36 {d : Nat} {F A : Nat → Nat → Int32} {J : Nat → Nat → Int64} {G : pG} {Q : pR → pM → Prop} {SL p q : Nat} {x1 x2 x3 r r : Int32} (hG : Geo G SL p q) (h : ((r = 0 → X (d + 6) 256 14 [.ref 68, .int x1, .int x3, .int (x3 + 1)] [] (F, A, J, G) Q) ∧ (¬ r = 0 → X (d + 6) 256 14 [.ref 68, .int x1, .int x2, .int (x3 + 1)] [] (F, A, J, G) Q))) : KK (d + 6) 256 36 [.ref 68, .int x1, .int x2, .int x3] [] Q (.inl (some (.int r))) (F, A, J, G) := by
  refine KKi ?_
  refine Y_zne i_256_36 (fun e1 => ?_) (fun e1 => ?_)
  · replace h := h.1 e1
    refine Y_il3 i_256_39 ?_
    refine Y_is2 i_256_40 rfl ?_
    refine Y_ii3 (v := 1) i_256_41 (by decide) rfl ?_
    refine Y_goto i_256_44 ?_
    exact h
  · replace h := h.2 e1
    refine Y_ii3 (v := 1) i_256_41 (by decide) rfl ?_
    refine Y_goto i_256_44 ?_
    exact h
/- 257 Model.broken(I)I -/
theorem t_257_0 {d : Nat} {F A : Nat → Nat → Int32} {J : Nat → Nat → Int64} {G : pG} {Q : pR → pM → Prop} {SL p q : Nat} {x1 : Int32} (hG : Geo G SL p q) (h : (((inL x1.toInt64 0 99) = true → X (d + 4) 217 0 [.ref 68, .null] [] ((wF (wF F 68 3 0) 68 29 ((F 68 29) + x1)), A, J, G) (KK (d + 5) 257 37 [.ref 68, .int x1, .null] [] Q)) ∧ ((inL x1.toInt64 0 99) = false → Q (.inl (some (.int 0))) ((wF (wF F 68 3 0) 68 3 1), A, J, G)))) : X (d + 5) 257 0 [.ref 68, .int x1, .null] [] (F, A, J, G) Q := by
  refine Y_al0 i_257_0 ?_
  refine Y_iconst (v := 0) i_257_1 (by decide) ?_
  refine Y_pI i_257_2 ow_257 lf_10_143 (k_68 hG) ?_
  refine Y_il1 i_257_5 ?_
  refine Y_i2l i_257_6 ?_
  refine Y_lconst (v := 0) i_257_7 (by decide) ?_
  refine Y_ldcL i_257_8 ow_257 lj_10_427 ?_
  refine Y_is_3 (L0 := [.long x1.toInt64, .null, .long 0, .null, .long 99, .null]) i_257_11 ow_257 lm_10_146 rfl mx_178 rfl rfl hd_257 ?_
  refine c_178 hG (KKi ?_)
  refine Y_bne i_257_14 (fun e1 => ?_) (fun e1 => ?_)
  · replace h := h.1 e1
    refine Y_al0 i_257_23 ?_
    refine Y_dup i_257_24 rfl ?_
    refine Y_gI (v := (F 68 29)) i_257_25 ow_257 lf_10_282 (by decide) (k_68 hG) (by simp [wF, wJ, va_up, cpR, bF, bA]) ?_
    refine Y_il1 i_257_28 ?_
    refine Y_iadd i_257_29 ?_
    refine Y_pI i_257_30 ow_257 lf_10_282 (k_68 hG) ?_
    refine Y_al0 i_257_33 ?_
    exact Y_iv0 (L0 := [.ref 68, .null]) i_257_34 ow_257 lm_10_323 ((k_68 hG).trans ow_217.symm) rfl mx_217 rfl rfl hd_257 h
  · replace h := h.2 e1
    refine Y_al0 i_257_17 ?_
    refine Y_iconst (v := 1) i_257_18 (by decide) ?_
    refine Y_iv1 (L0 := [.ref 68, .int 1]) i_257_19 ow_257 lm_10_269 ((k_68 hG).trans ow_176.symm) rfl mx_176 rfl rfl hd_257 ?_
    refine Y_al0 i_176_0 ?_
    refine Y_il1 i_176_1 ?_
    refine Y_pI i_176_2 ow_176 lf_10_143 (k_68 hG) ?_
    refine Y_iconst (v := 0) i_176_5 (by decide) ?_
    refine Y_iret i_176_6 rt_176 (KKi ?_)
    exact Y_iret i_257_22 rt_257 h
theorem k_257_37 {d : Nat} {F A : Nat → Nat → Int32} {J : Nat → Nat → Int64} {G : pG} {Q : pR → pM → Prop} {SL p q : Nat} {x1 r r : Int32} (hG : Geo G SL p q) (h : Q (.inl (some (.int r))) ((wF F 68 29 ((F 68 29) - x1)), A, J, G)) : KK (d + 5) 257 37 [.ref 68, .int x1, .null] [] Q (.inl (some (.int r))) (F, A, J, G) := by
  refine KKi ?_
  refine Y_is2 i_257_37 rfl ?_
  refine Y_al0 i_257_38 ?_
  refine Y_dup i_257_39 rfl ?_
  refine Y_gI (v := (F 68 29)) i_257_40 ow_257 lf_10_282 (by decide) (k_68 hG) rfl ?_
  refine Y_il1 i_257_43 ?_
  refine Y_isub i_257_44 ?_
  refine Y_pI i_257_45 ow_257 lf_10_282 (k_68 hG) ?_
  refine Y_il2 i_257_48 ?_
  exact Y_iret i_257_49 rt_257 h
/- 259 Model.marry(II)Z -/
theorem t_259_0 {d : Nat} {F A : Nat → Nat → Int32} {J : Nat → Nat → Int64} {G : pG} {Q : pR → pM → Prop} {SL p q : Nat} {x1 x2 : Int32} (hG : Geo G SL p q) (h : hB (A 72 0) = true ∧ (((inR x1 (A 72 0)) = true → (((inR x2 (A 72 0)) = true → ((x1 = x2 → Q (.inl (some (.int 0))) ((wF (wF F 68 3 0) 68 3 2), A, J, G)) ∧ (¬ x1 = x2 → inB x1 10 = true ∧ inB x2 10 = true ∧ inB (A 73 x1.toNatClampNeg) 4 = true ∧ inB (A 73 x2.toNatClampNeg) 4 = true ∧ Wrm A ∧ (Q (.inl (some (.int (bI (marB (carS (A 73 x1.toNatClampNeg) (A 75 x1.toNatClampNeg) ((wF F 68 3 0) 68 29) 0) (A 74 x2.toNatClampNeg) (carS (A 73 x2.toNatClampNeg) (A 75 x2.toNatClampNeg) ((wF F 68 3 0) 68 29) 0) (A 74 x1.toNatClampNeg)))))) ((wF F 68 3 0), A, J, G))))) ∧ ((inR x2 (A 72 0)) = false → Q (.inl (some (.int 0))) ((wF (wF F 68 3 0) 68 3 1), A, J, G)))) ∧ ((inR x1 (A 72 0)) = false → Q (.inl (some (.int 0))) ((wF (wF F 68 3 0) 68 3 1), A, J, G)))) : X (d + 3) 259 0 [.ref 68, .int x1, .int x2] [] (F, A, J, G) Q := by
  refine Y_al0 i_259_0 ?_
  refine Y_iconst (v := 0) i_259_1 (by decide) ?_
  refine Y_pI i_259_2 ow_259 lf_10_143 (k_68 hG) ?_
  refine Y_al0 i_259_5 ?_
  refine Y_il1 i_259_6 ?_
  have o1 := h.1
  replace h := h.2
  refine Y_iv1 (L0 := [.ref 68, .int x1]) i_259_7 ow_259 lm_10_333 ((k_68 hG).trans ow_180.symm) rfl mx_180 rfl rfl hd_259 ?_
  refine c_180 hG o1 (KKi ?_)
  refine Y_beq i_259_10 (fun e2 => ?_) (fun e2 => ?_)
  · replace h := h.1 e2
    refine Y_al0 i_259_13 ?_
    refine Y_il2 i_259_14 ?_
    refine Y_iv1 (L0 := [.ref 68, .int x2]) i_259_15 ow_259 lm_10_333 ((k_68 hG).trans ow_180.symm) rfl mx_180 rfl rfl hd_259 ?_
    refine c_180 hG o1 (KKi ?_)
    refine Y_bne i_259_18 (fun e3 => ?_) (fun e3 => ?_)
    · replace h := h.1 e3
      refine Y_il1 i_259_27 ?_
      refine Y_il2 i_259_28 ?_
      refine Y_cne i_259_29 (fun e4 => ?_) (fun e4 => ?_)
      · replace h := h.1 e4
        refine Y_al0 i_259_32 ?_
        refine Y_iconst (v := 2) i_259_33 (by decide) ?_
        refine Y_iv1 (L0 := [.ref 68, .int 2]) i_259_34 ow_259 lm_10_360 ((k_68 hG).trans ow_177.symm) rfl mx_177 rfl rfl hd_259 ?_
        refine Y_al0 i_177_0 ?_
        refine Y_il1 i_177_1 ?_
        refine Y_pI i_177_2 ow_177 lf_10_143 (k_68 hG) ?_
        refine Y_iconst (v := 0) i_177_5 (by decide) ?_
        refine Y_bret i_177_6 rt_177 (by decide) (KKi ?_)
        refine Y_goto i_259_37 ?_
        exact Y_bret i_259_46 rt_259 (by decide) h
      · replace h := h.2 e4
        refine Y_al0 i_259_40 ?_
        refine Y_il1 i_259_41 ?_
        refine Y_il2 i_259_42 ?_
        have o5 := h.1
        replace h := h.2
        have o6 := h.1
        replace h := h.2
        have o7 := h.1
        replace h := h.2
        have o8 := h.1
        replace h := h.2
        have o9 := h.1
        replace h := h.2
        refine Y_iv2 (L0 := [.ref 68, .int x1, .int x2]) i_259_43 ow_259 lm_10_429 ((k_68 hG).trans ow_258.symm) rfl mx_258 rfl rfl hd_259 ?_
        refine c_258 hG o5 o6 o7 o8 o9 (KKi ?_)
        exact Y_bret i_259_46 rt_259 (bI_01 _) h
    · replace h := h.2 e3
      refine Y_al0 i_259_21 ?_
      refine Y_iconst (v := 1) i_259_22 (by decide) ?_
      refine Y_iv1 (L0 := [.ref 68, .int 1]) i_259_23 ow_259 lm_10_360 ((k_68 hG).trans ow_177.symm) rfl mx_177 rfl rfl hd_259 ?_
      refine Y_al0 i_177_0 ?_
      refine Y_il1 i_177_1 ?_
      refine Y_pI i_177_2 ow_177 lf_10_143 (k_68 hG) ?_
      refine Y_iconst (v := 0) i_177_5 (by decide) ?_
      refine Y_bret i_177_6 rt_177 (by decide) (KKi ?_)
      exact Y_bret i_259_26 rt_259 (by decide) h
  · replace h := h.2 e2
    refine Y_al0 i_259_21 ?_
    refine Y_iconst (v := 1) i_259_22 (by decide) ?_
    refine Y_iv1 (L0 := [.ref 68, .int 1]) i_259_23 ow_259 lm_10_360 ((k_68 hG).trans ow_177.symm) rfl mx_177 rfl rfl hd_259 ?_
    refine Y_al0 i_177_0 ?_
    refine Y_il1 i_177_1 ?_
    refine Y_pI i_177_2 ow_177 lf_10_143 (k_68 hG) ?_
    refine Y_iconst (v := 0) i_177_5 (by decide) ?_
    refine Y_bret i_177_6 rt_177 (by decide) (KKi ?_)
    exact Y_bret i_259_26 rt_259 (by decide) h
/- 260 Model.couplesOf(I)I -/
theorem t_260_0 {d : Nat} {F A : Nat → Nat → Int32} {J : Nat → Nat → Int64} {G : pG} {Q : pR → pM → Prop} {SL p q : Nat} {x1 : Int32} (hG : Geo G SL p q) (h : X (d + 3) 260 2 [.ref 68, .int x1, .int 0, .null, .null, .null] [] (F, A, J, G) Q) : X (d + 3) 260 0 [.ref 68, .int x1, .null, .null, .null, .null] [] (F, A, J, G) Q := by
  refine Y_iconst (v := 0) i_260_0 (by decide) ?_
  refine Y_is2 i_260_1 rfl ?_
  exact h
theorem t_260_2 {d : Nat} {F A : Nat → Nat → Int32} {J : Nat → Nat → Int64} {G : pG} {Q : pR → pM → Prop} {SL p q : Nat} {x1 x2 : Int32} (hG : Geo G SL p q) (h : ((x2 < (A 72 0) → (((isO x1 x2) = true → ((x2 = (A 72 0) → Q (.inl (some (.int 0))) (F, A, J, G)) ∧ (¬ x2 = (A 72 0) → X (d + 2) 260 0 [.ref 68, .int (x1 &&& (((1 : Int32) <<< (x2 &&& 31)) ^^^ (-1))), .null, .null, .null, .null] [] (F, A, J, G) (KK (d + 3) 260 51 [.ref 68, .int x1, .int x2, .int (x1 &&& (((1 : Int32) <<< (x2 &&& 31)) ^^^ (-1))), .null, .null] [] Q)))) ∧ ((isO x1 x2) = false → X (d + 3) 260 2 [.ref 68, .int x1, .int (x2 + 1), .null, .null, .null] [] (F, A, J, G) Q))) ∧ (¬ x2 < (A 72 0) → ((x2 = (A 72 0) → Q (.inl (some (.int 0))) (F, A, J, G)) ∧ (¬ x2 = (A 72 0) → X (d + 2) 260 0 [.ref 68, .int (x1 &&& (((1 : Int32) <<< (x2 &&& 31)) ^^^ (-1))), .null, .null, .null, .null] [] (F, A, J, G) (KK (d + 3) 260 51 [.ref 68, .int x1, .int x2, .int (x1 &&& (((1 : Int32) <<< (x2 &&& 31)) ^^^ (-1))), .null, .null] [] Q)))))) : X (d + 3) 260 2 [.ref 68, .int x1, .int x2, .null, .null, .null] [] (F, A, J, G) Q := by
  refine Y_il2 i_260_2 ?_
  refine Y_al0 i_260_3 ?_
  refine Y_gR i_260_4 ow_260 lf_10_42 (k_68 hG) (r_68_4 hG) ?_
  refine Y_iconst (v := 0) i_260_7 (by decide) ?_
  refine Y_iaload (k := 0) (v := (A 72 0)) i_260_8 (k_72 hG) (l_72 hG) (by decide) (by decide) rfl ?_
  refine Y_cge i_260_9 (fun e1 => ?_) (fun e1 => ?_)
  · replace h := h.1 e1
    refine Y_il1 i_260_12 ?_
    refine Y_il2 i_260_13 ?_
    refine Y_is_2 (L0 := [.int x1, .int x2]) i_260_14 ow_260 lm_10_395 rfl mx_179 rfl rfl hd_260 ?_
    refine c_179 hG (KKi ?_)
    refine Y_bne i_260_17 (fun e2 => ?_) (fun e2 => ?_)
    · replace h := h.1 e2
      refine Y_il2 i_260_26 ?_
      refine Y_al0 i_260_27 ?_
      refine Y_gR i_260_28 ow_260 lf_10_42 (k_68 hG) (r_68_4 hG) ?_
      refine Y_iconst (v := 0) i_260_31 (by decide) ?_
      refine Y_iaload (k := 0) (v := (A 72 0)) i_260_32 (k_72 hG) (l_72 hG) (by decide) (by decide) rfl ?_
      refine Y_cne i_260_33 (fun e3 => ?_) (fun e3 => ?_)
      · replace h := h.1 e3
        refine Y_iconst (v := 0) i_260_36 (by decide) ?_
        exact Y_iret i_260_37 rt_260 h
      · replace h := h.2 e3
        refine Y_il1 i_260_38 ?_
        refine Y_iconst (v := 1) i_260_39 (by decide) ?_
        refine Y_il2 i_260_40 ?_
        refine Y_ishl i_260_41 ?_
        refine Y_iconst (v := (-1)) i_260_42 (by decide) ?_
        refine Y_ixor i_260_43 ?_
        refine Y_iand i_260_44 ?_
        refine Y_is3 i_260_45 rfl ?_
        refine Y_al0 i_260_46 ?_
        refine Y_il3 i_260_47 ?_
        exact Y_iv1 (L0 := [.ref 68, .int (x1 &&& (((1 : Int32) <<< (x2 &&& 31)) ^^^ (-1))), .null, .null, .null, .null]) i_260_48 ow_260 lm_10_432 ((k_68 hG).trans ow_260.symm) rfl mx_260 rfl rfl hd_260 h
    · replace h := h.2 e2
      refine Y_ii2 (v := 1) i_260_20 (by decide) rfl ?_
      refine Y_goto i_260_23 ?_
      exact h
  · replace h := h.2 e1
    refine Y_il2 i_260_26 ?_
    refine Y_al0 i_260_27 ?_
    refine Y_gR i_260_28 ow_260 lf_10_42 (k_68 hG) (r_68_4 hG) ?_
    refine Y_iconst (v := 0) i_260_31 (by decide) ?_
    refine Y_iaload (k := 0) (v := (A 72 0)) i_260_32 (k_72 hG) (l_72 hG) (by decide) (by decide) rfl ?_
    refine Y_cne i_260_33 (fun e4 => ?_) (fun e4 => ?_)
    · replace h := h.1 e4
      refine Y_iconst (v := 0) i_260_36 (by decide) ?_
      exact Y_iret i_260_37 rt_260 h
    · replace h := h.2 e4
      refine Y_il1 i_260_38 ?_
      refine Y_iconst (v := 1) i_260_39 (by decide) ?_
      refine Y_il2 i_260_40 ?_
      refine Y_ishl i_260_41 ?_
      refine Y_iconst (v := (-1)) i_260_42 (by decide) ?_
      refine Y_ixor i_260_43 ?_
      refine Y_iand i_260_44 ?_
      refine Y_is3 i_260_45 rfl ?_
      refine Y_al0 i_260_46 ?_
      refine Y_il3 i_260_47 ?_
      exact Y_iv1 (L0 := [.ref 68, .int (x1 &&& (((1 : Int32) <<< (x2 &&& 31)) ^^^ (-1))), .null, .null, .null, .null]) i_260_48 ow_260 lm_10_432 ((k_68 hG).trans ow_260.symm) rfl mx_260 rfl rfl hd_260 h
theorem k_260_51 {d : Nat} {F A : Nat → Nat → Int32} {J : Nat → Nat → Int64} {G : pG} {Q : pR → pM → Prop} {SL p q : Nat} {x1 x2 x3 r r : Int32} (hG : Geo G SL p q) (h : X (d + 3) 260 58 [.ref 68, .int x1, .int x2, .int x3, .int r, .int (x2 + 1)] [] (F, A, J, G) Q) : KK (d + 3) 260 51 [.ref 68, .int x1, .int x2, .int x3, .null, .null] [] Q (.inl (some (.int r))) (F, A, J, G) := by
  refine KKi ?_
  refine Y_is4 i_260_51 rfl ?_
  refine Y_il2 i_260_53 ?_
  refine Y_iconst (v := 1) i_260_54 (by decide) ?_
  refine Y_iadd i_260_55 ?_
  refine Y_is5 i_260_56 rfl ?_
  exact h
theorem t_260_58 {d : Nat} {F A : Nat → Nat → Int32} {J : Nat → Nat → Int64} {G : pG} {Q : pR → pM → Prop} {SL p q : Nat} {x1 x2 x3 x4 x5 : Int32} (hG : Geo G SL p q) (h : ((x5 < (A 72 0) → (((isO x3 x5) = true → inB x2 10 = true ∧ inB x5 10 = true ∧ inB (A 73 x2.toNatClampNeg) 4 = true ∧ inB (A 73 x5.toNatClampNeg) 4 = true ∧ Wrm A ∧ (((marB (carS (A 73 x2.toNatClampNeg) (A 75 x2.toNatClampNeg) (F 68 29) 0) (A 74 x5.toNatClampNeg) (carS (A 73 x5.toNatClampNeg) (A 75 x5.toNatClampNeg) (F 68 29) 0) (A 74 x2.toNatClampNeg)) = true → X (d + 2) 260 0 [.ref 68, .int (x3 &&& (((1 : Int32) <<< (x5 &&& 31)) ^^^ (-1))), .null, .null, .null, .null] [] (F, A, J, G) (KK (d + 3) 260 103 [.ref 68, .int x1, .int x2, .int x3, .int x4, .int x5] [.int 1, .int x4] Q)) ∧ ((marB (carS (A 73 x2.toNatClampNeg) (A 75 x2.toNatClampNeg) (F 68 29) 0) (A 74 x5.toNatClampNeg) (carS (A 73 x5.toNatClampNeg) (A 75 x5.toNatClampNeg) (F 68 29) 0) (A 74 x2.toNatClampNeg)) = false → X (d + 3) 260 58 [.ref 68, .int x1, .int x2, .int x3, .int x4, .int (x5 + 1)] [] (F, A, J, G) Q))) ∧ ((isO x3 x5) = false → X (d + 3) 260 58 [.ref 68, .int x1, .int x2, .int x3, .int x4, .int (x5 + 1)] [] (F, A, J, G) Q))) ∧ (¬ x5 < (A 72 0) → Q (.inl (some (.int x4))) (F, A, J, G)))) : X (d + 3) 260 58 [.ref 68, .int x1, .int x2, .int x3, .int x4, .int x5] [] (F, A, J, G) Q := by
  refine Y_il5 i_260_58 ?_
  refine Y_al0 i_260_60 ?_
  refine Y_gR i_260_61 ow_260 lf_10_42 (k_68 hG) (r_68_4 hG) ?_
  refine Y_iconst (v := 0) i_260_64 (by decide) ?_
  refine Y_iaload (k := 0) (v := (A 72 0)) i_260_65 (k_72 hG) (l_72 hG) (by decide) (by decide) rfl ?_
  refine Y_cge i_260_66 (fun e1 => ?_) (fun e1 => ?_)
  · replace h := h.1 e1
    refine Y_il3 i_260_69 ?_
    refine Y_il5 i_260_70 ?_
    refine Y_is_2 (L0 := [.int x3, .int x5]) i_260_72 ow_260 lm_10_395 rfl mx_179 rfl rfl hd_260 ?_
    refine c_179 hG (KKi ?_)
    refine Y_beq i_260_75 (fun e2 => ?_) (fun e2 => ?_)
    · replace h := h.1 e2
      refine Y_al0 i_260_78 ?_
      refine Y_il2 i_260_79 ?_
      refine Y_il5 i_260_80 ?_
      have o3 := h.1
      replace h := h.2
      have o4 := h.1
      replace h := h.2
      have o5 := h.1
      replace h := h.2
      have o6 := h.1
      replace h := h.2
      have o7 := h.1
      replace h := h.2
      refine Y_iv2 (L0 := [.ref 68, .int x2, .int x5]) i_260_82 ow_260 lm_10_429 ((k_68 hG).trans ow_258.symm) rfl mx_258 rfl rfl hd_260 ?_
      refine c_258 hG o3 o4 o5 o6 o7 (KKi ?_)
      refine Y_beq i_260_85 (fun e8 => ?_) (fun e8 => ?_)
      · replace h := h.1 e8
        refine Y_il4 i_260_88 ?_
        refine Y_iconst (v := 1) i_260_90 (by decide) ?_
        refine Y_al0 i_260_91 ?_
        refine Y_il3 i_260_92 ?_
        refine Y_iconst (v := 1) i_260_93 (by decide) ?_
        refine Y_il5 i_260_94 ?_
        refine Y_ishl i_260_96 ?_
        refine Y_iconst (v := (-1)) i_260_97 (by decide) ?_
        refine Y_ixor i_260_98 ?_
        refine Y_iand i_260_99 ?_
        exact Y_iv1 (L0 := [.ref 68, .int (x3 &&& (((1 : Int32) <<< (x5 &&& 31)) ^^^ (-1))), .null, .null, .null, .null]) i_260_100 ow_260 lm_10_432 ((k_68 hG).trans ow_260.symm) rfl mx_260 rfl rfl hd_260 h
      · replace h := h.2 e8
        refine Y_ii5 (v := 1) i_260_109 (by decide) rfl ?_
        refine Y_goto i_260_112 ?_
        exact h
    · replace h := h.2 e2
      refine Y_ii5 (v := 1) i_260_109 (by decide) rfl ?_
      refine Y_goto i_260_112 ?_
      exact h
  · replace h := h.2 e1
    refine Y_il4 i_260_115 ?_
    exact Y_iret i_260_117 rt_260 h
theorem k_260_103 {d : Nat} {F A : Nat → Nat → Int32} {J : Nat → Nat → Int64} {G : pG} {Q : pR → pM → Prop} {SL p q : Nat} {x1 x2 x3 x4 x5 r s0 s1 r : Int32} (hG : Geo G SL p q) (h : X (d + 3) 260 58 [.ref 68, .int x1, .int x2, .int x3, .int (jmax s1 (s0 + r)), .int (x5 + 1)] [] (F, A, J, G) Q) : KK (d + 3) 260 103 [.ref 68, .int x1, .int x2, .int x3, .int x4, .int x5] [.int s0, .int s1] Q (.inl (some (.int r))) (F, A, J, G) := by
  refine KKi ?_
  refine Y_iadd i_260_103 ?_
  refine Y_max i_260_104 ow_260 lm_10_298 rfl ?_
  refine Y_is4 i_260_107 rfl ?_
  refine Y_ii5 (v := 1) i_260_109 (by decide) rfl ?_
  refine Y_goto i_260_112 ?_
  exact h
/- 261 Model.marriages()I -/
theorem t_261_0 {d : Nat} {F A : Nat → Nat → Int32} {J : Nat → Nat → Int64} {G : pG} {Q : pR → pM → Prop} {SL p q : Nat} (hG : Geo G SL p q) (h : X (d + 3) 260 0 [.ref 68, .int (((1 : Int32) <<< ((A 72 0) &&& 31)) - 1), .null, .null, .null, .null] [] ((wF F 68 3 0), A, J, G) (KK (d + 4) 261 19 [.ref 68] [] Q)) : X (d + 4) 261 0 [.ref 68] [] (F, A, J, G) Q := by
  refine Y_al0 i_261_0 ?_
  refine Y_iconst (v := 0) i_261_1 (by decide) ?_
  refine Y_pI i_261_2 ow_261 lf_10_143 (k_68 hG) ?_
  refine Y_al0 i_261_5 ?_
  refine Y_iconst (v := 1) i_261_6 (by decide) ?_
  refine Y_al0 i_261_7 ?_
  refine Y_gR i_261_8 ow_261 lf_10_42 (k_68 hG) (r_68_4 hG) ?_
  refine Y_iconst (v := 0) i_261_11 (by decide) ?_
  refine Y_iaload (k := 0) (v := (A 72 0)) i_261_12 (k_72 hG) (l_72 hG) (by decide) (by decide) rfl ?_
  refine Y_ishl i_261_13 ?_
  refine Y_iconst (v := 1) i_261_14 (by decide) ?_
  refine Y_isub i_261_15 ?_
  exact Y_iv1 (L0 := [.ref 68, .int (((1 : Int32) <<< ((A 72 0) &&& 31)) - 1), .null, .null, .null, .null]) i_261_16 ow_261 lm_10_432 ((k_68 hG).trans ow_260.symm) rfl mx_260 rfl rfl hd_261 h
theorem k_261_19 {d : Nat} {F A : Nat → Nat → Int32} {J : Nat → Nat → Int64} {G : pG} {Q : pR → pM → Prop} {SL p q : Nat} {r r : Int32} (hG : Geo G SL p q) (h : Q (.inl (some (.int r))) (F, A, J, G)) : KK (d + 4) 261 19 [.ref 68] [] Q (.inl (some (.int r))) (F, A, J, G) := by
  refine KKi ?_
  exact Y_iret i_261_19 rt_261 h
/- 262 Model.nod(II)I -/
theorem t_262_0 {d : Nat} {F A : Nat → Nat → Int32} {J : Nat → Nat → Int64} {G : pG} {Q : pR → pM → Prop} {SL p q : Nat} {x1 x2 : Int32} (hG : Geo G SL p q) (h : hB (A 72 0) = true ∧ (((inR x1 (A 72 0)) = true → hB ((wF F 68 3 0) 68 28) = true ∧ (((lvI (A 81) ((wF F 68 3 0) 68 28) x1) = (-1) → Q (.inl (some (.int 0))) ((wF (wF F 68 3 0) 68 3 1), A, J, G)) ∧ (¬ (lvI (A 81) ((wF F 68 3 0) 68 28) x1) = (-1) → (((inL x2.toInt64 0 99) = true → inB x1 10 = true ∧ (X (d + 4) 217 0 [.ref 68, .null] [] ((wF F 68 3 0), (wF A 82 x1.toNatClampNeg ((A 82 x1.toNatClampNeg) + x2)), J, G) (KK (d + 5) 262 60 [.ref 68, .int x1, .int x2, .null] [] Q))) ∧ ((inL x2.toInt64 0 99) = false → Q (.inl (some (.int 0))) ((wF (wF F 68 3 0) 68 3 2), A, J, G)))))) ∧ ((inR x1 (A 72 0)) = false → Q (.inl (some (.int 0))) ((wF (wF F 68 3 0) 68 3 1), A, J, G)))) : X (d + 5) 262 0 [.ref 68, .int x1, .int x2, .null] [] (F, A, J, G) Q := by
  refine Y_al0 i_262_0 ?_
  refine Y_iconst (v := 0) i_262_1 (by decide) ?_
  refine Y_pI i_262_2 ow_262 lf_10_143 (k_68 hG) ?_
  refine Y_al0 i_262_5 ?_
  refine Y_il1 i_262_6 ?_
  have o1 := h.1
  replace h := h.2
  refine Y_iv1 (L0 := [.ref 68, .int x1]) i_262_7 ow_262 lm_10_333 ((k_68 hG).trans ow_180.symm) rfl mx_180 rfl rfl hd_262 ?_
  refine c_180 hG o1 (KKi ?_)
  refine Y_beq i_262_10 (fun e2 => ?_) (fun e2 => ?_)
  · replace h := h.1 e2
    refine Y_al0 i_262_13 ?_
    refine Y_il1 i_262_14 ?_
    have o3 := h.1
    replace h := h.2
    refine Y_iv1 (L0 := [.ref 68, .int x1, .null]) i_262_15 ow_262 lm_10_336 ((k_68 hG).trans ow_209.symm) rfl mx_209 rfl rfl hd_262 ?_
    refine c_209 hG o3 (KKi ?_)
    refine Y_iconst (v := (-1)) i_262_18 (by decide) ?_
    refine Y_cne i_262_19 (fun e4 => ?_) (fun e4 => ?_)
    · replace h := h.1 e4
      refine Y_al0 i_262_22 ?_
      refine Y_iconst (v := 1) i_262_23 (by decide) ?_
      refine Y_iv1 (L0 := [.ref 68, .int 1]) i_262_24 ow_262 lm_10_269 ((k_68 hG).trans ow_176.symm) rfl mx_176 rfl rfl hd_262 ?_
      refine Y_al0 i_176_0 ?_
      refine Y_il1 i_176_1 ?_
      refine Y_pI i_176_2 ow_176 lf_10_143 (k_68 hG) ?_
      refine Y_iconst (v := 0) i_176_5 (by decide) ?_
      refine Y_iret i_176_6 rt_176 (KKi ?_)
      exact Y_iret i_262_27 rt_262 h
    · replace h := h.2 e4
      refine Y_il2 i_262_28 ?_
      refine Y_i2l i_262_29 ?_
      refine Y_lconst (v := 0) i_262_30 (by decide) ?_
      refine Y_ldcL i_262_31 ow_262 lj_10_427 ?_
      refine Y_is_3 (L0 := [.long x2.toInt64, .null, .long 0, .null, .long 99, .null]) i_262_34 ow_262 lm_10_146 rfl mx_178 rfl rfl hd_262 ?_
      refine c_178 hG (KKi ?_)
      refine Y_bne i_262_37 (fun e5 => ?_) (fun e5 => ?_)
      · replace h := h.1 e5
        refine Y_al0 i_262_46 ?_
        refine Y_gR i_262_47 ow_262 lf_10_73 (k_68 hG) (r_68_24 hG) ?_
        refine Y_il1 i_262_50 ?_
        refine Y_dup2 i_262_51 rfl rfl ?_
        have o6 := h.1
        replace h := h.2
        refine Y_iaload (k := x1.toNatClampNeg) (v := (A 82 x1.toNatClampNeg)) i_262_52 (k_82 hG) (l_82 hG) o6 rfl rfl ?_
        refine Y_il2 i_262_53 ?_
        refine Y_iadd i_262_54 ?_
        refine Y_iast i_262_55 (k_82 hG) (l_82 hG) o6 rfl ?_
        refine Y_al0 i_262_56 ?_
        exact Y_iv0 (L0 := [.ref 68, .null]) i_262_57 ow_262 lm_10_323 ((k_68 hG).trans ow_217.symm) rfl mx_217 rfl rfl hd_262 h
      · replace h := h.2 e5
        refine Y_al0 i_262_40 ?_
        refine Y_iconst (v := 2) i_262_41 (by decide) ?_
        refine Y_iv1 (L0 := [.ref 68, .int 2]) i_262_42 ow_262 lm_10_269 ((k_68 hG).trans ow_176.symm) rfl mx_176 rfl rfl hd_262 ?_
        refine Y_al0 i_176_0 ?_
        refine Y_il1 i_176_1 ?_
        refine Y_pI i_176_2 ow_176 lf_10_143 (k_68 hG) ?_
        refine Y_iconst (v := 0) i_176_5 (by decide) ?_
        refine Y_iret i_176_6 rt_176 (KKi ?_)
        exact Y_iret i_262_45 rt_262 h
  · replace h := h.2 e2
    refine Y_al0 i_262_22 ?_
    refine Y_iconst (v := 1) i_262_23 (by decide) ?_
    refine Y_iv1 (L0 := [.ref 68, .int 1]) i_262_24 ow_262 lm_10_269 ((k_68 hG).trans ow_176.symm) rfl mx_176 rfl rfl hd_262 ?_
    refine Y_al0 i_176_0 ?_
    refine Y_il1 i_176_1 ?_
    refine Y_pI i_176_2 ow_176 lf_10_143 (k_68 hG) ?_
    refine Y_iconst (v := 0) i_176_5 (by decide) ?_
    refine Y_iret i_176_6 rt_176 (KKi ?_)
    exact Y_iret i_262_27 rt_262 h
theorem k_262_60 {d : Nat} {F A : Nat → Nat → Int32} {J : Nat → Nat → Int64} {G : pG} {Q : pR → pM → Prop} {SL p q : Nat} {x1 x2 r r : Int32} (hG : Geo G SL p q) (h : inB x1 10 = true ∧ (Q (.inl (some (.int r))) (F, (wF A 82 x1.toNatClampNeg ((A 82 x1.toNatClampNeg) - x2)), J, G))) : KK (d + 5) 262 60 [.ref 68, .int x1, .int x2, .null] [] Q (.inl (some (.int r))) (F, A, J, G) := by
  refine KKi ?_
  refine Y_is3 i_262_60 rfl ?_
  refine Y_al0 i_262_61 ?_
  refine Y_gR i_262_62 ow_262 lf_10_73 (k_68 hG) (r_68_24 hG) ?_
  refine Y_il1 i_262_65 ?_
  refine Y_dup2 i_262_66 rfl rfl ?_
  have o1 := h.1
  replace h := h.2
  refine Y_iaload (k := x1.toNatClampNeg) (v := (A 82 x1.toNatClampNeg)) i_262_67 (k_82 hG) (l_82 hG) o1 rfl rfl ?_
  refine Y_il2 i_262_68 ?_
  refine Y_isub i_262_69 ?_
  refine Y_iast i_262_70 (k_82 hG) (l_82 hG) o1 rfl ?_
  refine Y_il3 i_262_71 ?_
  exact Y_iret i_262_72 rt_262 h
/- 263 Model.fair()I -/
theorem t_263_0 {d : Nat} {F A : Nat → Nat → Int32} {J : Nat → Nat → Int64} {G : pG} {Q : pR → pM → Prop} {SL p q : Nat} (hG : Geo G SL p q) (h : X (d + 2) 207 0 [.ref 68, .ref 88, .int 0, .null] [] ((wF F 68 3 0), A, J, G) (KK (d + 3) 263 14 [.ref 68, .null, .null] [] Q)) : X (d + 3) 263 0 [.ref 68, .null, .null] [] (F, A, J, G) Q := by
  refine Y_al0 i_263_0 ?_
  refine Y_iconst (v := 0) i_263_1 (by decide) ?_
  refine Y_pI i_263_2 ow_263 lf_10_143 (k_68 hG) ?_
  refine Y_al0 i_263_5 ?_
  refine Y_al0 i_263_6 ?_
  refine Y_gR i_263_7 ow_263 lf_10_94 (k_68 hG) (r_68_35 hG) ?_
  refine Y_iconst (v := 0) i_263_10 (by decide) ?_
  exact Y_iv2 (L0 := [.ref 68, .ref 88, .int 0, .null]) i_263_11 ow_263 lm_10_347 ((k_68 hG).trans ow_207.symm) rfl mx_207 rfl rfl hd_263 h
theorem k_263_14 {d : Nat} {F A : Nat → Nat → Int32} {J : Nat → Nat → Int64} {G : pG} {Q : pR → pM → Prop} {SL p q : Nat} (hG : Geo G SL p q) (h : X (d + 3) 263 18 [.ref 68, .int (-1), .int 0] [] (F, A, J, G) Q) : KK (d + 3) 263 14 [.ref 68, .null, .null] [] Q (.inl none) (F, A, J, G) := by
  refine KKv ?_
  refine Y_iconst (v := (-1)) i_263_14 (by decide) ?_
  refine Y_is1 i_263_15 rfl ?_
  refine Y_iconst (v := 0) i_263_16 (by decide) ?_
  refine Y_is2 i_263_17 rfl ?_
  exact h
theorem t_263_18 {d : Nat} {F A : Nat → Nat → Int32} {J : Nat → Nat → Int64} {G : pG} {Q : pR → pM → Prop} {SL p q : Nat} {x1 x2 : Int32} (hG : Geo G SL p q) (h : ((999 < x2 → X (d + 2) 208 0 [.ref 68, .ref 88, .int 0, .null] [] (F, A, J, G) (KK (d + 3) 263 64 [.ref 68, .int x1, .int x2] [] Q)) ∧ (¬ 999 < x2 → ((x1 = (-1) → X (d + 2) 238 0 [.ref 68, .int x2, .null, .null, .null, .null] [] (F, A, J, G) (KK (d + 3) 263 35 [.ref 68, .int x1, .int x2] [] Q)) ∧ (¬ x1 = (-1) → X (d + 2) 208 0 [.ref 68, .ref 88, .int 0, .null] [] (F, A, J, G) (KK (d + 3) 263 64 [.ref 68, .int x1, .int x2] [] Q)))))) : X (d + 3) 263 18 [.ref 68, .int x1, .int x2] [] (F, A, J, G) Q := by
  refine Y_il2 i_263_18 ?_
  refine Y_sipush (v := 999) i_263_19 (by decide) ?_
  refine Y_cgt i_263_22 (fun e1 => ?_) (fun e1 => ?_)
  · replace h := h.1 e1
    refine Y_al0 i_263_55 ?_
    refine Y_al0 i_263_56 ?_
    refine Y_gR i_263_57 ow_263 lf_10_94 (k_68 hG) (r_68_35 hG) ?_
    refine Y_iconst (v := 0) i_263_60 (by decide) ?_
    exact Y_iv2 (L0 := [.ref 68, .ref 88, .int 0, .null]) i_263_61 ow_263 lm_10_386 ((k_68 hG).trans ow_208.symm) rfl mx_208 rfl rfl hd_263 h
  · replace h := h.2 e1
    refine Y_il1 i_263_25 ?_
    refine Y_iconst (v := (-1)) i_263_26 (by decide) ?_
    refine Y_cne i_263_27 (fun e2 => ?_) (fun e2 => ?_)
    · replace h := h.1 e2
      refine Y_al0 i_263_30 ?_
      refine Y_il2 i_263_31 ?_
      exact Y_iv1 (L0 := [.ref 68, .int x2, .null, .null, .null, .null]) i_263_32 ow_263 lm_10_381 ((k_68 hG).trans ow_238.symm) rfl mx_238 rfl rfl hd_263 h
    · replace h := h.2 e2
      refine Y_al0 i_263_55 ?_
      refine Y_al0 i_263_56 ?_
      refine Y_gR i_263_57 ow_263 lf_10_94 (k_68 hG) (r_68_35 hG) ?_
      refine Y_iconst (v := 0) i_263_60 (by decide) ?_
      exact Y_iv2 (L0 := [.ref 68, .ref 88, .int 0, .null]) i_263_61 ow_263 lm_10_386 ((k_68 hG).trans ow_208.symm) rfl mx_208 rfl rfl hd_263 h
theorem k_263_35 {d : Nat} {F A : Nat → Nat → Int32} {J : Nat → Nat → Int64} {G : pG} {Q : pR → pM → Prop} {SL p q : Nat} {x1 x2 r r : Int32} (hG : Geo G SL p q) (h : X (d + 2) 220 0 [.ref 68, .null, .null] [] (F, A, J, G) (KK (d + 3) 263 40 [.ref 68, .int x1, .int x2] [] Q)) : KK (d + 3) 263 35 [.ref 68, .int x1, .int x2] [] Q (.inl (some (.int r))) (F, A, J, G) := by
  refine KKi ?_
  refine Y_pop i_263_35 rfl ?_
  refine Y_al0 i_263_36 ?_
  exact Y_iv0 (L0 := [.ref 68, .null, .null]) i_263_37 ow_263 lm_10_330 ((k_68 hG).trans ow_220.symm) rfl mx_220 rfl rfl hd_263 h
theorem k_263_40 {d : Nat} {F A : Nat → Nat → Int32} {J : Nat → Nat → Int64} {G : pG} {Q : pR → pM → Prop} {SL p q : Nat} {x1 x2 r r : Int32} (hG : Geo G SL p q) (h : hB (F 68 28) = true ∧ ((r = (bitsI (A 81) (F 68 28)) → X (d + 3) 263 18 [.ref 68, .int x2, .int (x2 + 1)] [] (F, A, J, G) Q) ∧ (¬ r = (bitsI (A 81) (F 68 28)) → X (d + 3) 263 18 [.ref 68, .int x1, .int (x2 + 1)] [] (F, A, J, G) Q))) : KK (d + 3) 263 40 [.ref 68, .int x1, .int x2] [] Q (.inl (some (.int r))) (F, A, J, G) := by
  refine KKi ?_
  refine Y_al0 i_263_40 ?_
  have o1 := h.1
  replace h := h.2
  refine Y_iv0 (L0 := [.ref 68, .null, .null]) i_263_41 ow_263 lm_10_339 ((k_68 hG).trans ow_221.symm) rfl mx_221 rfl rfl hd_263 ?_
  refine c_221 hG o1 (KKi ?_)
  refine Y_cne i_263_44 (fun e2 => ?_) (fun e2 => ?_)
  · replace h := h.1 e2
    refine Y_il2 i_263_47 ?_
    refine Y_is1 i_263_48 rfl ?_
    refine Y_ii2 (v := 1) i_263_49 (by decide) rfl ?_
    refine Y_goto i_263_52 ?_
    exact h
  · replace h := h.2 e2
    refine Y_ii2 (v := 1) i_263_49 (by decide) rfl ?_
    refine Y_goto i_263_52 ?_
    exact h
theorem k_263_64 {d : Nat} {F A : Nat → Nat → Int32} {J : Nat → Nat → Int64} {G : pG} {Q : pR → pM → Prop} {SL p q : Nat} {x1 x2 : Int32} (hG : Geo G SL p q) (h : Q (.inl (some (.int x1))) (F, A, J, G)) : KK (d + 3) 263 64 [.ref 68, .int x1, .int x2] [] Q (.inl none) (F, A, J, G) := by
  refine KKv ?_
  refine Y_il1 i_263_64 ?_
  exact Y_iret i_263_65 rt_263 h
/- 264 Model.top(I)I -/
theorem t_264_0 {d : Nat} {F A : Nat → Nat → Int32} {J : Nat → Nat → Int64} {G : pG} {Q : pR → pM → Prop} {SL p q : Nat} {x1 : Int32} (hG : Geo G SL p q) (h : (((inL x1.toInt64 0 999) = true → (((F 68 28) = 0 → Q (.inl (some (.int (-1)))) ((wF F 68 3 0), A, J, G)) ∧ (¬ (F 68 28) = 0 → X (d + 2) 207 0 [.ref 68, .ref 88, .int 0, .null] [] ((wF F 68 3 0), A, J, G) (KK (d + 3) 264 41 [.ref 68, .int x1, .null] [] Q)))) ∧ ((inL x1.toInt64 0 999) = false → Q (.inl (some (.int 0))) ((wF (wF F 68 3 0) 68 3 1), A, J, G)))) : X (d + 3) 264 0 [.ref 68, .int x1, .null] [] (F, A, J, G) Q := by
  refine Y_al0 i_264_0 ?_
  refine Y_iconst (v := 0) i_264_1 (by decide) ?_
  refine Y_pI i_264_2 ow_264 lf_10_143 (k_68 hG) ?_
  refine Y_il1 i_264_5 ?_
  refine Y_i2l i_264_6 ?_
  refine Y_lconst (v := 0) i_264_7 (by decide) ?_
  refine Y_ldcL i_264_8 ow_264 lj_10_435 ?_
  refine Y_is_3 (L0 := [.long x1.toInt64, .null, .long 0, .null, .long 999, .null]) i_264_11 ow_264 lm_10_146 rfl mx_178 rfl rfl hd_264 ?_
  refine c_178 hG (KKi ?_)
  refine Y_bne i_264_14 (fun e1 => ?_) (fun e1 => ?_)
  · replace h := h.1 e1
    refine Y_al0 i_264_23 ?_
    refine Y_gI (v := (F 68 28)) i_264_24 ow_264 lf_10_150 (by decide) (k_68 hG) (by simp [wF, wJ, va_up, cpR, bF, bA]) ?_
    refine Y_zne i_264_27 (fun e2 => ?_) (fun e2 => ?_)
    · replace h := h.1 e2
      refine Y_iconst (v := (-1)) i_264_30 (by decide) ?_
      exact Y_iret i_264_31 rt_264 h
    · replace h := h.2 e2
      refine Y_al0 i_264_32 ?_
      refine Y_al0 i_264_33 ?_
      refine Y_gR i_264_34 ow_264 lf_10_94 (k_68 hG) (r_68_35 hG) ?_
      refine Y_iconst (v := 0) i_264_37 (by decide) ?_
      exact Y_iv2 (L0 := [.ref 68, .ref 88, .int 0, .null]) i_264_38 ow_264 lm_10_347 ((k_68 hG).trans ow_207.symm) rfl mx_207 rfl rfl hd_264 h
  · replace h := h.2 e1
    refine Y_al0 i_264_17 ?_
    refine Y_iconst (v := 1) i_264_18 (by decide) ?_
    refine Y_iv1 (L0 := [.ref 68, .int 1]) i_264_19 ow_264 lm_10_269 ((k_68 hG).trans ow_176.symm) rfl mx_176 rfl rfl hd_264 ?_
    refine Y_al0 i_176_0 ?_
    refine Y_il1 i_176_1 ?_
    refine Y_pI i_176_2 ow_176 lf_10_143 (k_68 hG) ?_
    refine Y_iconst (v := 0) i_176_5 (by decide) ?_
    refine Y_iret i_176_6 rt_176 (KKi ?_)
    exact Y_iret i_264_22 rt_264 h
theorem k_264_41 {d : Nat} {F A : Nat → Nat → Int32} {J : Nat → Nat → Int64} {G : pG} {Q : pR → pM → Prop} {SL p q : Nat} {x1 : Int32} (hG : Geo G SL p q) (h : X (d + 2) 238 0 [.ref 68, .int x1, .null, .null, .null, .null] [] (F, A, J, G) (KK (d + 3) 264 46 [.ref 68, .int x1, .null] [] Q)) : KK (d + 3) 264 41 [.ref 68, .int x1, .null] [] Q (.inl none) (F, A, J, G) := by
  refine KKv ?_
  refine Y_al0 i_264_41 ?_
  refine Y_il1 i_264_42 ?_
  exact Y_iv1 (L0 := [.ref 68, .int x1, .null, .null, .null, .null]) i_264_43 ow_264 lm_10_381 ((k_68 hG).trans ow_238.symm) rfl mx_238 rfl rfl hd_264 h
theorem k_264_46 {d : Nat} {F A : Nat → Nat → Int32} {J : Nat → Nat → Int64} {G : pG} {Q : pR → pM → Prop} {SL p q : Nat} {x1 r r : Int32} (hG : Geo G SL p q) (h : inB ((F 68 28) - 1) 10 = true ∧ inB (A 81 ((F 68 28) - 1).toNatClampNeg) 10 = true ∧ (X (d + 2) 208 0 [.ref 68, .ref 88, .int 0, .null] [] (F, A, J, G) (KK (d + 3) 264 73 [.ref 68, .int x1, .int (A 82 (A 81 ((F 68 28) - 1).toNatClampNeg).toNatClampNeg)] [] Q))) : KK (d + 3) 264 46 [.ref 68, .int x1, .null] [] Q (.inl (some (.int r))) (F, A, J, G) := by
  refine KKi ?_
  refine Y_pop i_264_46 rfl ?_
  refine Y_al0 i_264_47 ?_
  refine Y_gR i_264_48 ow_264 lf_10_73 (k_68 hG) (r_68_24 hG) ?_
  refine Y_al0 i_264_51 ?_
  refine Y_gR i_264_52 ow_264 lf_10_70 (k_68 hG) (r_68_23 hG) ?_
  refine Y_al0 i_264_55 ?_
  refine Y_gI (v := (F 68 28)) i_264_56 ow_264 lf_10_150 (by decide) (k_68 hG) rfl ?_
  refine Y_iconst (v := 1) i_264_59 (by decide) ?_
  refine Y_isub i_264_60 ?_
  have o1 := h.1
  replace h := h.2
  refine Y_iaload (k := ((F 68 28) - 1).toNatClampNeg) (v := (A 81 ((F 68 28) - 1).toNatClampNeg)) i_264_61 (k_81 hG) (l_81 hG) o1 rfl rfl ?_
  have o2 := h.1
  replace h := h.2
  refine Y_iaload (k := (A 81 ((F 68 28) - 1).toNatClampNeg).toNatClampNeg) (v := (A 82 (A 81 ((F 68 28) - 1).toNatClampNeg).toNatClampNeg)) i_264_62 (k_82 hG) (l_82 hG) o2 rfl rfl ?_
  refine Y_is2 i_264_63 rfl ?_
  refine Y_al0 i_264_64 ?_
  refine Y_al0 i_264_65 ?_
  refine Y_gR i_264_66 ow_264 lf_10_94 (k_68 hG) (r_68_35 hG) ?_
  refine Y_iconst (v := 0) i_264_69 (by decide) ?_
  exact Y_iv2 (L0 := [.ref 68, .ref 88, .int 0, .null]) i_264_70 ow_264 lm_10_386 ((k_68 hG).trans ow_208.symm) rfl mx_208 rfl rfl hd_264 h
theorem k_264_73 {d : Nat} {F A : Nat → Nat → Int32} {J : Nat → Nat → Int64} {G : pG} {Q : pR → pM → Prop} {SL p q : Nat} {x1 x2 : Int32} (hG : Geo G SL p q) (h : Q (.inl (some (.int x2))) (F, A, J, G)) : KK (d + 3) 264 73 [.ref 68, .int x1, .int x2] [] Q (.inl none) (F, A, J, G) := by
  refine KKv ?_
  refine Y_il2 i_264_73 ?_
  exact Y_iret i_264_74 rt_264 h
/- 265 Model.hungriest()I -/
theorem t_265_0 {d : Nat} {F A : Nat → Nat → Int32} {J : Nat → Nat → Int64} {G : pG} {Q : pR → pM → Prop} {SL p q : Nat} (hG : Geo G SL p q) (h : X (d + 1) 265 11 [.ref 68, .int (-1), .int 0, .int 0] [] ((wF F 68 3 0), A, J, G) Q) : X (d + 1) 265 0 [.ref 68, .null, .null, .null] [] (F, A, J, G) Q := by
  refine Y_al0 i_265_0 ?_
  refine Y_iconst (v := 0) i_265_1 (by decide) ?_
  refine Y_pI i_265_2 ow_265 lf_10_143 (k_68 hG) ?_
  refine Y_iconst (v := (-1)) i_265_5 (by decide) ?_
  refine Y_is1 i_265_6 rfl ?_
  refine Y_iconst (v := 0) i_265_7 (by decide) ?_
  refine Y_is2 i_265_8 rfl ?_
  refine Y_iconst (v := 0) i_265_9 (by decide) ?_
  refine Y_is3 i_265_10 rfl ?_
  exact h
theorem t_265_11 {d : Nat} {F A : Nat → Nat → Int32} {J : Nat → Nat → Int64} {G : pG} {Q : pR → pM → Prop} {SL p q : Nat} {x1 x2 x3 : Int32} (hG : Geo G SL p q) (h : ((x3 < (A 72 0) → hB (F 68 28) = true ∧ (((lvI (A 81) (F 68 28) x3) = (-1) → X (d + 1) 265 11 [.ref 68, .int x1, .int x2, .int (x3 + 1)] [] (F, A, J, G) Q) ∧ (¬ (lvI (A 81) (F 68 28) x3) = (-1) → inB x3 20 = true ∧ inB x3 10 = true ∧ ((x2 < ((A 77 x3.toNatClampNeg) - (A 82 x3.toNatClampNeg)) → X (d + 1) 265 11 [.ref 68, .int x3, .int ((A 77 x3.toNatClampNeg) - (A 82 x3.toNatClampNeg)), .int (x3 + 1)] [] (F, A, J, G) Q) ∧ (¬ x2 < ((A 77 x3.toNatClampNeg) - (A 82 x3.toNatClampNeg)) → X (d + 1) 265 11 [.ref 68, .int x1, .int x2, .int (x3 + 1)] [] (F, A, J, G) Q))))) ∧ (¬ x3 < (A 72 0) → Q (.inl (some (.int x1))) (F, A, J, G)))) : X (d + 1) 265 11 [.ref 68, .int x1, .int x2, .int x3] [] (F, A, J, G) Q := by
  refine Y_il3 i_265_11 ?_
  refine Y_al0 i_265_12 ?_
  refine Y_gR i_265_13 ow_265 lf_10_42 (k_68 hG) (r_68_4 hG) ?_
  refine Y_iconst (v := 0) i_265_16 (by decide) ?_
  refine Y_iaload (k := 0) (v := (A 72 0)) i_265_17 (k_72 hG) (l_72 hG) (by decide) (by decide) rfl ?_
  refine Y_cge i_265_18 (fun e1 => ?_) (fun e1 => ?_)
  · replace h := h.1 e1
    refine Y_al0 i_265_21 ?_
    refine Y_il3 i_265_22 ?_
    have o2 := h.1
    replace h := h.2
    refine Y_iv1 (L0 := [.ref 68, .int x3, .null]) i_265_23 ow_265 lm_10_336 ((k_68 hG).trans ow_209.symm) rfl mx_209 rfl rfl hd_265 ?_
    refine c_209 hG o2 (KKi ?_)
    refine Y_iconst (v := (-1)) i_265_26 (by decide) ?_
    refine Y_ceq i_265_27 (fun e3 => ?_) (fun e3 => ?_)
    · replace h := h.1 e3
      refine Y_ii3 (v := 1) i_265_66 (by decide) rfl ?_
      refine Y_goto i_265_69 ?_
      exact h
    · replace h := h.2 e3
      refine Y_al0 i_265_30 ?_
      refine Y_gR i_265_31 ow_265 lf_10_55 (k_68 hG) (r_68_9 hG) ?_
      refine Y_il3 i_265_34 ?_
      have o4 := h.1
      replace h := h.2
      refine Y_iaload (k := x3.toNatClampNeg) (v := (A 77 x3.toNatClampNeg)) i_265_35 (k_77 hG) (l_77 hG) o4 rfl rfl ?_
      refine Y_al0 i_265_36 ?_
      refine Y_gR i_265_37 ow_265 lf_10_73 (k_68 hG) (r_68_24 hG) ?_
      refine Y_il3 i_265_40 ?_
      have o5 := h.1
      replace h := h.2
      refine Y_iaload (k := x3.toNatClampNeg) (v := (A 82 x3.toNatClampNeg)) i_265_41 (k_82 hG) (l_82 hG) o5 rfl rfl ?_
      refine Y_isub i_265_42 ?_
      refine Y_il2 i_265_43 ?_
      refine Y_cgt i_265_44 (fun e6 => ?_) (fun e6 => ?_)
      · replace h := h.1 e6
        refine Y_il3 i_265_50 ?_
        refine Y_is1 i_265_51 rfl ?_
        refine Y_al0 i_265_52 ?_
        refine Y_gR i_265_53 ow_265 lf_10_55 (k_68 hG) (r_68_9 hG) ?_
        refine Y_il3 i_265_56 ?_
        refine Y_iaload (k := x3.toNatClampNeg) (v := (A 77 x3.toNatClampNeg)) i_265_57 (k_77 hG) (l_77 hG) o4 rfl rfl ?_
        refine Y_al0 i_265_58 ?_
        refine Y_gR i_265_59 ow_265 lf_10_73 (k_68 hG) (r_68_24 hG) ?_
        refine Y_il3 i_265_62 ?_
        refine Y_iaload (k := x3.toNatClampNeg) (v := (A 82 x3.toNatClampNeg)) i_265_63 (k_82 hG) (l_82 hG) o5 rfl rfl ?_
        refine Y_isub i_265_64 ?_
        refine Y_is2 i_265_65 rfl ?_
        refine Y_ii3 (v := 1) i_265_66 (by decide) rfl ?_
        refine Y_goto i_265_69 ?_
        exact h
      · replace h := h.2 e6
        refine Y_goto i_265_47 ?_
        refine Y_ii3 (v := 1) i_265_66 (by decide) rfl ?_
        refine Y_goto i_265_69 ?_
        exact h
  · replace h := h.2 e1
    refine Y_il1 i_265_72 ?_
    exact Y_iret i_265_73 rt_265 h
/- 266 Model.takeOffAll(I)V -/
theorem t_266_0 {d : Nat} {F A : Nat → Nat → Int32} {J : Nat → Nat → Int64} {G : pG} {Q : pR → pM → Prop} {SL p q : Nat} {x1 : Int32} (hG : Geo G SL p q) (h : X (d + 2) 266 2 [.ref 68, .int x1, .int 0] [] (F, A, J, G) Q) : X (d + 2) 266 0 [.ref 68, .int x1, .null] [] (F, A, J, G) Q := by
  refine Y_iconst (v := 0) i_266_0 (by decide) ?_
  refine Y_is2 i_266_1 rfl ?_
  exact h
theorem t_266_2 {d : Nat} {F A : Nat → Nat → Int32} {J : Nat → Nat → Int64} {G : pG} {Q : pR → pM → Prop} {SL p q : Nat} {x1 x2 : Int32} (hG : Geo G SL p q) (h : ((x2 < (A 72 0) → (((isO x1 x2) = true → X (d + 1) 230 0 [.ref 68, .int x2, .null, .null] [] (F, A, J, G) (KK (d + 2) 266 25 [.ref 68, .int x1, .int x2] [] Q)) ∧ ((isO x1 x2) = false → X (d + 2) 266 2 [.ref 68, .int x1, .int (x2 + 1)] [] (F, A, J, G) Q))) ∧ (¬ x2 < (A 72 0) → Q (.inl none) (F, A, J, G)))) : X (d + 2) 266 2 [.ref 68, .int x1, .int x2] [] (F, A, J, G) Q := by
  refine Y_il2 i_266_2 ?_
  refine Y_al0 i_266_3 ?_
  refine Y_gR i_266_4 ow_266 lf_10_42 (k_68 hG) (r_68_4 hG) ?_
  refine Y_iconst (v := 0) i_266_7 (by decide) ?_
  refine Y_iaload (k := 0) (v := (A 72 0)) i_266_8 (k_72 hG) (l_72 hG) (by decide) (by decide) rfl ?_
  refine Y_cge i_266_9 (fun e1 => ?_) (fun e1 => ?_)
  · replace h := h.1 e1
    refine Y_il1 i_266_12 ?_
    refine Y_il2 i_266_13 ?_
    refine Y_is_2 (L0 := [.int x1, .int x2]) i_266_14 ow_266 lm_10_395 rfl mx_179 rfl rfl hd_266 ?_
    refine c_179 hG (KKi ?_)
    refine Y_beq i_266_17 (fun e2 => ?_) (fun e2 => ?_)
    · replace h := h.1 e2
      refine Y_al0 i_266_20 ?_
      refine Y_il2 i_266_21 ?_
      exact Y_iv1 (L0 := [.ref 68, .int x2, .null, .null]) i_266_22 ow_266 lm_10_357 ((k_68 hG).trans ow_230.symm) rfl mx_230 rfl rfl hd_266 h
    · replace h := h.2 e2
      refine Y_ii2 (v := 1) i_266_25 (by decide) rfl ?_
      refine Y_goto i_266_28 ?_
      exact h
  · replace h := h.2 e1
    exact Y_vret i_266_31 rt_266 h
theorem k_266_25 {d : Nat} {F A : Nat → Nat → Int32} {J : Nat → Nat → Int64} {G : pG} {Q : pR → pM → Prop} {SL p q : Nat} {x1 x2 : Int32} (hG : Geo G SL p q) (h : X (d + 2) 266 2 [.ref 68, .int x1, .int (x2 + 1)] [] (F, A, J, G) Q) : KK (d + 2) 266 25 [.ref 68, .int x1, .int x2] [] Q (.inl none) (F, A, J, G) := by
  refine KKv ?_
  refine Y_ii2 (v := 1) i_266_25 (by decide) rfl ?_
  refine Y_goto i_266_28 ?_
  exact h
/- 267 Model.out(I)I -/
theorem t_267_0 {d : Nat} {F A : Nat → Nat → Int32} {J : Nat → Nat → Int64} {G : pG} {Q : pR → pM → Prop} {SL p q : Nat} {x1 : Int32} (hG : Geo G SL p q) (h : hB (A 72 0) = true ∧ (((inR x1 (A 72 0)) = true → hB ((wF F 68 3 0) 68 28) = true ∧ (((lvI (A 81) ((wF F 68 3 0) 68 28) x1) = (-1) → Q (.inl (some (.int 0))) ((wF (wF F 68 3 0) 68 3 1), A, J, G)) ∧ (¬ (lvI (A 81) ((wF F 68 3 0) 68 28) x1) = (-1) → X (d + 5) 207 0 [.ref 68, .ref 88, .int 0, .null] [] ((wF F 68 3 0), A, J, G) (KK (d + 6) 267 50 [.ref 68, .int x1, .int ((bitsI (A 81) ((wF F 68 3 0) 68 28)) &&& (((1 : Int32) <<< (x1 &&& 31)) ^^^ (-1))), .int ((bitsI (A 81) ((wF F 68 3 0) 68 28)) &&& (((1 : Int32) <<< (x1 &&& 31)) ^^^ (-1))), .null] [] Q)))) ∧ ((inR x1 (A 72 0)) = false → Q (.inl (some (.int 0))) ((wF (wF F 68 3 0) 68 3 1), A, J, G)))) : X (d + 6) 267 0 [.ref 68, .int x1, .null, .null, .null] [] (F, A, J, G) Q := by
  refine Y_al0 i_267_0 ?_
  refine Y_iconst (v := 0) i_267_1 (by decide) ?_
  refine Y_pI i_267_2 ow_267 lf_10_143 (k_68 hG) ?_
  refine Y_al0 i_267_5 ?_
  refine Y_il1 i_267_6 ?_
  have o1 := h.1
  replace h := h.2
  refine Y_iv1 (L0 := [.ref 68, .int x1]) i_267_7 ow_267 lm_10_333 ((k_68 hG).trans ow_180.symm) rfl mx_180 rfl rfl hd_267 ?_
  refine c_180 hG o1 (KKi ?_)
  refine Y_beq i_267_10 (fun e2 => ?_) (fun e2 => ?_)
  · replace h := h.1 e2
    refine Y_al0 i_267_13 ?_
    refine Y_il1 i_267_14 ?_
    have o3 := h.1
    replace h := h.2
    refine Y_iv1 (L0 := [.ref 68, .int x1, .null]) i_267_15 ow_267 lm_10_336 ((k_68 hG).trans ow_209.symm) rfl mx_209 rfl rfl hd_267 ?_
    refine c_209 hG o3 (KKi ?_)
    refine Y_iconst (v := (-1)) i_267_18 (by decide) ?_
    refine Y_cne i_267_19 (fun e4 => ?_) (fun e4 => ?_)
    · replace h := h.1 e4
      refine Y_al0 i_267_22 ?_
      refine Y_iconst (v := 1) i_267_23 (by decide) ?_
      refine Y_iv1 (L0 := [.ref 68, .int 1]) i_267_24 ow_267 lm_10_269 ((k_68 hG).trans ow_176.symm) rfl mx_176 rfl rfl hd_267 ?_
      refine Y_al0 i_176_0 ?_
      refine Y_il1 i_176_1 ?_
      refine Y_pI i_176_2 ow_176 lf_10_143 (k_68 hG) ?_
      refine Y_iconst (v := 0) i_176_5 (by decide) ?_
      refine Y_iret i_176_6 rt_176 (KKi ?_)
      exact Y_iret i_267_27 rt_267 h
    · replace h := h.2 e4
      refine Y_al0 i_267_28 ?_
      refine Y_iv0 (L0 := [.ref 68, .null, .null]) i_267_29 ow_267 lm_10_339 ((k_68 hG).trans ow_221.symm) rfl mx_221 rfl rfl hd_267 ?_
      refine c_221 hG o3 (KKi ?_)
      refine Y_iconst (v := 1) i_267_32 (by decide) ?_
      refine Y_il1 i_267_33 ?_
      refine Y_ishl i_267_34 ?_
      refine Y_iconst (v := (-1)) i_267_35 (by decide) ?_
      refine Y_ixor i_267_36 ?_
      refine Y_iand i_267_37 ?_
      refine Y_is2 i_267_38 rfl ?_
      refine Y_il2 i_267_39 ?_
      refine Y_is3 i_267_40 rfl ?_
      refine Y_al0 i_267_41 ?_
      refine Y_al0 i_267_42 ?_
      refine Y_gR i_267_43 ow_267 lf_10_94 (k_68 hG) (r_68_35 hG) ?_
      refine Y_iconst (v := 0) i_267_46 (by decide) ?_
      exact Y_iv2 (L0 := [.ref 68, .ref 88, .int 0, .null]) i_267_47 ow_267 lm_10_347 ((k_68 hG).trans ow_207.symm) rfl mx_207 rfl rfl hd_267 h
  · replace h := h.2 e2
    refine Y_al0 i_267_22 ?_
    refine Y_iconst (v := 1) i_267_23 (by decide) ?_
    refine Y_iv1 (L0 := [.ref 68, .int 1]) i_267_24 ow_267 lm_10_269 ((k_68 hG).trans ow_176.symm) rfl mx_176 rfl rfl hd_267 ?_
    refine Y_al0 i_176_0 ?_
    refine Y_il1 i_176_1 ?_
    refine Y_pI i_176_2 ow_176 lf_10_143 (k_68 hG) ?_
    refine Y_iconst (v := 0) i_176_5 (by decide) ?_
    refine Y_iret i_176_6 rt_176 (KKi ?_)
    exact Y_iret i_267_27 rt_267 h
theorem k_267_50 {d : Nat} {F A : Nat → Nat → Int32} {J : Nat → Nat → Int64} {G : pG} {Q : pR → pM → Prop} {SL p q : Nat} {x1 x2 x3 : Int32} (hG : Geo G SL p q) (h : X (d + 6) 267 53 [.ref 68, .int x1, .int x2, .int x3, .int 0] [] (F, A, J, G) Q) : KK (d + 6) 267 50 [.ref 68, .int x1, .int x2, .int x3, .null] [] Q (.inl none) (F, A, J, G) := by
  refine KKv ?_
  refine Y_iconst (v := 0) i_267_50 (by decide) ?_
  refine Y_is4 i_267_51 rfl ?_
  exact h
theorem t_267_53 {d : Nat} {F A : Nat → Nat → Int32} {J : Nat → Nat → Int64} {G : pG} {Q : pR → pM → Prop} {SL p q : Nat} {x1 x2 x3 x4 : Int32} (hG : Geo G SL p q) (h : ((x4 < ((1 : Int32) <<< ((A 72 0) &&& 31)) → (((x4 &&& (x2 ^^^ (-1))) = 0 → inB x4 1024 = true ∧ inB x3 1024 = true ∧ (((nI (pcn x4.toNatClampNeg)) < (nI (pcn x3.toNatClampNeg)) → X (d + 5) 266 0 [.ref 68, .int (x4 ||| ((1 : Int32) <<< (x1 &&& 31))), .null] [] (F, A, J, G) (KK (d + 6) 267 118 [.ref 68, .int x1, .int x2, .int x3, .int x4] [] Q)) ∧ (¬ (nI (pcn x4.toNatClampNeg)) < (nI (pcn x3.toNatClampNeg)) → (((nI (pcn x3.toNatClampNeg)) < (nI (pcn x4.toNatClampNeg)) → X (d + 6) 267 53 [.ref 68, .int x1, .int x2, .int x3, .int (x4 + 1)] [] (F, A, J, G) Q) ∧ (¬ (nI (pcn x3.toNatClampNeg)) < (nI (pcn x4.toNatClampNeg)) → ((x4 < x3 → X (d + 5) 266 0 [.ref 68, .int (x4 ||| ((1 : Int32) <<< (x1 &&& 31))), .null] [] (F, A, J, G) (KK (d + 6) 267 118 [.ref 68, .int x1, .int x2, .int x3, .int x4] [] Q)) ∧ (¬ x4 < x3 → X (d + 6) 267 53 [.ref 68, .int x1, .int x2, .int x3, .int (x4 + 1)] [] (F, A, J, G) Q))))))) ∧ (¬ (x4 &&& (x2 ^^^ (-1))) = 0 → X (d + 6) 267 53 [.ref 68, .int x1, .int x2, .int x3, .int (x4 + 1)] [] (F, A, J, G) Q))) ∧ (¬ x4 < ((1 : Int32) <<< ((A 72 0) &&& 31)) → Q (.inl (some (.int x3))) (F, A, J, G)))) : X (d + 6) 267 53 [.ref 68, .int x1, .int x2, .int x3, .int x4] [] (F, A, J, G) Q := by
  refine Y_il4 i_267_53 ?_
  refine Y_iconst (v := 1) i_267_55 (by decide) ?_
  refine Y_al0 i_267_56 ?_
  refine Y_gR i_267_57 ow_267 lf_10_42 (k_68 hG) (r_68_4 hG) ?_
  refine Y_iconst (v := 0) i_267_60 (by decide) ?_
  refine Y_iaload (k := 0) (v := (A 72 0)) i_267_61 (k_72 hG) (l_72 hG) (by decide) (by decide) rfl ?_
  refine Y_ishl i_267_62 ?_
  refine Y_cge i_267_63 (fun e1 => ?_) (fun e1 => ?_)
  · replace h := h.1 e1
    refine Y_il4 i_267_66 ?_
    refine Y_il2 i_267_68 ?_
    refine Y_iconst (v := (-1)) i_267_69 (by decide) ?_
    refine Y_ixor i_267_70 ?_
    refine Y_iand i_267_71 ?_
    refine Y_zne i_267_72 (fun e2 => ?_) (fun e2 => ?_)
    · replace h := h.1 e2
      refine Y_il4 i_267_75 ?_
      have o3 := h.1
      replace h := h.2
      refine Y_is_1 (L0 := [.int x4, .null, .null]) i_267_77 ow_267 lm_10_399 rfl mx_245 rfl rfl hd_267 ?_
      refine c_245 hG o3 (KKi ?_)
      refine Y_il3 i_267_80 ?_
      have o4 := h.1
      replace h := h.2
      refine Y_is_1 (L0 := [.int x3, .null, .null]) i_267_81 ow_267 lm_10_399 rfl mx_245 rfl rfl hd_267 ?_
      refine c_245 hG o4 (KKi ?_)
      refine Y_clt i_267_84 (fun e5 => ?_) (fun e5 => ?_)
      · replace h := h.1 e5
        refine Y_al0 i_267_108 ?_
        refine Y_il4 i_267_109 ?_
        refine Y_iconst (v := 1) i_267_111 (by decide) ?_
        refine Y_il1 i_267_112 ?_
        refine Y_ishl i_267_113 ?_
        refine Y_ior i_267_114 ?_
        exact Y_iv1 (L0 := [.ref 68, .int (x4 ||| ((1 : Int32) <<< (x1 &&& 31))), .null]) i_267_115 ow_267 lm_10_437 ((k_68 hG).trans ow_266.symm) rfl mx_266 rfl rfl hd_267 h
      · replace h := h.2 e5
        refine Y_il4 i_267_87 ?_
        refine Y_is_1 (L0 := [.int x4, .null, .null]) i_267_89 ow_267 lm_10_399 rfl mx_245 rfl rfl hd_267 ?_
        refine c_245 hG o3 (KKi ?_)
        refine Y_il3 i_267_92 ?_
        refine Y_is_1 (L0 := [.int x3, .null, .null]) i_267_93 ow_267 lm_10_399 rfl mx_245 rfl rfl hd_267 ?_
        refine c_245 hG o4 (KKi ?_)
        refine Y_cgt i_267_96 (fun e6 => ?_) (fun e6 => ?_)
        · replace h := h.1 e6
          refine Y_ii4 (v := 1) i_267_137 (by decide) rfl ?_
          refine Y_goto i_267_140 ?_
          exact h
        · replace h := h.2 e6
          refine Y_il4 i_267_99 ?_
          refine Y_il3 i_267_101 ?_
          refine Y_clt i_267_102 (fun e7 => ?_) (fun e7 => ?_)
          · replace h := h.1 e7
            refine Y_al0 i_267_108 ?_
            refine Y_il4 i_267_109 ?_
            refine Y_iconst (v := 1) i_267_111 (by decide) ?_
            refine Y_il1 i_267_112 ?_
            refine Y_ishl i_267_113 ?_
            refine Y_ior i_267_114 ?_
            exact Y_iv1 (L0 := [.ref 68, .int (x4 ||| ((1 : Int32) <<< (x1 &&& 31))), .null]) i_267_115 ow_267 lm_10_437 ((k_68 hG).trans ow_266.symm) rfl mx_266 rfl rfl hd_267 h
          · replace h := h.2 e7
            refine Y_goto i_267_105 ?_
            refine Y_ii4 (v := 1) i_267_137 (by decide) rfl ?_
            refine Y_goto i_267_140 ?_
            exact h
    · replace h := h.2 e2
      refine Y_ii4 (v := 1) i_267_137 (by decide) rfl ?_
      refine Y_goto i_267_140 ?_
      exact h
  · replace h := h.2 e1
    refine Y_il3 i_267_143 ?_
    exact Y_iret i_267_144 rt_267 h
theorem k_267_118 {d : Nat} {F A : Nat → Nat → Int32} {J : Nat → Nat → Int64} {G : pG} {Q : pR → pM → Prop} {SL p q : Nat} {x1 x2 x3 x4 : Int32} (hG : Geo G SL p q) (h : X (d + 5) 218 0 [.ref 68] [] (F, A, J, G) (KK (d + 6) 267 122 [.ref 68, .int x1, .int x2, .int x3, .int x4] [] Q)) : KK (d + 6) 267 118 [.ref 68, .int x1, .int x2, .int x3, .int x4] [] Q (.inl none) (F, A, J, G) := by
  refine KKv ?_
  refine Y_al0 i_267_118 ?_
  exact Y_iv0 (L0 := [.ref 68]) i_267_119 ow_267 lm_10_326 ((k_68 hG).trans ow_218.symm) rfl mx_218 rfl rfl hd_267 h
theorem k_267_122 {d : Nat} {F A : Nat → Nat → Int32} {J : Nat → Nat → Int64} {G : pG} {Q : pR → pM → Prop} {SL p q : Nat} {x1 x2 x3 x4 r r : Int32} (hG : Geo G SL p q) (h : ((r = 0 → X (d + 5) 208 0 [.ref 68, .ref 88, .int 0, .null] [] (F, A, J, G) (KK (d + 6) 267 137 [.ref 68, .int x1, .int x2, .int x3, .int x4] [] Q)) ∧ (¬ r = 0 → X (d + 5) 208 0 [.ref 68, .ref 88, .int 0, .null] [] (F, A, J, G) (KK (d + 6) 267 137 [.ref 68, .int x1, .int x2, .int x4, .int x4] [] Q)))) : KK (d + 6) 267 122 [.ref 68, .int x1, .int x2, .int x3, .int x4] [] Q (.inl (some (.int r))) (F, A, J, G) := by
  refine KKi ?_
  refine Y_zeq i_267_122 (fun e1 => ?_) (fun e1 => ?_)
  · replace h := h.1 e1
    refine Y_al0 i_267_128 ?_
    refine Y_al0 i_267_129 ?_
    refine Y_gR i_267_130 ow_267 lf_10_94 (k_68 hG) (r_68_35 hG) ?_
    refine Y_iconst (v := 0) i_267_133 (by decide) ?_
    exact Y_iv2 (L0 := [.ref 68, .ref 88, .int 0, .null]) i_267_134 ow_267 lm_10_386 ((k_68 hG).trans ow_208.symm) rfl mx_208 rfl rfl hd_267 h
  · replace h := h.2 e1
    refine Y_il4 i_267_125 ?_
    refine Y_is3 i_267_127 rfl ?_
    refine Y_al0 i_267_128 ?_
    refine Y_al0 i_267_129 ?_
    refine Y_gR i_267_130 ow_267 lf_10_94 (k_68 hG) (r_68_35 hG) ?_
    refine Y_iconst (v := 0) i_267_133 (by decide) ?_
    exact Y_iv2 (L0 := [.ref 68, .ref 88, .int 0, .null]) i_267_134 ow_267 lm_10_386 ((k_68 hG).trans ow_208.symm) rfl mx_208 rfl rfl hd_267 h
theorem k_267_137 {d : Nat} {F A : Nat → Nat → Int32} {J : Nat → Nat → Int64} {G : pG} {Q : pR → pM → Prop} {SL p q : Nat} {x1 x2 x3 x4 : Int32} (hG : Geo G SL p q) (h : X (d + 6) 267 53 [.ref 68, .int x1, .int x2, .int x3, .int (x4 + 1)] [] (F, A, J, G) Q) : KK (d + 6) 267 137 [.ref 68, .int x1, .int x2, .int x3, .int x4] [] Q (.inl none) (F, A, J, G) := by
  refine KKv ?_
  refine Y_ii4 (v := 1) i_267_137 (by decide) rfl ?_
  refine Y_goto i_267_140 ?_
  exact h
/- 268 Model.relief()I -/
theorem t_268_0 {d : Nat} {F A : Nat → Nat → Int32} {J : Nat → Nat → Int64} {G : pG} {Q : pR → pM → Prop} {SL p q : Nat} (hG : Geo G SL p q) (h : X (d + 6) 207 0 [.ref 68, .ref 88, .int 0, .null] [] ((wF F 68 3 0), A, J, G) (KK (d + 7) 268 18 [.ref 68, .int (-1), .int (-1), .null, .null] [] Q)) : X (d + 7) 268 0 [.ref 68, .null, .null, .null, .null] [] (F, A, J, G) Q := by
  refine Y_al0 i_268_0 ?_
  refine Y_iconst (v := 0) i_268_1 (by decide) ?_
  refine Y_pI i_268_2 ow_268 lf_10_143 (k_68 hG) ?_
  refine Y_iconst (v := (-1)) i_268_5 (by decide) ?_
  refine Y_is1 i_268_6 rfl ?_
  refine Y_iconst (v := (-1)) i_268_7 (by decide) ?_
  refine Y_is2 i_268_8 rfl ?_
  refine Y_al0 i_268_9 ?_
  refine Y_al0 i_268_10 ?_
  refine Y_gR i_268_11 ow_268 lf_10_94 (k_68 hG) (r_68_35 hG) ?_
  refine Y_iconst (v := 0) i_268_14 (by decide) ?_
  exact Y_iv2 (L0 := [.ref 68, .ref 88, .int 0, .null]) i_268_15 ow_268 lm_10_347 ((k_68 hG).trans ow_207.symm) rfl mx_207 rfl rfl hd_268 h
theorem k_268_18 {d : Nat} {F A : Nat → Nat → Int32} {J : Nat → Nat → Int64} {G : pG} {Q : pR → pM → Prop} {SL p q : Nat} {x1 x2 : Int32} (hG : Geo G SL p q) (h : X (d + 7) 268 20 [.ref 68, .int x1, .int x2, .int 0, .null] [] (F, A, J, G) Q) : KK (d + 7) 268 18 [.ref 68, .int x1, .int x2, .null, .null] [] Q (.inl none) (F, A, J, G) := by
  refine KKv ?_
  refine Y_iconst (v := 0) i_268_18 (by decide) ?_
  refine Y_is3 i_268_19 rfl ?_
  exact h
theorem t_268_20 {d : Nat} {F A : Nat → Nat → Int32} {J : Nat → Nat → Int64} {G : pG} {Q : pR → pM → Prop} {SL p q : Nat} {x1 x2 x3 : Int32} {v4 : Value} (hG : Geo G SL p q) (h : ((x3 < (A 72 0) → hB (F 68 28) = true ∧ (((lvI (A 81) (F 68 28) x3) = (-1) → X (d + 7) 268 20 [.ref 68, .int x1, .int x2, .int (x3 + 1), v4] [] (F, A, J, G) Q) ∧ (¬ (lvI (A 81) (F 68 28) x3) = (-1) → X (d + 6) 230 0 [.ref 68, .int x3, .null, .null] [] (F, A, J, G) (KK (d + 7) 268 47 [.ref 68, .int x1, .int x2, .int x3, v4] [] Q)))) ∧ (¬ x3 < (A 72 0) → Q (.inl (some (.int x1))) (F, A, J, G)))) : X (d + 7) 268 20 [.ref 68, .int x1, .int x2, .int x3, v4] [] (F, A, J, G) Q := by
  refine Y_il3 i_268_20 ?_
  refine Y_al0 i_268_21 ?_
  refine Y_gR i_268_22 ow_268 lf_10_42 (k_68 hG) (r_68_4 hG) ?_
  refine Y_iconst (v := 0) i_268_25 (by decide) ?_
  refine Y_iaload (k := 0) (v := (A 72 0)) i_268_26 (k_72 hG) (l_72 hG) (by decide) (by decide) rfl ?_
  refine Y_cge i_268_27 (fun e1 => ?_) (fun e1 => ?_)
  · replace h := h.1 e1
    refine Y_al0 i_268_30 ?_
    refine Y_il3 i_268_31 ?_
    have o2 := h.1
    replace h := h.2
    refine Y_iv1 (L0 := [.ref 68, .int x3, .null]) i_268_32 ow_268 lm_10_336 ((k_68 hG).trans ow_209.symm) rfl mx_209 rfl rfl hd_268 ?_
    refine c_209 hG o2 (KKi ?_)
    refine Y_iconst (v := (-1)) i_268_35 (by decide) ?_
    refine Y_cne i_268_36 (fun e3 => ?_) (fun e3 => ?_)
    · replace h := h.1 e3
      refine Y_goto i_268_39 ?_
      refine Y_ii3 (v := 1) i_268_76 (by decide) rfl ?_
      refine Y_goto i_268_79 ?_
      exact h
    · replace h := h.2 e3
      refine Y_al0 i_268_42 ?_
      refine Y_il3 i_268_43 ?_
      exact Y_iv1 (L0 := [.ref 68, .int x3, .null, .null]) i_268_44 ow_268 lm_10_357 ((k_68 hG).trans ow_230.symm) rfl mx_230 rfl rfl hd_268 h
  · replace h := h.2 e1
    refine Y_il1 i_268_82 ?_
    exact Y_iret i_268_83 rt_268 h
theorem k_268_47 {d : Nat} {F A : Nat → Nat → Int32} {J : Nat → Nat → Int64} {G : pG} {Q : pR → pM → Prop} {SL p q : Nat} {x1 x2 x3 : Int32} {v4 : Value} (hG : Geo G SL p q) (h : X (d + 6) 219 0 [.ref 68, .null, .null] [] (F, A, J, G) (KK (d + 7) 268 51 [.ref 68, .int x1, .int x2, .int x3, v4] [] Q)) : KK (d + 7) 268 47 [.ref 68, .int x1, .int x2, .int x3, v4] [] Q (.inl none) (F, A, J, G) := by
  refine KKv ?_
  refine Y_al0 i_268_47 ?_
  exact Y_iv0 (L0 := [.ref 68, .null, .null]) i_268_48 ow_268 lm_10_389 ((k_68 hG).trans ow_219.symm) rfl mx_219 rfl rfl hd_268 h
theorem k_268_51 {d : Nat} {F A : Nat → Nat → Int32} {J : Nat → Nat → Int64} {G : pG} {Q : pR → pM → Prop} {SL p q : Nat} {x1 x2 x3 r r : Int32} {v4 : Value} (hG : Geo G SL p q) (h : X (d + 6) 208 0 [.ref 68, .ref 88, .int 0, .null] [] (F, A, J, G) (KK (d + 7) 268 62 [.ref 68, .int x1, .int x2, .int x3, .int r] [] Q)) : KK (d + 7) 268 51 [.ref 68, .int x1, .int x2, .int x3, v4] [] Q (.inl (some (.int r))) (F, A, J, G) := by
  refine KKi ?_
  refine Y_is4 i_268_51 rfl ?_
  refine Y_al0 i_268_53 ?_
  refine Y_al0 i_268_54 ?_
  refine Y_gR i_268_55 ow_268 lf_10_94 (k_68 hG) (r_68_35 hG) ?_
  refine Y_iconst (v := 0) i_268_58 (by decide) ?_
  exact Y_iv2 (L0 := [.ref 68, .ref 88, .int 0, .null]) i_268_59 ow_268 lm_10_386 ((k_68 hG).trans ow_208.symm) rfl mx_208 rfl rfl hd_268 h
theorem k_268_62 {d : Nat} {F A : Nat → Nat → Int32} {J : Nat → Nat → Int64} {G : pG} {Q : pR → pM → Prop} {SL p q : Nat} {x1 x2 x3 x4 : Int32} (hG : Geo G SL p q) (h : ((x2 < x4 → X (d + 7) 268 20 [.ref 68, .int x3, .int x4, .int (x3 + 1), .int x4] [] (F, A, J, G) Q) ∧ (¬ x2 < x4 → X (d + 7) 268 20 [.ref 68, .int x1, .int x2, .int (x3 + 1), .int x4] [] (F, A, J, G) Q))) : KK (d + 7) 268 62 [.ref 68, .int x1, .int x2, .int x3, .int x4] [] Q (.inl none) (F, A, J, G) := by
  refine KKv ?_
  refine Y_il4 i_268_62 ?_
  refine Y_il2 i_268_64 ?_
  refine Y_cgt i_268_65 (fun e1 => ?_) (fun e1 => ?_)
  · replace h := h.1 e1
    refine Y_il3 i_268_71 ?_
    refine Y_is1 i_268_72 rfl ?_
    refine Y_il4 i_268_73 ?_
    refine Y_is2 i_268_75 rfl ?_
    refine Y_ii3 (v := 1) i_268_76 (by decide) rfl ?_
    refine Y_goto i_268_79 ?_
    exact h
  · replace h := h.2 e1
    refine Y_goto i_268_68 ?_
    refine Y_ii3 (v := 1) i_268_76 (by decide) rfl ?_
    refine Y_goto i_268_79 ?_
    exact h
/- 269 Model.oneWedge()I -/
theorem t_269_0 {d : Nat} {F A : Nat → Nat → Int32} {J : Nat → Nat → Int64} {G : pG} {Q : pR → pM → Prop} {SL p q : Nat} (hG : Geo G SL p q) (h : X (d + 5) 218 0 [.ref 68] [] ((wF F 68 3 0), A, J, G) (KK (d + 6) 269 9 [.ref 68, .null, .null, .null, .null, .null] [] Q)) : X (d + 6) 269 0 [.ref 68, .null, .null, .null, .null, .null] [] (F, A, J, G) Q := by
  refine Y_al0 i_269_0 ?_
  refine Y_iconst (v := 0) i_269_1 (by decide) ?_
  refine Y_pI i_269_2 ow_269 lf_10_143 (k_68 hG) ?_
  refine Y_al0 i_269_5 ?_
  exact Y_iv0 (L0 := [.ref 68]) i_269_6 ow_269 lm_10_326 ((k_68 hG).trans ow_218.symm) rfl mx_218 rfl rfl hd_269 h
theorem k_269_9 {d : Nat} {F A : Nat → Nat → Int32} {J : Nat → Nat → Int64} {G : pG} {Q : pR → pM → Prop} {SL p q : Nat} {r r : Int32} (hG : Geo G SL p q) (h : ((r = 0 → X (d + 6) 269 18 [.ref 68, .int (-1), .int 0, .null, .null, .null] [] (F, A, J, G) Q) ∧ (¬ r = 0 → Q (.inl (some (.int (-1)))) (F, A, J, G)))) : KK (d + 6) 269 9 [.ref 68, .null, .null, .null, .null, .null] [] Q (.inl (some (.int r))) (F, A, J, G) := by
  refine KKi ?_
  refine Y_zeq i_269_9 (fun e1 => ?_) (fun e1 => ?_)
  · replace h := h.1 e1
    refine Y_iconst (v := (-1)) i_269_14 (by decide) ?_
    refine Y_is1 i_269_15 rfl ?_
    refine Y_iconst (v := 0) i_269_16 (by decide) ?_
    refine Y_is2 i_269_17 rfl ?_
    exact h
  · replace h := h.2 e1
    refine Y_iconst (v := (-1)) i_269_12 (by decide) ?_
    exact Y_iret i_269_13 rt_269 h
theorem t_269_18 {d : Nat} {F A : Nat → Nat → Int32} {J : Nat → Nat → Int64} {G : pG} {Q : pR → pM → Prop} {SL p q : Nat} {x1 x2 : Int32} {v3 v4 v5 : Value} (hG : Geo G SL p q) (h : ((x2 < (F 68 28) → ((x1 = (-1) → inB x2 10 = true ∧ inB (A 81 x2.toNatClampNeg) 10 = true ∧ (X (d + 6) 269 50 [.ref 68, .int x1, .int x2, .int (A 81 x2.toNatClampNeg), .int (A 83 (A 81 x2.toNatClampNeg).toNatClampNeg), .int (-9)] [] (F, A, J, G) Q)) ∧ (¬ x1 = (-1) → Q (.inl (some (.int x1))) (F, A, J, G)))) ∧ (¬ x2 < (F 68 28) → Q (.inl (some (.int x1))) (F, A, J, G)))) : X (d + 6) 269 18 [.ref 68, .int x1, .int x2, v3, v4, v5] [] (F, A, J, G) Q := by
  refine Y_il2 i_269_18 ?_
  refine Y_al0 i_269_19 ?_
  refine Y_gI (v := (F 68 28)) i_269_20 ow_269 lf_10_150 (by decide) (k_68 hG) rfl ?_
  refine Y_cge i_269_23 (fun e1 => ?_) (fun e1 => ?_)
  · replace h := h.1 e1
    refine Y_il1 i_269_26 ?_
    refine Y_iconst (v := (-1)) i_269_27 (by decide) ?_
    refine Y_cne i_269_28 (fun e2 => ?_) (fun e2 => ?_)
    · replace h := h.1 e2
      refine Y_al0 i_269_31 ?_
      refine Y_gR i_269_32 ow_269 lf_10_70 (k_68 hG) (r_68_23 hG) ?_
      refine Y_il2 i_269_35 ?_
      have o3 := h.1
      replace h := h.2
      refine Y_iaload (k := x2.toNatClampNeg) (v := (A 81 x2.toNatClampNeg)) i_269_36 (k_81 hG) (l_81 hG) o3 rfl rfl ?_
      refine Y_is3 i_269_37 rfl ?_
      refine Y_al0 i_269_38 ?_
      refine Y_gR i_269_39 ow_269 lf_10_76 (k_68 hG) (r_68_25 hG) ?_
      refine Y_il3 i_269_42 ?_
      have o4 := h.1
      replace h := h.2
      refine Y_iaload (k := (A 81 x2.toNatClampNeg).toNatClampNeg) (v := (A 83 (A 81 x2.toNatClampNeg).toNatClampNeg)) i_269_43 (k_83 hG) (l_83 hG) o4 rfl rfl ?_
      refine Y_is4 i_269_44 rfl ?_
      refine Y_bipush (v := (-9)) i_269_46 (by decide) ?_
      refine Y_is5 i_269_48 rfl ?_
      exact h
    · replace h := h.2 e2
      refine Y_il1 i_269_115 ?_
      exact Y_iret i_269_116 rt_269 h
  · replace h := h.2 e1
    refine Y_il1 i_269_115 ?_
    exact Y_iret i_269_116 rt_269 h
theorem t_269_50 {d : Nat} {F A : Nat → Nat → Int32} {J : Nat → Nat → Int64} {G : pG} {Q : pR → pM → Prop} {SL p q : Nat} {x1 x2 x3 x4 x5 : Int32} (hG : Geo G SL p q) (h : ((9 < x5 → inB x3 10 = true ∧ (X (d + 6) 269 18 [.ref 68, .int x1, .int (x2 + 1), .int x3, .int x4, .int x5] [] (F, (wF A 83 x3.toNatClampNeg x4), J, G) Q)) ∧ (¬ 9 < x5 → ((x1 = (-1) → inB x3 10 = true ∧ ((x5 = x4 → X (d + 6) 269 50 [.ref 68, .int x1, .int x2, .int x3, .int x4, .int (x5 + 1)] [] (F, (wF A 83 x3.toNatClampNeg x5), J, G) Q) ∧ (¬ x5 = x4 → X (d + 5) 218 0 [.ref 68] [] (F, (wF A 83 x3.toNatClampNeg x5), J, G) (KK (d + 6) 269 81 [.ref 68, .int x1, .int x2, .int x3, .int x4, .int x5] [] Q)))) ∧ (¬ x1 = (-1) → inB x3 10 = true ∧ (X (d + 6) 269 18 [.ref 68, .int x1, .int (x2 + 1), .int x3, .int x4, .int x5] [] (F, (wF A 83 x3.toNatClampNeg x4), J, G) Q)))))) : X (d + 6) 269 50 [.ref 68, .int x1, .int x2, .int x3, .int x4, .int x5] [] (F, A, J, G) Q := by
  refine Y_il5 i_269_50 ?_
  refine Y_bipush (v := 9) i_269_52 (by decide) ?_
  refine Y_cgt i_269_54 (fun e1 => ?_) (fun e1 => ?_)
  · replace h := h.1 e1
    refine Y_al0 i_269_101 ?_
    refine Y_gR i_269_102 ow_269 lf_10_76 (k_68 hG) (r_68_25 hG) ?_
    refine Y_il3 i_269_105 ?_
    refine Y_il4 i_269_106 ?_
    have o2 := h.1
    replace h := h.2
    refine Y_iast i_269_108 (k_83 hG) (l_83 hG) o2 rfl ?_
    refine Y_ii2 (v := 1) i_269_109 (by decide) rfl ?_
    refine Y_goto i_269_112 ?_
    exact h
  · replace h := h.2 e1
    refine Y_il1 i_269_57 ?_
    refine Y_iconst (v := (-1)) i_269_58 (by decide) ?_
    refine Y_cne i_269_59 (fun e3 => ?_) (fun e3 => ?_)
    · replace h := h.1 e3
      refine Y_al0 i_269_62 ?_
      refine Y_gR i_269_63 ow_269 lf_10_76 (k_68 hG) (r_68_25 hG) ?_
      refine Y_il3 i_269_66 ?_
      refine Y_il5 i_269_67 ?_
      have o4 := h.1
      replace h := h.2
      refine Y_iast i_269_69 (k_83 hG) (l_83 hG) o4 rfl ?_
      refine Y_il5 i_269_70 ?_
      refine Y_il4 i_269_72 ?_
      refine Y_ceq i_269_74 (fun e5 => ?_) (fun e5 => ?_)
      · replace h := h.1 e5
        refine Y_ii5 (v := 1) i_269_95 (by decide) rfl ?_
        refine Y_goto i_269_98 ?_
        exact h
      · replace h := h.2 e5
        refine Y_al0 i_269_77 ?_
        exact Y_iv0 (L0 := [.ref 68]) i_269_78 ow_269 lm_10_326 ((k_68 hG).trans ow_218.symm) rfl mx_218 rfl rfl hd_269 h
    · replace h := h.2 e3
      refine Y_al0 i_269_101 ?_
      refine Y_gR i_269_102 ow_269 lf_10_76 (k_68 hG) (r_68_25 hG) ?_
      refine Y_il3 i_269_105 ?_
      refine Y_il4 i_269_106 ?_
      have o6 := h.1
      replace h := h.2
      refine Y_iast i_269_108 (k_83 hG) (l_83 hG) o6 rfl ?_
      refine Y_ii2 (v := 1) i_269_109 (by decide) rfl ?_
      refine Y_goto i_269_112 ?_
      exact h
theorem k_269_81 {d : Nat} {F A : Nat → Nat → Int32} {J : Nat → Nat → Int64} {G : pG} {Q : pR → pM → Prop} {SL p q : Nat} {x1 x2 x3 x4 x5 r r : Int32} (hG : Geo G SL p q) (h : ((r = 0 → X (d + 6) 269 50 [.ref 68, .int x1, .int x2, .int x3, .int x4, .int (x5 + 1)] [] (F, A, J, G) Q) ∧ (¬ r = 0 → X (d + 6) 269 50 [.ref 68, .int ((((100 : Int32) * x3) + x5) + 50), .int x2, .int x3, .int x4, .int (x5 + 1)] [] (F, A, J, G) Q))) : KK (d + 6) 269 81 [.ref 68, .int x1, .int x2, .int x3, .int x4, .int x5] [] Q (.inl (some (.int r))) (F, A, J, G) := by
  refine KKi ?_
  refine Y_zeq i_269_81 (fun e1 => ?_) (fun e1 => ?_)
  · replace h := h.1 e1
    refine Y_ii5 (v := 1) i_269_95 (by decide) rfl ?_
    refine Y_goto i_269_98 ?_
    exact h
  · replace h := h.2 e1
    refine Y_bipush (v := 100) i_269_84 (by decide) ?_
    refine Y_il3 i_269_86 ?_
    refine Y_imul i_269_87 ?_
    refine Y_il5 i_269_88 ?_
    refine Y_iadd i_269_90 ?_
    refine Y_bipush (v := 50) i_269_91 (by decide) ?_
    refine Y_iadd i_269_93 ?_
    refine Y_is1 i_269_94 rfl ?_
    refine Y_ii5 (v := 1) i_269_95 (by decide) rfl ?_
    refine Y_goto i_269_98 ?_
    exact h
/- 270 Model.swap()I -/
theorem t_270_0 {d : Nat} {F A : Nat → Nat → Int32} {J : Nat → Nat → Int64} {G : pG} {Q : pR → pM → Prop} {SL p q : Nat} (hG : Geo G SL p q) (h : X (d + 6) 219 0 [.ref 68, .null, .null] [] ((wF F 68 3 0), A, J, G) (KK (d + 7) 270 9 [.ref 68, .null, .null, .null, .null, .null] [] Q)) : X (d + 7) 270 0 [.ref 68, .null, .null, .null, .null, .null] [] (F, A, J, G) Q := by
  refine Y_al0 i_270_0 ?_
  refine Y_iconst (v := 0) i_270_1 (by decide) ?_
  refine Y_pI i_270_2 ow_270 lf_10_143 (k_68 hG) ?_
  refine Y_al0 i_270_5 ?_
  exact Y_iv0 (L0 := [.ref 68, .null, .null]) i_270_6 ow_270 lm_10_389 ((k_68 hG).trans ow_219.symm) rfl mx_219 rfl rfl hd_270 h
theorem k_270_9 {d : Nat} {F A : Nat → Nat → Int32} {J : Nat → Nat → Int64} {G : pG} {Q : pR → pM → Prop} {SL p q : Nat} {r r : Int32} (hG : Geo G SL p q) (h : X (d + 7) 270 14 [.ref 68, .int r, .int (-1), .int 0, .null, .null] [] (F, A, J, G) Q) : KK (d + 7) 270 9 [.ref 68, .null, .null, .null, .null, .null] [] Q (.inl (some (.int r))) (F, A, J, G) := by
  refine KKi ?_
  refine Y_is1 i_270_9 rfl ?_
  refine Y_iconst (v := (-1)) i_270_10 (by decide) ?_
  refine Y_is2 i_270_11 rfl ?_
  refine Y_iconst (v := 0) i_270_12 (by decide) ?_
  refine Y_is3 i_270_13 rfl ?_
  exact h
theorem t_270_14 {d : Nat} {F A : Nat → Nat → Int32} {J : Nat → Nat → Int64} {G : pG} {Q : pR → pM → Prop} {SL p q : Nat} {x1 x2 x3 : Int32} {v4 v5 : Value} (hG : Geo G SL p q) (h : ((x3 < (F 68 28) → X (d + 7) 270 27 [.ref 68, .int x1, .int x2, .int x3, .int (x3 + 1), v5] [] (F, A, J, G) Q) ∧ (¬ x3 < (F 68 28) → Q (.inl (some (.int x2))) (F, A, J, G)))) : X (d + 7) 270 14 [.ref 68, .int x1, .int x2, .int x3, v4, v5] [] (F, A, J, G) Q := by
  refine Y_il3 i_270_14 ?_
  refine Y_al0 i_270_15 ?_
  refine Y_gI (v := (F 68 28)) i_270_16 ow_270 lf_10_150 (by decide) (k_68 hG) rfl ?_
  refine Y_cge i_270_19 (fun e1 => ?_) (fun e1 => ?_)
  · replace h := h.1 e1
    refine Y_il3 i_270_22 ?_
    refine Y_iconst (v := 1) i_270_23 (by decide) ?_
    refine Y_iadd i_270_24 ?_
    refine Y_is4 i_270_25 rfl ?_
    exact h
  · replace h := h.2 e1
    refine Y_il2 i_270_88 ?_
    exact Y_iret i_270_89 rt_270 h
theorem t_270_27 {d : Nat} {F A : Nat → Nat → Int32} {J : Nat → Nat → Int64} {G : pG} {Q : pR → pM → Prop} {SL p q : Nat} {x1 x2 x3 x4 : Int32} {v5 : Value} (hG : Geo G SL p q) (h : ((x4 < (F 68 28) → inB x3 10 = true ∧ inB x4 10 = true ∧ (X (d + 6) 219 0 [.ref 68, .null, .null] [] (F, (wF (wF A 81 x3.toNatClampNeg (A 81 x4.toNatClampNeg)) 81 x4.toNatClampNeg (A 81 x3.toNatClampNeg)), J, G) (KK (d + 7) 270 47 [.ref 68, .int x1, .int x2, .int x3, .int x4, v5] [] Q))) ∧ (¬ x4 < (F 68 28) → X (d + 7) 270 14 [.ref 68, .int x1, .int x2, .int (x3 + 1), .int x4, v5] [] (F, A, J, G) Q))) : X (d + 7) 270 27 [.ref 68, .int x1, .int x2, .int x3, .int x4, v5] [] (F, A, J, G) Q := by
  refine Y_il4 i_270_27 ?_
  refine Y_al0 i_270_29 ?_
  refine Y_gI (v := (F 68 28)) i_270_30 ow_270 lf_10_150 (by decide) (k_68 hG) rfl ?_
  refine Y_cge i_270_33 (fun e1 => ?_) (fun e1 => ?_)
  · replace h := h.1 e1
    refine Y_al0 i_270_36 ?_
    refine Y_il3 i_270_37 ?_
    refine Y_il4 i_270_38 ?_
    refine Y_iv2 (L0 := [.ref 68, .int x3, .int x4, .null]) i_270_40 ow_270 lm_10_363 ((k_68 hG).trans ow_232.symm) rfl mx_232 rfl rfl hd_270 ?_
    refine Y_al0 i_232_0 ?_
    refine Y_gR i_232_1 ow_232 lf_10_70 (k_68 hG) (r_68_23 hG) ?_
    refine Y_il1 i_232_4 ?_
    have o2 := h.1
    replace h := h.2
    refine Y_iaload (k := x3.toNatClampNeg) (v := (A 81 x3.toNatClampNeg)) i_232_5 (k_81 hG) (l_81 hG) o2 rfl rfl ?_
    refine Y_is3 i_232_6 rfl ?_
    refine Y_al0 i_232_7 ?_
    refine Y_gR i_232_8 ow_232 lf_10_70 (k_68 hG) (r_68_23 hG) ?_
    refine Y_il1 i_232_11 ?_
    refine Y_al0 i_232_12 ?_
    refine Y_gR i_232_13 ow_232 lf_10_70 (k_68 hG) (r_68_23 hG) ?_
    refine Y_il2 i_232_16 ?_
    have o3 := h.1
    replace h := h.2
    refine Y_iaload (k := x4.toNatClampNeg) (v := (A 81 x4.toNatClampNeg)) i_232_17 (k_81 hG) (l_81 hG) o3 rfl rfl ?_
    refine Y_iast i_232_18 (k_81 hG) (l_81 hG) o2 rfl ?_
    refine Y_al0 i_232_19 ?_
    refine Y_gR i_232_20 ow_232 lf_10_70 (k_68 hG) (r_68_23 hG) ?_
    refine Y_il2 i_232_23 ?_
    refine Y_il3 i_232_24 ?_
    refine Y_iast i_232_25 (k_81 hG) (l_81 hG) o3 rfl ?_
    refine Y_vret i_232_26 rt_232 (KKv ?_)
    refine Y_al0 i_270_43 ?_
    exact Y_iv0 (L0 := [.ref 68, .null, .null]) i_270_44 ow_270 lm_10_389 ((k_68 hG).trans ow_219.symm) rfl mx_219 rfl rfl hd_270 h
  · replace h := h.2 e1
    refine Y_ii3 (v := 1) i_270_82 (by decide) rfl ?_
    refine Y_goto i_270_85 ?_
    exact h
theorem k_270_47 {d : Nat} {F A : Nat → Nat → Int32} {J : Nat → Nat → Int64} {G : pG} {Q : pR → pM → Prop} {SL p q : Nat} {x1 x2 x3 x4 r r : Int32} {v5 : Value} (hG : Geo G SL p q) (h : inB x3 10 = true ∧ inB x4 10 = true ∧ ((x1 < r → X (d + 7) 270 27 [.ref 68, .int r, .int (((10 : Int32) * x3) + x4), .int x3, .int (x4 + 1), .int r] [] (F, (wF (wF A 81 x3.toNatClampNeg (A 81 x4.toNatClampNeg)) 81 x4.toNatClampNeg (A 81 x3.toNatClampNeg)), J, G) Q) ∧ (¬ x1 < r → X (d + 7) 270 27 [.ref 68, .int x1, .int x2, .int x3, .int (x4 + 1), .int r] [] (F, (wF (wF A 81 x3.toNatClampNeg (A 81 x4.toNatClampNeg)) 81 x4.toNatClampNeg (A 81 x3.toNatClampNeg)), J, G) Q))) : KK (d + 7) 270 47 [.ref 68, .int x1, .int x2, .int x3, .int x4, v5] [] Q (.inl (some (.int r))) (F, A, J, G) := by
  refine KKi ?_
  refine Y_is5 i_270_47 rfl ?_
  refine Y_al0 i_270_49 ?_
  refine Y_il3 i_270_50 ?_
  refine Y_il4 i_270_51 ?_
  refine Y_iv2 (L0 := [.ref 68, .int x3, .int x4, .null]) i_270_53 ow_270 lm_10_363 ((k_68 hG).trans ow_232.symm) rfl mx_232 rfl rfl hd_270 ?_
  refine Y_al0 i_232_0 ?_
  refine Y_gR i_232_1 ow_232 lf_10_70 (k_68 hG) (r_68_23 hG) ?_
  refine Y_il1 i_232_4 ?_
  have o1 := h.1
  replace h := h.2
  refine Y_iaload (k := x3.toNatClampNeg) (v := (A 81 x3.toNatClampNeg)) i_232_5 (k_81 hG) (l_81 hG) o1 rfl rfl ?_
  refine Y_is3 i_232_6 rfl ?_
  refine Y_al0 i_232_7 ?_
  refine Y_gR i_232_8 ow_232 lf_10_70 (k_68 hG) (r_68_23 hG) ?_
  refine Y_il1 i_232_11 ?_
  refine Y_al0 i_232_12 ?_
  refine Y_gR i_232_13 ow_232 lf_10_70 (k_68 hG) (r_68_23 hG) ?_
  refine Y_il2 i_232_16 ?_
  have o2 := h.1
  replace h := h.2
  refine Y_iaload (k := x4.toNatClampNeg) (v := (A 81 x4.toNatClampNeg)) i_232_17 (k_81 hG) (l_81 hG) o2 rfl rfl ?_
  refine Y_iast i_232_18 (k_81 hG) (l_81 hG) o1 rfl ?_
  refine Y_al0 i_232_19 ?_
  refine Y_gR i_232_20 ow_232 lf_10_70 (k_68 hG) (r_68_23 hG) ?_
  refine Y_il2 i_232_23 ?_
  refine Y_il3 i_232_24 ?_
  refine Y_iast i_232_25 (k_81 hG) (l_81 hG) o2 rfl ?_
  refine Y_vret i_232_26 rt_232 (KKv ?_)
  refine Y_il5 i_270_56 ?_
  refine Y_il1 i_270_58 ?_
  refine Y_cgt i_270_59 (fun e3 => ?_) (fun e3 => ?_)
  · replace h := h.1 e3
    refine Y_bipush (v := 10) i_270_65 (by decide) ?_
    refine Y_il3 i_270_67 ?_
    refine Y_imul i_270_68 ?_
    refine Y_il4 i_270_69 ?_
    refine Y_iadd i_270_71 ?_
    refine Y_is2 i_270_72 rfl ?_
    refine Y_il5 i_270_73 ?_
    refine Y_is1 i_270_75 rfl ?_
    refine Y_ii4 (v := 1) i_270_76 (by decide) rfl ?_
    refine Y_goto i_270_79 ?_
    exact h
  · replace h := h.2 e3
    refine Y_goto i_270_62 ?_
    refine Y_ii4 (v := 1) i_270_76 (by decide) rfl ?_
    refine Y_goto i_270_79 ?_
    exact h
/- 271 Model.slack(I)I -/
theorem t_271_0 {d : Nat} {F A : Nat → Nat → Int32} {J : Nat → Nat → Int64} {G : pG} {Q : pR → pM → Prop} {SL p q : Nat} {x1 : Int32} (hG : Geo G SL p q) (h : hB ((wF F 68 3 0) 68 28) = true ∧ (((inR x1 ((wF F 68 3 0) 68 28)) = true → inB x1 10 = true ∧ inB (A 81 x1.toNatClampNeg) 10 = true ∧ inB (A 73 (A 81 x1.toNatClampNeg).toNatClampNeg) 4 = true ∧ Wrm A ∧ (X (d + 2) 213 0 [.ref 68, .int x1, .null, .null] [] ((wF F 68 3 0), A, J, G) (KK (d + 3) 271 23 [.ref 68, .int x1] [.int (carS (A 73 (A 81 x1.toNatClampNeg).toNatClampNeg) (A 75 (A 81 x1.toNatClampNeg).toNatClampNeg) ((wF F 68 3 0) 68 29) (bI (decide (x1 = (wF F 68 3 0) 68 28 - 1))))] Q))) ∧ ((inR x1 ((wF F 68 3 0) 68 28)) = false → Q (.inl (some (.int 0))) ((wF (wF F 68 3 0) 68 3 1), A, J, G)))) : X (d + 3) 271 0 [.ref 68, .int x1] [] (F, A, J, G) Q := by
  refine Y_al0 i_271_0 ?_
  refine Y_iconst (v := 0) i_271_1 (by decide) ?_
  refine Y_pI i_271_2 ow_271 lf_10_143 (k_68 hG) ?_
  refine Y_al0 i_271_5 ?_
  refine Y_il1 i_271_6 ?_
  have o1 := h.1
  replace h := h.2
  refine Y_iv1 (L0 := [.ref 68, .int x1]) i_271_7 ow_271 lm_10_342 ((k_68 hG).trans ow_181.symm) rfl mx_181 rfl rfl hd_271 ?_
  refine c_181 hG o1 (KKi ?_)
  refine Y_beq i_271_10 (fun e2 => ?_) (fun e2 => ?_)
  · replace h := h.1 e2
    refine Y_al0 i_271_13 ?_
    refine Y_il1 i_271_14 ?_
    have o3 := h.1
    replace h := h.2
    have o4 := h.1
    replace h := h.2
    have o5 := h.1
    replace h := h.2
    have o6 := h.1
    replace h := h.2
    refine Y_iv1 (L0 := [.ref 68, .int x1]) i_271_15 ow_271 lm_10_311 ((k_68 hG).trans ow_214.symm) rfl mx_214 rfl rfl hd_271 ?_
    refine c_214 hG o3 o4 o5 o6 (KKi ?_)
    refine Y_al0 i_271_18 ?_
    refine Y_il1 i_271_19 ?_
    exact Y_iv1 (L0 := [.ref 68, .int x1, .null, .null]) i_271_20 ow_271 lm_10_308 ((k_68 hG).trans ow_213.symm) rfl mx_213 rfl rfl hd_271 h
  · replace h := h.2 e2
    refine Y_al0 i_271_27 ?_
    refine Y_iconst (v := 1) i_271_28 (by decide) ?_
    refine Y_iv1 (L0 := [.ref 68, .int 1]) i_271_29 ow_271 lm_10_269 ((k_68 hG).trans ow_176.symm) rfl mx_176 rfl rfl hd_271 ?_
    refine Y_al0 i_176_0 ?_
    refine Y_il1 i_176_1 ?_
    refine Y_pI i_176_2 ow_176 lf_10_143 (k_68 hG) ?_
    refine Y_iconst (v := 0) i_176_5 (by decide) ?_
    refine Y_iret i_176_6 rt_176 (KKi ?_)
    exact Y_iret i_271_32 rt_271 h
theorem k_271_23 {d : Nat} {F A : Nat → Nat → Int32} {J : Nat → Nat → Int64} {G : pG} {Q : pR → pM → Prop} {SL p q : Nat} {x1 r s0 r : Int32} (hG : Geo G SL p q) (h : Q (.inl (some (.int (s0 - r)))) (F, A, J, G)) : KK (d + 3) 271 23 [.ref 68, .int x1] [.int s0] Q (.inl (some (.int r))) (F, A, J, G) := by
  refine KKi ?_
  refine Y_isub i_271_23 ?_
  refine Y_goto i_271_24 ?_
  exact Y_iret i_271_32 rt_271 h
/- 272 Model.crooked()I -/
theorem t_272_0 {d : Nat} {F A : Nat → Nat → Int32} {J : Nat → Nat → Int64} {G : pG} {Q : pR → pM → Prop} {SL p q : Nat} (hG : Geo G SL p q) (h : X (d + 2) 272 9 [.ref 68, .int (-1), .int 0] [] ((wF F 68 3 0), A, J, G) Q) : X (d + 2) 272 0 [.ref 68, .null, .null] [] (F, A, J, G) Q := by
  refine Y_al0 i_272_0 ?_
  refine Y_iconst (v := 0) i_272_1 (by decide) ?_
  refine Y_pI i_272_2 ow_272 lf_10_143 (k_68 hG) ?_
  refine Y_iconst (v := (-1)) i_272_5 (by decide) ?_
  refine Y_is1 i_272_6 rfl ?_
  refine Y_iconst (v := 0) i_272_7 (by decide) ?_
  refine Y_is2 i_272_8 rfl ?_
  exact h
theorem t_272_9 {d : Nat} {F A : Nat → Nat → Int32} {J : Nat → Nat → Int64} {G : pG} {Q : pR → pM → Prop} {SL p q : Nat} {x1 x2 : Int32} (hG : Geo G SL p q) (h : ((x2 < (F 68 28) → ((x1 = (-1) → X (d + 2) 272 9 [.ref 68, .int x2, .int (x2 + 1)] [] (F, A, J, G) Q) ∧ (¬ x1 = (-1) → X (d + 1) 215 0 [.ref 68, .int x2, .null, .null] [] (F, A, J, G) (KK (d + 2) 272 27 [.ref 68, .int x1, .int x2] [] Q)))) ∧ (¬ x2 < (F 68 28) → Q (.inl (some (.int x1))) (F, A, J, G)))) : X (d + 2) 272 9 [.ref 68, .int x1, .int x2] [] (F, A, J, G) Q := by
  refine Y_il2 i_272_9 ?_
  refine Y_al0 i_272_10 ?_
  refine Y_gI (v := (F 68 28)) i_272_11 ow_272 lf_10_150 (by decide) (k_68 hG) rfl ?_
  refine Y_cge i_272_14 (fun e1 => ?_) (fun e1 => ?_)
  · replace h := h.1 e1
    refine Y_il1 i_272_17 ?_
    refine Y_iconst (v := (-1)) i_272_18 (by decide) ?_
    refine Y_ceq i_272_19 (fun e2 => ?_) (fun e2 => ?_)
    · replace h := h.1 e2
      refine Y_il2 i_272_41 ?_
      refine Y_is1 i_272_42 rfl ?_
      refine Y_ii2 (v := 1) i_272_43 (by decide) rfl ?_
      refine Y_goto i_272_46 ?_
      exact h
    · replace h := h.2 e2
      refine Y_al0 i_272_22 ?_
      refine Y_il2 i_272_23 ?_
      exact Y_iv1 (L0 := [.ref 68, .int x2, .null, .null]) i_272_24 ow_272 lm_10_314 ((k_68 hG).trans ow_215.symm) rfl mx_215 rfl rfl hd_272 h
  · replace h := h.2 e1
    refine Y_il1 i_272_49 ?_
    exact Y_iret i_272_50 rt_272 h
theorem k_272_27 {d : Nat} {F A : Nat → Nat → Int32} {J : Nat → Nat → Int64} {G : pG} {Q : pR → pM → Prop} {SL p q : Nat} {x1 x2 r r : Int32} (hG : Geo G SL p q) (h : X (d + 1) 215 0 [.ref 68, .int x1, .null, .null] [] (F, A, J, G) (KK (d + 2) 272 35 [.ref 68, .int x1, .int x2] [.int (jabs r)] Q)) : KK (d + 2) 272 27 [.ref 68, .int x1, .int x2] [] Q (.inl (some (.int r))) (F, A, J, G) := by
  refine KKi ?_
  refine Y_abs i_272_27 ow_272 lm_10_317 rfl ?_
  refine Y_al0 i_272_30 ?_
  refine Y_il1 i_272_31 ?_
  exact Y_iv1 (L0 := [.ref 68, .int x1, .null, .null]) i_272_32 ow_272 lm_10_314 ((k_68 hG).trans ow_215.symm) rfl mx_215 rfl rfl hd_272 h
theorem k_272_35 {d : Nat} {F A : Nat → Nat → Int32} {J : Nat → Nat → Int64} {G : pG} {Q : pR → pM → Prop} {SL p q : Nat} {x1 x2 r s0 r : Int32} (hG : Geo G SL p q) (h : (((jabs r) < s0 → X (d + 2) 272 9 [.ref 68, .int x2, .int (x2 + 1)] [] (F, A, J, G) Q) ∧ (¬ (jabs r) < s0 → X (d + 2) 272 9 [.ref 68, .int x1, .int (x2 + 1)] [] (F, A, J, G) Q))) : KK (d + 2) 272 35 [.ref 68, .int x1, .int x2] [.int s0] Q (.inl (some (.int r))) (F, A, J, G) := by
  refine KKi ?_
  refine Y_abs i_272_35 ow_272 lm_10_317 rfl ?_
  refine Y_cle i_272_38 (fun e1 => ?_) (fun e1 => ?_)
  · replace h := h.1 e1
    refine Y_il2 i_272_41 ?_
    refine Y_is1 i_272_42 rfl ?_
    refine Y_ii2 (v := 1) i_272_43 (by decide) rfl ?_
    refine Y_goto i_272_46 ?_
    exact h
  · replace h := h.2 e1
    refine Y_ii2 (v := 1) i_272_43 (by decide) rfl ?_
    refine Y_goto i_272_46 ?_
    exact h
/- 273 Model.see(II)I -/
theorem t_273_0 {d : Nat} {F A : Nat → Nat → Int32} {J : Nat → Nat → Int64} {G : pG} {Q : pR → pM → Prop} {SL p q : Nat} {x1 x2 : Int32} (hG : Geo G SL p q) (h : (((F 68 32) = 8 → Q (.inl (some (.int (-1)))) ((wF F 68 3 0), (wF A 79 2 ((A 79 2) + 1)), J, G)) ∧ (¬ (F 68 32) = 8 → hB ((wF F 68 3 0) 68 28) = true ∧ (((inR x1 ((wF F 68 3 0) 68 28)) = true → (((inL x2.toInt64 (-99) 99) = true → inB (F 68 32) 8 = true ∧ (Q (.inl (some (.int ((F 68 32) + 1)))) ((wF (wF F 68 3 0) 68 32 ((F 68 32) + 1)), (wF (wF A 94 (F 68 32).toNatClampNeg x1) 95 (F 68 32).toNatClampNeg x2), J, G))) ∧ ((inL x2.toInt64 (-99) 99) = false → Q (.inl (some (.int (-1)))) ((wF F 68 3 0), (wF A 79 2 ((A 79 2) + 1)), J, G)))) ∧ ((inR x1 ((wF F 68 3 0) 68 28)) = false → Q (.inl (some (.int (-1)))) ((wF F 68 3 0), (wF A 79 2 ((A 79 2) + 1)), J, G)))))) : X (d + 2) 273 0 [.ref 68, .int x1, .int x2] [] (F, A, J, G) Q := by
  refine Y_al0 i_273_0 ?_
  refine Y_iconst (v := 0) i_273_1 (by decide) ?_
  refine Y_pI i_273_2 ow_273 lf_10_143 (k_68 hG) ?_
  refine Y_al0 i_273_5 ?_
  refine Y_gI (v := (F 68 32)) i_273_6 ow_273 lf_10_288 (by decide) (k_68 hG) (by simp [wF, wJ, va_up, cpR, bF, bA]) ?_
  refine Y_bipush (v := 8) i_273_9 (by decide) ?_
  refine Y_ceq i_273_11 (fun e1 => ?_) (fun e1 => ?_)
  · replace h := h.1 e1
    refine Y_al0 i_273_36 ?_
    refine Y_iconst (v := 2) i_273_37 (by decide) ?_
    refine Y_iv1 (L0 := [.ref 68, .int 2]) i_273_38 ow_273 lm_10_351 ((k_68 hG).trans ow_226.symm) rfl mx_226 rfl rfl hd_273 ?_
    refine Y_al0 i_226_0 ?_
    refine Y_gR i_226_1 ow_226 lf_10_60 (k_68 hG) (r_68_11 hG) ?_
    refine Y_il1 i_226_4 ?_
    refine Y_dup2 i_226_5 rfl rfl ?_
    refine Y_iaload (k := 2) (v := (A 79 2)) i_226_6 (k_79 hG) (l_79 hG) (by decide) (by decide) rfl ?_
    refine Y_iconst (v := 1) i_226_7 (by decide) ?_
    refine Y_iadd i_226_8 ?_
    refine Y_iast (k := 2) i_226_9 (k_79 hG) (l_79 hG) (by decide) (by decide) ?_
    refine Y_iconst (v := (-1)) i_226_10 (by decide) ?_
    refine Y_iret i_226_11 rt_226 (KKi ?_)
    exact Y_iret i_273_41 rt_273 h
  · replace h := h.2 e1
    refine Y_al0 i_273_14 ?_
    refine Y_il1 i_273_15 ?_
    have o2 := h.1
    replace h := h.2
    refine Y_iv1 (L0 := [.ref 68, .int x1]) i_273_16 ow_273 lm_10_342 ((k_68 hG).trans ow_181.symm) rfl mx_181 rfl rfl hd_273 ?_
    refine c_181 hG o2 (KKi ?_)
    refine Y_beq i_273_19 (fun e3 => ?_) (fun e3 => ?_)
    · replace h := h.1 e3
      refine Y_il2 i_273_22 ?_
      refine Y_i2l i_273_23 ?_
      refine Y_ldcL i_273_24 ow_273 lj_10_440 ?_
      refine Y_ldcL i_273_27 ow_273 lj_10_427 ?_
      refine Y_is_3 (L0 := [.long x2.toInt64, .null, .long (-99), .null, .long 99, .null]) i_273_30 ow_273 lm_10_146 rfl mx_178 rfl rfl hd_273 ?_
      refine c_178 hG (KKi ?_)
      refine Y_bne i_273_33 (fun e4 => ?_) (fun e4 => ?_)
      · replace h := h.1 e4
        refine Y_al0 i_273_42 ?_
        refine Y_gR i_273_43 ow_273 lf_10_113 (k_68 hG) (r_68_43 hG) ?_
        refine Y_al0 i_273_46 ?_
        refine Y_gI (v := (F 68 32)) i_273_47 ow_273 lf_10_288 (by decide) (k_68 hG) (by simp [wF, wJ, va_up, cpR, bF, bA]) ?_
        refine Y_il1 i_273_50 ?_
        have o5 := h.1
        replace h := h.2
        refine Y_iast i_273_51 (k_94 hG) (l_94 hG) o5 rfl ?_
        refine Y_al0 i_273_52 ?_
        refine Y_gR i_273_53 ow_273 lf_10_116 (k_68 hG) (r_68_44 hG) ?_
        refine Y_al0 i_273_56 ?_
        refine Y_gI (v := (F 68 32)) i_273_57 ow_273 lf_10_288 (by decide) (k_68 hG) (by simp [wF, wJ, va_up, cpR, bF, bA]) ?_
        refine Y_il2 i_273_60 ?_
        refine Y_iast i_273_61 (k_95 hG) (l_95 hG) o5 rfl ?_
        refine Y_al0 i_273_62 ?_
        refine Y_dup i_273_63 rfl ?_
        refine Y_gI (v := (F 68 32)) i_273_64 ow_273 lf_10_288 (by decide) (k_68 hG) (by simp [wF, wJ, va_up, cpR, bF, bA]) ?_
        refine Y_iconst (v := 1) i_273_67 (by decide) ?_
        refine Y_iadd i_273_68 ?_
        refine Y_pI i_273_69 ow_273 lf_10_288 (k_68 hG) ?_
        refine Y_al0 i_273_72 ?_
        refine Y_gI (v := ((F 68 32) + 1)) i_273_73 ow_273 lf_10_288 (by decide) (k_68 hG) (by simp [wF, wJ, va_up, cpR, bF, bA]) ?_
        exact Y_iret i_273_76 rt_273 h
      · replace h := h.2 e4
        refine Y_al0 i_273_36 ?_
        refine Y_iconst (v := 2) i_273_37 (by decide) ?_
        refine Y_iv1 (L0 := [.ref 68, .int 2]) i_273_38 ow_273 lm_10_351 ((k_68 hG).trans ow_226.symm) rfl mx_226 rfl rfl hd_273 ?_
        refine Y_al0 i_226_0 ?_
        refine Y_gR i_226_1 ow_226 lf_10_60 (k_68 hG) (r_68_11 hG) ?_
        refine Y_il1 i_226_4 ?_
        refine Y_dup2 i_226_5 rfl rfl ?_
        refine Y_iaload (k := 2) (v := (A 79 2)) i_226_6 (k_79 hG) (l_79 hG) (by decide) (by decide) rfl ?_
        refine Y_iconst (v := 1) i_226_7 (by decide) ?_
        refine Y_iadd i_226_8 ?_
        refine Y_iast (k := 2) i_226_9 (k_79 hG) (l_79 hG) (by decide) (by decide) ?_
        refine Y_iconst (v := (-1)) i_226_10 (by decide) ?_
        refine Y_iret i_226_11 rt_226 (KKi ?_)
        exact Y_iret i_273_41 rt_273 h
    · replace h := h.2 e3
      refine Y_al0 i_273_36 ?_
      refine Y_iconst (v := 2) i_273_37 (by decide) ?_
      refine Y_iv1 (L0 := [.ref 68, .int 2]) i_273_38 ow_273 lm_10_351 ((k_68 hG).trans ow_226.symm) rfl mx_226 rfl rfl hd_273 ?_
      refine Y_al0 i_226_0 ?_
      refine Y_gR i_226_1 ow_226 lf_10_60 (k_68 hG) (r_68_11 hG) ?_
      refine Y_il1 i_226_4 ?_
      refine Y_dup2 i_226_5 rfl rfl ?_
      refine Y_iaload (k := 2) (v := (A 79 2)) i_226_6 (k_79 hG) (l_79 hG) (by decide) (by decide) rfl ?_
      refine Y_iconst (v := 1) i_226_7 (by decide) ?_
      refine Y_iadd i_226_8 ?_
      refine Y_iast (k := 2) i_226_9 (k_79 hG) (l_79 hG) (by decide) (by decide) ?_
      refine Y_iconst (v := (-1)) i_226_10 (by decide) ?_
      refine Y_iret i_226_11 rt_226 (KKi ?_)
      exact Y_iret i_273_41 rt_273 h
/- 274 Model.isAsSeen()Z -/
theorem t_274_0 {d : Nat} {F A : Nat → Nat → Int32} {J : Nat → Nat → Int64} {G : pG} {Q : pR → pM → Prop} {SL p q : Nat} (hG : Geo G SL p q) (h : X (d + 2) 274 2 [.ref 68, .int 0] [] (F, A, J, G) Q) : X (d + 2) 274 0 [.ref 68, .null] [] (F, A, J, G) Q := by
  refine Y_iconst (v := 0) i_274_0 (by decide) ?_
  refine Y_is1 i_274_1 rfl ?_
  exact h
theorem t_274_2 {d : Nat} {F A : Nat → Nat → Int32} {J : Nat → Nat → Int64} {G : pG} {Q : pR → pM → Prop} {SL p q : Nat} {x1 : Int32} (hG : Geo G SL p q) (h : ((x1 < (F 68 32) → inB x1 8 = true ∧ hB (F 68 28) = true ∧ (((inR (A 94 x1.toNatClampNeg) (F 68 28)) = true → X (d + 1) 215 0 [.ref 68, .int (A 94 x1.toNatClampNeg), .null, .null] [] (F, A, J, G) (KK (d + 2) 274 33 [.ref 68, .int x1] [] Q)) ∧ ((inR (A 94 x1.toNatClampNeg) (F 68 28)) = false → Q (.inl (some (.int 0))) (F, A, J, G)))) ∧ (¬ x1 < (F 68 32) → Q (.inl (some (.int 1))) (F, A, J, G)))) : X (d + 2) 274 2 [.ref 68, .int x1] [] (F, A, J, G) Q := by
  refine Y_il1 i_274_2 ?_
  refine Y_al0 i_274_3 ?_
  refine Y_gI (v := (F 68 32)) i_274_4 ow_274 lf_10_288 (by decide) (k_68 hG) rfl ?_
  refine Y_cge i_274_7 (fun e1 => ?_) (fun e1 => ?_)
  · replace h := h.1 e1
    refine Y_al0 i_274_10 ?_
    refine Y_al0 i_274_11 ?_
    refine Y_gR i_274_12 ow_274 lf_10_113 (k_68 hG) (r_68_43 hG) ?_
    refine Y_il1 i_274_15 ?_
    have o2 := h.1
    replace h := h.2
    refine Y_iaload (k := x1.toNatClampNeg) (v := (A 94 x1.toNatClampNeg)) i_274_16 (k_94 hG) (l_94 hG) o2 rfl rfl ?_
    have o3 := h.1
    replace h := h.2
    refine Y_iv1 (L0 := [.ref 68, .int (A 94 x1.toNatClampNeg)]) i_274_17 ow_274 lm_10_342 ((k_68 hG).trans ow_181.symm) rfl mx_181 rfl rfl hd_274 ?_
    refine c_181 hG o3 (KKi ?_)
    refine Y_beq i_274_20 (fun e4 => ?_) (fun e4 => ?_)
    · replace h := h.1 e4
      refine Y_al0 i_274_23 ?_
      refine Y_al0 i_274_24 ?_
      refine Y_gR i_274_25 ow_274 lf_10_113 (k_68 hG) (r_68_43 hG) ?_
      refine Y_il1 i_274_28 ?_
      refine Y_iaload (k := x1.toNatClampNeg) (v := (A 94 x1.toNatClampNeg)) i_274_29 (k_94 hG) (l_94 hG) o2 rfl rfl ?_
      exact Y_iv1 (L0 := [.ref 68, .int (A 94 x1.toNatClampNeg), .null, .null]) i_274_30 ow_274 lm_10_314 ((k_68 hG).trans ow_215.symm) rfl mx_215 rfl rfl hd_274 h
    · replace h := h.2 e4
      refine Y_iconst (v := 0) i_274_42 (by decide) ?_
      exact Y_bret i_274_43 rt_274 (by decide) h
  · replace h := h.2 e1
    refine Y_iconst (v := 1) i_274_50 (by decide) ?_
    exact Y_bret i_274_51 rt_274 (by decide) h
theorem k_274_33 {d : Nat} {F A : Nat → Nat → Int32} {J : Nat → Nat → Int64} {G : pG} {Q : pR → pM → Prop} {SL p q : Nat} {x1 r r : Int32} (hG : Geo G SL p q) (h : inB x1 8 = true ∧ ((r = (A 95 x1.toNatClampNeg) → X (d + 2) 274 2 [.ref 68, .int (x1 + 1)] [] (F, A, J, G) Q) ∧ (¬ r = (A 95 x1.toNatClampNeg) → Q (.inl (some (.int 0))) (F, A, J, G)))) : KK (d + 2) 274 33 [.ref 68, .int x1] [] Q (.inl (some (.int r))) (F, A, J, G) := by
  refine KKi ?_
  refine Y_al0 i_274_33 ?_
  refine Y_gR i_274_34 ow_274 lf_10_116 (k_68 hG) (r_68_44 hG) ?_
  refine Y_il1 i_274_37 ?_
  have o1 := h.1
  replace h := h.2
  refine Y_iaload (k := x1.toNatClampNeg) (v := (A 95 x1.toNatClampNeg)) i_274_38 (k_95 hG) (l_95 hG) o1 rfl rfl ?_
  refine Y_ceq i_274_39 (fun e2 => ?_) (fun e2 => ?_)
  · replace h := h.1 e2
    refine Y_ii1 (v := 1) i_274_44 (by decide) rfl ?_
    refine Y_goto i_274_47 ?_
    exact h
  · replace h := h.2 e2
    refine Y_iconst (v := 0) i_274_42 (by decide) ?_
    exact Y_bret i_274_43 rt_274 (by decide) h
/- 275 Model.tellFits()V -/
theorem t_275_0 {d : Nat} {F A : Nat → Nat → Int32} {J : Nat → Nat → Int64} {G : pG} {Q : pR → pM → Prop} {SL p q : Nat} (hG : Geo G SL p q) (h : X (d + 3) 275 7 [.ref 68, .int 0, .null, .null, .null] [] ((wF F 68 47 0), A, J, G) Q) : X (d + 3) 275 0 [.ref 68, .null, .null, .null, .null] [] (F, A, J, G) Q := by
  refine Y_al0 i_275_0 ?_
  refine Y_iconst (v := 0) i_275_1 (by decide) ?_
  refine Y_pI i_275_2 ow_275 lf_10_442 (k_68 hG) ?_
  refine Y_iconst (v := 0) i_275_5 (by decide) ?_
  refine Y_is1 i_275_6 rfl ?_
  exact h
theorem t_275_7 {d : Nat} {F A : Nat → Nat → Int32} {J : Nat → Nat → Int64} {G : pG} {Q : pR → pM → Prop} {SL p q : Nat} {x1 : Int32} {v2 v3 v4 : Value} (hG : Geo G SL p q) (h : ((x1 < (F 68 28) → inB x1 10 = true ∧ inB (A 81 x1.toNatClampNeg) 10 = true ∧ (X (d + 3) 275 33 [.ref 68, .int x1, .int (A 81 x1.toNatClampNeg), .int (A 84 (A 81 x1.toNatClampNeg).toNatClampNeg), .int (-9)] [] (F, A, J, G) Q)) ∧ (¬ x1 < (F 68 28) → Q (.inl none) (F, A, J, G)))) : X (d + 3) 275 7 [.ref 68, .int x1, v2, v3, v4] [] (F, A, J, G) Q := by
  refine Y_il1 i_275_7 ?_
  refine Y_al0 i_275_8 ?_
  refine Y_gI (v := (F 68 28)) i_275_9 ow_275 lf_10_150 (by decide) (k_68 hG) rfl ?_
  refine Y_cge i_275_12 (fun e1 => ?_) (fun e1 => ?_)
  · replace h := h.1 e1
    refine Y_al0 i_275_15 ?_
    refine Y_gR i_275_16 ow_275 lf_10_70 (k_68 hG) (r_68_23 hG) ?_
    refine Y_il1 i_275_19 ?_
    have o2 := h.1
    replace h := h.2
    refine Y_iaload (k := x1.toNatClampNeg) (v := (A 81 x1.toNatClampNeg)) i_275_20 (k_81 hG) (l_81 hG) o2 rfl rfl ?_
    refine Y_is2 i_275_21 rfl ?_
    refine Y_al0 i_275_22 ?_
    refine Y_gR i_275_23 ow_275 lf_10_79 (k_68 hG) (r_68_26 hG) ?_
    refine Y_il2 i_275_26 ?_
    have o3 := h.1
    replace h := h.2
    refine Y_iaload (k := (A 81 x1.toNatClampNeg).toNatClampNeg) (v := (A 84 (A 81 x1.toNatClampNeg).toNatClampNeg)) i_275_27 (k_84 hG) (l_84 hG) o3 rfl rfl ?_
    refine Y_is3 i_275_28 rfl ?_
    refine Y_bipush (v := (-9)) i_275_29 (by decide) ?_
    refine Y_is4 i_275_31 rfl ?_
    exact h
  · replace h := h.2 e1
    exact Y_vret i_275_114 rt_275 h
theorem t_275_33 {d : Nat} {F A : Nat → Nat → Int32} {J : Nat → Nat → Int64} {G : pG} {Q : pR → pM → Prop} {SL p q : Nat} {x1 x2 x3 x4 : Int32} (hG : Geo G SL p q) (h : ((9 < x4 → inB x2 10 = true ∧ (X (d + 3) 275 7 [.ref 68, .int (x1 + 1), .int x2, .int x3, .int x4] [] (F, (wF A 84 x2.toNatClampNeg x3), J, G) Q)) ∧ (¬ 9 < x4 → inB x2 10 = true ∧ ((x4 = x3 → X (d + 3) 275 33 [.ref 68, .int x1, .int x2, .int x3, .int (x4 + 1)] [] (F, (wF A 84 x2.toNatClampNeg x4), J, G) Q) ∧ (¬ x4 = x3 → X (d + 2) 274 0 [.ref 68, .null] [] (F, (wF A 84 x2.toNatClampNeg x4), J, G) (KK (d + 3) 275 58 [.ref 68, .int x1, .int x2, .int x3, .int x4] [] Q)))))) : X (d + 3) 275 33 [.ref 68, .int x1, .int x2, .int x3, .int x4] [] (F, A, J, G) Q := by
  refine Y_il4 i_275_33 ?_
  refine Y_bipush (v := 9) i_275_35 (by decide) ?_
  refine Y_cgt i_275_37 (fun e1 => ?_) (fun e1 => ?_)
  · replace h := h.1 e1
    refine Y_al0 i_275_101 ?_
    refine Y_gR i_275_102 ow_275 lf_10_79 (k_68 hG) (r_68_26 hG) ?_
    refine Y_il2 i_275_105 ?_
    refine Y_il3 i_275_106 ?_
    have o2 := h.1
    replace h := h.2
    refine Y_iast i_275_107 (k_84 hG) (l_84 hG) o2 rfl ?_
    refine Y_ii1 (v := 1) i_275_108 (by decide) rfl ?_
    refine Y_goto i_275_111 ?_
    exact h
  · replace h := h.2 e1
    refine Y_al0 i_275_40 ?_
    refine Y_gR i_275_41 ow_275 lf_10_79 (k_68 hG) (r_68_26 hG) ?_
    refine Y_il2 i_275_44 ?_
    refine Y_il4 i_275_45 ?_
    have o3 := h.1
    replace h := h.2
    refine Y_iast i_275_47 (k_84 hG) (l_84 hG) o3 rfl ?_
    refine Y_il4 i_275_48 ?_
    refine Y_il3 i_275_50 ?_
    refine Y_ceq i_275_51 (fun e4 => ?_) (fun e4 => ?_)
    · replace h := h.1 e4
      refine Y_ii4 (v := 1) i_275_95 (by decide) rfl ?_
      refine Y_goto i_275_98 ?_
      exact h
    · replace h := h.2 e4
      refine Y_al0 i_275_54 ?_
      exact Y_iv0 (L0 := [.ref 68, .null]) i_275_55 ow_275 lm_10_445 ((k_68 hG).trans ow_274.symm) rfl mx_274 rfl rfl hd_275 h
theorem k_275_58 {d : Nat} {F A : Nat → Nat → Int32} {J : Nat → Nat → Int64} {G : pG} {Q : pR → pM → Prop} {SL p q : Nat} {x1 x2 x3 x4 r r : Int32} (hG : Geo G SL p q) (h : ((r = 0 → X (d + 3) 275 33 [.ref 68, .int x1, .int x2, .int x3, .int (x4 + 1)] [] (F, A, J, G) Q) ∧ (¬ r = 0 → inB (F 68 47) 200 = true ∧ (X (d + 3) 275 33 [.ref 68, .int x1, .int x2, .int x3, .int (x4 + 1)] [] ((wF F 68 47 ((F 68 47) + 1)), (wF (wF A 96 (F 68 47).toNatClampNeg x2) 97 (F 68 47).toNatClampNeg x4), J, G) Q)))) : KK (d + 3) 275 58 [.ref 68, .int x1, .int x2, .int x3, .int x4] [] Q (.inl (some (.int r))) (F, A, J, G) := by
  refine KKi ?_
  refine Y_zne i_275_58 (fun e1 => ?_) (fun e1 => ?_)
  · replace h := h.1 e1
    refine Y_goto i_275_61 ?_
    refine Y_ii4 (v := 1) i_275_95 (by decide) rfl ?_
    refine Y_goto i_275_98 ?_
    exact h
  · replace h := h.2 e1
    refine Y_al0 i_275_64 ?_
    refine Y_gR i_275_65 ow_275 lf_10_119 (k_68 hG) (r_68_45 hG) ?_
    refine Y_al0 i_275_68 ?_
    refine Y_gI (v := (F 68 47)) i_275_69 ow_275 lf_10_442 (by decide) (k_68 hG) rfl ?_
    refine Y_il2 i_275_72 ?_
    have o2 := h.1
    replace h := h.2
    refine Y_iast i_275_73 (k_96 hG) (l_96 hG) o2 rfl ?_
    refine Y_al0 i_275_74 ?_
    refine Y_gR i_275_75 ow_275 lf_10_122 (k_68 hG) (r_68_46 hG) ?_
    refine Y_al0 i_275_78 ?_
    refine Y_gI (v := (F 68 47)) i_275_79 ow_275 lf_10_442 (by decide) (k_68 hG) rfl ?_
    refine Y_il4 i_275_82 ?_
    refine Y_iast i_275_84 (k_97 hG) (l_97 hG) o2 rfl ?_
    refine Y_al0 i_275_85 ?_
    refine Y_dup i_275_86 rfl ?_
    refine Y_gI (v := (F 68 47)) i_275_87 ow_275 lf_10_442 (by decide) (k_68 hG) rfl ?_
    refine Y_iconst (v := 1) i_275_90 (by decide) ?_
    refine Y_iadd i_275_91 ?_
    refine Y_pI i_275_92 ow_275 lf_10_442 (k_68 hG) ?_
    refine Y_ii4 (v := 1) i_275_95 (by decide) rfl ?_
    refine Y_goto i_275_98 ?_
    exact h
/- 276 Model.which(I)I -/
theorem t_276_0 {d : Nat} {F A : Nat → Nat → Int32} {J : Nat → Nat → Int64} {G : pG} {Q : pR → pM → Prop} {SL p q : Nat} {x1 : Int32} (hG : Geo G SL p q) (h : (((inL x1.toInt64 0 2) = true → ((x1 = 2 → X (d + 3) 274 0 [.ref 68, .null] [] ((wF F 68 3 0), A, J, G) (KK (d + 4) 276 32 [.ref 68, .int x1] [] Q)) ∧ (¬ x1 = 2 → X (d + 3) 275 0 [.ref 68, .null, .null, .null, .null] [] ((wF F 68 3 0), A, J, G) (KK (d + 4) 276 45 [.ref 68, .int x1] [] Q)))) ∧ ((inL x1.toInt64 0 2) = false → Q (.inl (some (.int 0))) ((wF (wF F 68 3 0) 68 3 1), A, J, G)))) : X (d + 4) 276 0 [.ref 68, .int x1] [] (F, A, J, G) Q := by
  refine Y_al0 i_276_0 ?_
  refine Y_iconst (v := 0) i_276_1 (by decide) ?_
  refine Y_pI i_276_2 ow_276 lf_10_143 (k_68 hG) ?_
  refine Y_il1 i_276_5 ?_
  refine Y_i2l i_276_6 ?_
  refine Y_lconst (v := 0) i_276_7 (by decide) ?_
  refine Y_ldcL i_276_8 ow_276 lj_10_448 ?_
  refine Y_is_3 (L0 := [.long x1.toInt64, .null, .long 0, .null, .long 2, .null]) i_276_11 ow_276 lm_10_146 rfl mx_178 rfl rfl hd_276 ?_
  refine c_178 hG (KKi ?_)
  refine Y_bne i_276_14 (fun e1 => ?_) (fun e1 => ?_)
  · replace h := h.1 e1
    refine Y_il1 i_276_23 ?_
    refine Y_iconst (v := 2) i_276_24 (by decide) ?_
    refine Y_cne i_276_25 (fun e2 => ?_) (fun e2 => ?_)
    · replace h := h.1 e2
      refine Y_al0 i_276_28 ?_
      exact Y_iv0 (L0 := [.ref 68, .null]) i_276_29 ow_276 lm_10_445 ((k_68 hG).trans ow_274.symm) rfl mx_274 rfl rfl hd_276 h
    · replace h := h.2 e2
      refine Y_al0 i_276_41 ?_
      exact Y_iv0 (L0 := [.ref 68, .null, .null, .null, .null]) i_276_42 ow_276 lm_10_450 ((k_68 hG).trans ow_275.symm) rfl mx_275 rfl rfl hd_276 h
  · replace h := h.2 e1
    refine Y_al0 i_276_17 ?_
    refine Y_iconst (v := 1) i_276_18 (by decide) ?_
    refine Y_iv1 (L0 := [.ref 68, .int 1]) i_276_19 ow_276 lm_10_269 ((k_68 hG).trans ow_176.symm) rfl mx_176 rfl rfl hd_276 ?_
    refine Y_al0 i_176_0 ?_
    refine Y_il1 i_176_1 ?_
    refine Y_pI i_176_2 ow_176 lf_10_143 (k_68 hG) ?_
    refine Y_iconst (v := 0) i_176_5 (by decide) ?_
    refine Y_iret i_176_6 rt_176 (KKi ?_)
    exact Y_iret i_276_22 rt_276 h
theorem k_276_32 {d : Nat} {F A : Nat → Nat → Int32} {J : Nat → Nat → Int64} {G : pG} {Q : pR → pM → Prop} {SL p q : Nat} {x1 r r : Int32} (hG : Geo G SL p q) (h : ((r = 0 → Q (.inl (some (.int 0))) (F, A, J, G)) ∧ (¬ r = 0 → Q (.inl (some (.int 1))) (F, A, J, G)))) : KK (d + 4) 276 32 [.ref 68, .int x1] [] Q (.inl (some (.int r))) (F, A, J, G) := by
  refine KKi ?_
  refine Y_zeq i_276_32 (fun e1 => ?_) (fun e1 => ?_)
  · replace h := h.1 e1
    refine Y_iconst (v := 0) i_276_39 (by decide) ?_
    exact Y_iret i_276_40 rt_276 h
  · replace h := h.2 e1
    refine Y_iconst (v := 1) i_276_35 (by decide) ?_
    refine Y_goto i_276_36 ?_
    exact Y_iret i_276_40 rt_276 h
theorem k_276_45 {d : Nat} {F A : Nat → Nat → Int32} {J : Nat → Nat → Int64} {G : pG} {Q : pR → pM → Prop} {SL p q : Nat} {x1 : Int32} (hG : Geo G SL p q) (h : ((x1 = 0 → Q (.inl (some (.int (F 68 47)))) (F, A, J, G)) ∧ (¬ x1 = 0 → (((F 68 47) = 0 → Q (.inl (some (.int (-1)))) (F, A, J, G)) ∧ (¬ (F 68 47) = 0 → Q (.inl (some (.int ((((100 : Int32) * (A 96 0)) + (A 97 0)) + 50)))) (F, A, J, G)))))) : KK (d + 4) 276 45 [.ref 68, .int x1] [] Q (.inl none) (F, A, J, G) := by
  refine KKv ?_
  refine Y_il1 i_276_45 ?_
  refine Y_zne i_276_46 (fun e1 => ?_) (fun e1 => ?_)
  · replace h := h.1 e1
    refine Y_al0 i_276_49 ?_
    refine Y_gI (v := (F 68 47)) i_276_50 ow_276 lf_10_442 (by decide) (k_68 hG) rfl ?_
    refine Y_goto i_276_53 ?_
    exact Y_iret i_276_86 rt_276 h
  · replace h := h.2 e1
    refine Y_al0 i_276_56 ?_
    refine Y_gI (v := (F 68 47)) i_276_57 ow_276 lf_10_442 (by decide) (k_68 hG) rfl ?_
    refine Y_zne i_276_60 (fun e2 => ?_) (fun e2 => ?_)
    · replace h := h.1 e2
      refine Y_iconst (v := (-1)) i_276_63 (by decide) ?_
      refine Y_goto i_276_64 ?_
      exact Y_iret i_276_86 rt_276 h
    · replace h := h.2 e2
      refine Y_bipush (v := 100) i_276_67 (by decide) ?_
      refine Y_al0 i_276_69 ?_
      refine Y_gR i_276_70 ow_276 lf_10_119 (k_68 hG) (r_68_45 hG) ?_
      refine Y_iconst (v := 0) i_276_73 (by decide) ?_
      refine Y_iaload (k := 0) (v := (A 96 0)) i_276_74 (k_96 hG) (l_96 hG) (by decide) (by decide) rfl ?_
      refine Y_imul i_276_75 ?_
      refine Y_al0 i_276_76 ?_
      refine Y_gR i_276_77 ow_276 lf_10_122 (k_68 hG) (r_68_46 hG) ?_
      refine Y_iconst (v := 0) i_276_80 (by decide) ?_
      refine Y_iaload (k := 0) (v := (A 97 0)) i_276_81 (k_97 hG) (l_97 hG) (by decide) (by decide) rfl ?_
      refine Y_iadd i_276_82 ?_
      refine Y_bipush (v := 50) i_276_83 (by decide) ?_
      refine Y_iadd i_276_85 ?_
      exact Y_iret i_276_86 rt_276 h
/- 277 Model.unlike(I)I -/
theorem t_277_0 {d : Nat} {F A : Nat → Nat → Int32} {J : Nat → Nat → Int64} {G : pG} {Q : pR → pM → Prop} {SL p q : Nat} {x1 : Int32} (hG : Geo G SL p q) (h : X (d + 2) 277 4 [.ref 68, .int x1, .int 0, .int 0, .null, .null, .null, .null] [] (F, A, J, G) Q) : X (d + 2) 277 0 [.ref 68, .int x1, .null, .null, .null, .null, .null, .null] [] (F, A, J, G) Q := by
  refine Y_iconst (v := 0) i_277_0 (by decide) ?_
  refine Y_is2 i_277_1 rfl ?_
  refine Y_iconst (v := 0) i_277_2 (by decide) ?_
  refine Y_is3 i_277_3 rfl ?_
  exact h
theorem t_277_4 {d : Nat} {F A : Nat → Nat → Int32} {J : Nat → Nat → Int64} {G : pG} {Q : pR → pM → Prop} {SL p q : Nat} {x1 x2 x3 : Int32} {v4 v5 v6 v7 : Value} (hG : Geo G SL p q) (h : ((x3 < (F 68 47) → inB x3 200 = true ∧ inB (A 96 x3.toNatClampNeg) 10 = true ∧ (X (d + 1) 215 0 [.ref 68, .int x1, .null, .null] [] (F, (wF A 84 (A 96 x3.toNatClampNeg).toNatClampNeg (A 97 x3.toNatClampNeg)), J, G) (KK (d + 2) 277 52 [.ref 68, .int x1, .int x2, .int x3, .int (A 96 x3.toNatClampNeg), .int (A 84 (A 96 x3.toNatClampNeg).toNatClampNeg), v6, v7] [.int x3, .ref 98] Q))) ∧ (¬ x3 < (F 68 47) → Q (.inl (some (.int x2))) (F, A, J, G)))) : X (d + 2) 277 4 [.ref 68, .int x1, .int x2, .int x3, v4, v5, v6, v7] [] (F, A, J, G) Q := by
  refine Y_il3 i_277_4 ?_
  refine Y_al0 i_277_5 ?_
  refine Y_gI (v := (F 68 47)) i_277_6 ow_277 lf_10_442 (by decide) (k_68 hG) rfl ?_
  refine Y_cge i_277_9 (fun e1 => ?_) (fun e1 => ?_)
  · replace h := h.1 e1
    refine Y_al0 i_277_12 ?_
    refine Y_gR i_277_13 ow_277 lf_10_119 (k_68 hG) (r_68_45 hG) ?_
    refine Y_il3 i_277_16 ?_
    have o2 := h.1
    replace h := h.2
    refine Y_iaload (k := x3.toNatClampNeg) (v := (A 96 x3.toNatClampNeg)) i_277_17 (k_96 hG) (l_96 hG) o2 rfl rfl ?_
    refine Y_is4 i_277_18 rfl ?_
    refine Y_al0 i_277_20 ?_
    refine Y_gR i_277_21 ow_277 lf_10_79 (k_68 hG) (r_68_26 hG) ?_
    refine Y_il4 i_277_24 ?_
    have o3 := h.1
    replace h := h.2
    refine Y_iaload (k := (A 96 x3.toNatClampNeg).toNatClampNeg) (v := (A 84 (A 96 x3.toNatClampNeg).toNatClampNeg)) i_277_26 (k_84 hG) (l_84 hG) o3 rfl rfl ?_
    refine Y_is5 i_277_27 rfl ?_
    refine Y_al0 i_277_29 ?_
    refine Y_gR i_277_30 ow_277 lf_10_79 (k_68 hG) (r_68_26 hG) ?_
    refine Y_il4 i_277_33 ?_
    refine Y_al0 i_277_35 ?_
    refine Y_gR i_277_36 ow_277 lf_10_122 (k_68 hG) (r_68_46 hG) ?_
    refine Y_il3 i_277_39 ?_
    refine Y_iaload (k := x3.toNatClampNeg) (v := (A 97 x3.toNatClampNeg)) i_277_40 (k_97 hG) (l_97 hG) o2 rfl rfl ?_
    refine Y_iast i_277_41 (k_84 hG) (l_84 hG) o3 rfl ?_
    refine Y_al0 i_277_42 ?_
    refine Y_gR i_277_43 ow_277 lf_10_125 (k_68 hG) (r_68_48 hG) ?_
    refine Y_il3 i_277_46 ?_
    refine Y_al0 i_277_47 ?_
    refine Y_il1 i_277_48 ?_
    exact Y_iv1 (L0 := [.ref 68, .int x1, .null, .null]) i_277_49 ow_277 lm_10_314 ((k_68 hG).trans ow_215.symm) rfl mx_215 rfl rfl hd_277 h
  · replace h := h.2 e1
    refine Y_il2 i_277_127 ?_
    exact Y_iret i_277_128 rt_277 h
theorem k_277_52 {d : Nat} {F A : Nat → Nat → Int32} {J : Nat → Nat → Int64} {G : pG} {Q : pR → pM → Prop} {SL p q : Nat} {x1 x2 x3 x4 x5 r s0 r : Int32} {v6 v7 : Value} (hG : Geo G SL p q) (h : inB s0 200 = true ∧ inB x4 10 = true ∧ (X (d + 2) 277 68 [.ref 68, .int x1, .int x2, .int x3, .int x4, .int x5, .int 1, .int 0] [] (F, (wF (wF A 98 s0.toNatClampNeg r) 84 x4.toNatClampNeg x5), J, G) Q)) : KK (d + 2) 277 52 [.ref 68, .int x1, .int x2, .int x3, .int x4, .int x5, v6, v7] [.int s0, .ref 98] Q (.inl (some (.int r))) (F, A, J, G) := by
  refine KKi ?_
  have o1 := h.1
  replace h := h.2
  refine Y_iast i_277_52 (k_98 hG) (l_98 hG) o1 rfl ?_
  refine Y_al0 i_277_53 ?_
  refine Y_gR i_277_54 ow_277 lf_10_79 (k_68 hG) (r_68_26 hG) ?_
  refine Y_il4 i_277_57 ?_
  refine Y_il5 i_277_59 ?_
  have o2 := h.1
  replace h := h.2
  refine Y_iast i_277_61 (k_84 hG) (l_84 hG) o2 rfl ?_
  refine Y_iconst (v := 1) i_277_62 (by decide) ?_
  refine Y_is6 i_277_63 rfl ?_
  refine Y_iconst (v := 0) i_277_65 (by decide) ?_
  refine Y_is7 i_277_66 rfl ?_
  exact h
theorem t_277_68 {d : Nat} {F A : Nat → Nat → Int32} {J : Nat → Nat → Int64} {G : pG} {Q : pR → pM → Prop} {SL p q : Nat} {x1 x2 x3 x4 x5 x6 x7 : Int32} (hG : Geo G SL p q) (h : ((x7 < x3 → ((x6 = 0 → ((x6 = 0 → X (d + 2) 277 4 [.ref 68, .int x1, .int (x2 + 0), .int (x3 + 1), .int x4, .int x5, .int x6, .int x7] [] (F, A, J, G) Q) ∧ (¬ x6 = 0 → X (d + 2) 277 4 [.ref 68, .int x1, .int (x2 + 1), .int (x3 + 1), .int x4, .int x5, .int x6, .int x7] [] (F, A, J, G) Q))) ∧ (¬ x6 = 0 → inB x7 200 = true ∧ inB x3 200 = true ∧ (((A 98 x7.toNatClampNeg) = (A 98 x3.toNatClampNeg) → X (d + 2) 277 68 [.ref 68, .int x1, .int x2, .int x3, .int x4, .int x5, .int 0, .int (x7 + 1)] [] (F, A, J, G) Q) ∧ (¬ (A 98 x7.toNatClampNeg) = (A 98 x3.toNatClampNeg) → X (d + 2) 277 68 [.ref 68, .int x1, .int x2, .int x3, .int x4, .int x5, .int 1, .int (x7 + 1)] [] (F, A, J, G) Q))))) ∧ (¬ x7 < x3 → ((x6 = 0 → X (d + 2) 277 4 [.ref 68, .int x1, .int (x2 + 0), .int (x3 + 1), .int x4, .int x5, .int x6, .int x7] [] (F, A, J, G) Q) ∧ (¬ x6 = 0 → X (d + 2) 277 4 [.ref 68, .int x1, .int (x2 + 1), .int (x3 + 1), .int x4, .int x5, .int x6, .int x7] [] (F, A, J, G) Q))))) : X (d + 2) 277 68 [.ref 68, .int x1, .int x2, .int x3, .int x4, .int x5, .int x6, .int x7] [] (F, A, J, G) Q := by
  refine Y_il7 i_277_68 ?_
  refine Y_il3 i_277_70 ?_
  refine Y_cge i_277_71 (fun e1 => ?_) (fun e1 => ?_)
  · replace h := h.1 e1
    refine Y_il6 i_277_74 ?_
    refine Y_zeq i_277_76 (fun e2 => ?_) (fun e2 => ?_)
    · replace h := h.1 e2
      refine Y_il2 i_277_108 ?_
      refine Y_il6 i_277_109 ?_
      refine Y_zeq i_277_111 (fun e3 => ?_) (fun e3 => ?_)
      · replace h := h.1 e3
        refine Y_iconst (v := 0) i_277_118 (by decide) ?_
        refine Y_iadd i_277_119 ?_
        refine Y_is2 i_277_120 rfl ?_
        refine Y_ii3 (v := 1) i_277_121 (by decide) rfl ?_
        refine Y_goto i_277_124 ?_
        exact h
      · replace h := h.2 e3
        refine Y_iconst (v := 1) i_277_114 (by decide) ?_
        refine Y_goto i_277_115 ?_
        refine Y_iadd i_277_119 ?_
        refine Y_is2 i_277_120 rfl ?_
        refine Y_ii3 (v := 1) i_277_121 (by decide) rfl ?_
        refine Y_goto i_277_124 ?_
        exact h
    · replace h := h.2 e2
      refine Y_al0 i_277_79 ?_
      refine Y_gR i_277_80 ow_277 lf_10_125 (k_68 hG) (r_68_48 hG) ?_
      refine Y_il7 i_277_83 ?_
      have o4 := h.1
      replace h := h.2
      refine Y_iaload (k := x7.toNatClampNeg) (v := (A 98 x7.toNatClampNeg)) i_277_85 (k_98 hG) (l_98 hG) o4 rfl rfl ?_
      refine Y_al0 i_277_86 ?_
      refine Y_gR i_277_87 ow_277 lf_10_125 (k_68 hG) (r_68_48 hG) ?_
      refine Y_il3 i_277_90 ?_
      have o5 := h.1
      replace h := h.2
      refine Y_iaload (k := x3.toNatClampNeg) (v := (A 98 x3.toNatClampNeg)) i_277_91 (k_98 hG) (l_98 hG) o5 rfl rfl ?_
      refine Y_ceq i_277_92 (fun e6 => ?_) (fun e6 => ?_)
      · replace h := h.1 e6
        refine Y_iconst (v := 0) i_277_99 (by decide) ?_
        refine Y_is6 i_277_100 rfl ?_
        refine Y_ii7 (v := 1) i_277_102 (by decide) rfl ?_
        refine Y_goto i_277_105 ?_
        exact h
      · replace h := h.2 e6
        refine Y_iconst (v := 1) i_277_95 (by decide) ?_
        refine Y_goto i_277_96 ?_
        refine Y_is6 i_277_100 rfl ?_
        refine Y_ii7 (v := 1) i_277_102 (by decide) rfl ?_
        refine Y_goto i_277_105 ?_
        exact h
  · replace h := h.2 e1
    refine Y_il2 i_277_108 ?_
    refine Y_il6 i_277_109 ?_
    refine Y_zeq i_277_111 (fun e7 => ?_) (fun e7 => ?_)
    · replace h := h.1 e7
      refine Y_iconst (v := 0) i_277_118 (by decide) ?_
      refine Y_iadd i_277_119 ?_
      refine Y_is2 i_277_120 rfl ?_
      refine Y_ii3 (v := 1) i_277_121 (by decide) rfl ?_
      refine Y_goto i_277_124 ?_
      exact h
    · replace h := h.2 e7
      refine Y_iconst (v := 1) i_277_114 (by decide) ?_
      refine Y_goto i_277_115 ?_
      refine Y_iadd i_277_119 ?_
      refine Y_is2 i_277_120 rfl ?_
      refine Y_ii3 (v := 1) i_277_121 (by decide) rfl ?_
      refine Y_goto i_277_124 ?_
      exact h
/- 278 Model.look()I -/
theorem t_278_0 {d : Nat} {F A : Nat → Nat → Int32} {J : Nat → Nat → Int64} {G : pG} {Q : pR → pM → Prop} {SL p q : Nat} (hG : Geo G SL p q) (h : X (d + 3) 275 0 [.ref 68, .null, .null, .null, .null] [] ((wF F 68 3 0), A, J, G) (KK (d + 4) 278 9 [.ref 68, .null, .null, .null, .null] [] Q)) : X (d + 4) 278 0 [.ref 68, .null, .null, .null, .null] [] (F, A, J, G) Q := by
  refine Y_al0 i_278_0 ?_
  refine Y_iconst (v := 0) i_278_1 (by decide) ?_
  refine Y_pI i_278_2 ow_278 lf_10_143 (k_68 hG) ?_
  refine Y_al0 i_278_5 ?_
  exact Y_iv0 (L0 := [.ref 68, .null, .null, .null, .null]) i_278_6 ow_278 lm_10_450 ((k_68 hG).trans ow_275.symm) rfl mx_275 rfl rfl hd_278 h
theorem k_278_9 {d : Nat} {F A : Nat → Nat → Int32} {J : Nat → Nat → Int64} {G : pG} {Q : pR → pM → Prop} {SL p q : Nat} (hG : Geo G SL p q) (h : X (d + 4) 278 15 [.ref 68, .int (-1), .int 0, .int 0, .null] [] (F, A, J, G) Q) : KK (d + 4) 278 9 [.ref 68, .null, .null, .null, .null] [] Q (.inl none) (F, A, J, G) := by
  refine KKv ?_
  refine Y_iconst (v := (-1)) i_278_9 (by decide) ?_
  refine Y_is1 i_278_10 rfl ?_
  refine Y_iconst (v := 0) i_278_11 (by decide) ?_
  refine Y_is2 i_278_12 rfl ?_
  refine Y_iconst (v := 0) i_278_13 (by decide) ?_
  refine Y_is3 i_278_14 rfl ?_
  exact h
theorem t_278_15 {d : Nat} {F A : Nat → Nat → Int32} {J : Nat → Nat → Int64} {G : pG} {Q : pR → pM → Prop} {SL p q : Nat} {x1 x2 x3 : Int32} {v4 : Value} (hG : Geo G SL p q) (h : ((x3 < (F 68 28) → X (d + 3) 277 0 [.ref 68, .int x3, .null, .null, .null, .null, .null, .null] [] (F, A, J, G) (KK (d + 4) 278 28 [.ref 68, .int x1, .int x2, .int x3, v4] [] Q)) ∧ (¬ x3 < (F 68 28) → Q (.inl (some (.int x1))) (F, A, J, G)))) : X (d + 4) 278 15 [.ref 68, .int x1, .int x2, .int x3, v4] [] (F, A, J, G) Q := by
  refine Y_il3 i_278_15 ?_
  refine Y_al0 i_278_16 ?_
  refine Y_gI (v := (F 68 28)) i_278_17 ow_278 lf_10_150 (by decide) (k_68 hG) rfl ?_
  refine Y_cge i_278_20 (fun e1 => ?_) (fun e1 => ?_)
  · replace h := h.1 e1
    refine Y_al0 i_278_23 ?_
    refine Y_il3 i_278_24 ?_
    exact Y_iv1 (L0 := [.ref 68, .int x3, .null, .null, .null, .null, .null, .null]) i_278_25 ow_278 lm_10_453 ((k_68 hG).trans ow_277.symm) rfl mx_277 rfl rfl hd_278 h
  · replace h := h.2 e1
    refine Y_il1 i_278_50 ?_
    exact Y_iret i_278_51 rt_278 h
theorem k_278_28 {d : Nat} {F A : Nat → Nat → Int32} {J : Nat → Nat → Int64} {G : pG} {Q : pR → pM → Prop} {SL p q : Nat} {x1 x2 x3 r r : Int32} {v4 : Value} (hG : Geo G SL p q) (h : ((x2 < r → X (d + 4) 278 15 [.ref 68, .int x3, .int r, .int (x3 + 1), .int r] [] (F, A, J, G) Q) ∧ (¬ x2 < r → X (d + 4) 278 15 [.ref 68, .int x1, .int x2, .int (x3 + 1), .int r] [] (F, A, J, G) Q))) : KK (d + 4) 278 28 [.ref 68, .int x1, .int x2, .int x3, v4] [] Q (.inl (some (.int r))) (F, A, J, G) := by
  refine KKi ?_
  refine Y_is4 i_278_28 rfl ?_
  refine Y_il4 i_278_30 ?_
  refine Y_il2 i_278_32 ?_
  refine Y_cgt i_278_33 (fun e1 => ?_) (fun e1 => ?_)
  · replace h := h.1 e1
    refine Y_il3 i_278_39 ?_
    refine Y_is1 i_278_40 rfl ?_
    refine Y_il4 i_278_41 ?_
    refine Y_is2 i_278_43 rfl ?_
    refine Y_ii3 (v := 1) i_278_44 (by decide) rfl ?_
    refine Y_goto i_278_47 ?_
    exact h
  · replace h := h.2 e1
    refine Y_goto i_278_36 ?_
    refine Y_ii3 (v := 1) i_278_44 (by decide) rfl ?_
    refine Y_goto i_278_47 ?_
    exact h
/- 279 Model.forget()V -/
theorem t_279_0 {d : Nat} {F A : Nat → Nat → Int32} {J : Nat → Nat → Int64} {G : pG} {Q : pR → pM → Prop} {SL p q : Nat} (hG : Geo G SL p q) (h : Q (.inl none) ((wF (wF F 68 3 0) 68 32 0), A, J, G)) : X d 279 0 [.ref 68] [] (F, A, J, G) Q := by
  refine Y_al0 i_279_0 ?_
  refine Y_iconst (v := 0) i_279_1 (by decide) ?_
  refine Y_pI i_279_2 ow_279 lf_10_143 (k_68 hG) ?_
  refine Y_al0 i_279_5 ?_
  refine Y_iconst (v := 0) i_279_6 (by decide) ?_
  refine Y_pI i_279_7 ow_279 lf_10_288 (k_68 hG) ?_
  exact Y_vret i_279_10 rt_279 h
/- 280 Model.gain(III)I -/
theorem t_280_0 {d : Nat} {F A : Nat → Nat → Int32} {J : Nat → Nat → Int64} {G : pG} {Q : pR → pM → Prop} {SL p q : Nat} {x1 x2 x3 : Int32} (hG : Geo G SL p q) (h : inB ((F 68 28) - 1) 10 = true ∧ inB (A 81 0) 10 = true ∧ inB (A 81 ((F 68 28) - 1).toNatClampNeg) 10 = true ∧ (X (d + 5) 218 0 [.ref 68] [] (F, (wF (wF A 82 (A 81 0).toNatClampNeg ((A 82 (A 81 0).toNatClampNeg) + x2)) 82 (A 81 ((F 68 28) - 1).toNatClampNeg).toNatClampNeg (((wF A 82 (A 81 0).toNatClampNeg ((A 82 (A 81 0).toNatClampNeg) + x2)) 82 (A 81 ((F 68 28) - 1).toNatClampNeg).toNatClampNeg) + x3)), J, G) (KK (d + 6) 280 47 [.ref 68, .int x1, .int x2, .int x3, .int (A 81 0), .int (A 81 ((F 68 28) - 1).toNatClampNeg), .null] [] Q))) : X (d + 6) 280 0 [.ref 68, .int x1, .int x2, .int x3, .null, .null, .null] [] (F, A, J, G) Q := by
  refine Y_al0 i_280_0 ?_
  refine Y_gR i_280_1 ow_280 lf_10_70 (k_68 hG) (r_68_23 hG) ?_
  refine Y_iconst (v := 0) i_280_4 (by decide) ?_
  refine Y_iaload (k := 0) (v := (A 81 0)) i_280_5 (k_81 hG) (l_81 hG) (by decide) (by decide) rfl ?_
  refine Y_is4 i_280_6 rfl ?_
  refine Y_al0 i_280_8 ?_
  refine Y_gR i_280_9 ow_280 lf_10_70 (k_68 hG) (r_68_23 hG) ?_
  refine Y_al0 i_280_12 ?_
  refine Y_gI (v := (F 68 28)) i_280_13 ow_280 lf_10_150 (by decide) (k_68 hG) rfl ?_
  refine Y_iconst (v := 1) i_280_16 (by decide) ?_
  refine Y_isub i_280_17 ?_
  have o1 := h.1
  replace h := h.2
  refine Y_iaload (k := ((F 68 28) - 1).toNatClampNeg) (v := (A 81 ((F 68 28) - 1).toNatClampNeg)) i_280_18 (k_81 hG) (l_81 hG) o1 rfl rfl ?_
  refine Y_is5 i_280_19 rfl ?_
  refine Y_al0 i_280_21 ?_
  refine Y_gR i_280_22 ow_280 lf_10_73 (k_68 hG) (r_68_24 hG) ?_
  refine Y_il4 i_280_25 ?_
  refine Y_dup2 i_280_27 rfl rfl ?_
  have o2 := h.1
  replace h := h.2
  refine Y_iaload (k := (A 81 0).toNatClampNeg) (v := (A 82 (A 81 0).toNatClampNeg)) i_280_28 (k_82 hG) (l_82 hG) o2 rfl rfl ?_
  refine Y_il2 i_280_29 ?_
  refine Y_iadd i_280_30 ?_
  refine Y_iast i_280_31 (k_82 hG) (l_82 hG) o2 rfl ?_
  refine Y_al0 i_280_32 ?_
  refine Y_gR i_280_33 ow_280 lf_10_73 (k_68 hG) (r_68_24 hG) ?_
  refine Y_il5 i_280_36 ?_
  refine Y_dup2 i_280_38 rfl rfl ?_
  have o3 := h.1
  replace h := h.2
  refine Y_iaload (k := (A 81 ((F 68 28) - 1).toNatClampNeg).toNatClampNeg) (v := ((wF A 82 (A 81 0).toNatClampNeg ((A 82 (A 81 0).toNatClampNeg) + x2)) 82 (A 81 ((F 68 28) - 1).toNatClampNeg).toNatClampNeg)) i_280_39 (k_82 hG) (l_82 hG) o3 rfl rfl ?_
  refine Y_il3 i_280_40 ?_
  refine Y_iadd i_280_41 ?_
  refine Y_iast i_280_42 (k_82 hG) (l_82 hG) o3 rfl ?_
  refine Y_al0 i_280_43 ?_
  exact Y_iv0 (L0 := [.ref 68]) i_280_44 ow_280 lm_10_326 ((k_68 hG).trans ow_218.symm) rfl mx_218 rfl rfl hd_280 h
theorem k_280_47 {d : Nat} {F A : Nat → Nat → Int32} {J : Nat → Nat → Int64} {G : pG} {Q : pR → pM → Prop} {SL p q : Nat} {x1 x2 x3 x4 x5 r r : Int32} (hG : Geo G SL p q) (h : inB x4 10 = true ∧ inB x5 10 = true ∧ ((r = 0 → Q (.inl (some (.int (x1 - 20)))) (F, (wF (wF A 82 x4.toNatClampNeg ((A 82 x4.toNatClampNeg) - x2)) 82 x5.toNatClampNeg (((wF A 82 x4.toNatClampNeg ((A 82 x4.toNatClampNeg) - x2)) 82 x5.toNatClampNeg) - x3)), J, G)) ∧ (¬ r = 0 → Q (.inl (some (.int x1))) (F, (wF (wF A 82 x4.toNatClampNeg ((A 82 x4.toNatClampNeg) - x2)) 82 x5.toNatClampNeg (((wF A 82 x4.toNatClampNeg ((A 82 x4.toNatClampNeg) - x2)) 82 x5.toNatClampNeg) - x3)), J, G)))) : KK (d + 6) 280 47 [.ref 68, .int x1, .int x2, .int x3, .int x4, .int x5, .null] [] Q (.inl (some (.int r))) (F, A, J, G) := by
  refine KKi ?_
  refine Y_is6 i_280_47 rfl ?_
  refine Y_al0 i_280_49 ?_
  refine Y_gR i_280_50 ow_280 lf_10_73 (k_68 hG) (r_68_24 hG) ?_
  refine Y_il4 i_280_53 ?_
  refine Y_dup2 i_280_55 rfl rfl ?_
  have o1 := h.1
  replace h := h.2
  refine Y_iaload (k := x4.toNatClampNeg) (v := (A 82 x4.toNatClampNeg)) i_280_56 (k_82 hG) (l_82 hG) o1 rfl rfl ?_
  refine Y_il2 i_280_57 ?_
  refine Y_isub i_280_58 ?_
  refine Y_iast i_280_59 (k_82 hG) (l_82 hG) o1 rfl ?_
  refine Y_al0 i_280_60 ?_
  refine Y_gR i_280_61 ow_280 lf_10_73 (k_68 hG) (r_68_24 hG) ?_
  refine Y_il5 i_280_64 ?_
  refine Y_dup2 i_280_66 rfl rfl ?_
  have o2 := h.1
  replace h := h.2
  refine Y_iaload (k := x5.toNatClampNeg) (v := ((wF A 82 x4.toNatClampNeg ((A 82 x4.toNatClampNeg) - x2)) 82 x5.toNatClampNeg)) i_280_67 (k_82 hG) (l_82 hG) o2 rfl rfl ?_
  refine Y_il3 i_280_68 ?_
  refine Y_isub i_280_69 ?_
  refine Y_iast i_280_70 (k_82 hG) (l_82 hG) o2 rfl ?_
  refine Y_il6 i_280_71 ?_
  refine Y_zeq i_280_73 (fun e3 => ?_) (fun e3 => ?_)
  · replace h := h.1 e3
    refine Y_il1 i_280_80 ?_
    refine Y_bipush (v := 20) i_280_81 (by decide) ?_
    refine Y_isub i_280_83 ?_
    exact Y_iret i_280_84 rt_280 h
  · replace h := h.2 e3
    refine Y_il1 i_280_76 ?_
    refine Y_goto i_280_77 ?_
    exact Y_iret i_280_84 rt_280 h
/- 281 Model.rests(II)Z -/
theorem t_281_0 {d : Nat} {F A : Nat → Nat → Int32} {J : Nat → Nat → Int64} {G : pG} {Q : pR → pM → Prop} {SL p q : Nat} {x1 x2 : Int32} (hG : Geo G SL p q) (h : X (d + 7) 281 2 [.ref 68, .int x1, .int x2, .int 0] [] (F, A, J, G) Q) : X (d + 7) 281 0 [.ref 68, .int x1, .int x2, .null] [] (F, A, J, G) Q := by
  refine Y_iconst (v := 0) i_281_0 (by decide) ?_
  refine Y_is3 i_281_1 rfl ?_
  exact h
theorem t_281_2 {d : Nat} {F A : Nat → Nat → Int32} {J : Nat → Nat → Int64} {G : pG} {Q : pR → pM → Prop} {SL p q : Nat} {x1 x2 x3 : Int32} (hG : Geo G SL p q) (h : ((x3 < 10 → X (d + 6) 280 0 [.ref 68, .int x3, .int x3, .int x2, .null, .null, .null] [] (F, A, J, G) (KK (d + 7) 281 15 [.ref 68, .int x1, .int x2, .int x3] [] Q)) ∧ (¬ x3 < 10 → Q (.inl (some (.int 1))) (F, A, J, G)))) : X (d + 7) 281 2 [.ref 68, .int x1, .int x2, .int x3] [] (F, A, J, G) Q := by
  refine Y_il3 i_281_2 ?_
  refine Y_bipush (v := 10) i_281_3 (by decide) ?_
  refine Y_cge i_281_5 (fun e1 => ?_) (fun e1 => ?_)
  · replace h := h.1 e1
    refine Y_al0 i_281_8 ?_
    refine Y_il3 i_281_9 ?_
    refine Y_il3 i_281_10 ?_
    refine Y_il2 i_281_11 ?_
    exact Y_iv3 (L0 := [.ref 68, .int x3, .int x3, .int x2, .null, .null, .null]) i_281_12 ow_281 lm_10_456 ((k_68 hG).trans ow_280.symm) rfl mx_280 rfl rfl hd_281 h
  · replace h := h.2 e1
    refine Y_iconst (v := 1) i_281_50 (by decide) ?_
    exact Y_bret i_281_51 rt_281 (by decide) h
theorem k_281_15 {d : Nat} {F A : Nat → Nat → Int32} {J : Nat → Nat → Int64} {G : pG} {Q : pR → pM → Prop} {SL p q : Nat} {x1 x2 x3 r r : Int32} (hG : Geo G SL p q) (h : X (d + 6) 280 0 [.ref 68, .int x1, .int x1, .int x2, .null, .null, .null] [] (F, A, J, G) (KK (d + 7) 281 22 [.ref 68, .int x1, .int x2, .int x3] [.int r] Q)) : KK (d + 7) 281 15 [.ref 68, .int x1, .int x2, .int x3] [] Q (.inl (some (.int r))) (F, A, J, G) := by
  refine KKi ?_
  refine Y_al0 i_281_15 ?_
  refine Y_il1 i_281_16 ?_
  refine Y_il1 i_281_17 ?_
  refine Y_il2 i_281_18 ?_
  exact Y_iv3 (L0 := [.ref 68, .int x1, .int x1, .int x2, .null, .null, .null]) i_281_19 ow_281 lm_10_456 ((k_68 hG).trans ow_280.symm) rfl mx_280 rfl rfl hd_281 h
theorem k_281_22 {d : Nat} {F A : Nat → Nat → Int32} {J : Nat → Nat → Int64} {G : pG} {Q : pR → pM → Prop} {SL p q : Nat} {x1 x2 x3 r s0 r : Int32} (hG : Geo G SL p q) (h : ((r < s0 → Q (.inl (some (.int 0))) (F, A, J, G)) ∧ (¬ r < s0 → X (d + 6) 280 0 [.ref 68, .int x3, .int x1, .int x3, .null, .null, .null] [] (F, A, J, G) (KK (d + 7) 281 32 [.ref 68, .int x1, .int x2, .int x3] [] Q)))) : KK (d + 7) 281 22 [.ref 68, .int x1, .int x2, .int x3] [.int s0] Q (.inl (some (.int r))) (F, A, J, G) := by
  refine KKi ?_
  refine Y_cgt i_281_22 (fun e1 => ?_) (fun e1 => ?_)
  · replace h := h.1 e1
    refine Y_iconst (v := 0) i_281_42 (by decide) ?_
    exact Y_bret i_281_43 rt_281 (by decide) h
  · replace h := h.2 e1
    refine Y_al0 i_281_25 ?_
    refine Y_il3 i_281_26 ?_
    refine Y_il1 i_281_27 ?_
    refine Y_il3 i_281_28 ?_
    exact Y_iv3 (L0 := [.ref 68, .int x3, .int x1, .int x3, .null, .null, .null]) i_281_29 ow_281 lm_10_456 ((k_68 hG).trans ow_280.symm) rfl mx_280 rfl rfl hd_281 h
theorem k_281_32 {d : Nat} {F A : Nat → Nat → Int32} {J : Nat → Nat → Int64} {G : pG} {Q : pR → pM → Prop} {SL p q : Nat} {x1 x2 x3 r r : Int32} (hG : Geo G SL p q) (h : X (d + 6) 280 0 [.ref 68, .int x2, .int x1, .int x2, .null, .null, .null] [] (F, A, J, G) (KK (d + 7) 281 39 [.ref 68, .int x1, .int x2, .int x3] [.int r] Q)) : KK (d + 7) 281 32 [.ref 68, .int x1, .int x2, .int x3] [] Q (.inl (some (.int r))) (F, A, J, G) := by
  refine KKi ?_
  refine Y_al0 i_281_32 ?_
  refine Y_il2 i_281_33 ?_
  refine Y_il1 i_281_34 ?_
  refine Y_il2 i_281_35 ?_
  exact Y_iv3 (L0 := [.ref 68, .int x2, .int x1, .int x2, .null, .null, .null]) i_281_36 ow_281 lm_10_456 ((k_68 hG).trans ow_280.symm) rfl mx_280 rfl rfl hd_281 h
theorem k_281_39 {d : Nat} {F A : Nat → Nat → Int32} {J : Nat → Nat → Int64} {G : pG} {Q : pR → pM → Prop} {SL p q : Nat} {x1 x2 x3 r s0 r : Int32} (hG : Geo G SL p q) (h : ((r < s0 → Q (.inl (some (.int 0))) (F, A, J, G)) ∧ (¬ r < s0 → X (d + 7) 281 2 [.ref 68, .int x1, .int x2, .int (x3 + 1)] [] (F, A, J, G) Q))) : KK (d + 7) 281 39 [.ref 68, .int x1, .int x2, .int x3] [.int s0] Q (.inl (some (.int r))) (F, A, J, G) := by
  refine KKi ?_
  refine Y_cle i_281_39 (fun e1 => ?_) (fun e1 => ?_)
  · replace h := h.1 e1
    refine Y_iconst (v := 0) i_281_42 (by decide) ?_
    exact Y_bret i_281_43 rt_281 (by decide) h
  · replace h := h.2 e1
    refine Y_ii3 (v := 1) i_281_44 (by decide) rfl ?_
    refine Y_goto i_281_47 ?_
    exact h
/- 282 Model.game(I)I -/
theorem t_282_0 {d : Nat} {F A : Nat → Nat → Int32} {J : Nat → Nat → Int64} {G : pG} {Q : pR → pM → Prop} {SL p q : Nat} {x1 : Int32} (hG : Geo G SL p q) (h : ((x1 < 0 → Q (.inl (some (.int 0))) ((wF (wF F 68 3 0) 68 3 1), A, J, G)) ∧ (¬ x1 < 0 → ((1 < x1 → Q (.inl (some (.int 0))) ((wF (wF F 68 3 0) 68 3 1), A, J, G)) ∧ (¬ 1 < x1 → X (d + 8) 282 27 [.ref 68, .int x1, .int 0, .int (-1), .int 0] [] ((wF F 68 3 0), A, J, G) Q))))) : X (d + 8) 282 0 [.ref 68, .int x1, .null, .null, .null] [] (F, A, J, G) Q := by
  refine Y_al0 i_282_0 ?_
  refine Y_iconst (v := 0) i_282_1 (by decide) ?_
  refine Y_pI i_282_2 ow_282 lf_10_143 (k_68 hG) ?_
  refine Y_il1 i_282_5 ?_
  refine Y_zlt i_282_6 (fun e1 => ?_) (fun e1 => ?_)
  · replace h := h.1 e1
    refine Y_al0 i_282_14 ?_
    refine Y_iconst (v := 1) i_282_15 (by decide) ?_
    refine Y_iv1 (L0 := [.ref 68, .int 1]) i_282_16 ow_282 lm_10_269 ((k_68 hG).trans ow_176.symm) rfl mx_176 rfl rfl hd_282 ?_
    refine Y_al0 i_176_0 ?_
    refine Y_il1 i_176_1 ?_
    refine Y_pI i_176_2 ow_176 lf_10_143 (k_68 hG) ?_
    refine Y_iconst (v := 0) i_176_5 (by decide) ?_
    refine Y_iret i_176_6 rt_176 (KKi ?_)
    exact Y_iret i_282_19 rt_282 h
  · replace h := h.2 e1
    refine Y_il1 i_282_9 ?_
    refine Y_iconst (v := 1) i_282_10 (by decide) ?_
    refine Y_cle i_282_11 (fun e2 => ?_) (fun e2 => ?_)
    · replace h := h.1 e2
      refine Y_al0 i_282_14 ?_
      refine Y_iconst (v := 1) i_282_15 (by decide) ?_
      refine Y_iv1 (L0 := [.ref 68, .int 1]) i_282_16 ow_282 lm_10_269 ((k_68 hG).trans ow_176.symm) rfl mx_176 rfl rfl hd_282 ?_
      refine Y_al0 i_176_0 ?_
      refine Y_il1 i_176_1 ?_
      refine Y_pI i_176_2 ow_176 lf_10_143 (k_68 hG) ?_
      refine Y_iconst (v := 0) i_176_5 (by decide) ?_
      refine Y_iret i_176_6 rt_176 (KKi ?_)
      exact Y_iret i_282_19 rt_282 h
    · replace h := h.2 e2
      refine Y_iconst (v := 0) i_282_20 (by decide) ?_
      refine Y_is2 i_282_21 rfl ?_
      refine Y_iconst (v := (-1)) i_282_22 (by decide) ?_
      refine Y_is3 i_282_23 rfl ?_
      refine Y_iconst (v := 0) i_282_24 (by decide) ?_
      refine Y_is4 i_282_25 rfl ?_
      exact h
theorem t_282_27 {d : Nat} {F A : Nat → Nat → Int32} {J : Nat → Nat → Int64} {G : pG} {Q : pR → pM → Prop} {SL p q : Nat} {x1 x2 x3 x4 : Int32} (hG : Geo G SL p q) (h : ((x4 < 100 → ((1 < (F 68 28) → X (d + 7) 281 0 [.ref 68, .int (x4 / 10), .int (jrem x4 10), .null] [] (F, A, J, G) (KK (d + 8) 282 56 [.ref 68, .int x1, .int x2, .int x3, .int x4] [] Q)) ∧ (¬ 1 < (F 68 28) → ((x1 = 0 → Q (.inl (some (.int x2))) (F, A, J, G)) ∧ (¬ x1 = 0 → Q (.inl (some (.int x3))) (F, A, J, G)))))) ∧ (¬ x4 < 100 → ((x1 = 0 → Q (.inl (some (.int x2))) (F, A, J, G)) ∧ (¬ x1 = 0 → Q (.inl (some (.int x3))) (F, A, J, G)))))) : X (d + 8) 282 27 [.ref 68, .int x1, .int x2, .int x3, .int x4] [] (F, A, J, G) Q := by
  refine Y_il4 i_282_27 ?_
  refine Y_bipush (v := 100) i_282_29 (by decide) ?_
  refine Y_cge i_282_31 (fun e1 => ?_) (fun e1 => ?_)
  · replace h := h.1 e1
    refine Y_al0 i_282_34 ?_
    refine Y_gI (v := (F 68 28)) i_282_35 ow_282 lf_10_150 (by decide) (k_68 hG) rfl ?_
    refine Y_iconst (v := 1) i_282_38 (by decide) ?_
    refine Y_cle i_282_39 (fun e2 => ?_) (fun e2 => ?_)
    · replace h := h.1 e2
      refine Y_al0 i_282_42 ?_
      refine Y_il4 i_282_43 ?_
      refine Y_bipush (v := 10) i_282_45 (by decide) ?_
      refine Y_idiv i_282_47 (by decide) ?_
      refine Y_il4 i_282_48 ?_
      refine Y_bipush (v := 10) i_282_50 (by decide) ?_
      refine Y_irem i_282_52 (by decide) ?_
      exact Y_iv2 (L0 := [.ref 68, .int (x4 / 10), .int (jrem x4 10), .null]) i_282_53 ow_282 lm_10_459 ((k_68 hG).trans ow_281.symm) rfl mx_281 rfl rfl hd_282 h
    · replace h := h.2 e2
      refine Y_il1 i_282_83 ?_
      refine Y_zne i_282_84 (fun e3 => ?_) (fun e3 => ?_)
      · replace h := h.1 e3
        refine Y_il2 i_282_87 ?_
        refine Y_goto i_282_88 ?_
        exact Y_iret i_282_92 rt_282 h
      · replace h := h.2 e3
        refine Y_il3 i_282_91 ?_
        exact Y_iret i_282_92 rt_282 h
  · replace h := h.2 e1
    refine Y_il1 i_282_83 ?_
    refine Y_zne i_282_84 (fun e4 => ?_) (fun e4 => ?_)
    · replace h := h.1 e4
      refine Y_il2 i_282_87 ?_
      refine Y_goto i_282_88 ?_
      exact Y_iret i_282_92 rt_282 h
    · replace h := h.2 e4
      refine Y_il3 i_282_91 ?_
      exact Y_iret i_282_92 rt_282 h
theorem k_282_56 {d : Nat} {F A : Nat → Nat → Int32} {J : Nat → Nat → Int64} {G : pG} {Q : pR → pM → Prop} {SL p q : Nat} {x1 x2 x3 x4 r r : Int32} (hG : Geo G SL p q) (h : ((r = 0 → X (d + 8) 282 27 [.ref 68, .int x1, .int x2, .int x3, .int (x4 + 1)] [] (F, A, J, G) Q) ∧ (¬ r = 0 → ((x3 = (-1) → X (d + 8) 282 27 [.ref 68, .int x1, .int (x2 + 1), .int x4, .int (x4 + 1)] [] (F, A, J, G) Q) ∧ (¬ x3 = (-1) → X (d + 8) 282 27 [.ref 68, .int x1, .int (x2 + 1), .int x3, .int (x4 + 1)] [] (F, A, J, G) Q))))) : KK (d + 8) 282 56 [.ref 68, .int x1, .int x2, .int x3, .int x4] [] Q (.inl (some (.int r))) (F, A, J, G) := by
  refine KKi ?_
  refine Y_zne i_282_56 (fun e1 => ?_) (fun e1 => ?_)
  · replace h := h.1 e1
    refine Y_goto i_282_59 ?_
    refine Y_ii4 (v := 1) i_282_77 (by decide) rfl ?_
    refine Y_goto i_282_80 ?_
    exact h
  · replace h := h.2 e1
    refine Y_ii2 (v := 1) i_282_62 (by decide) rfl ?_
    refine Y_il3 i_282_65 ?_
    refine Y_iconst (v := (-1)) i_282_66 (by decide) ?_
    refine Y_cne i_282_67 (fun e2 => ?_) (fun e2 => ?_)
    · replace h := h.1 e2
      refine Y_il4 i_282_70 ?_
      refine Y_goto i_282_72 ?_
      refine Y_is3 i_282_76 rfl ?_
      refine Y_ii4 (v := 1) i_282_77 (by decide) rfl ?_
      refine Y_goto i_282_80 ?_
      exact h
    · replace h := h.2 e2
      refine Y_il3 i_282_75 ?_
      refine Y_is3 i_282_76 rfl ?_
      refine Y_ii4 (v := 1) i_282_77 (by decide) rfl ?_
      refine Y_goto i_282_80 ?_
      exact h
/- 283 Model.drawOf(I)I -/
theorem t_283_0 {d : Nat} {F A : Nat → Nat → Int32} {J : Nat → Nat → Int64} {G : pG} {Q : pR → pM → Prop} {SL p q : Nat} {x1 : Int32} (hG : Geo G SL p q) (h : ¬ x1 = 0 ∧ (Q (.inl (some (.int (jrem (((((F 68 49) * 1103515245) + 12345) >>> (16 &&& 31)) &&& 32767) x1)))) ((wF F 68 49 (((F 68 49) * 1103515245) + 12345)), A, J, G))) : X d 283 0 [.ref 68, .int x1] [] (F, A, J, G) Q := by
  refine Y_al0 i_283_0 ?_
  refine Y_al0 i_283_1 ?_
  refine Y_gI (v := (F 68 49)) i_283_2 ow_283 lf_10_462 (by decide) (k_68 hG) rfl ?_
  refine Y_ldcIw i_283_5 ow_283 li_10_465 ?_
  refine Y_imul i_283_8 ?_
  refine Y_sipush (v := 12345) i_283_9 (by decide) ?_
  refine Y_iadd i_283_12 ?_
  refine Y_pI i_283_13 ow_283 lf_10_462 (k_68 hG) ?_
  refine Y_al0 i_283_16 ?_
  refine Y_gI (v := (((F 68 49) * 1103515245) + 12345)) i_283_17 ow_283 lf_10_462 (by decide) (k_68 hG) (by simp [wF, wJ, va_up, cpR, bF, bA]) ?_
  refine Y_bipush (v := 16) i_283_20 (by decide) ?_
  refine Y_ishr i_283_22 ?_
  refine Y_sipush (v := 32767) i_283_23 (by decide) ?_
  refine Y_iand i_283_26 ?_
  refine Y_il1 i_283_27 ?_
  have o1 := h.1
  replace h := h.2
  refine Y_irem i_283_28 o1 ?_
  exact Y_iret i_283_29 rt_283 h
/- 284 Model.aYear()V -/
theorem t_284_0 {d : Nat} {F A : Nat → Nat → Int32} {J : Nat → Nat → Int64} {G : pG} {Q : pR → pM → Prop} {SL p q : Nat} (hG : Geo G SL p q) (h : (((A 72 0) = 0 → Q (.inl none) ((wF F 68 29 ((F 68 29) + 1)), A, J, G)) ∧ (¬ (A 72 0) = 0 → X d 283 0 [.ref 68, .int (A 72 0)] [] ((wF F 68 29 ((F 68 29) + 1)), A, J, G) (KK (d + 1) 284 30 [.ref 68, .null, .null] [] Q)))) : X (d + 1) 284 0 [.ref 68, .null, .null] [] (F, A, J, G) Q := by
  refine Y_al0 i_284_0 ?_
  refine Y_dup i_284_1 rfl ?_
  refine Y_gI (v := (F 68 29)) i_284_2 ow_284 lf_10_282 (by decide) (k_68 hG) rfl ?_
  refine Y_iconst (v := 1) i_284_5 (by decide) ?_
  refine Y_iadd i_284_6 ?_
  refine Y_pI i_284_7 ow_284 lf_10_282 (k_68 hG) ?_
  refine Y_al0 i_284_10 ?_
  refine Y_gR i_284_11 ow_284 lf_10_42 (k_68 hG) (r_68_4 hG) ?_
  refine Y_iconst (v := 0) i_284_14 (by decide) ?_
  refine Y_iaload (k := 0) (v := (A 72 0)) i_284_15 (k_72 hG) (l_72 hG) (by decide) (by decide) rfl ?_
  refine Y_zne i_284_16 (fun e1 => ?_) (fun e1 => ?_)
  · replace h := h.1 e1
    exact Y_vret i_284_19 rt_284 h
  · replace h := h.2 e1
    refine Y_al0 i_284_20 ?_
    refine Y_al0 i_284_21 ?_
    refine Y_gR i_284_22 ow_284 lf_10_42 (k_68 hG) (r_68_4 hG) ?_
    refine Y_iconst (v := 0) i_284_25 (by decide) ?_
    refine Y_iaload (k := 0) (v := (A 72 0)) i_284_26 (k_72 hG) (l_72 hG) (by decide) (by decide) rfl ?_
    exact Y_iv1 (L0 := [.ref 68, .int (A 72 0)]) i_284_27 ow_284 lm_10_466 ((k_68 hG).trans ow_283.symm) rfl mx_283 rfl rfl hd_284 h
theorem k_284_30 {d : Nat} {F A : Nat → Nat → Int32} {J : Nat → Nat → Int64} {G : pG} {Q : pR → pM → Prop} {SL p q : Nat} {r r : Int32} (hG : Geo G SL p q) (h : X d 283 0 [.ref 68, .int 5] [] (F, A, J, G) (KK (d + 1) 284 36 [.ref 68, .int r, .null] [] Q)) : KK (d + 1) 284 30 [.ref 68, .null, .null] [] Q (.inl (some (.int r))) (F, A, J, G) := by
  refine KKi ?_
  refine Y_is1 i_284_30 rfl ?_
  refine Y_al0 i_284_31 ?_
  refine Y_iconst (v := 5) i_284_32 (by decide) ?_
  exact Y_iv1 (L0 := [.ref 68, .int 5]) i_284_33 ow_284 lm_10_466 ((k_68 hG).trans ow_283.symm) rfl mx_283 rfl rfl hd_284 h
theorem k_284_36 {d : Nat} {F A : Nat → Nat → Int32} {J : Nat → Nat → Int64} {G : pG} {Q : pR → pM → Prop} {SL p q : Nat} {x1 r r : Int32} (hG : Geo G SL p q) (h : ((r = 0 → inB x1 10 = true ∧ ((r = 1 → ((r = 2 → hB (F 68 28) = true ∧ (((lvI (A 81) (F 68 28) x1) = (-1) → Q (.inl none) (F, (wF (wF A 84 x1.toNatClampNeg (jmin 9 ((A 84 x1.toNatClampNeg) + 1))) 84 x1.toNatClampNeg (jmax (-9) (((wF A 84 x1.toNatClampNeg (jmin 9 ((A 84 x1.toNatClampNeg) + 1))) 84 x1.toNatClampNeg) - 1))), J, G)) ∧ (¬ (lvI (A 81) (F 68 28) x1) = (-1) → inB x1 20 = true ∧ (Q (.inl none) (F, (wF (wF (wF A 84 x1.toNatClampNeg (jmin 9 ((A 84 x1.toNatClampNeg) + 1))) 84 x1.toNatClampNeg (jmax (-9) (((wF A 84 x1.toNatClampNeg (jmin 9 ((A 84 x1.toNatClampNeg) + 1))) 84 x1.toNatClampNeg) - 1))) 82 x1.toNatClampNeg ((A 82 x1.toNatClampNeg) + (A 77 x1.toNatClampNeg))), J, G))))) ∧ (¬ r = 2 → Q (.inl none) (F, (wF (wF A 84 x1.toNatClampNeg (jmin 9 ((A 84 x1.toNatClampNeg) + 1))) 84 x1.toNatClampNeg (jmax (-9) (((wF A 84 x1.toNatClampNeg (jmin 9 ((A 84 x1.toNatClampNeg) + 1))) 84 x1.toNatClampNeg) - 1))), J, G)))) ∧ (¬ r = 1 → ((r = 2 → hB (F 68 28) = true ∧ (((lvI (A 81) (F 68 28) x1) = (-1) → Q (.inl none) (F, (wF A 84 x1.toNatClampNeg (jmin 9 ((A 84 x1.toNatClampNeg) + 1))), J, G)) ∧ (¬ (lvI (A 81) (F 68 28) x1) = (-1) → inB x1 20 = true ∧ (Q (.inl none) (F, (wF (wF A 84 x1.toNatClampNeg (jmin 9 ((A 84 x1.toNatClampNeg) + 1))) 82 x1.toNatClampNeg ((A 82 x1.toNatClampNeg) + (A 77 x1.toNatClampNeg))), J, G))))) ∧ (¬ r = 2 → Q (.inl none) (F, (wF A 84 x1.toNatClampNeg (jmin 9 ((A 84 x1.toNatClampNeg) + 1))), J, G)))))) ∧ (¬ r = 0 → ((r = 1 → inB x1 10 = true ∧ ((r = 2 → hB (F 68 28) = true ∧ (((lvI (A 81) (F 68 28) x1) = (-1) → Q (.inl none) (F, (wF A 84 x1.toNatClampNeg (jmax (-9) ((A 84 x1.toNatClampNeg) - 1))), J, G)) ∧ (¬ (lvI (A 81) (F 68 28) x1) = (-1) → inB x1 20 = true ∧ (Q (.inl none) (F, (wF (wF A 84 x1.toNatClampNeg (jmax (-9) ((A 84 x1.toNatClampNeg) - 1))) 82 x1.toNatClampNeg ((A 82 x1.toNatClampNeg) + (A 77 x1.toNatClampNeg))), J, G))))) ∧ (¬ r = 2 → Q (.inl none) (F, (wF A 84 x1.toNatClampNeg (jmax (-9) ((A 84 x1.toNatClampNeg) - 1))), J, G)))) ∧ (¬ r = 1 → ((r = 2 → hB (F 68 28) = true ∧ (((lvI (A 81) (F 68 28) x1) = (-1) → Q (.inl none) (F, A, J, G)) ∧ (¬ (lvI (A 81) (F 68 28) x1) = (-1) → inB x1 10 = true ∧ inB x1 20 = true ∧ (Q (.inl none) (F, (wF A 82 x1.toNatClampNeg ((A 82 x1.toNatClampNeg) + (A 77 x1.toNatClampNeg))), J, G))))) ∧ (¬ r = 2 → Q (.inl none) (F, A, J, G)))))))) : KK (d + 1) 284 36 [.ref 68, .int x1, .null] [] Q (.inl (some (.int r))) (F, A, J, G) := by
  refine KKi ?_
  refine Y_is2 i_284_36 rfl ?_
  refine Y_il2 i_284_37 ?_
  refine Y_zne i_284_38 (fun e1 => ?_) (fun e1 => ?_)
  · replace h := h.1 e1
    refine Y_al0 i_284_41 ?_
    refine Y_gR i_284_42 ow_284 lf_10_79 (k_68 hG) (r_68_26 hG) ?_
    refine Y_il1 i_284_45 ?_
    refine Y_bipush (v := 9) i_284_46 (by decide) ?_
    refine Y_al0 i_284_48 ?_
    refine Y_gR i_284_49 ow_284 lf_10_79 (k_68 hG) (r_68_26 hG) ?_
    refine Y_il1 i_284_52 ?_
    have o2 := h.1
    replace h := h.2
    refine Y_iaload (k := x1.toNatClampNeg) (v := (A 84 x1.toNatClampNeg)) i_284_53 (k_84 hG) (l_84 hG) o2 rfl rfl ?_
    refine Y_iconst (v := 1) i_284_54 (by decide) ?_
    refine Y_iadd i_284_55 ?_
    refine Y_min i_284_56 ow_284 lm_10_183 rfl ?_
    refine Y_iast i_284_59 (k_84 hG) (l_84 hG) o2 rfl ?_
    refine Y_il2 i_284_60 ?_
    refine Y_iconst (v := 1) i_284_61 (by decide) ?_
    refine Y_cne i_284_62 (fun e3 => ?_) (fun e3 => ?_)
    · replace h := h.1 e3
      refine Y_al0 i_284_65 ?_
      refine Y_gR i_284_66 ow_284 lf_10_79 (k_68 hG) (r_68_26 hG) ?_
      refine Y_il1 i_284_69 ?_
      refine Y_bipush (v := (-9)) i_284_70 (by decide) ?_
      refine Y_al0 i_284_72 ?_
      refine Y_gR i_284_73 ow_284 lf_10_79 (k_68 hG) (r_68_26 hG) ?_
      refine Y_il1 i_284_76 ?_
      refine Y_iaload (k := x1.toNatClampNeg) (v := ((wF A 84 x1.toNatClampNeg (jmin 9 ((A 84 x1.toNatClampNeg) + 1))) 84 x1.toNatClampNeg)) i_284_77 (k_84 hG) (l_84 hG) o2 rfl rfl ?_
      refine Y_iconst (v := 1) i_284_78 (by decide) ?_
      refine Y_isub i_284_79 ?_
      refine Y_max i_284_80 ow_284 lm_10_298 rfl ?_
      refine Y_iast i_284_83 (k_84 hG) (l_84 hG) o2 rfl ?_
      refine Y_il2 i_284_84 ?_
      refine Y_iconst (v := 2) i_284_85 (by decide) ?_
      refine Y_cne i_284_86 (fun e4 => ?_) (fun e4 => ?_)
      · replace h := h.1 e4
        refine Y_al0 i_284_89 ?_
        refine Y_il1 i_284_90 ?_
        have o5 := h.1
        replace h := h.2
        refine Y_iv1 (L0 := [.ref 68, .int x1, .null]) i_284_91 ow_284 lm_10_336 ((k_68 hG).trans ow_209.symm) rfl mx_209 rfl rfl hd_284 ?_
        refine c_209 hG o5 (KKi' (v' := (lvI (A 81) (F 68 28) x1)) (by simp [wF, wJ, va_up, cpR, bF, bA]) ?_)
        refine Y_iconst (v := (-1)) i_284_94 (by decide) ?_
        refine Y_ceq i_284_95 (fun e6 => ?_) (fun e6 => ?_)
        · replace h := h.1 e6
          exact Y_vret i_284_113 rt_284 h
        · replace h := h.2 e6
          refine Y_al0 i_284_98 ?_
          refine Y_gR i_284_99 ow_284 lf_10_73 (k_68 hG) (r_68_24 hG) ?_
          refine Y_il1 i_284_102 ?_
          refine Y_dup2 i_284_103 rfl rfl ?_
          refine Y_iaload (k := x1.toNatClampNeg) (v := (A 82 x1.toNatClampNeg)) i_284_104 (k_82 hG) (l_82 hG) o2 rfl (by simp [wF, wJ, va_up, cpR, bF, bA]) ?_
          refine Y_al0 i_284_105 ?_
          refine Y_gR i_284_106 ow_284 lf_10_55 (k_68 hG) (r_68_9 hG) ?_
          refine Y_il1 i_284_109 ?_
          have o7 := h.1
          replace h := h.2
          refine Y_iaload (k := x1.toNatClampNeg) (v := (A 77 x1.toNatClampNeg)) i_284_110 (k_77 hG) (l_77 hG) o7 rfl (by simp [wF, wJ, va_up, cpR, bF, bA]) ?_
          refine Y_iadd i_284_111 ?_
          refine Y_iast i_284_112 (k_82 hG) (l_82 hG) o2 rfl ?_
          exact Y_vret i_284_113 rt_284 h
      · replace h := h.2 e4
        exact Y_vret i_284_113 rt_284 h
    · replace h := h.2 e3
      refine Y_il2 i_284_84 ?_
      refine Y_iconst (v := 2) i_284_85 (by decide) ?_
      refine Y_cne i_284_86 (fun e8 => ?_) (fun e8 => ?_)
      · replace h := h.1 e8
        refine Y_al0 i_284_89 ?_
        refine Y_il1 i_284_90 ?_
        have o9 := h.1
        replace h := h.2
        refine Y_iv1 (L0 := [.ref 68, .int x1, .null]) i_284_91 ow_284 lm_10_336 ((k_68 hG).trans ow_209.symm) rfl mx_209 rfl rfl hd_284 ?_
        refine c_209 hG o9 (KKi' (v' := (lvI (A 81) (F 68 28) x1)) (by simp [wF, wJ, va_up, cpR, bF, bA]) ?_)
        refine Y_iconst (v := (-1)) i_284_94 (by decide) ?_
        refine Y_ceq i_284_95 (fun e10 => ?_) (fun e10 => ?_)
        · replace h := h.1 e10
          exact Y_vret i_284_113 rt_284 h
        · replace h := h.2 e10
          refine Y_al0 i_284_98 ?_
          refine Y_gR i_284_99 ow_284 lf_10_73 (k_68 hG) (r_68_24 hG) ?_
          refine Y_il1 i_284_102 ?_
          refine Y_dup2 i_284_103 rfl rfl ?_
          refine Y_iaload (k := x1.toNatClampNeg) (v := (A 82 x1.toNatClampNeg)) i_284_104 (k_82 hG) (l_82 hG) o2 rfl (by simp [wF, wJ, va_up, cpR, bF, bA]) ?_
          refine Y_al0 i_284_105 ?_
          refine Y_gR i_284_106 ow_284 lf_10_55 (k_68 hG) (r_68_9 hG) ?_
          refine Y_il1 i_284_109 ?_
          have o11 := h.1
          replace h := h.2
          refine Y_iaload (k := x1.toNatClampNeg) (v := (A 77 x1.toNatClampNeg)) i_284_110 (k_77 hG) (l_77 hG) o11 rfl (by simp [wF, wJ, va_up, cpR, bF, bA]) ?_
          refine Y_iadd i_284_111 ?_
          refine Y_iast i_284_112 (k_82 hG) (l_82 hG) o2 rfl ?_
          exact Y_vret i_284_113 rt_284 h
      · replace h := h.2 e8
        exact Y_vret i_284_113 rt_284 h
  · replace h := h.2 e1
    refine Y_il2 i_284_60 ?_
    refine Y_iconst (v := 1) i_284_61 (by decide) ?_
    refine Y_cne i_284_62 (fun e12 => ?_) (fun e12 => ?_)
    · replace h := h.1 e12
      refine Y_al0 i_284_65 ?_
      refine Y_gR i_284_66 ow_284 lf_10_79 (k_68 hG) (r_68_26 hG) ?_
      refine Y_il1 i_284_69 ?_
      refine Y_bipush (v := (-9)) i_284_70 (by decide) ?_
      refine Y_al0 i_284_72 ?_
      refine Y_gR i_284_73 ow_284 lf_10_79 (k_68 hG) (r_68_26 hG) ?_
      refine Y_il1 i_284_76 ?_
      have o13 := h.1
      replace h := h.2
      refine Y_iaload (k := x1.toNatClampNeg) (v := (A 84 x1.toNatClampNeg)) i_284_77 (k_84 hG) (l_84 hG) o13 rfl rfl ?_
      refine Y_iconst (v := 1) i_284_78 (by decide) ?_
      refine Y_isub i_284_79 ?_
      refine Y_max i_284_80 ow_284 lm_10_298 rfl ?_
      refine Y_iast i_284_83 (k_84 hG) (l_84 hG) o13 rfl ?_
      refine Y_il2 i_284_84 ?_
      refine Y_iconst (v := 2) i_284_85 (by decide) ?_
      refine Y_cne i_284_86 (fun e14 => ?_) (fun e14 => ?_)
      · replace h := h.1 e14
        refine Y_al0 i_284_89 ?_
        refine Y_il1 i_284_90 ?_
        have o15 := h.1
        replace h := h.2
        refine Y_iv1 (L0 := [.ref 68, .int x1, .null]) i_284_91 ow_284 lm_10_336 ((k_68 hG).trans ow_209.symm) rfl mx_209 rfl rfl hd_284 ?_
        refine c_209 hG o15 (KKi' (v' := (lvI (A 81) (F 68 28) x1)) (by simp [wF, wJ, va_up, cpR, bF, bA]) ?_)
        refine Y_iconst (v := (-1)) i_284_94 (by decide) ?_
        refine Y_ceq i_284_95 (fun e16 => ?_) (fun e16 => ?_)
        · replace h := h.1 e16
          exact Y_vret i_284_113 rt_284 h
        · replace h := h.2 e16
          refine Y_al0 i_284_98 ?_
          refine Y_gR i_284_99 ow_284 lf_10_73 (k_68 hG) (r_68_24 hG) ?_
          refine Y_il1 i_284_102 ?_
          refine Y_dup2 i_284_103 rfl rfl ?_
          refine Y_iaload (k := x1.toNatClampNeg) (v := (A 82 x1.toNatClampNeg)) i_284_104 (k_82 hG) (l_82 hG) o13 rfl (by simp [wF, wJ, va_up, cpR, bF, bA]) ?_
          refine Y_al0 i_284_105 ?_
          refine Y_gR i_284_106 ow_284 lf_10_55 (k_68 hG) (r_68_9 hG) ?_
          refine Y_il1 i_284_109 ?_
          have o17 := h.1
          replace h := h.2
          refine Y_iaload (k := x1.toNatClampNeg) (v := (A 77 x1.toNatClampNeg)) i_284_110 (k_77 hG) (l_77 hG) o17 rfl (by simp [wF, wJ, va_up, cpR, bF, bA]) ?_
          refine Y_iadd i_284_111 ?_
          refine Y_iast i_284_112 (k_82 hG) (l_82 hG) o13 rfl ?_
          exact Y_vret i_284_113 rt_284 h
      · replace h := h.2 e14
        exact Y_vret i_284_113 rt_284 h
    · replace h := h.2 e12
      refine Y_il2 i_284_84 ?_
      refine Y_iconst (v := 2) i_284_85 (by decide) ?_
      refine Y_cne i_284_86 (fun e18 => ?_) (fun e18 => ?_)
      · replace h := h.1 e18
        refine Y_al0 i_284_89 ?_
        refine Y_il1 i_284_90 ?_
        have o19 := h.1
        replace h := h.2
        refine Y_iv1 (L0 := [.ref 68, .int x1, .null]) i_284_91 ow_284 lm_10_336 ((k_68 hG).trans ow_209.symm) rfl mx_209 rfl rfl hd_284 ?_
        refine c_209 hG o19 (KKi ?_)
        refine Y_iconst (v := (-1)) i_284_94 (by decide) ?_
        refine Y_ceq i_284_95 (fun e20 => ?_) (fun e20 => ?_)
        · replace h := h.1 e20
          exact Y_vret i_284_113 rt_284 h
        · replace h := h.2 e20
          refine Y_al0 i_284_98 ?_
          refine Y_gR i_284_99 ow_284 lf_10_73 (k_68 hG) (r_68_24 hG) ?_
          refine Y_il1 i_284_102 ?_
          refine Y_dup2 i_284_103 rfl rfl ?_
          have o21 := h.1
          replace h := h.2
          refine Y_iaload (k := x1.toNatClampNeg) (v := (A 82 x1.toNatClampNeg)) i_284_104 (k_82 hG) (l_82 hG) o21 rfl rfl ?_
          refine Y_al0 i_284_105 ?_
          refine Y_gR i_284_106 ow_284 lf_10_55 (k_68 hG) (r_68_9 hG) ?_
          refine Y_il1 i_284_109 ?_
          have o22 := h.1
          replace h := h.2
          refine Y_iaload (k := x1.toNatClampNeg) (v := (A 77 x1.toNatClampNeg)) i_284_110 (k_77 hG) (l_77 hG) o22 rfl rfl ?_
          refine Y_iadd i_284_111 ?_
          refine Y_iast i_284_112 (k_82 hG) (l_82 hG) o21 rfl ?_
          exact Y_vret i_284_113 rt_284 h
      · replace h := h.2 e18
        exact Y_vret i_284_113 rt_284 h
/- 285 Model.decades(III)I -/
theorem t_285_0 {d : Nat} {F A : Nat → Nat → Int32} {J : Nat → Nat → Int64} {G : pG} {Q : pR → pM → Prop} {SL p q : Nat} {x1 x2 x3 : Int32} (hG : Geo G SL p q) (h : (((inL x3.toInt64 0 2) = true → (((inL x2.toInt64 0 40) = true → X (d + 5) 207 0 [.ref 68, .ref 88, .int 0, .null] [] ((wF F 68 3 0), A, J, G) (KK (d + 6) 285 50 [.ref 68, .int x1, .int x2, .int x3, .null, .null, .null] [] Q)) ∧ ((inL x2.toInt64 0 40) = false → Q (.inl (some (.int 0))) ((wF (wF F 68 3 0) 68 3 2), A, J, G)))) ∧ ((inL x3.toInt64 0 2) = false → Q (.inl (some (.int 0))) ((wF (wF F 68 3 0) 68 3 1), A, J, G)))) : X (d + 6) 285 0 [.ref 68, .int x1, .int x2, .int x3, .null, .null, .null] [] (F, A, J, G) Q := by
  refine Y_al0 i_285_0 ?_
  refine Y_iconst (v := 0) i_285_1 (by decide) ?_
  refine Y_pI i_285_2 ow_285 lf_10_143 (k_68 hG) ?_
  refine Y_il3 i_285_5 ?_
  refine Y_i2l i_285_6 ?_
  refine Y_lconst (v := 0) i_285_7 (by decide) ?_
  refine Y_ldcL i_285_8 ow_285 lj_10_448 ?_
  refine Y_is_3 (L0 := [.long x3.toInt64, .null, .long 0, .null, .long 2, .null]) i_285_11 ow_285 lm_10_146 rfl mx_178 rfl rfl hd_285 ?_
  refine c_178 hG (KKi ?_)
  refine Y_bne i_285_14 (fun e1 => ?_) (fun e1 => ?_)
  · replace h := h.1 e1
    refine Y_il2 i_285_23 ?_
    refine Y_i2l i_285_24 ?_
    refine Y_lconst (v := 0) i_285_25 (by decide) ?_
    refine Y_ldcL i_285_26 ow_285 lj_10_469 ?_
    refine Y_is_3 (L0 := [.long x2.toInt64, .null, .long 0, .null, .long 40, .null]) i_285_29 ow_285 lm_10_146 rfl mx_178 rfl rfl hd_285 ?_
    refine c_178 hG (KKi ?_)
    refine Y_bne i_285_32 (fun e2 => ?_) (fun e2 => ?_)
    · replace h := h.1 e2
      refine Y_al0 i_285_41 ?_
      refine Y_al0 i_285_42 ?_
      refine Y_gR i_285_43 ow_285 lf_10_94 (k_68 hG) (r_68_35 hG) ?_
      refine Y_iconst (v := 0) i_285_46 (by decide) ?_
      exact Y_iv2 (L0 := [.ref 68, .ref 88, .int 0, .null]) i_285_47 ow_285 lm_10_347 ((k_68 hG).trans ow_207.symm) rfl mx_207 rfl rfl hd_285 h
    · replace h := h.2 e2
      refine Y_al0 i_285_35 ?_
      refine Y_iconst (v := 2) i_285_36 (by decide) ?_
      refine Y_iv1 (L0 := [.ref 68, .int 2]) i_285_37 ow_285 lm_10_269 ((k_68 hG).trans ow_176.symm) rfl mx_176 rfl rfl hd_285 ?_
      refine Y_al0 i_176_0 ?_
      refine Y_il1 i_176_1 ?_
      refine Y_pI i_176_2 ow_176 lf_10_143 (k_68 hG) ?_
      refine Y_iconst (v := 0) i_176_5 (by decide) ?_
      refine Y_iret i_176_6 rt_176 (KKi ?_)
      exact Y_iret i_285_40 rt_285 h
  · replace h := h.2 e1
    refine Y_al0 i_285_17 ?_
    refine Y_iconst (v := 1) i_285_18 (by decide) ?_
    refine Y_iv1 (L0 := [.ref 68, .int 1]) i_285_19 ow_285 lm_10_269 ((k_68 hG).trans ow_176.symm) rfl mx_176 rfl rfl hd_285 ?_
    refine Y_al0 i_176_0 ?_
    refine Y_il1 i_176_1 ?_
    refine Y_pI i_176_2 ow_176 lf_10_143 (k_68 hG) ?_
    refine Y_iconst (v := 0) i_176_5 (by decide) ?_
    refine Y_iret i_176_6 rt_176 (KKi ?_)
    exact Y_iret i_285_22 rt_285 h
theorem k_285_50 {d : Nat} {F A : Nat → Nat → Int32} {J : Nat → Nat → Int64} {G : pG} {Q : pR → pM → Prop} {SL p q : Nat} {x1 x2 x3 : Int32} (hG : Geo G SL p q) (h : X (d + 6) 285 64 [.ref 68, .int x1, .int x2, .int x3, .int 0, .int (-1), .int 0] [] ((wF F 68 49 x1), A, J, G) Q) : KK (d + 6) 285 50 [.ref 68, .int x1, .int x2, .int x3, .null, .null, .null] [] Q (.inl none) (F, A, J, G) := by
  refine KKv ?_
  refine Y_al0 i_285_50 ?_
  refine Y_il1 i_285_51 ?_
  refine Y_pI i_285_52 ow_285 lf_10_462 (k_68 hG) ?_
  refine Y_iconst (v := 0) i_285_55 (by decide) ?_
  refine Y_is4 i_285_56 rfl ?_
  refine Y_iconst (v := (-1)) i_285_58 (by decide) ?_
  refine Y_is5 i_285_59 rfl ?_
  refine Y_iconst (v := 0) i_285_61 (by decide) ?_
  refine Y_is6 i_285_62 rfl ?_
  exact h
theorem t_285_64 {d : Nat} {F A : Nat → Nat → Int32} {J : Nat → Nat → Int64} {G : pG} {Q : pR → pM → Prop} {SL p q : Nat} {x1 x2 x3 x4 x5 x6 : Int32} (hG : Geo G SL p q) (h : ((x6 < x2 → X (d + 5) 284 0 [.ref 68, .null, .null] [] (F, A, J, G) (KK (d + 6) 285 74 [.ref 68, .int x1, .int x2, .int x3, .int x4, .int x5, .int x6] [] Q)) ∧ (¬ x6 < x2 → (((F 68 28) = 0 → X (d + 5) 208 0 [.ref 68, .ref 88, .int 0, .null] [] (F, A, J, G) (KK (d + 6) 285 137 [.ref 68, .int x1, .int x2, .int x3, .int x4, .int x5, .int 0] [] Q)) ∧ (¬ (F 68 28) = 0 → X (d + 5) 213 0 [.ref 68, .int 0, .null, .null] [] (F, A, J, G) (KK (d + 6) 285 126 [.ref 68, .int x1, .int x2, .int x3, .int x4, .int x5, .int x6] [] Q)))))) : X (d + 6) 285 64 [.ref 68, .int x1, .int x2, .int x3, .int x4, .int x5, .int x6] [] (F, A, J, G) Q := by
  refine Y_il6 i_285_64 ?_
  refine Y_il2 i_285_66 ?_
  refine Y_cge i_285_67 (fun e1 => ?_) (fun e1 => ?_)
  · replace h := h.1 e1
    refine Y_al0 i_285_70 ?_
    exact Y_iv0 (L0 := [.ref 68, .null, .null]) i_285_71 ow_285 lm_10_471 ((k_68 hG).trans ow_284.symm) rfl mx_284 rfl rfl hd_285 h
  · replace h := h.2 e1
    refine Y_al0 i_285_110 ?_
    refine Y_gI (v := (F 68 28)) i_285_111 ow_285 lf_10_150 (by decide) (k_68 hG) rfl ?_
    refine Y_zne i_285_114 (fun e2 => ?_) (fun e2 => ?_)
    · replace h := h.1 e2
      refine Y_iconst (v := 0) i_285_117 (by decide) ?_
      refine Y_goto i_285_118 ?_
      refine Y_is6 i_285_126 rfl ?_
      refine Y_al0 i_285_128 ?_
      refine Y_al0 i_285_129 ?_
      refine Y_gR i_285_130 ow_285 lf_10_94 (k_68 hG) (r_68_35 hG) ?_
      refine Y_iconst (v := 0) i_285_133 (by decide) ?_
      exact Y_iv2 (L0 := [.ref 68, .ref 88, .int 0, .null]) i_285_134 ow_285 lm_10_386 ((k_68 hG).trans ow_208.symm) rfl mx_208 rfl rfl hd_285 h
    · replace h := h.2 e2
      refine Y_al0 i_285_121 ?_
      refine Y_iconst (v := 0) i_285_122 (by decide) ?_
      exact Y_iv1 (L0 := [.ref 68, .int 0, .null, .null]) i_285_123 ow_285 lm_10_308 ((k_68 hG).trans ow_213.symm) rfl mx_213 rfl rfl hd_285 h
theorem k_285_74 {d : Nat} {F A : Nat → Nat → Int32} {J : Nat → Nat → Int64} {G : pG} {Q : pR → pM → Prop} {SL p q : Nat} {x1 x2 x3 x4 x5 x6 : Int32} (hG : Geo G SL p q) (h : X (d + 5) 218 0 [.ref 68] [] (F, A, J, G) (KK (d + 6) 285 78 [.ref 68, .int x1, .int x2, .int x3, .int x4, .int x5, .int x6] [] Q)) : KK (d + 6) 285 74 [.ref 68, .int x1, .int x2, .int x3, .int x4, .int x5, .int x6] [] Q (.inl none) (F, A, J, G) := by
  refine KKv ?_
  refine Y_al0 i_285_74 ?_
  exact Y_iv0 (L0 := [.ref 68]) i_285_75 ow_285 lm_10_326 ((k_68 hG).trans ow_218.symm) rfl mx_218 rfl rfl hd_285 h
theorem k_285_78 {d : Nat} {F A : Nat → Nat → Int32} {J : Nat → Nat → Int64} {G : pG} {Q : pR → pM → Prop} {SL p q : Nat} {x1 x2 x3 x4 x5 x6 r r : Int32} (hG : Geo G SL p q) (h : ((r = 0 → ((x5 = (-1) → X (d + 6) 285 64 [.ref 68, .int x1, .int x2, .int x3, .int x4, .int (x6 + 1), .int (x6 + 1)] [] (F, A, J, G) Q) ∧ (¬ x5 = (-1) → X (d + 6) 285 64 [.ref 68, .int x1, .int x2, .int x3, .int x4, .int x5, .int (x6 + 1)] [] (F, A, J, G) Q))) ∧ (¬ r = 0 → X (d + 6) 285 64 [.ref 68, .int x1, .int x2, .int x3, .int (x4 + 1), .int x5, .int (x6 + 1)] [] (F, A, J, G) Q))) : KK (d + 6) 285 78 [.ref 68, .int x1, .int x2, .int x3, .int x4, .int x5, .int x6] [] Q (.inl (some (.int r))) (F, A, J, G) := by
  refine KKi ?_
  refine Y_zeq i_285_78 (fun e1 => ?_) (fun e1 => ?_)
  · replace h := h.1 e1
    refine Y_il5 i_285_87 ?_
    refine Y_iconst (v := (-1)) i_285_89 (by decide) ?_
    refine Y_cne i_285_90 (fun e2 => ?_) (fun e2 => ?_)
    · replace h := h.1 e2
      refine Y_il6 i_285_93 ?_
      refine Y_iconst (v := 1) i_285_95 (by decide) ?_
      refine Y_iadd i_285_96 ?_
      refine Y_goto i_285_97 ?_
      refine Y_is5 i_285_102 rfl ?_
      refine Y_ii6 (v := 1) i_285_104 (by decide) rfl ?_
      refine Y_goto i_285_107 ?_
      exact h
    · replace h := h.2 e2
      refine Y_il5 i_285_100 ?_
      refine Y_is5 i_285_102 rfl ?_
      refine Y_ii6 (v := 1) i_285_104 (by decide) rfl ?_
      refine Y_goto i_285_107 ?_
      exact h
  · replace h := h.2 e1
    refine Y_ii4 (v := 1) i_285_81 (by decide) rfl ?_
    refine Y_goto i_285_84 ?_
    refine Y_ii6 (v := 1) i_285_104 (by decide) rfl ?_
    refine Y_goto i_285_107 ?_
    exact h
theorem k_285_126 {d : Nat} {F A : Nat → Nat → Int32} {J : Nat → Nat → Int64} {G : pG} {Q : pR → pM → Prop} {SL p q : Nat} {x1 x2 x3 x4 x5 x6 r r : Int32} (hG : Geo G SL p q) (h : X (d + 5) 208 0 [.ref 68, .ref 88, .int 0, .null] [] (F, A, J, G) (KK (d + 6) 285 137 [.ref 68, .int x1, .int x2, .int x3, .int x4, .int x5, .int r] [] Q)) : KK (d + 6) 285 126 [.ref 68, .int x1, .int x2, .int x3, .int x4, .int x5, .int x6] [] Q (.inl (some (.int r))) (F, A, J, G) := by
  refine KKi ?_
  refine Y_is6 i_285_126 rfl ?_
  refine Y_al0 i_285_128 ?_
  refine Y_al0 i_285_129 ?_
  refine Y_gR i_285_130 ow_285 lf_10_94 (k_68 hG) (r_68_35 hG) ?_
  refine Y_iconst (v := 0) i_285_133 (by decide) ?_
  exact Y_iv2 (L0 := [.ref 68, .ref 88, .int 0, .null]) i_285_134 ow_285 lm_10_386 ((k_68 hG).trans ow_208.symm) rfl mx_208 rfl rfl hd_285 h
theorem k_285_137 {d : Nat} {F A : Nat → Nat → Int32} {J : Nat → Nat → Int64} {G : pG} {Q : pR → pM → Prop} {SL p q : Nat} {x1 x2 x3 x4 x5 x6 : Int32} (hG : Geo G SL p q) (h : ((x3 = 0 → Q (.inl (some (.int x4))) (F, A, J, G)) ∧ (¬ x3 = 0 → ((x3 = 1 → Q (.inl (some (.int x5))) (F, A, J, G)) ∧ (¬ x3 = 1 → Q (.inl (some (.int x6))) (F, A, J, G)))))) : KK (d + 6) 285 137 [.ref 68, .int x1, .int x2, .int x3, .int x4, .int x5, .int x6] [] Q (.inl none) (F, A, J, G) := by
  refine KKv ?_
  refine Y_il3 i_285_137 ?_
  refine Y_zne i_285_138 (fun e1 => ?_) (fun e1 => ?_)
  · replace h := h.1 e1
    refine Y_il4 i_285_141 ?_
    refine Y_goto i_285_143 ?_
    exact Y_iret i_285_158 rt_285 h
  · replace h := h.2 e1
    refine Y_il3 i_285_146 ?_
    refine Y_iconst (v := 1) i_285_147 (by decide) ?_
    refine Y_cne i_285_148 (fun e2 => ?_) (fun e2 => ?_)
    · replace h := h.1 e2
      refine Y_il5 i_285_151 ?_
      refine Y_goto i_285_153 ?_
      exact Y_iret i_285_158 rt_285 h
    · replace h := h.2 e2
      refine Y_il6 i_285_156 ?_
      exact Y_iret i_285_158 rt_285 h
/- 286 Model.be([I[I)V -/
theorem t_286_0 {d : Nat} {F A : Nat → Nat → Int32} {J : Nat → Nat → Int64} {G : pG} {Q : pR → pM → Prop} {SL p q : Nat} {a na : Nat} {b nb : Nat} (hG : Geo G SL p q) (hka : gK G a = 20) (hla : gL G a = na) (hkb : gK G b = 20) (hlb : gL G b = nb) (h : X d 286 2 [.ref a, .ref b, .int 0] [] (F, A, J, G) Q) : X d 286 0 [.ref a, .ref b, .null] [] (F, A, J, G) Q := by
  refine Y_iconst (v := 0) i_286_0 (by decide) ?_
  refine Y_is2 i_286_1 rfl ?_
  exact h
theorem t_286_2 {d : Nat} {F A : Nat → Nat → Int32} {J : Nat → Nat → Int64} {G : pG} {Q : pR → pM → Prop} {SL p q : Nat} {a na : Nat} {b nb : Nat} {x2 : Int32} (hG : Geo G SL p q) (hka : gK G a = 20) (hla : gL G a = na) (hkb : gK G b = 20) (hlb : gL G b = nb) (h : ((x2 < (nI na) → inB x2 nb = true ∧ inB x2 na = true ∧ (X d 286 2 [.ref a, .ref b, .int (x2 + 1)] [] (F, (wF A a x2.toNatClampNeg (A b x2.toNatClampNeg)), J, G) Q)) ∧ (¬ x2 < (nI na) → Q (.inl none) (F, A, J, G)))) : X d 286 2 [.ref a, .ref b, .int x2] [] (F, A, J, G) Q := by
  refine Y_il2 i_286_2 ?_
  refine Y_al0 i_286_3 ?_
  refine Y_alen (v := nI na) i_286_4 (Or.inl hka) hla rfl ?_
  refine Y_cge i_286_5 (fun e1 => ?_) (fun e1 => ?_)
  · replace h := h.1 e1
    refine Y_al0 i_286_8 ?_
    refine Y_il2 i_286_9 ?_
    refine Y_al1 i_286_10 ?_
    refine Y_il2 i_286_11 ?_
    have o2 := h.1
    replace h := h.2
    refine Y_iaload (k := x2.toNatClampNeg) (v := (A b x2.toNatClampNeg)) i_286_12 hkb hlb o2 rfl rfl ?_
    have o3 := h.1
    replace h := h.2
    refine Y_iast i_286_13 hka hla o3 rfl ?_
    refine Y_ii2 (v := 1) i_286_14 (by decide) rfl ?_
    refine Y_goto i_286_17 ?_
    exact h
  · replace h := h.2 e1
    exact Y_vret i_286_20 rt_286 h
/- 287 Model.image()V -/
theorem t_287_0 {d : Nat} {F A : Nat → Nat → Int32} {J : Nat → Nat → Int64} {G : pG} {Q : pR → pM → Prop} {SL p q : Nat} (hG : Geo G SL p q) (h : X d 207 0 [.ref 68, .ref 99, .int 0, .null] [] ((wF (wF (wF (wF F 68 3 0) 68 50 1) 68 51 (F 68 31)) 68 52 (F 68 32)), A, J, G) (KK (d + 1) 287 35 [.ref 68] [] Q)) : X (d + 1) 287 0 [.ref 68] [] (F, A, J, G) Q := by
  refine Y_al0 i_287_0 ?_
  refine Y_iconst (v := 0) i_287_1 (by decide) ?_
  refine Y_pI i_287_2 ow_287 lf_10_143 (k_68 hG) ?_
  refine Y_al0 i_287_5 ?_
  refine Y_iconst (v := 1) i_287_6 (by decide) ?_
  refine Y_pB i_287_7 ow_287 lf_10_291 (k_68 hG) (by decide) ?_
  refine Y_al0 i_287_10 ?_
  refine Y_al0 i_287_11 ?_
  refine Y_gI (v := (F 68 31)) i_287_12 ow_287 lf_10_285 (by decide) (k_68 hG) (by simp [wF, wJ, va_up, cpR, bF, bA]) ?_
  refine Y_pI i_287_15 ow_287 lf_10_474 (k_68 hG) ?_
  refine Y_al0 i_287_18 ?_
  refine Y_al0 i_287_19 ?_
  refine Y_gI (v := (F 68 32)) i_287_20 ow_287 lf_10_288 (by decide) (k_68 hG) (by simp [wF, wJ, va_up, cpR, bF, bA]) ?_
  refine Y_pI i_287_23 ow_287 lf_10_477 (k_68 hG) ?_
  refine Y_al0 i_287_26 ?_
  refine Y_al0 i_287_27 ?_
  refine Y_gR i_287_28 ow_287 lf_10_128 (k_68 hG) (r_68_53 hG) ?_
  refine Y_iconst (v := 0) i_287_31 (by decide) ?_
  exact Y_iv2 (L0 := [.ref 68, .ref 99, .int 0, .null]) i_287_32 ow_287 lm_10_347 ((k_68 hG).trans ow_207.symm) rfl mx_207 rfl rfl hd_287 h
theorem k_287_35 {d : Nat} {F A : Nat → Nat → Int32} {J : Nat → Nat → Int64} {G : pG} {Q : pR → pM → Prop} {SL p q : Nat} (hG : Geo G SL p q) (h : X d 286 0 [.ref 100, .ref 85, .null] [] (F, A, J, G) (KK (d + 1) 287 46 [.ref 68] [] Q)) : KK (d + 1) 287 35 [.ref 68] [] Q (.inl none) (F, A, J, G) := by
  refine KKv ?_
  refine Y_al0 i_287_35 ?_
  refine Y_gR i_287_36 ow_287 lf_10_131 (k_68 hG) (r_68_54 hG) ?_
  refine Y_al0 i_287_39 ?_
  refine Y_gR i_287_40 ow_287 lf_10_82 (k_68 hG) (r_68_27 hG) ?_
  exact Y_is_2 (L0 := [.ref 100, .ref 85, .null]) i_287_43 ow_287 lm_10_480 rfl mx_286 rfl rfl hd_287 h
theorem k_287_46 {d : Nat} {F A : Nat → Nat → Int32} {J : Nat → Nat → Int64} {G : pG} {Q : pR → pM → Prop} {SL p q : Nat} (hG : Geo G SL p q) (h : X d 286 0 [.ref 101, .ref 94, .null] [] (F, A, J, G) (KK (d + 1) 287 57 [.ref 68] [] Q)) : KK (d + 1) 287 46 [.ref 68] [] Q (.inl none) (F, A, J, G) := by
  refine KKv ?_
  refine Y_al0 i_287_46 ?_
  refine Y_gR i_287_47 ow_287 lf_10_134 (k_68 hG) (r_68_55 hG) ?_
  refine Y_al0 i_287_50 ?_
  refine Y_gR i_287_51 ow_287 lf_10_113 (k_68 hG) (r_68_43 hG) ?_
  exact Y_is_2 (L0 := [.ref 101, .ref 94, .null]) i_287_54 ow_287 lm_10_480 rfl mx_286 rfl rfl hd_287 h
theorem k_287_57 {d : Nat} {F A : Nat → Nat → Int32} {J : Nat → Nat → Int64} {G : pG} {Q : pR → pM → Prop} {SL p q : Nat} (hG : Geo G SL p q) (h : X d 286 0 [.ref 102, .ref 95, .null] [] (F, A, J, G) (KK (d + 1) 287 68 [.ref 68] [] Q)) : KK (d + 1) 287 57 [.ref 68] [] Q (.inl none) (F, A, J, G) := by
  refine KKv ?_
  refine Y_al0 i_287_57 ?_
  refine Y_gR i_287_58 ow_287 lf_10_137 (k_68 hG) (r_68_56 hG) ?_
  refine Y_al0 i_287_61 ?_
  refine Y_gR i_287_62 ow_287 lf_10_116 (k_68 hG) (r_68_44 hG) ?_
  exact Y_is_2 (L0 := [.ref 102, .ref 95, .null]) i_287_65 ow_287 lm_10_480 rfl mx_286 rfl rfl hd_287 h
theorem k_287_68 {d : Nat} {F A : Nat → Nat → Int32} {J : Nat → Nat → Int64} {G : pG} {Q : pR → pM → Prop} {SL p q : Nat} (hG : Geo G SL p q) (h : X d 286 0 [.ref 103, .ref 79, .null] [] (F, A, J, G) (KK (d + 1) 287 79 [.ref 68] [] Q)) : KK (d + 1) 287 68 [.ref 68] [] Q (.inl none) (F, A, J, G) := by
  refine KKv ?_
  refine Y_al0 i_287_68 ?_
  refine Y_gR i_287_69 ow_287 lf_10_140 (k_68 hG) (r_68_57 hG) ?_
  refine Y_al0 i_287_72 ?_
  refine Y_gR i_287_73 ow_287 lf_10_60 (k_68 hG) (r_68_11 hG) ?_
  exact Y_is_2 (L0 := [.ref 103, .ref 79, .null]) i_287_76 ow_287 lm_10_480 rfl mx_286 rfl rfl hd_287 h
theorem k_287_79 {d : Nat} {F A : Nat → Nat → Int32} {J : Nat → Nat → Int64} {G : pG} {Q : pR → pM → Prop} {SL p q : Nat} (hG : Geo G SL p q) (h : Q (.inl none) (F, A, J, G)) : KK (d + 1) 287 79 [.ref 68] [] Q (.inl none) (F, A, J, G) := by
  refine KKv ?_
  exact Y_vret i_287_79 rt_287 h
/- 288 Model.restore()Z -/
theorem t_288_0 {d : Nat} {F A : Nat → Nat → Int32} {J : Nat → Nat → Int64} {G : pG} {Q : pR → pM → Prop} {SL p q : Nat} (hG : Geo G SL p q) (h : (((F 68 50) = 0 → Q (.inl (some (.int 0))) ((wF F 68 3 0), A, J, G)) ∧ (¬ (F 68 50) = 0 → X d 208 0 [.ref 68, .ref 99, .int 0, .null] [] ((wF (wF (wF F 68 3 0) 68 31 (F 68 51)) 68 32 (F 68 52)), A, J, G) (KK (d + 1) 288 39 [.ref 68] [] Q)))) : X (d + 1) 288 0 [.ref 68] [] (F, A, J, G) Q := by
  refine Y_al0 i_288_0 ?_
  refine Y_iconst (v := 0) i_288_1 (by decide) ?_
  refine Y_pI i_288_2 ow_288 lf_10_143 (k_68 hG) ?_
  refine Y_al0 i_288_5 ?_
  refine Y_gI (v := (F 68 50)) i_288_6 ow_288 lf_10_291 (by decide) (k_68 hG) (by simp [wF, wJ, va_up, cpR, bF, bA]) ?_
  refine Y_zne i_288_9 (fun e1 => ?_) (fun e1 => ?_)
  · replace h := h.1 e1
    refine Y_iconst (v := 0) i_288_12 (by decide) ?_
    exact Y_bret i_288_13 rt_288 (by decide) h
  · replace h := h.2 e1
    refine Y_al0 i_288_14 ?_
    refine Y_al0 i_288_15 ?_
    refine Y_gI (v := (F 68 51)) i_288_16 ow_288 lf_10_474 (by decide) (k_68 hG) (by simp [wF, wJ, va_up, cpR, bF, bA]) ?_
    refine Y_pI i_288_19 ow_288 lf_10_285 (k_68 hG) ?_
    refine Y_al0 i_288_22 ?_
    refine Y_al0 i_288_23 ?_
    refine Y_gI (v := (F 68 52)) i_288_24 ow_288 lf_10_477 (by decide) (k_68 hG) (by simp [wF, wJ, va_up, cpR, bF, bA]) ?_
    refine Y_pI i_288_27 ow_288 lf_10_288 (k_68 hG) ?_
    refine Y_al0 i_288_30 ?_
    refine Y_al0 i_288_31 ?_
    refine Y_gR i_288_32 ow_288 lf_10_128 (k_68 hG) (r_68_53 hG) ?_
    refine Y_iconst (v := 0) i_288_35 (by decide) ?_
    exact Y_iv2 (L0 := [.ref 68, .ref 99, .int 0, .null]) i_288_36 ow_288 lm_10_386 ((k_68 hG).trans ow_208.symm) rfl mx_208 rfl rfl hd_288 h
theorem k_288_39 {d : Nat} {F A : Nat → Nat → Int32} {J : Nat → Nat → Int64} {G : pG} {Q : pR → pM → Prop} {SL p q : Nat} (hG : Geo G SL p q) (h : X d 286 0 [.ref 85, .ref 100, .null] [] (F, A, J, G) (KK (d + 1) 288 50 [.ref 68] [] Q)) : KK (d + 1) 288 39 [.ref 68] [] Q (.inl none) (F, A, J, G) := by
  refine KKv ?_
  refine Y_al0 i_288_39 ?_
  refine Y_gR i_288_40 ow_288 lf_10_82 (k_68 hG) (r_68_27 hG) ?_
  refine Y_al0 i_288_43 ?_
  refine Y_gR i_288_44 ow_288 lf_10_131 (k_68 hG) (r_68_54 hG) ?_
  exact Y_is_2 (L0 := [.ref 85, .ref 100, .null]) i_288_47 ow_288 lm_10_480 rfl mx_286 rfl rfl hd_288 h
theorem k_288_50 {d : Nat} {F A : Nat → Nat → Int32} {J : Nat → Nat → Int64} {G : pG} {Q : pR → pM → Prop} {SL p q : Nat} (hG : Geo G SL p q) (h : X d 286 0 [.ref 94, .ref 101, .null] [] (F, A, J, G) (KK (d + 1) 288 61 [.ref 68] [] Q)) : KK (d + 1) 288 50 [.ref 68] [] Q (.inl none) (F, A, J, G) := by
  refine KKv ?_
  refine Y_al0 i_288_50 ?_
  refine Y_gR i_288_51 ow_288 lf_10_113 (k_68 hG) (r_68_43 hG) ?_
  refine Y_al0 i_288_54 ?_
  refine Y_gR i_288_55 ow_288 lf_10_134 (k_68 hG) (r_68_55 hG) ?_
  exact Y_is_2 (L0 := [.ref 94, .ref 101, .null]) i_288_58 ow_288 lm_10_480 rfl mx_286 rfl rfl hd_288 h
theorem k_288_61 {d : Nat} {F A : Nat → Nat → Int32} {J : Nat → Nat → Int64} {G : pG} {Q : pR → pM → Prop} {SL p q : Nat} (hG : Geo G SL p q) (h : X d 286 0 [.ref 95, .ref 102, .null] [] (F, A, J, G) (KK (d + 1) 288 72 [.ref 68] [] Q)) : KK (d + 1) 288 61 [.ref 68] [] Q (.inl none) (F, A, J, G) := by
  refine KKv ?_
  refine Y_al0 i_288_61 ?_
  refine Y_gR i_288_62 ow_288 lf_10_116 (k_68 hG) (r_68_44 hG) ?_
  refine Y_al0 i_288_65 ?_
  refine Y_gR i_288_66 ow_288 lf_10_137 (k_68 hG) (r_68_56 hG) ?_
  exact Y_is_2 (L0 := [.ref 95, .ref 102, .null]) i_288_69 ow_288 lm_10_480 rfl mx_286 rfl rfl hd_288 h
theorem k_288_72 {d : Nat} {F A : Nat → Nat → Int32} {J : Nat → Nat → Int64} {G : pG} {Q : pR → pM → Prop} {SL p q : Nat} (hG : Geo G SL p q) (h : X d 286 0 [.ref 79, .ref 103, .null] [] (F, A, J, G) (KK (d + 1) 288 83 [.ref 68] [] Q)) : KK (d + 1) 288 72 [.ref 68] [] Q (.inl none) (F, A, J, G) := by
  refine KKv ?_
  refine Y_al0 i_288_72 ?_
  refine Y_gR i_288_73 ow_288 lf_10_60 (k_68 hG) (r_68_11 hG) ?_
  refine Y_al0 i_288_76 ?_
  refine Y_gR i_288_77 ow_288 lf_10_140 (k_68 hG) (r_68_57 hG) ?_
  exact Y_is_2 (L0 := [.ref 79, .ref 103, .null]) i_288_80 ow_288 lm_10_480 rfl mx_286 rfl rfl hd_288 h
theorem k_288_83 {d : Nat} {F A : Nat → Nat → Int32} {J : Nat → Nat → Int64} {G : pG} {Q : pR → pM → Prop} {SL p q : Nat} (hG : Geo G SL p q) (h : Q (.inl (some (.int 1))) (F, A, J, G)) : KK (d + 1) 288 83 [.ref 68] [] Q (.inl none) (F, A, J, G) := by
  refine KKv ?_
  refine Y_iconst (v := 1) i_288_83 (by decide) ?_
  exact Y_bret i_288_84 rt_288 (by decide) h
end Tr14b
