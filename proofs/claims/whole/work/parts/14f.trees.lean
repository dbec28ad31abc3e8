section Tr14f
/- 175 Model.thrown()I -/
theorem t_175_0 {d : Nat} {F A : Nat → Nat → Int32} {J : Nat → Nat → Int64} {G : pG} {Q : pR → pM → Prop} {SL p q : Nat} (hG : Geo G SL p q) (h : Q (.inl (some (.int (F 68 3)))) (F, A, J, G)) : X d 175 0 [.ref 68] [] (F, A, J, G) Q := by
  refine Y_al0 i_175_0 ?_
  refine Y_gI (v := (F 68 3)) i_175_1 ow_175 lf_10_143 (by decide) (k_68 hG) rfl ?_
  exact Y_iret i_175_4 rt_175 h
/- 176 Model.fail(I)I -/
theorem t_176_0 {d : Nat} {F A : Nat → Nat → Int32} {J : Nat → Nat → Int64} {G : pG} {Q : pR → pM → Prop} {SL p q : Nat} {x1 : Int32} (hG : Geo G SL p q) (h : Q (.inl (some (.int 0))) ((wF F 68 3 x1), A, J, G)) : X d 176 0 [.ref 68, .int x1] [] (F, A, J, G) Q := by
  refine Y_al0 i_176_0 ?_
  refine Y_il1 i_176_1 ?_
  refine Y_pI i_176_2 ow_176 lf_10_143 (k_68 hG) ?_
  refine Y_iconst (v := 0) i_176_5 (by decide) ?_
  exact Y_iret i_176_6 rt_176 h
/- 177 Model.failing(I)Z -/
theorem t_177_0 {d : Nat} {F A : Nat → Nat → Int32} {J : Nat → Nat → Int64} {G : pG} {Q : pR → pM → Prop} {SL p q : Nat} {x1 : Int32} (hG : Geo G SL p q) (h : Q (.inl (some (.int 0))) ((wF F 68 3 x1), A, J, G)) : X d 177 0 [.ref 68, .int x1] [] (F, A, J, G) Q := by
  refine Y_al0 i_177_0 ?_
  refine Y_il1 i_177_1 ?_
  refine Y_pI i_177_2 ow_177 lf_10_143 (k_68 hG) ?_
  refine Y_iconst (v := 0) i_177_5 (by decide) ?_
  exact Y_bret i_177_6 rt_177 (by decide) h
/- 182 Model.feed(IIIII)I -/
theorem t_182_0 {d : Nat} {F A : Nat → Nat → Int32} {J : Nat → Nat → Int64} {G : pG} {Q : pR → pM → Prop} {SL p q : Nat} {x1 x2 x3 x4 x5 : Int32} (hG : Geo G SL p q) (h : ((600 < ((F 68 13) + 20) → Q (.inl (some (.int (-1)))) ((wF F 68 3 0), A, J, G)) ∧ (¬ 600 < ((F 68 13) + 20) → X d 182 23 [.ref 68, .int x1, .int x2, .int x3, .int x4, .int x5, .int 0, .null] [] ((wF F 68 3 0), A, J, G) Q))) : X d 182 0 [.ref 68, .int x1, .int x2, .int x3, .int x4, .int x5, .null, .null] [] (F, A, J, G) Q := by
  refine Y_al0 i_182_0 ?_
  refine Y_iconst (v := 0) i_182_1 (by decide) ?_
  refine Y_pI i_182_2 ow_182 lf_10_143 (k_68 hG) ?_
  refine Y_al0 i_182_5 ?_
  refine Y_gI (v := (F 68 13)) i_182_6 ow_182 lf_10_153 (by decide) (k_68 hG) (by simp [wF, wJ, va_up, cpR, bF, bA]) ?_
  refine Y_bipush (v := 20) i_182_9 (by decide) ?_
  refine Y_iadd i_182_11 ?_
  refine Y_sipush (v := 600) i_182_12 (by decide) ?_
  refine Y_cle i_182_15 (fun e1 => ?_) (fun e1 => ?_)
  · replace h := h.1 e1
    refine Y_iconst (v := (-1)) i_182_18 (by decide) ?_
    exact Y_iret i_182_19 rt_182 h
  · replace h := h.2 e1
    refine Y_iconst (v := 0) i_182_20 (by decide) ?_
    refine Y_is6 i_182_21 rfl ?_
    exact h
theorem t_182_23 {d : Nat} {F A : Nat → Nat → Int32} {J : Nat → Nat → Int64} {G : pG} {Q : pR → pM → Prop} {SL p q : Nat} {x1 x2 x3 x4 x5 x6 : Int32} {v7 : Value} (hG : Geo G SL p q) (h : ((x6 < 20 → ((x6 < 4 → inB (F 68 13) 600 = true ∧ (X d 182 23 [.ref 68, .int x1, .int x2, .int x3, .int x4, .int x5, .int (x6 + 1), .int x1] [] ((wF F 68 13 ((F 68 13) + 1)), (wF A 80 (F 68 13).toNatClampNeg ((x1 >>> (((24 : Int32) - ((8 : Int32) * (jrem x6 4))) &&& 31)) &&& 255)), J, G) Q)) ∧ (¬ x6 < 4 → ((x6 < 8 → inB (F 68 13) 600 = true ∧ (X d 182 23 [.ref 68, .int x1, .int x2, .int x3, .int x4, .int x5, .int (x6 + 1), .int x2] [] ((wF F 68 13 ((F 68 13) + 1)), (wF A 80 (F 68 13).toNatClampNeg ((x2 >>> (((24 : Int32) - ((8 : Int32) * (jrem x6 4))) &&& 31)) &&& 255)), J, G) Q)) ∧ (¬ x6 < 8 → ((x6 < 12 → inB (F 68 13) 600 = true ∧ (X d 182 23 [.ref 68, .int x1, .int x2, .int x3, .int x4, .int x5, .int (x6 + 1), .int x3] [] ((wF F 68 13 ((F 68 13) + 1)), (wF A 80 (F 68 13).toNatClampNeg ((x3 >>> (((24 : Int32) - ((8 : Int32) * (jrem x6 4))) &&& 31)) &&& 255)), J, G) Q)) ∧ (¬ x6 < 12 → ((x6 < 16 → inB (F 68 13) 600 = true ∧ (X d 182 23 [.ref 68, .int x1, .int x2, .int x3, .int x4, .int x5, .int (x6 + 1), .int x4] [] ((wF F 68 13 ((F 68 13) + 1)), (wF A 80 (F 68 13).toNatClampNeg ((x4 >>> (((24 : Int32) - ((8 : Int32) * (jrem x6 4))) &&& 31)) &&& 255)), J, G) Q)) ∧ (¬ x6 < 16 → inB (F 68 13) 600 = true ∧ (X d 182 23 [.ref 68, .int x1, .int x2, .int x3, .int x4, .int x5, .int (x6 + 1), .int x5] [] ((wF F 68 13 ((F 68 13) + 1)), (wF A 80 (F 68 13).toNatClampNeg ((x5 >>> (((24 : Int32) - ((8 : Int32) * (jrem x6 4))) &&& 31)) &&& 255)), J, G) Q)))))))))) ∧ (¬ x6 < 20 → Q (.inl (some (.int (F 68 13)))) (F, A, J, G)))) : X d 182 23 [.ref 68, .int x1, .int x2, .int x3, .int x4, .int x5, .int x6, v7] [] (F, A, J, G) Q := by
  refine Y_il6 i_182_23 ?_
  refine Y_bipush (v := 20) i_182_25 (by decide) ?_
  refine Y_cge i_182_27 (fun e1 => ?_) (fun e1 => ?_)
  · replace h := h.1 e1
    refine Y_il6 i_182_30 ?_
    refine Y_iconst (v := 4) i_182_32 (by decide) ?_
    refine Y_cge i_182_33 (fun e2 => ?_) (fun e2 => ?_)
    · replace h := h.1 e2
      refine Y_il1 i_182_36 ?_
      refine Y_goto i_182_37 ?_
      refine Y_is7 i_182_76 rfl ?_
      refine Y_al0 i_182_78 ?_
      refine Y_gR i_182_79 ow_182 lf_10_63 (k_68 hG) (r_68_12 hG) ?_
      refine Y_al0 i_182_82 ?_
      refine Y_gI (v := (F 68 13)) i_182_83 ow_182 lf_10_153 (by decide) (k_68 hG) rfl ?_
      refine Y_il7 i_182_86 ?_
      refine Y_bipush (v := 24) i_182_88 (by decide) ?_
      refine Y_bipush (v := 8) i_182_90 (by decide) ?_
      refine Y_il6 i_182_92 ?_
      refine Y_iconst (v := 4) i_182_94 (by decide) ?_
      refine Y_irem i_182_95 (by decide) ?_
      refine Y_imul i_182_96 ?_
      refine Y_isub i_182_97 ?_
      refine Y_ishr i_182_98 ?_
      refine Y_sipush (v := 255) i_182_99 (by decide) ?_
      refine Y_iand i_182_102 ?_
      have o3 := h.1
      replace h := h.2
      refine Y_iast i_182_103 (k_80 hG) (l_80 hG) o3 rfl ?_
      refine Y_al0 i_182_104 ?_
      refine Y_dup i_182_105 rfl ?_
      refine Y_gI (v := (F 68 13)) i_182_106 ow_182 lf_10_153 (by decide) (k_68 hG) rfl ?_
      refine Y_iconst (v := 1) i_182_109 (by decide) ?_
      refine Y_iadd i_182_110 ?_
      refine Y_pI i_182_111 ow_182 lf_10_153 (k_68 hG) ?_
      refine Y_ii6 (v := 1) i_182_114 (by decide) rfl ?_
      refine Y_goto i_182_117 ?_
      exact h
    · replace h := h.2 e2
      refine Y_il6 i_182_40 ?_
      refine Y_bipush (v := 8) i_182_42 (by decide) ?_
      refine Y_cge i_182_44 (fun e4 => ?_) (fun e4 => ?_)
      · replace h := h.1 e4
        refine Y_il2 i_182_47 ?_
        refine Y_goto i_182_48 ?_
        refine Y_is7 i_182_76 rfl ?_
        refine Y_al0 i_182_78 ?_
        refine Y_gR i_182_79 ow_182 lf_10_63 (k_68 hG) (r_68_12 hG) ?_
        refine Y_al0 i_182_82 ?_
        refine Y_gI (v := (F 68 13)) i_182_83 ow_182 lf_10_153 (by decide) (k_68 hG) rfl ?_
        refine Y_il7 i_182_86 ?_
        refine Y_bipush (v := 24) i_182_88 (by decide) ?_
        refine Y_bipush (v := 8) i_182_90 (by decide) ?_
        refine Y_il6 i_182_92 ?_
        refine Y_iconst (v := 4) i_182_94 (by decide) ?_
        refine Y_irem i_182_95 (by decide) ?_
        refine Y_imul i_182_96 ?_
        refine Y_isub i_182_97 ?_
        refine Y_ishr i_182_98 ?_
        refine Y_sipush (v := 255) i_182_99 (by decide) ?_
        refine Y_iand i_182_102 ?_
        have o5 := h.1
        replace h := h.2
        refine Y_iast i_182_103 (k_80 hG) (l_80 hG) o5 rfl ?_
        refine Y_al0 i_182_104 ?_
        refine Y_dup i_182_105 rfl ?_
        refine Y_gI (v := (F 68 13)) i_182_106 ow_182 lf_10_153 (by decide) (k_68 hG) rfl ?_
        refine Y_iconst (v := 1) i_182_109 (by decide) ?_
        refine Y_iadd i_182_110 ?_
        refine Y_pI i_182_111 ow_182 lf_10_153 (k_68 hG) ?_
        refine Y_ii6 (v := 1) i_182_114 (by decide) rfl ?_
        refine Y_goto i_182_117 ?_
        exact h
      · replace h := h.2 e4
        refine Y_il6 i_182_51 ?_
        refine Y_bipush (v := 12) i_182_53 (by decide) ?_
        refine Y_cge i_182_55 (fun e6 => ?_) (fun e6 => ?_)
        · replace h := h.1 e6
          refine Y_il3 i_182_58 ?_
          refine Y_goto i_182_59 ?_
          refine Y_is7 i_182_76 rfl ?_
          refine Y_al0 i_182_78 ?_
          refine Y_gR i_182_79 ow_182 lf_10_63 (k_68 hG) (r_68_12 hG) ?_
          refine Y_al0 i_182_82 ?_
          refine Y_gI (v := (F 68 13)) i_182_83 ow_182 lf_10_153 (by decide) (k_68 hG) rfl ?_
          refine Y_il7 i_182_86 ?_
          refine Y_bipush (v := 24) i_182_88 (by decide) ?_
          refine Y_bipush (v := 8) i_182_90 (by decide) ?_
          refine Y_il6 i_182_92 ?_
          refine Y_iconst (v := 4) i_182_94 (by decide) ?_
          refine Y_irem i_182_95 (by decide) ?_
          refine Y_imul i_182_96 ?_
          refine Y_isub i_182_97 ?_
          refine Y_ishr i_182_98 ?_
          refine Y_sipush (v := 255) i_182_99 (by decide) ?_
          refine Y_iand i_182_102 ?_
          have o7 := h.1
          replace h := h.2
          refine Y_iast i_182_103 (k_80 hG) (l_80 hG) o7 rfl ?_
          refine Y_al0 i_182_104 ?_
          refine Y_dup i_182_105 rfl ?_
          refine Y_gI (v := (F 68 13)) i_182_106 ow_182 lf_10_153 (by decide) (k_68 hG) rfl ?_
          refine Y_iconst (v := 1) i_182_109 (by decide) ?_
          refine Y_iadd i_182_110 ?_
          refine Y_pI i_182_111 ow_182 lf_10_153 (k_68 hG) ?_
          refine Y_ii6 (v := 1) i_182_114 (by decide) rfl ?_
          refine Y_goto i_182_117 ?_
          exact h
        · replace h := h.2 e6
          refine Y_il6 i_182_62 ?_
          refine Y_bipush (v := 16) i_182_64 (by decide) ?_
          refine Y_cge i_182_66 (fun e8 => ?_) (fun e8 => ?_)
          · replace h := h.1 e8
            refine Y_il4 i_182_69 ?_
            refine Y_goto i_182_71 ?_
            refine Y_is7 i_182_76 rfl ?_
            refine Y_al0 i_182_78 ?_
            refine Y_gR i_182_79 ow_182 lf_10_63 (k_68 hG) (r_68_12 hG) ?_
            refine Y_al0 i_182_82 ?_
            refine Y_gI (v := (F 68 13)) i_182_83 ow_182 lf_10_153 (by decide) (k_68 hG) rfl ?_
            refine Y_il7 i_182_86 ?_
            refine Y_bipush (v := 24) i_182_88 (by decide) ?_
            refine Y_bipush (v := 8) i_182_90 (by decide) ?_
            refine Y_il6 i_182_92 ?_
            refine Y_iconst (v := 4) i_182_94 (by decide) ?_
            refine Y_irem i_182_95 (by decide) ?_
            refine Y_imul i_182_96 ?_
            refine Y_isub i_182_97 ?_
            refine Y_ishr i_182_98 ?_
            refine Y_sipush (v := 255) i_182_99 (by decide) ?_
            refine Y_iand i_182_102 ?_
            have o9 := h.1
            replace h := h.2
            refine Y_iast i_182_103 (k_80 hG) (l_80 hG) o9 rfl ?_
            refine Y_al0 i_182_104 ?_
            refine Y_dup i_182_105 rfl ?_
            refine Y_gI (v := (F 68 13)) i_182_106 ow_182 lf_10_153 (by decide) (k_68 hG) rfl ?_
            refine Y_iconst (v := 1) i_182_109 (by decide) ?_
            refine Y_iadd i_182_110 ?_
            refine Y_pI i_182_111 ow_182 lf_10_153 (k_68 hG) ?_
            refine Y_ii6 (v := 1) i_182_114 (by decide) rfl ?_
            refine Y_goto i_182_117 ?_
            exact h
          · replace h := h.2 e8
            refine Y_il5 i_182_74 ?_
            refine Y_is7 i_182_76 rfl ?_
            refine Y_al0 i_182_78 ?_
            refine Y_gR i_182_79 ow_182 lf_10_63 (k_68 hG) (r_68_12 hG) ?_
            refine Y_al0 i_182_82 ?_
            refine Y_gI (v := (F 68 13)) i_182_83 ow_182 lf_10_153 (by decide) (k_68 hG) rfl ?_
            refine Y_il7 i_182_86 ?_
            refine Y_bipush (v := 24) i_182_88 (by decide) ?_
            refine Y_bipush (v := 8) i_182_90 (by decide) ?_
            refine Y_il6 i_182_92 ?_
            refine Y_iconst (v := 4) i_182_94 (by decide) ?_
            refine Y_irem i_182_95 (by decide) ?_
            refine Y_imul i_182_96 ?_
            refine Y_isub i_182_97 ?_
            refine Y_ishr i_182_98 ?_
            refine Y_sipush (v := 255) i_182_99 (by decide) ?_
            refine Y_iand i_182_102 ?_
            have o10 := h.1
            replace h := h.2
            refine Y_iast i_182_103 (k_80 hG) (l_80 hG) o10 rfl ?_
            refine Y_al0 i_182_104 ?_
            refine Y_dup i_182_105 rfl ?_
            refine Y_gI (v := (F 68 13)) i_182_106 ow_182 lf_10_153 (by decide) (k_68 hG) rfl ?_
            refine Y_iconst (v := 1) i_182_109 (by decide) ?_
            refine Y_iadd i_182_110 ?_
            refine Y_pI i_182_111 ow_182 lf_10_153 (k_68 hG) ?_
            refine Y_ii6 (v := 1) i_182_114 (by decide) rfl ?_
            refine Y_goto i_182_117 ?_
            exact h
  · replace h := h.2 e1
    refine Y_al0 i_182_120 ?_
    refine Y_gI (v := (F 68 13)) i_182_121 ow_182 lf_10_153 (by decide) (k_68 hG) rfl ?_
    exact Y_iret i_182_124 rt_182 h
/- 187 Model.stepOn()V -/
theorem t_187_0 {d : Nat} {F A : Nat → Nat → Int32} {J : Nat → Nat → Int64} {G : pG} {Q : pR → pM → Prop} {SL p q : Nat} (hG : Geo G SL p q) (h : ((F 68 14) < F 68 15 → inB (F 68 14) 600 = true) ∧ (((btS (A 80) (F 68 15) (F 68 14)) = 32 → X (d + 1) 187 0 [.ref 68, .null] [] ((wF F 68 14 ((F 68 14) + 1)), A, J, G) Q) ∧ (¬ (btS (A 80) (F 68 15) (F 68 14)) = 32 → (((btS (A 80) (F 68 15) (F 68 14)) = 10 → X (d + 1) 187 0 [.ref 68, .null] [] ((wF F 68 14 ((F 68 14) + 1)), A, J, G) Q) ∧ (¬ (btS (A 80) (F 68 15) (F 68 14)) = 10 → ((F 68 14) < (wF F 68 18 (F 68 14)) 68 15 → inB (F 68 14) 600 = true) ∧ (((btS (A 80) ((wF F 68 18 (F 68 14)) 68 15) (F 68 14)) = (-1) → Q (.inl none) ((wF (wF (wF F 68 18 (F 68 14)) 68 16 0) 68 19 (F 68 14)), A, J, G)) ∧ (¬ (btS (A 80) ((wF F 68 18 (F 68 14)) 68 15) (F 68 14)) = (-1) → (((letB (btS (A 80) ((wF F 68 18 (F 68 14)) 68 15) (F 68 14))) = true → X (d + 1) 187 76 [.ref 68, .int (btS (A 80) ((wF F 68 18 (F 68 14)) 68 15) (F 68 14))] [] ((wF F 68 18 (F 68 14)), A, J, G) Q) ∧ ((letB (btS (A 80) ((wF F 68 18 (F 68 14)) 68 15) (F 68 14))) = false → (((digB (btS (A 80) ((wF F 68 18 (F 68 14)) 68 15) (F 68 14))) = true → X (d + 1) 187 123 [.ref 68, .int (btS (A 80) ((wF F 68 18 (F 68 14)) 68 15) (F 68 14))] [] ((wF (wF F 68 18 (F 68 14)) 68 17 0), A, J, G) Q) ∧ ((digB (btS (A 80) ((wF F 68 18 (F 68 14)) 68 15) (F 68 14))) = false → (((mrkB (btS (A 80) ((wF F 68 18 (F 68 14)) 68 15) (F 68 14))) = true → Q (.inl none) ((wF (wF (wF (wF F 68 18 (F 68 14)) 68 14 ((F 68 14) + 1)) 68 16 3) 68 19 ((F 68 14) + 1)), A, J, G)) ∧ ((mrkB (btS (A 80) ((wF F 68 18 (F 68 14)) 68 15) (F 68 14))) = false → Q (.inl none) ((wF (wF (wF (wF F 68 18 (F 68 14)) 68 14 ((F 68 14) + 1)) 68 16 4) 68 19 ((F 68 14) + 1)), A, J, G)))))))))))))) : X (d + 1) 187 0 [.ref 68, .null] [] (F, A, J, G) Q := by
  refine Y_al0 i_187_0 ?_
  refine Y_al0 i_187_1 ?_
  refine Y_gI (v := (F 68 14)) i_187_2 ow_187 lf_10_159 (by decide) (k_68 hG) rfl ?_
  have o1 := h.1
  replace h := h.2
  refine Y_iv1 (L0 := [.ref 68, .int (F 68 14)]) i_187_5 ow_187 lm_10_162 ((k_68 hG).trans ow_183.symm) rfl mx_183 rfl rfl hd_187 ?_
  refine c_183 hG o1 (KKi ?_)
  refine Y_bipush (v := 32) i_187_8 (by decide) ?_
  refine Y_ceq i_187_10 (fun e2 => ?_) (fun e2 => ?_)
  · replace h := h.1 e2
    refine Y_al0 i_187_26 ?_
    refine Y_dup i_187_27 rfl ?_
    refine Y_gI (v := (F 68 14)) i_187_28 ow_187 lf_10_159 (by decide) (k_68 hG) rfl ?_
    refine Y_iconst (v := 1) i_187_31 (by decide) ?_
    refine Y_iadd i_187_32 ?_
    refine Y_pI i_187_33 ow_187 lf_10_159 (k_68 hG) ?_
    refine Y_goto i_187_36 ?_
    exact h
  · replace h := h.2 e2
    refine Y_al0 i_187_13 ?_
    refine Y_al0 i_187_14 ?_
    refine Y_gI (v := (F 68 14)) i_187_15 ow_187 lf_10_159 (by decide) (k_68 hG) rfl ?_
    refine Y_iv1 (L0 := [.ref 68, .int (F 68 14)]) i_187_18 ow_187 lm_10_162 ((k_68 hG).trans ow_183.symm) rfl mx_183 rfl rfl hd_187 ?_
    refine c_183 hG o1 (KKi ?_)
    refine Y_bipush (v := 10) i_187_21 (by decide) ?_
    refine Y_cne i_187_23 (fun e3 => ?_) (fun e3 => ?_)
    · replace h := h.1 e3
      refine Y_al0 i_187_26 ?_
      refine Y_dup i_187_27 rfl ?_
      refine Y_gI (v := (F 68 14)) i_187_28 ow_187 lf_10_159 (by decide) (k_68 hG) rfl ?_
      refine Y_iconst (v := 1) i_187_31 (by decide) ?_
      refine Y_iadd i_187_32 ?_
      refine Y_pI i_187_33 ow_187 lf_10_159 (k_68 hG) ?_
      refine Y_goto i_187_36 ?_
      exact h
    · replace h := h.2 e3
      refine Y_al0 i_187_39 ?_
      refine Y_al0 i_187_40 ?_
      refine Y_gI (v := (F 68 14)) i_187_41 ow_187 lf_10_159 (by decide) (k_68 hG) rfl ?_
      refine Y_pI i_187_44 ow_187 lf_10_166 (k_68 hG) ?_
      refine Y_al0 i_187_47 ?_
      refine Y_al0 i_187_48 ?_
      refine Y_gI (v := (F 68 14)) i_187_49 ow_187 lf_10_159 (by decide) (k_68 hG) (by simp [wF, wJ, va_up, cpR, bF, bA]) ?_
      have o4 := h.1
      replace h := h.2
      refine Y_iv1 (L0 := [.ref 68, .int (F 68 14)]) i_187_52 ow_187 lm_10_162 ((k_68 hG).trans ow_183.symm) rfl mx_183 rfl rfl hd_187 ?_
      refine c_183 hG o4 (KKi ?_)
      refine Y_is1 i_187_55 rfl ?_
      refine Y_il1 i_187_56 ?_
      refine Y_iconst (v := (-1)) i_187_57 (by decide) ?_
      refine Y_cne i_187_58 (fun e5 => ?_) (fun e5 => ?_)
      · replace h := h.1 e5
        refine Y_al0 i_187_61 ?_
        refine Y_iconst (v := 0) i_187_62 (by decide) ?_
        refine Y_pI i_187_63 ow_187 lf_10_169 (k_68 hG) ?_
        refine Y_goto i_187_66 ?_
        refine Y_al0 i_187_212 ?_
        refine Y_al0 i_187_213 ?_
        refine Y_gI (v := (F 68 14)) i_187_214 ow_187 lf_10_159 (by decide) (k_68 hG) (by simp [wF, wJ, va_up, cpR, bF, bA]) ?_
        refine Y_pI i_187_217 ow_187 lf_10_192 (k_68 hG) ?_
        exact Y_vret i_187_220 rt_187 h
      · replace h := h.2 e5
        refine Y_il1 i_187_69 ?_
        refine Y_is_1 (L0 := [.int (btS (A 80) ((wF F 68 18 (F 68 14)) 68 15) (F 68 14))]) i_187_70 ow_187 lm_10_172 rfl mx_184 rfl rfl hd_187 ?_
        refine c_184 hG (KKi ?_)
        refine Y_beq i_187_73 (fun e6 => ?_) (fun e6 => ?_)
        · replace h := h.1 e6
          exact h
        · replace h := h.2 e6
          refine Y_il1 i_187_111 ?_
          refine Y_is_1 (L0 := [.int (btS (A 80) ((wF F 68 18 (F 68 14)) 68 15) (F 68 14))]) i_187_112 ow_187 lm_10_176 rfl mx_185 rfl rfl hd_187 ?_
          refine c_185 hG (KKi ?_)
          refine Y_beq i_187_115 (fun e7 => ?_) (fun e7 => ?_)
          · replace h := h.1 e7
            refine Y_al0 i_187_118 ?_
            refine Y_iconst (v := 0) i_187_119 (by decide) ?_
            refine Y_pI i_187_120 ow_187 lf_10_179 (k_68 hG) ?_
            exact h
          · replace h := h.2 e7
            refine Y_al0 i_187_186 ?_
            refine Y_dup i_187_187 rfl ?_
            refine Y_gI (v := (F 68 14)) i_187_188 ow_187 lf_10_159 (by decide) (k_68 hG) (by simp [wF, wJ, va_up, cpR, bF, bA]) ?_
            refine Y_iconst (v := 1) i_187_191 (by decide) ?_
            refine Y_iadd i_187_192 ?_
            refine Y_pI i_187_193 ow_187 lf_10_159 (k_68 hG) ?_
            refine Y_al0 i_187_196 ?_
            refine Y_il1 i_187_197 ?_
            refine Y_is_1 (L0 := [.int (btS (A 80) ((wF F 68 18 (F 68 14)) 68 15) (F 68 14))]) i_187_198 ow_187 lm_10_189 rfl mx_186 rfl rfl hd_187 ?_
            refine c_186 hG (KKi ?_)
            refine Y_beq i_187_201 (fun e8 => ?_) (fun e8 => ?_)
            · replace h := h.1 e8
              refine Y_iconst (v := 3) i_187_204 (by decide) ?_
              refine Y_goto i_187_205 ?_
              refine Y_pI i_187_209 ow_187 lf_10_169 (k_68 hG) ?_
              refine Y_al0 i_187_212 ?_
              refine Y_al0 i_187_213 ?_
              refine Y_gI (v := ((F 68 14) + 1)) i_187_214 ow_187 lf_10_159 (by decide) (k_68 hG) (by simp [wF, wJ, va_up, cpR, bF, bA]) ?_
              refine Y_pI i_187_217 ow_187 lf_10_192 (k_68 hG) ?_
              exact Y_vret i_187_220 rt_187 h
            · replace h := h.2 e8
              refine Y_iconst (v := 4) i_187_208 (by decide) ?_
              refine Y_pI i_187_209 ow_187 lf_10_169 (k_68 hG) ?_
              refine Y_al0 i_187_212 ?_
              refine Y_al0 i_187_213 ?_
              refine Y_gI (v := ((F 68 14) + 1)) i_187_214 ow_187 lf_10_159 (by decide) (k_68 hG) (by simp [wF, wJ, va_up, cpR, bF, bA]) ?_
              refine Y_pI i_187_217 ow_187 lf_10_192 (k_68 hG) ?_
              exact Y_vret i_187_220 rt_187 h
theorem t_187_76 {d : Nat} {F A : Nat → Nat → Int32} {J : Nat → Nat → Int64} {G : pG} {Q : pR → pM → Prop} {SL p q : Nat} {x1 : Int32} (hG : Geo G SL p q) (h : ((F 68 14) < F 68 15 → inB (F 68 14) 600 = true) ∧ (((letB (btS (A 80) (F 68 15) (F 68 14))) = true → X (d + 1) 187 76 [.ref 68, .int x1] [] ((wF F 68 14 ((F 68 14) + 1)), A, J, G) Q) ∧ ((letB (btS (A 80) (F 68 15) (F 68 14))) = false → Q (.inl none) ((wF (wF F 68 16 1) 68 19 (F 68 14)), A, J, G)))) : X (d + 1) 187 76 [.ref 68, .int x1] [] (F, A, J, G) Q := by
  refine Y_al0 i_187_76 ?_
  refine Y_al0 i_187_77 ?_
  refine Y_gI (v := (F 68 14)) i_187_78 ow_187 lf_10_159 (by decide) (k_68 hG) rfl ?_
  have o1 := h.1
  replace h := h.2
  refine Y_iv1 (L0 := [.ref 68, .int (F 68 14)]) i_187_81 ow_187 lm_10_162 ((k_68 hG).trans ow_183.symm) rfl mx_183 rfl rfl hd_187 ?_
  refine c_183 hG o1 (KKi ?_)
  refine Y_is_1 (L0 := [.int (btS (A 80) (F 68 15) (F 68 14))]) i_187_84 ow_187 lm_10_172 rfl mx_184 rfl rfl hd_187 ?_
  refine c_184 hG (KKi ?_)
  refine Y_beq i_187_87 (fun e2 => ?_) (fun e2 => ?_)
  · replace h := h.1 e2
    refine Y_al0 i_187_90 ?_
    refine Y_dup i_187_91 rfl ?_
    refine Y_gI (v := (F 68 14)) i_187_92 ow_187 lf_10_159 (by decide) (k_68 hG) rfl ?_
    refine Y_iconst (v := 1) i_187_95 (by decide) ?_
    refine Y_iadd i_187_96 ?_
    refine Y_pI i_187_97 ow_187 lf_10_159 (k_68 hG) ?_
    refine Y_goto i_187_100 ?_
    exact h
  · replace h := h.2 e2
    refine Y_al0 i_187_103 ?_
    refine Y_iconst (v := 1) i_187_104 (by decide) ?_
    refine Y_pI i_187_105 ow_187 lf_10_169 (k_68 hG) ?_
    refine Y_goto i_187_108 ?_
    refine Y_al0 i_187_212 ?_
    refine Y_al0 i_187_213 ?_
    refine Y_gI (v := (F 68 14)) i_187_214 ow_187 lf_10_159 (by decide) (k_68 hG) (by simp [wF, wJ, va_up, cpR, bF, bA]) ?_
    refine Y_pI i_187_217 ow_187 lf_10_192 (k_68 hG) ?_
    exact Y_vret i_187_220 rt_187 h
theorem t_187_123 {d : Nat} {F A : Nat → Nat → Int32} {J : Nat → Nat → Int64} {G : pG} {Q : pR → pM → Prop} {SL p q : Nat} {x1 : Int32} (hG : Geo G SL p q) (h : ((F 68 14) < F 68 15 → inB (F 68 14) 600 = true) ∧ (((digB (btS (A 80) (F 68 15) (F 68 14))) = true → X (d + 1) 187 123 [.ref 68, .int x1] [] ((wF (wF F 68 17 (jmin 100000 ((((10 : Int32) * (F 68 17)) + (btS (A 80) (F 68 15) (F 68 14))) - 48))) 68 14 ((F 68 14) + 1)), A, J, G) Q) ∧ ((digB (btS (A 80) (F 68 15) (F 68 14))) = false → Q (.inl none) ((wF (wF F 68 16 2) 68 19 (F 68 14)), A, J, G)))) : X (d + 1) 187 123 [.ref 68, .int x1] [] (F, A, J, G) Q := by
  refine Y_al0 i_187_123 ?_
  refine Y_al0 i_187_124 ?_
  refine Y_gI (v := (F 68 14)) i_187_125 ow_187 lf_10_159 (by decide) (k_68 hG) rfl ?_
  have o1 := h.1
  replace h := h.2
  refine Y_iv1 (L0 := [.ref 68, .int (F 68 14)]) i_187_128 ow_187 lm_10_162 ((k_68 hG).trans ow_183.symm) rfl mx_183 rfl rfl hd_187 ?_
  refine c_183 hG o1 (KKi ?_)
  refine Y_is_1 (L0 := [.int (btS (A 80) (F 68 15) (F 68 14))]) i_187_131 ow_187 lm_10_176 rfl mx_185 rfl rfl hd_187 ?_
  refine c_185 hG (KKi ?_)
  refine Y_beq i_187_134 (fun e2 => ?_) (fun e2 => ?_)
  · replace h := h.1 e2
    refine Y_al0 i_187_137 ?_
    refine Y_ldcI i_187_138 ow_187 li_10_182 ?_
    refine Y_bipush (v := 10) i_187_140 (by decide) ?_
    refine Y_al0 i_187_142 ?_
    refine Y_gI (v := (F 68 17)) i_187_143 ow_187 lf_10_179 (by decide) (k_68 hG) rfl ?_
    refine Y_imul i_187_146 ?_
    refine Y_al0 i_187_147 ?_
    refine Y_al0 i_187_148 ?_
    refine Y_gI (v := (F 68 14)) i_187_149 ow_187 lf_10_159 (by decide) (k_68 hG) rfl ?_
    refine Y_iv1 (L0 := [.ref 68, .int (F 68 14)]) i_187_152 ow_187 lm_10_162 ((k_68 hG).trans ow_183.symm) rfl mx_183 rfl rfl hd_187 ?_
    refine c_183 hG o1 (KKi ?_)
    refine Y_iadd i_187_155 ?_
    refine Y_bipush (v := 48) i_187_156 (by decide) ?_
    refine Y_isub i_187_158 ?_
    refine Y_min i_187_159 ow_187 lm_10_183 rfl ?_
    refine Y_pI i_187_162 ow_187 lf_10_179 (k_68 hG) ?_
    refine Y_al0 i_187_165 ?_
    refine Y_dup i_187_166 rfl ?_
    refine Y_gI (v := (F 68 14)) i_187_167 ow_187 lf_10_159 (by decide) (k_68 hG) (by simp [wF, wJ, va_up, cpR, bF, bA]) ?_
    refine Y_iconst (v := 1) i_187_170 (by decide) ?_
    refine Y_iadd i_187_171 ?_
    refine Y_pI i_187_172 ow_187 lf_10_159 (k_68 hG) ?_
    refine Y_goto i_187_175 ?_
    exact h
  · replace h := h.2 e2
    refine Y_al0 i_187_178 ?_
    refine Y_iconst (v := 2) i_187_179 (by decide) ?_
    refine Y_pI i_187_180 ow_187 lf_10_169 (k_68 hG) ?_
    refine Y_goto i_187_183 ?_
    refine Y_al0 i_187_212 ?_
    refine Y_al0 i_187_213 ?_
    refine Y_gI (v := (F 68 14)) i_187_214 ow_187 lf_10_159 (by decide) (k_68 hG) (by simp [wF, wJ, va_up, cpR, bF, bA]) ?_
    refine Y_pI i_187_217 ow_187 lf_10_192 (k_68 hG) ?_
    exact Y_vret i_187_220 rt_187 h
/- 188 Model.wrong(I)V -/
theorem t_188_0 {d : Nat} {F A : Nat → Nat → Int32} {J : Nat → Nat → Int64} {G : pG} {Q : pR → pM → Prop} {SL p q : Nat} {x1 : Int32} (hG : Geo G SL p q) (h : (((F 68 20) = 0 → Q (.inl none) ((wF (wF F 68 20 x1) 68 21 (F 68 18)), A, J, G)) ∧ (¬ (F 68 20) = 0 → Q (.inl none) (F, A, J, G)))) : X d 188 0 [.ref 68, .int x1] [] (F, A, J, G) Q := by
  refine Y_al0 i_188_0 ?_
  refine Y_gI (v := (F 68 20)) i_188_1 ow_188 lf_10_195 (by decide) (k_68 hG) rfl ?_
  refine Y_zeq i_188_4 (fun e1 => ?_) (fun e1 => ?_)
  · replace h := h.1 e1
    refine Y_al0 i_188_8 ?_
    refine Y_il1 i_188_9 ?_
    refine Y_pI i_188_10 ow_188 lf_10_195 (k_68 hG) ?_
    refine Y_al0 i_188_13 ?_
    refine Y_al0 i_188_14 ?_
    refine Y_gI (v := (F 68 18)) i_188_15 ow_188 lf_10_166 (by decide) (k_68 hG) (by simp [wF, wJ, va_up, cpR, bF, bA]) ?_
    refine Y_pI i_188_18 ow_188 lf_10_198 (k_68 hG) ?_
    exact Y_vret i_188_21 rt_188 h
  · replace h := h.2 e1
    exact Y_vret i_188_7 rt_188 h
/- 189 Model.is(Ljava/lang/String;)Z -/
theorem t_189_0 {d : Nat} {F A : Nat → Nat → Int32} {J : Nat → Nat → Int64} {G : pG} {Q : pR → pM → Prop} {SL p q : Nat} {s : Nat} (hG : Geo G SL p q) (hss : 1000 ≤ s ∧ s < 1000 + sBy.length) (h : (((F 68 20) = 0 → (((F 68 16) = 1 → (((nI (sLen (s - 1000))) = ((F 68 19) - (F 68 18)) → X d 189 39 [.ref 68, .ref s, .int 1, .int 0] [] (F, A, J, G) Q) ∧ (¬ (nI (sLen (s - 1000))) = ((F 68 19) - (F 68 18)) → X d 189 39 [.ref 68, .ref s, .int 0, .int 0] [] (F, A, J, G) Q))) ∧ (¬ (F 68 16) = 1 → X d 189 39 [.ref 68, .ref s, .int 0, .int 0] [] (F, A, J, G) Q))) ∧ (¬ (F 68 20) = 0 → X d 189 39 [.ref 68, .ref s, .int 0, .int 0] [] (F, A, J, G) Q))) : X d 189 0 [.ref 68, .ref s, .null, .null] [] (F, A, J, G) Q := by
  refine Y_al0 i_189_0 ?_
  refine Y_gI (v := (F 68 20)) i_189_1 ow_189 lf_10_195 (by decide) (k_68 hG) rfl ?_
  refine Y_zne i_189_4 (fun e1 => ?_) (fun e1 => ?_)
  · replace h := h.1 e1
    refine Y_al0 i_189_7 ?_
    refine Y_gI (v := (F 68 16)) i_189_8 ow_189 lf_10_169 (by decide) (k_68 hG) rfl ?_
    refine Y_iconst (v := 1) i_189_11 (by decide) ?_
    refine Y_cne i_189_12 (fun e2 => ?_) (fun e2 => ?_)
    · replace h := h.1 e2
      refine Y_al1 i_189_15 ?_
      refine Y_slen (v := nI (sLen (s - 1000))) i_189_16 ow_189 lm_10_201 rfl hss rfl ?_
      refine Y_al0 i_189_19 ?_
      refine Y_gI (v := (F 68 19)) i_189_20 ow_189 lf_10_192 (by decide) (k_68 hG) rfl ?_
      refine Y_al0 i_189_23 ?_
      refine Y_gI (v := (F 68 18)) i_189_24 ow_189 lf_10_166 (by decide) (k_68 hG) rfl ?_
      refine Y_isub i_189_27 ?_
      refine Y_cne i_189_28 (fun e3 => ?_) (fun e3 => ?_)
      · replace h := h.1 e3
        refine Y_iconst (v := 1) i_189_31 (by decide) ?_
        refine Y_goto i_189_32 ?_
        refine Y_is2 i_189_36 rfl ?_
        refine Y_iconst (v := 0) i_189_37 (by decide) ?_
        refine Y_is3 i_189_38 rfl ?_
        exact h
      · replace h := h.2 e3
        refine Y_iconst (v := 0) i_189_35 (by decide) ?_
        refine Y_is2 i_189_36 rfl ?_
        refine Y_iconst (v := 0) i_189_37 (by decide) ?_
        refine Y_is3 i_189_38 rfl ?_
        exact h
    · replace h := h.2 e2
      refine Y_iconst (v := 0) i_189_35 (by decide) ?_
      refine Y_is2 i_189_36 rfl ?_
      refine Y_iconst (v := 0) i_189_37 (by decide) ?_
      refine Y_is3 i_189_38 rfl ?_
      exact h
  · replace h := h.2 e1
    refine Y_iconst (v := 0) i_189_35 (by decide) ?_
    refine Y_is2 i_189_36 rfl ?_
    refine Y_iconst (v := 0) i_189_37 (by decide) ?_
    refine Y_is3 i_189_38 rfl ?_
    exact h
theorem t_189_39 {d : Nat} {F A : Nat → Nat → Int32} {J : Nat → Nat → Int64} {G : pG} {Q : pR → pM → Prop} {SL p q : Nat} {s : Nat} {x2 x3 : Int32} (hG : Geo G SL p q) (hss : 1000 ≤ s ∧ s < 1000 + sBy.length) (h : ((x2 = 0 → (x2 = 0 ∨ x2 = 1) ∧ (Q (.inl (some (.int x2))) (F, A, J, G))) ∧ (¬ x2 = 0 → ((x3 < (nI (sLen (s - 1000))) → inB x3 (sLen (s - 1000)) = true ∧ inB ((F 68 18) + x3) 600 = true ∧ (((sCh (s - 1000) x3.toNatClampNeg) = (A 80 ((F 68 18) + x3).toNatClampNeg) → X d 189 39 [.ref 68, .ref s, .int 1, .int (x3 + 1)] [] (F, A, J, G) Q) ∧ (¬ (sCh (s - 1000) x3.toNatClampNeg) = (A 80 ((F 68 18) + x3).toNatClampNeg) → X d 189 39 [.ref 68, .ref s, .int 0, .int (x3 + 1)] [] (F, A, J, G) Q))) ∧ (¬ x3 < (nI (sLen (s - 1000))) → (x2 = 0 ∨ x2 = 1) ∧ (Q (.inl (some (.int x2))) (F, A, J, G))))))) : X d 189 39 [.ref 68, .ref s, .int x2, .int x3] [] (F, A, J, G) Q := by
  refine Y_il2 i_189_39 ?_
  refine Y_zeq i_189_40 (fun e1 => ?_) (fun e1 => ?_)
  · replace h := h.1 e1
    refine Y_il2 i_189_82 ?_
    have o2 := h.1
    replace h := h.2
    exact Y_bret i_189_83 rt_189 o2 h
  · replace h := h.2 e1
    refine Y_il3 i_189_43 ?_
    refine Y_al1 i_189_44 ?_
    refine Y_slen (v := nI (sLen (s - 1000))) i_189_45 ow_189 lm_10_201 rfl hss rfl ?_
    refine Y_cge i_189_48 (fun e3 => ?_) (fun e3 => ?_)
    · replace h := h.1 e3
      refine Y_al1 i_189_51 ?_
      refine Y_il3 i_189_52 ?_
      have o4 := h.1
      replace h := h.2
      refine Y_sch i_189_53 ow_189 lm_10_205 rfl hss o4 ?_
      refine Y_al0 i_189_56 ?_
      refine Y_gR i_189_57 ow_189 lf_10_63 (k_68 hG) (r_68_12 hG) ?_
      refine Y_al0 i_189_60 ?_
      refine Y_gI (v := (F 68 18)) i_189_61 ow_189 lf_10_166 (by decide) (k_68 hG) rfl ?_
      refine Y_il3 i_189_64 ?_
      refine Y_iadd i_189_65 ?_
      have o5 := h.1
      replace h := h.2
      refine Y_iaload (k := ((F 68 18) + x3).toNatClampNeg) (v := (A 80 ((F 68 18) + x3).toNatClampNeg)) i_189_66 (k_80 hG) (l_80 hG) o5 rfl rfl ?_
      refine Y_cne i_189_67 (fun e6 => ?_) (fun e6 => ?_)
      · replace h := h.1 e6
        refine Y_iconst (v := 1) i_189_70 (by decide) ?_
        refine Y_goto i_189_71 ?_
        refine Y_is2 i_189_75 rfl ?_
        refine Y_ii3 (v := 1) i_189_76 (by decide) rfl ?_
        refine Y_goto i_189_79 ?_
        exact h
      · replace h := h.2 e6
        refine Y_iconst (v := 0) i_189_74 (by decide) ?_
        refine Y_is2 i_189_75 rfl ?_
        refine Y_ii3 (v := 1) i_189_76 (by decide) rfl ?_
        refine Y_goto i_189_79 ?_
        exact h
    · replace h := h.2 e3
      refine Y_il2 i_189_82 ?_
      have o7 := h.1
      replace h := h.2
      exact Y_bret i_189_83 rt_189 o7 h
/- 190 Model.wordOf([Ljava/lang/String;)I -/
theorem t_190k_0 {d : Nat} {F A : Nat → Nat → Int32} {J : Nat → Nat → Int64} {G : pG} {Q : pR → pM → Prop} {SL p q : Nat} (hG : Geo G SL p q) (h : X (d + 1) 190 2 [.ref 68, .ref 69, .int 0] [] (F, A, J, G) Q) : X (d + 1) 190 0 [.ref 68, .ref 69, .null] [] (F, A, J, G) Q := by
  refine Y_iconst (v := 0) i_190_0 (by decide) ?_
  refine Y_is2 i_190_1 rfl ?_
  exact h
theorem t_190k_2 {d : Nat} {F A : Nat → Nat → Int32} {J : Nat → Nat → Int64} {G : pG} {Q : pR → pM → Prop} {SL p q : Nat} {x2 : Int32} (hG : Geo G SL p q) (h : ((x2 < 4 → inB x2 4 = true ∧ (gR G 69 x2.toNatClampNeg = (gR G 69 x2.toNatClampNeg - 1) + 1) ∧ (1000 ≤ (gR G 69 x2.toNatClampNeg - 1) ∧ (gR G 69 x2.toNatClampNeg - 1) < 1000 + sBy.length) ∧ (X d 189 0 [.ref 68, .ref (gR G 69 x2.toNatClampNeg - 1), .null, .null] [] (F, A, J, G) (KK (d + 1) 190 15 [.ref 68, .ref 69, .int x2] [] Q))) ∧ (¬ x2 < 4 → Q (.inl (some (.int (-1)))) (F, A, J, G)))) : X (d + 1) 190 2 [.ref 68, .ref 69, .int x2] [] (F, A, J, G) Q := by
  refine Y_il2 i_190_2 ?_
  refine Y_al1 i_190_3 ?_
  refine Y_alen (v := 4) i_190_4 (Or.inr (Or.inr (Or.inr (Or.inl (k_69 hG))))) (l_69 hG) (by decide) ?_
  refine Y_cge i_190_5 (fun e1 => ?_) (fun e1 => ?_)
  · replace h := h.1 e1
    refine Y_al0 i_190_8 ?_
    refine Y_al1 i_190_9 ?_
    refine Y_il2 i_190_10 ?_
    have o2 := h.1
    replace h := h.2
    have o3 := h.1
    replace h := h.2
    have o4 := h.1
    replace h := h.2
    refine Y_aaload i_190_11 (k_69 hG) (l_69 hG) o2 o3 ?_
    exact Y_iv1 (L0 := [.ref 68, .ref (gR G 69 x2.toNatClampNeg - 1), .null, .null]) i_190_12 ow_190 lm_10_209 ((k_68 hG).trans ow_189.symm) rfl mx_189 rfl rfl hd_190 h
  · replace h := h.2 e1
    refine Y_iconst (v := (-1)) i_190_26 (by decide) ?_
    exact Y_iret i_190_27 rt_190 h
theorem k_190k_15 {d : Nat} {F A : Nat → Nat → Int32} {J : Nat → Nat → Int64} {G : pG} {Q : pR → pM → Prop} {SL p q : Nat} {x2 r : Int32} (hG : Geo G SL p q) (h : ((r = 0 → X (d + 1) 190 2 [.ref 68, .ref 69, .int (x2 + 1)] [] (F, A, J, G) Q) ∧ (¬ r = 0 → Q (.inl (some (.int x2))) (F, A, J, G)))) : KK (d + 1) 190 15 [.ref 68, .ref 69, .int x2] [] Q (.inl (some (.int r))) (F, A, J, G) := by
  refine KKi ?_
  refine Y_zeq i_190_15 (fun e1 => ?_) (fun e1 => ?_)
  · replace h := h.1 e1
    refine Y_ii2 (v := 1) i_190_20 (by decide) rfl ?_
    refine Y_goto i_190_23 ?_
    exact h
  · replace h := h.2 e1
    refine Y_il2 i_190_18 ?_
    exact Y_iret i_190_19 rt_190 h
/- 190 Model.wordOf([Ljava/lang/String;)I -/
theorem t_190v_0 {d : Nat} {F A : Nat → Nat → Int32} {J : Nat → Nat → Int64} {G : pG} {Q : pR → pM → Prop} {SL p q : Nat} (hG : Geo G SL p q) (h : X (d + 1) 190 2 [.ref 68, .ref 70, .int 0] [] (F, A, J, G) Q) : X (d + 1) 190 0 [.ref 68, .ref 70, .null] [] (F, A, J, G) Q := by
  refine Y_iconst (v := 0) i_190_0 (by decide) ?_
  refine Y_is2 i_190_1 rfl ?_
  exact h
theorem t_190v_2 {d : Nat} {F A : Nat → Nat → Int32} {J : Nat → Nat → Int64} {G : pG} {Q : pR → pM → Prop} {SL p q : Nat} {x2 : Int32} (hG : Geo G SL p q) (h : ((x2 < 6 → inB x2 6 = true ∧ (gR G 70 x2.toNatClampNeg = (gR G 70 x2.toNatClampNeg - 1) + 1) ∧ (1000 ≤ (gR G 70 x2.toNatClampNeg - 1) ∧ (gR G 70 x2.toNatClampNeg - 1) < 1000 + sBy.length) ∧ (X d 189 0 [.ref 68, .ref (gR G 70 x2.toNatClampNeg - 1), .null, .null] [] (F, A, J, G) (KK (d + 1) 190 15 [.ref 68, .ref 70, .int x2] [] Q))) ∧ (¬ x2 < 6 → Q (.inl (some (.int (-1)))) (F, A, J, G)))) : X (d + 1) 190 2 [.ref 68, .ref 70, .int x2] [] (F, A, J, G) Q := by
  refine Y_il2 i_190_2 ?_
  refine Y_al1 i_190_3 ?_
  refine Y_alen (v := 6) i_190_4 (Or.inr (Or.inr (Or.inr (Or.inl (k_70 hG))))) (l_70 hG) (by decide) ?_
  refine Y_cge i_190_5 (fun e1 => ?_) (fun e1 => ?_)
  · replace h := h.1 e1
    refine Y_al0 i_190_8 ?_
    refine Y_al1 i_190_9 ?_
    refine Y_il2 i_190_10 ?_
    have o2 := h.1
    replace h := h.2
    have o3 := h.1
    replace h := h.2
    have o4 := h.1
    replace h := h.2
    refine Y_aaload i_190_11 (k_70 hG) (l_70 hG) o2 o3 ?_
    exact Y_iv1 (L0 := [.ref 68, .ref (gR G 70 x2.toNatClampNeg - 1), .null, .null]) i_190_12 ow_190 lm_10_209 ((k_68 hG).trans ow_189.symm) rfl mx_189 rfl rfl hd_190 h
  · replace h := h.2 e1
    refine Y_iconst (v := (-1)) i_190_26 (by decide) ?_
    exact Y_iret i_190_27 rt_190 h
theorem k_190v_15 {d : Nat} {F A : Nat → Nat → Int32} {J : Nat → Nat → Int64} {G : pG} {Q : pR → pM → Prop} {SL p q : Nat} {x2 r : Int32} (hG : Geo G SL p q) (h : ((r = 0 → X (d + 1) 190 2 [.ref 68, .ref 70, .int (x2 + 1)] [] (F, A, J, G) Q) ∧ (¬ r = 0 → Q (.inl (some (.int x2))) (F, A, J, G)))) : KK (d + 1) 190 15 [.ref 68, .ref 70, .int x2] [] Q (.inl (some (.int r))) (F, A, J, G) := by
  refine KKi ?_
  refine Y_zeq i_190_15 (fun e1 => ?_) (fun e1 => ?_)
  · replace h := h.1 e1
    refine Y_ii2 (v := 1) i_190_20 (by decide) rfl ?_
    refine Y_goto i_190_23 ?_
    exact h
  · replace h := h.2 e1
    refine Y_il2 i_190_18 ?_
    exact Y_iret i_190_19 rt_190 h
/- 192 Model.mark(I)V -/
theorem t_192_0 {d : Nat} {F A : Nat → Nat → Int32} {J : Nat → Nat → Int64} {G : pG} {Q : pR → pM → Prop} {SL p q : Nat} {x1 : Int32} (hG : Geo G SL p q) (h : (((F 68 20) = 0 → (F 68 20 = 0 → F 68 16 = 3 → inB (F 68 18) 600 = true) ∧ (((mkB (F 68 20) (F 68 16) (A 80 (F 68 18).toNatClampNeg) x1) = true → (((F 68 20) = 0 → X (d + 1) 187 0 [.ref 68, .null] [] (F, A, J, G) (KK (d + 2) 192 31 [.ref 68, .int x1] [] Q)) ∧ (¬ (F 68 20) = 0 → Q (.inl none) (F, A, J, G)))) ∧ ((mkB (F 68 20) (F 68 16) (A 80 (F 68 18).toNatClampNeg) x1) = false → (((F 68 20) = 0 → Q (.inl none) ((wF (wF F 68 20 1) 68 21 (F 68 18)), A, J, G)) ∧ (¬ (F 68 20) = 0 → (((F 68 20) = 0 → X (d + 1) 187 0 [.ref 68, .null] [] (F, A, J, G) (KK (d + 2) 192 31 [.ref 68, .int x1] [] Q)) ∧ (¬ (F 68 20) = 0 → Q (.inl none) (F, A, J, G)))))))) ∧ (¬ (F 68 20) = 0 → (((F 68 20) = 0 → X (d + 1) 187 0 [.ref 68, .null] [] (F, A, J, G) (KK (d + 2) 192 31 [.ref 68, .int x1] [] Q)) ∧ (¬ (F 68 20) = 0 → Q (.inl none) (F, A, J, G)))))) : X (d + 2) 192 0 [.ref 68, .int x1] [] (F, A, J, G) Q := by
  refine Y_al0 i_192_0 ?_
  refine Y_gI (v := (F 68 20)) i_192_1 ow_192 lf_10_195 (by decide) (k_68 hG) rfl ?_
  refine Y_zne i_192_4 (fun e1 => ?_) (fun e1 => ?_)
  · replace h := h.1 e1
    refine Y_al0 i_192_7 ?_
    refine Y_il1 i_192_8 ?_
    have o2 := h.1
    replace h := h.2
    refine Y_iv1 (L0 := [.ref 68, .int x1]) i_192_9 ow_192 lm_10_213 ((k_68 hG).trans ow_191.symm) rfl mx_191 rfl rfl hd_192 ?_
    refine c_191 hG o2 (KKi ?_)
    refine Y_bne i_192_12 (fun e3 => ?_) (fun e3 => ?_)
    · replace h := h.1 e3
      refine Y_al0 i_192_20 ?_
      refine Y_gI (v := (F 68 20)) i_192_21 ow_192 lf_10_195 (by decide) (k_68 hG) rfl ?_
      refine Y_zne i_192_24 (fun e4 => ?_) (fun e4 => ?_)
      · replace h := h.1 e4
        refine Y_al0 i_192_27 ?_
        exact Y_iv0 (L0 := [.ref 68, .null]) i_192_28 ow_192 lm_10_220 ((k_68 hG).trans ow_187.symm) rfl mx_187 rfl rfl hd_192 h
      · replace h := h.2 e4
        exact Y_vret i_192_31 rt_192 h
    · replace h := h.2 e3
      refine Y_al0 i_192_15 ?_
      refine Y_iconst (v := 1) i_192_16 (by decide) ?_
      refine Y_iv1 (L0 := [.ref 68, .int 1]) i_192_17 ow_192 lm_10_216 ((k_68 hG).trans ow_188.symm) rfl mx_188 rfl rfl hd_192 ?_
      refine Y_al0 i_188_0 ?_
      refine Y_gI (v := (F 68 20)) i_188_1 ow_188 lf_10_195 (by decide) (k_68 hG) rfl ?_
      refine Y_zeq i_188_4 (fun e5 => ?_) (fun e5 => ?_)
      · replace h := h.1 e5
        refine Y_al0 i_188_8 ?_
        refine Y_il1 i_188_9 ?_
        refine Y_pI i_188_10 ow_188 lf_10_195 (k_68 hG) ?_
        refine Y_al0 i_188_13 ?_
        refine Y_al0 i_188_14 ?_
        refine Y_gI (v := (F 68 18)) i_188_15 ow_188 lf_10_166 (by decide) (k_68 hG) (by simp [wF, wJ, va_up, cpR, bF, bA]) ?_
        refine Y_pI i_188_18 ow_188 lf_10_198 (k_68 hG) ?_
        refine Y_vret i_188_21 rt_188 (KKv ?_)
        refine Y_al0 i_192_20 ?_
        refine Y_gI (v := 1) i_192_21 ow_192 lf_10_195 (by decide) (k_68 hG) (by simp [wF, wJ, va_up, cpR, bF, bA]) ?_
        refine Y_zT i_192_24 (by decide) ?_
        exact Y_vret i_192_31 rt_192 h
      · replace h := h.2 e5
        refine Y_vret i_188_7 rt_188 (KKv ?_)
        refine Y_al0 i_192_20 ?_
        refine Y_gI (v := (F 68 20)) i_192_21 ow_192 lf_10_195 (by decide) (k_68 hG) rfl ?_
        refine Y_zne i_192_24 (fun e6 => ?_) (fun e6 => ?_)
        · replace h := h.1 e6
          refine Y_al0 i_192_27 ?_
          exact Y_iv0 (L0 := [.ref 68, .null]) i_192_28 ow_192 lm_10_220 ((k_68 hG).trans ow_187.symm) rfl mx_187 rfl rfl hd_192 h
        · replace h := h.2 e6
          exact Y_vret i_192_31 rt_192 h
  · replace h := h.2 e1
    refine Y_al0 i_192_20 ?_
    refine Y_gI (v := (F 68 20)) i_192_21 ow_192 lf_10_195 (by decide) (k_68 hG) rfl ?_
    refine Y_zne i_192_24 (fun e7 => ?_) (fun e7 => ?_)
    · replace h := h.1 e7
      refine Y_al0 i_192_27 ?_
      exact Y_iv0 (L0 := [.ref 68, .null]) i_192_28 ow_192 lm_10_220 ((k_68 hG).trans ow_187.symm) rfl mx_187 rfl rfl hd_192 h
    · replace h := h.2 e7
      exact Y_vret i_192_31 rt_192 h
theorem k_192_31 {d : Nat} {F A : Nat → Nat → Int32} {J : Nat → Nat → Int64} {G : pG} {Q : pR → pM → Prop} {SL p q : Nat} {x1 : Int32} (hG : Geo G SL p q) (h : Q (.inl none) (F, A, J, G)) : KK (d + 2) 192 31 [.ref 68, .int x1] [] Q (.inl none) (F, A, J, G) := by
  refine KKv ?_
  exact Y_vret i_192_31 rt_192 h
/- 193 Model.readNumber(II)I -/
theorem t_193_0 {d : Nat} {F A : Nat → Nat → Int32} {J : Nat → Nat → Int64} {G : pG} {Q : pR → pM → Prop} {SL p q : Nat} {x1 x2 : Int32} (hG : Geo G SL p q) (h : (((F 68 20) = 0 → (((F 68 16) = 2 → ((4 < ((F 68 19) - (F 68 18)) → (((F 68 20) = 0 → Q (.inl (some (.int 0))) ((wF (wF F 68 20 2) 68 21 (F 68 18)), A, J, G)) ∧ (¬ (F 68 20) = 0 → (((F 68 20) = 0 → (((F 68 20) = 0 → X (d + 1) 187 0 [.ref 68, .null] [] (F, A, J, G) (KK (d + 2) 193 86 [.ref 68, .int x1, .int x2, .int (F 68 17)] [] Q)) ∧ (¬ (F 68 20) = 0 → Q (.inl (some (.int (F 68 17)))) (F, A, J, G)))) ∧ (¬ (F 68 20) = 0 → (((F 68 20) = 0 → X (d + 1) 187 0 [.ref 68, .null] [] (F, A, J, G) (KK (d + 2) 193 86 [.ref 68, .int x1, .int x2, .int 0] [] Q)) ∧ (¬ (F 68 20) = 0 → Q (.inl (some (.int 0))) (F, A, J, G)))))))) ∧ (¬ 4 < ((F 68 19) - (F 68 18)) → (((F 68 17) < x1 → (((F 68 20) = 0 → Q (.inl (some (.int 0))) ((wF (wF F 68 20 2) 68 21 (F 68 18)), A, J, G)) ∧ (¬ (F 68 20) = 0 → (((F 68 20) = 0 → (((F 68 20) = 0 → X (d + 1) 187 0 [.ref 68, .null] [] (F, A, J, G) (KK (d + 2) 193 86 [.ref 68, .int x1, .int x2, .int (F 68 17)] [] Q)) ∧ (¬ (F 68 20) = 0 → Q (.inl (some (.int (F 68 17)))) (F, A, J, G)))) ∧ (¬ (F 68 20) = 0 → (((F 68 20) = 0 → X (d + 1) 187 0 [.ref 68, .null] [] (F, A, J, G) (KK (d + 2) 193 86 [.ref 68, .int x1, .int x2, .int 0] [] Q)) ∧ (¬ (F 68 20) = 0 → Q (.inl (some (.int 0))) (F, A, J, G)))))))) ∧ (¬ (F 68 17) < x1 → ((x2 < (F 68 17) → (((F 68 20) = 0 → Q (.inl (some (.int 0))) ((wF (wF F 68 20 2) 68 21 (F 68 18)), A, J, G)) ∧ (¬ (F 68 20) = 0 → (((F 68 20) = 0 → (((F 68 20) = 0 → X (d + 1) 187 0 [.ref 68, .null] [] (F, A, J, G) (KK (d + 2) 193 86 [.ref 68, .int x1, .int x2, .int (F 68 17)] [] Q)) ∧ (¬ (F 68 20) = 0 → Q (.inl (some (.int (F 68 17)))) (F, A, J, G)))) ∧ (¬ (F 68 20) = 0 → (((F 68 20) = 0 → X (d + 1) 187 0 [.ref 68, .null] [] (F, A, J, G) (KK (d + 2) 193 86 [.ref 68, .int x1, .int x2, .int 0] [] Q)) ∧ (¬ (F 68 20) = 0 → Q (.inl (some (.int 0))) (F, A, J, G)))))))) ∧ (¬ x2 < (F 68 17) → (((F 68 20) = 0 → (((F 68 20) = 0 → X (d + 1) 187 0 [.ref 68, .null] [] (F, A, J, G) (KK (d + 2) 193 86 [.ref 68, .int x1, .int x2, .int (F 68 17)] [] Q)) ∧ (¬ (F 68 20) = 0 → Q (.inl (some (.int (F 68 17)))) (F, A, J, G)))) ∧ (¬ (F 68 20) = 0 → (((F 68 20) = 0 → X (d + 1) 187 0 [.ref 68, .null] [] (F, A, J, G) (KK (d + 2) 193 86 [.ref 68, .int x1, .int x2, .int 0] [] Q)) ∧ (¬ (F 68 20) = 0 → Q (.inl (some (.int 0))) (F, A, J, G)))))))))))) ∧ (¬ (F 68 16) = 2 → (((F 68 20) = 0 → Q (.inl (some (.int 0))) ((wF (wF F 68 20 1) 68 21 (F 68 18)), A, J, G)) ∧ (¬ (F 68 20) = 0 → (((F 68 20) = 0 → (((F 68 20) = 0 → X (d + 1) 187 0 [.ref 68, .null] [] (F, A, J, G) (KK (d + 2) 193 86 [.ref 68, .int x1, .int x2, .int (F 68 17)] [] Q)) ∧ (¬ (F 68 20) = 0 → Q (.inl (some (.int (F 68 17)))) (F, A, J, G)))) ∧ (¬ (F 68 20) = 0 → (((F 68 20) = 0 → X (d + 1) 187 0 [.ref 68, .null] [] (F, A, J, G) (KK (d + 2) 193 86 [.ref 68, .int x1, .int x2, .int 0] [] Q)) ∧ (¬ (F 68 20) = 0 → Q (.inl (some (.int 0))) (F, A, J, G)))))))))) ∧ (¬ (F 68 20) = 0 → Q (.inl (some (.int 0))) (F, A, J, G)))) : X (d + 2) 193 0 [.ref 68, .int x1, .int x2, .null] [] (F, A, J, G) Q := by
  refine Y_al0 i_193_0 ?_
  refine Y_gI (v := (F 68 20)) i_193_1 ow_193 lf_10_195 (by decide) (k_68 hG) rfl ?_
  refine Y_zeq i_193_4 (fun e1 => ?_) (fun e1 => ?_)
  · replace h := h.1 e1
    refine Y_al0 i_193_9 ?_
    refine Y_gI (v := (F 68 16)) i_193_10 ow_193 lf_10_169 (by decide) (k_68 hG) rfl ?_
    refine Y_iconst (v := 2) i_193_13 (by decide) ?_
    refine Y_ceq i_193_14 (fun e2 => ?_) (fun e2 => ?_)
    · replace h := h.1 e2
      refine Y_al0 i_193_25 ?_
      refine Y_gI (v := (F 68 19)) i_193_26 ow_193 lf_10_192 (by decide) (k_68 hG) rfl ?_
      refine Y_al0 i_193_29 ?_
      refine Y_gI (v := (F 68 18)) i_193_30 ow_193 lf_10_166 (by decide) (k_68 hG) rfl ?_
      refine Y_isub i_193_33 ?_
      refine Y_iconst (v := 4) i_193_34 (by decide) ?_
      refine Y_cgt i_193_35 (fun e3 => ?_) (fun e3 => ?_)
      · replace h := h.1 e3
        refine Y_al0 i_193_54 ?_
        refine Y_iconst (v := 2) i_193_55 (by decide) ?_
        refine Y_iv1 (L0 := [.ref 68, .int 2]) i_193_56 ow_193 lm_10_216 ((k_68 hG).trans ow_188.symm) rfl mx_188 rfl rfl hd_193 ?_
        refine Y_al0 i_188_0 ?_
        refine Y_gI (v := (F 68 20)) i_188_1 ow_188 lf_10_195 (by decide) (k_68 hG) rfl ?_
        refine Y_zeq i_188_4 (fun e4 => ?_) (fun e4 => ?_)
        · replace h := h.1 e4
          refine Y_al0 i_188_8 ?_
          refine Y_il1 i_188_9 ?_
          refine Y_pI i_188_10 ow_188 lf_10_195 (k_68 hG) ?_
          refine Y_al0 i_188_13 ?_
          refine Y_al0 i_188_14 ?_
          refine Y_gI (v := (F 68 18)) i_188_15 ow_188 lf_10_166 (by decide) (k_68 hG) (by simp [wF, wJ, va_up, cpR, bF, bA]) ?_
          refine Y_pI i_188_18 ow_188 lf_10_198 (k_68 hG) ?_
          refine Y_vret i_188_21 rt_188 (KKv ?_)
          refine Y_al0 i_193_59 ?_
          refine Y_gI (v := 2) i_193_60 ow_193 lf_10_195 (by decide) (k_68 hG) (by simp [wF, wJ, va_up, cpR, bF, bA]) ?_
          refine Y_zT i_193_63 (by decide) ?_
          refine Y_iconst (v := 0) i_193_73 (by decide) ?_
          refine Y_is3 i_193_74 rfl ?_
          refine Y_al0 i_193_75 ?_
          refine Y_gI (v := 2) i_193_76 ow_193 lf_10_195 (by decide) (k_68 hG) (by simp [wF, wJ, va_up, cpR, bF, bA]) ?_
          refine Y_zT i_193_79 (by decide) ?_
          refine Y_il3 i_193_86 ?_
          exact Y_iret i_193_87 rt_193 h
        · replace h := h.2 e4
          refine Y_vret i_188_7 rt_188 (KKv ?_)
          refine Y_al0 i_193_59 ?_
          refine Y_gI (v := (F 68 20)) i_193_60 ow_193 lf_10_195 (by decide) (k_68 hG) rfl ?_
          refine Y_zne i_193_63 (fun e5 => ?_) (fun e5 => ?_)
          · replace h := h.1 e5
            refine Y_al0 i_193_66 ?_
            refine Y_gI (v := (F 68 17)) i_193_67 ow_193 lf_10_179 (by decide) (k_68 hG) rfl ?_
            refine Y_goto i_193_70 ?_
            refine Y_is3 i_193_74 rfl ?_
            refine Y_al0 i_193_75 ?_
            refine Y_gI (v := (F 68 20)) i_193_76 ow_193 lf_10_195 (by decide) (k_68 hG) rfl ?_
            refine Y_zne i_193_79 (fun e6 => ?_) (fun e6 => ?_)
            · replace h := h.1 e6
              refine Y_al0 i_193_82 ?_
              exact Y_iv0 (L0 := [.ref 68, .null]) i_193_83 ow_193 lm_10_220 ((k_68 hG).trans ow_187.symm) rfl mx_187 rfl rfl hd_193 h
            · replace h := h.2 e6
              refine Y_il3 i_193_86 ?_
              exact Y_iret i_193_87 rt_193 h
          · replace h := h.2 e5
            refine Y_iconst (v := 0) i_193_73 (by decide) ?_
            refine Y_is3 i_193_74 rfl ?_
            refine Y_al0 i_193_75 ?_
            refine Y_gI (v := (F 68 20)) i_193_76 ow_193 lf_10_195 (by decide) (k_68 hG) rfl ?_
            refine Y_zne i_193_79 (fun e7 => ?_) (fun e7 => ?_)
            · replace h := h.1 e7
              refine Y_al0 i_193_82 ?_
              exact Y_iv0 (L0 := [.ref 68, .null]) i_193_83 ow_193 lm_10_220 ((k_68 hG).trans ow_187.symm) rfl mx_187 rfl rfl hd_193 h
            · replace h := h.2 e7
              refine Y_il3 i_193_86 ?_
              exact Y_iret i_193_87 rt_193 h
      · replace h := h.2 e3
        refine Y_al0 i_193_38 ?_
        refine Y_gI (v := (F 68 17)) i_193_39 ow_193 lf_10_179 (by decide) (k_68 hG) rfl ?_
        refine Y_il1 i_193_42 ?_
        refine Y_clt i_193_43 (fun e8 => ?_) (fun e8 => ?_)
        · replace h := h.1 e8
          refine Y_al0 i_193_54 ?_
          refine Y_iconst (v := 2) i_193_55 (by decide) ?_
          refine Y_iv1 (L0 := [.ref 68, .int 2]) i_193_56 ow_193 lm_10_216 ((k_68 hG).trans ow_188.symm) rfl mx_188 rfl rfl hd_193 ?_
          refine Y_al0 i_188_0 ?_
          refine Y_gI (v := (F 68 20)) i_188_1 ow_188 lf_10_195 (by decide) (k_68 hG) rfl ?_
          refine Y_zeq i_188_4 (fun e9 => ?_) (fun e9 => ?_)
          · replace h := h.1 e9
            refine Y_al0 i_188_8 ?_
            refine Y_il1 i_188_9 ?_
            refine Y_pI i_188_10 ow_188 lf_10_195 (k_68 hG) ?_
            refine Y_al0 i_188_13 ?_
            refine Y_al0 i_188_14 ?_
            refine Y_gI (v := (F 68 18)) i_188_15 ow_188 lf_10_166 (by decide) (k_68 hG) (by simp [wF, wJ, va_up, cpR, bF, bA]) ?_
            refine Y_pI i_188_18 ow_188 lf_10_198 (k_68 hG) ?_
            refine Y_vret i_188_21 rt_188 (KKv ?_)
            refine Y_al0 i_193_59 ?_
            refine Y_gI (v := 2) i_193_60 ow_193 lf_10_195 (by decide) (k_68 hG) (by simp [wF, wJ, va_up, cpR, bF, bA]) ?_
            refine Y_zT i_193_63 (by decide) ?_
            refine Y_iconst (v := 0) i_193_73 (by decide) ?_
            refine Y_is3 i_193_74 rfl ?_
            refine Y_al0 i_193_75 ?_
            refine Y_gI (v := 2) i_193_76 ow_193 lf_10_195 (by decide) (k_68 hG) (by simp [wF, wJ, va_up, cpR, bF, bA]) ?_
            refine Y_zT i_193_79 (by decide) ?_
            refine Y_il3 i_193_86 ?_
            exact Y_iret i_193_87 rt_193 h
          · replace h := h.2 e9
            refine Y_vret i_188_7 rt_188 (KKv ?_)
            refine Y_al0 i_193_59 ?_
            refine Y_gI (v := (F 68 20)) i_193_60 ow_193 lf_10_195 (by decide) (k_68 hG) rfl ?_
            refine Y_zne i_193_63 (fun e10 => ?_) (fun e10 => ?_)
            · replace h := h.1 e10
              refine Y_al0 i_193_66 ?_
              refine Y_gI (v := (F 68 17)) i_193_67 ow_193 lf_10_179 (by decide) (k_68 hG) rfl ?_
              refine Y_goto i_193_70 ?_
              refine Y_is3 i_193_74 rfl ?_
              refine Y_al0 i_193_75 ?_
              refine Y_gI (v := (F 68 20)) i_193_76 ow_193 lf_10_195 (by decide) (k_68 hG) rfl ?_
              refine Y_zne i_193_79 (fun e11 => ?_) (fun e11 => ?_)
              · replace h := h.1 e11
                refine Y_al0 i_193_82 ?_
                exact Y_iv0 (L0 := [.ref 68, .null]) i_193_83 ow_193 lm_10_220 ((k_68 hG).trans ow_187.symm) rfl mx_187 rfl rfl hd_193 h
              · replace h := h.2 e11
                refine Y_il3 i_193_86 ?_
                exact Y_iret i_193_87 rt_193 h
            · replace h := h.2 e10
              refine Y_iconst (v := 0) i_193_73 (by decide) ?_
              refine Y_is3 i_193_74 rfl ?_
              refine Y_al0 i_193_75 ?_
              refine Y_gI (v := (F 68 20)) i_193_76 ow_193 lf_10_195 (by decide) (k_68 hG) rfl ?_
              refine Y_zne i_193_79 (fun e12 => ?_) (fun e12 => ?_)
              · replace h := h.1 e12
                refine Y_al0 i_193_82 ?_
                exact Y_iv0 (L0 := [.ref 68, .null]) i_193_83 ow_193 lm_10_220 ((k_68 hG).trans ow_187.symm) rfl mx_187 rfl rfl hd_193 h
              · replace h := h.2 e12
                refine Y_il3 i_193_86 ?_
                exact Y_iret i_193_87 rt_193 h
        · replace h := h.2 e8
          refine Y_al0 i_193_46 ?_
          refine Y_gI (v := (F 68 17)) i_193_47 ow_193 lf_10_179 (by decide) (k_68 hG) rfl ?_
          refine Y_il2 i_193_50 ?_
          refine Y_cle i_193_51 (fun e13 => ?_) (fun e13 => ?_)
          · replace h := h.1 e13
            refine Y_al0 i_193_54 ?_
            refine Y_iconst (v := 2) i_193_55 (by decide) ?_
            refine Y_iv1 (L0 := [.ref 68, .int 2]) i_193_56 ow_193 lm_10_216 ((k_68 hG).trans ow_188.symm) rfl mx_188 rfl rfl hd_193 ?_
            refine Y_al0 i_188_0 ?_
            refine Y_gI (v := (F 68 20)) i_188_1 ow_188 lf_10_195 (by decide) (k_68 hG) rfl ?_
            refine Y_zeq i_188_4 (fun e14 => ?_) (fun e14 => ?_)
            · replace h := h.1 e14
              refine Y_al0 i_188_8 ?_
              refine Y_il1 i_188_9 ?_
              refine Y_pI i_188_10 ow_188 lf_10_195 (k_68 hG) ?_
              refine Y_al0 i_188_13 ?_
              refine Y_al0 i_188_14 ?_
              refine Y_gI (v := (F 68 18)) i_188_15 ow_188 lf_10_166 (by decide) (k_68 hG) (by simp [wF, wJ, va_up, cpR, bF, bA]) ?_
              refine Y_pI i_188_18 ow_188 lf_10_198 (k_68 hG) ?_
              refine Y_vret i_188_21 rt_188 (KKv ?_)
              refine Y_al0 i_193_59 ?_
              refine Y_gI (v := 2) i_193_60 ow_193 lf_10_195 (by decide) (k_68 hG) (by simp [wF, wJ, va_up, cpR, bF, bA]) ?_
              refine Y_zT i_193_63 (by decide) ?_
              refine Y_iconst (v := 0) i_193_73 (by decide) ?_
              refine Y_is3 i_193_74 rfl ?_
              refine Y_al0 i_193_75 ?_
              refine Y_gI (v := 2) i_193_76 ow_193 lf_10_195 (by decide) (k_68 hG) (by simp [wF, wJ, va_up, cpR, bF, bA]) ?_
              refine Y_zT i_193_79 (by decide) ?_
              refine Y_il3 i_193_86 ?_
              exact Y_iret i_193_87 rt_193 h
            · replace h := h.2 e14
              refine Y_vret i_188_7 rt_188 (KKv ?_)
              refine Y_al0 i_193_59 ?_
              refine Y_gI (v := (F 68 20)) i_193_60 ow_193 lf_10_195 (by decide) (k_68 hG) rfl ?_
              refine Y_zne i_193_63 (fun e15 => ?_) (fun e15 => ?_)
              · replace h := h.1 e15
                refine Y_al0 i_193_66 ?_
                refine Y_gI (v := (F 68 17)) i_193_67 ow_193 lf_10_179 (by decide) (k_68 hG) rfl ?_
                refine Y_goto i_193_70 ?_
                refine Y_is3 i_193_74 rfl ?_
                refine Y_al0 i_193_75 ?_
                refine Y_gI (v := (F 68 20)) i_193_76 ow_193 lf_10_195 (by decide) (k_68 hG) rfl ?_
                refine Y_zne i_193_79 (fun e16 => ?_) (fun e16 => ?_)
                · replace h := h.1 e16
                  refine Y_al0 i_193_82 ?_
                  exact Y_iv0 (L0 := [.ref 68, .null]) i_193_83 ow_193 lm_10_220 ((k_68 hG).trans ow_187.symm) rfl mx_187 rfl rfl hd_193 h
                · replace h := h.2 e16
                  refine Y_il3 i_193_86 ?_
                  exact Y_iret i_193_87 rt_193 h
              · replace h := h.2 e15
                refine Y_iconst (v := 0) i_193_73 (by decide) ?_
                refine Y_is3 i_193_74 rfl ?_
                refine Y_al0 i_193_75 ?_
                refine Y_gI (v := (F 68 20)) i_193_76 ow_193 lf_10_195 (by decide) (k_68 hG) rfl ?_
                refine Y_zne i_193_79 (fun e17 => ?_) (fun e17 => ?_)
                · replace h := h.1 e17
                  refine Y_al0 i_193_82 ?_
                  exact Y_iv0 (L0 := [.ref 68, .null]) i_193_83 ow_193 lm_10_220 ((k_68 hG).trans ow_187.symm) rfl mx_187 rfl rfl hd_193 h
                · replace h := h.2 e17
                  refine Y_il3 i_193_86 ?_
                  exact Y_iret i_193_87 rt_193 h
          · replace h := h.2 e13
            refine Y_al0 i_193_59 ?_
            refine Y_gI (v := (F 68 20)) i_193_60 ow_193 lf_10_195 (by decide) (k_68 hG) rfl ?_
            refine Y_zne i_193_63 (fun e18 => ?_) (fun e18 => ?_)
            · replace h := h.1 e18
              refine Y_al0 i_193_66 ?_
              refine Y_gI (v := (F 68 17)) i_193_67 ow_193 lf_10_179 (by decide) (k_68 hG) rfl ?_
              refine Y_goto i_193_70 ?_
              refine Y_is3 i_193_74 rfl ?_
              refine Y_al0 i_193_75 ?_
              refine Y_gI (v := (F 68 20)) i_193_76 ow_193 lf_10_195 (by decide) (k_68 hG) rfl ?_
              refine Y_zne i_193_79 (fun e19 => ?_) (fun e19 => ?_)
              · replace h := h.1 e19
                refine Y_al0 i_193_82 ?_
                exact Y_iv0 (L0 := [.ref 68, .null]) i_193_83 ow_193 lm_10_220 ((k_68 hG).trans ow_187.symm) rfl mx_187 rfl rfl hd_193 h
              · replace h := h.2 e19
                refine Y_il3 i_193_86 ?_
                exact Y_iret i_193_87 rt_193 h
            · replace h := h.2 e18
              refine Y_iconst (v := 0) i_193_73 (by decide) ?_
              refine Y_is3 i_193_74 rfl ?_
              refine Y_al0 i_193_75 ?_
              refine Y_gI (v := (F 68 20)) i_193_76 ow_193 lf_10_195 (by decide) (k_68 hG) rfl ?_
              refine Y_zne i_193_79 (fun e20 => ?_) (fun e20 => ?_)
              · replace h := h.1 e20
                refine Y_al0 i_193_82 ?_
                exact Y_iv0 (L0 := [.ref 68, .null]) i_193_83 ow_193 lm_10_220 ((k_68 hG).trans ow_187.symm) rfl mx_187 rfl rfl hd_193 h
              · replace h := h.2 e20
                refine Y_il3 i_193_86 ?_
                exact Y_iret i_193_87 rt_193 h
    · replace h := h.2 e2
      refine Y_al0 i_193_17 ?_
      refine Y_iconst (v := 1) i_193_18 (by decide) ?_
      refine Y_iv1 (L0 := [.ref 68, .int 1]) i_193_19 ow_193 lm_10_216 ((k_68 hG).trans ow_188.symm) rfl mx_188 rfl rfl hd_193 ?_
      refine Y_al0 i_188_0 ?_
      refine Y_gI (v := (F 68 20)) i_188_1 ow_188 lf_10_195 (by decide) (k_68 hG) rfl ?_
      refine Y_zeq i_188_4 (fun e21 => ?_) (fun e21 => ?_)
      · replace h := h.1 e21
        refine Y_al0 i_188_8 ?_
        refine Y_il1 i_188_9 ?_
        refine Y_pI i_188_10 ow_188 lf_10_195 (k_68 hG) ?_
        refine Y_al0 i_188_13 ?_
        refine Y_al0 i_188_14 ?_
        refine Y_gI (v := (F 68 18)) i_188_15 ow_188 lf_10_166 (by decide) (k_68 hG) (by simp [wF, wJ, va_up, cpR, bF, bA]) ?_
        refine Y_pI i_188_18 ow_188 lf_10_198 (k_68 hG) ?_
        refine Y_vret i_188_21 rt_188 (KKv ?_)
        refine Y_goto i_193_22 ?_
        refine Y_al0 i_193_59 ?_
        refine Y_gI (v := 1) i_193_60 ow_193 lf_10_195 (by decide) (k_68 hG) (by simp [wF, wJ, va_up, cpR, bF, bA]) ?_
        refine Y_zT i_193_63 (by decide) ?_
        refine Y_iconst (v := 0) i_193_73 (by decide) ?_
        refine Y_is3 i_193_74 rfl ?_
        refine Y_al0 i_193_75 ?_
        refine Y_gI (v := 1) i_193_76 ow_193 lf_10_195 (by decide) (k_68 hG) (by simp [wF, wJ, va_up, cpR, bF, bA]) ?_
        refine Y_zT i_193_79 (by decide) ?_
        refine Y_il3 i_193_86 ?_
        exact Y_iret i_193_87 rt_193 h
      · replace h := h.2 e21
        refine Y_vret i_188_7 rt_188 (KKv ?_)
        refine Y_goto i_193_22 ?_
        refine Y_al0 i_193_59 ?_
        refine Y_gI (v := (F 68 20)) i_193_60 ow_193 lf_10_195 (by decide) (k_68 hG) rfl ?_
        refine Y_zne i_193_63 (fun e22 => ?_) (fun e22 => ?_)
        · replace h := h.1 e22
          refine Y_al0 i_193_66 ?_
          refine Y_gI (v := (F 68 17)) i_193_67 ow_193 lf_10_179 (by decide) (k_68 hG) rfl ?_
          refine Y_goto i_193_70 ?_
          refine Y_is3 i_193_74 rfl ?_
          refine Y_al0 i_193_75 ?_
          refine Y_gI (v := (F 68 20)) i_193_76 ow_193 lf_10_195 (by decide) (k_68 hG) rfl ?_
          refine Y_zne i_193_79 (fun e23 => ?_) (fun e23 => ?_)
          · replace h := h.1 e23
            refine Y_al0 i_193_82 ?_
            exact Y_iv0 (L0 := [.ref 68, .null]) i_193_83 ow_193 lm_10_220 ((k_68 hG).trans ow_187.symm) rfl mx_187 rfl rfl hd_193 h
          · replace h := h.2 e23
            refine Y_il3 i_193_86 ?_
            exact Y_iret i_193_87 rt_193 h
        · replace h := h.2 e22
          refine Y_iconst (v := 0) i_193_73 (by decide) ?_
          refine Y_is3 i_193_74 rfl ?_
          refine Y_al0 i_193_75 ?_
          refine Y_gI (v := (F 68 20)) i_193_76 ow_193 lf_10_195 (by decide) (k_68 hG) rfl ?_
          refine Y_zne i_193_79 (fun e24 => ?_) (fun e24 => ?_)
          · replace h := h.1 e24
            refine Y_al0 i_193_82 ?_
            exact Y_iv0 (L0 := [.ref 68, .null]) i_193_83 ow_193 lm_10_220 ((k_68 hG).trans ow_187.symm) rfl mx_187 rfl rfl hd_193 h
          · replace h := h.2 e24
            refine Y_il3 i_193_86 ?_
            exact Y_iret i_193_87 rt_193 h
  · replace h := h.2 e1
    refine Y_iconst (v := 0) i_193_7 (by decide) ?_
    exact Y_iret i_193_8 rt_193 h
theorem k_193_86 {d : Nat} {F A : Nat → Nat → Int32} {J : Nat → Nat → Int64} {G : pG} {Q : pR → pM → Prop} {SL p q : Nat} {x1 x2 x3 : Int32} (hG : Geo G SL p q) (h : Q (.inl (some (.int x3))) (F, A, J, G)) : KK (d + 2) 193 86 [.ref 68, .int x1, .int x2, .int x3] [] Q (.inl none) (F, A, J, G) := by
  refine KKv ?_
  refine Y_il3 i_193_86 ?_
  exact Y_iret i_193_87 rt_193 h
/- 194 Model.lay(I)V -/
theorem t_194_0 {d : Nat} {F A : Nat → Nat → Int32} {J : Nat → Nat → Int64} {G : pG} {Q : pR → pM → Prop} {SL p q : Nat} {x1 : Int32} (hG : Geo G SL p q) (h : (((F 68 20) = 0 → inB ((600 : Int32) + (A 72 7)) 1200 = true ∧ (Q (.inl none) (F, (wF (wF A 78 ((600 : Int32) + (A 72 7)).toNatClampNeg x1) 72 7 ((A 72 7) + 1)), J, G))) ∧ (¬ (F 68 20) = 0 → Q (.inl none) (F, A, J, G)))) : X d 194 0 [.ref 68, .int x1] [] (F, A, J, G) Q := by
  refine Y_al0 i_194_0 ?_
  refine Y_gI (v := (F 68 20)) i_194_1 ow_194 lf_10_195 (by decide) (k_68 hG) rfl ?_
  refine Y_zeq i_194_4 (fun e1 => ?_) (fun e1 => ?_)
  · replace h := h.1 e1
    refine Y_al0 i_194_8 ?_
    refine Y_gR i_194_9 ow_194 lf_10_57 (k_68 hG) (r_68_10 hG) ?_
    refine Y_sipush (v := 600) i_194_12 (by decide) ?_
    refine Y_al0 i_194_15 ?_
    refine Y_gR i_194_16 ow_194 lf_10_42 (k_68 hG) (r_68_4 hG) ?_
    refine Y_bipush (v := 7) i_194_19 (by decide) ?_
    refine Y_iaload (k := 7) (v := (A 72 7)) i_194_21 (k_72 hG) (l_72 hG) (by decide) (by decide) rfl ?_
    refine Y_iadd i_194_22 ?_
    refine Y_il1 i_194_23 ?_
    have o2 := h.1
    replace h := h.2
    refine Y_iast i_194_24 (k_78 hG) (l_78 hG) o2 rfl ?_
    refine Y_al0 i_194_25 ?_
    refine Y_gR i_194_26 ow_194 lf_10_42 (k_68 hG) (r_68_4 hG) ?_
    refine Y_bipush (v := 7) i_194_29 (by decide) ?_
    refine Y_dup2 i_194_31 rfl rfl ?_
    refine Y_iaload (k := 7) (v := (A 72 7)) i_194_32 (k_72 hG) (l_72 hG) (by decide) (by decide) (by simp [wF, wJ, va_up, cpR, bF, bA]) ?_
    refine Y_iconst (v := 1) i_194_33 (by decide) ?_
    refine Y_iadd i_194_34 ?_
    refine Y_iast (k := 7) i_194_35 (k_72 hG) (l_72 hG) (by decide) (by decide) ?_
    exact Y_vret i_194_36 rt_194 h
  · replace h := h.2 e1
    exact Y_vret i_194_7 rt_194 h
/- 195 Model.readPart(I)V -/
theorem t_195_0 {d : Nat} {F A : Nat → Nat → Int32} {J : Nat → Nat → Int64} {G : pG} {Q : pR → pM → Prop} {SL p q : Nat} {x1 : Int32} (hG : Geo G SL p q) (h : (((F 68 20) = 0 → (((F 68 16) = 2 → X (d + 2) 193 0 [.ref 68, .int 0, .int 9999, .null] [] (F, A, J, G) (KK (d + 3) 195 25 [.ref 68, .int x1, .null] [.ref 68] Q)) ∧ (¬ (F 68 16) = 2 → (((F 68 16) = 1 → X (d + 2) 190 0 [.ref 68, .ref 70, .null] [] (F, A, J, G) (KK (d + 3) 195 45 [.ref 68, .int x1, .null] [] Q)) ∧ (¬ (F 68 16) = 1 → X (d + 2) 192 0 [.ref 68, .int 40] [] (F, A, J, G) (KK (d + 3) 195 81 [.ref 68, .int x1, .null] [] Q)))))) ∧ (¬ (F 68 20) = 0 → Q (.inl none) (F, A, J, G)))) : X (d + 3) 195 0 [.ref 68, .int x1, .null] [] (F, A, J, G) Q := by
  refine Y_al0 i_195_0 ?_
  refine Y_gI (v := (F 68 20)) i_195_1 ow_195 lf_10_195 (by decide) (k_68 hG) rfl ?_
  refine Y_zeq i_195_4 (fun e1 => ?_) (fun e1 => ?_)
  · replace h := h.1 e1
    refine Y_al0 i_195_8 ?_
    refine Y_gI (v := (F 68 16)) i_195_9 ow_195 lf_10_169 (by decide) (k_68 hG) rfl ?_
    refine Y_iconst (v := 2) i_195_12 (by decide) ?_
    refine Y_cne i_195_13 (fun e2 => ?_) (fun e2 => ?_)
    · replace h := h.1 e2
      refine Y_al0 i_195_16 ?_
      refine Y_al0 i_195_17 ?_
      refine Y_iconst (v := 0) i_195_18 (by decide) ?_
      refine Y_sipush (v := 9999) i_195_19 (by decide) ?_
      exact Y_iv2 (L0 := [.ref 68, .int 0, .int 9999, .null]) i_195_22 ow_195 lm_10_223 ((k_68 hG).trans ow_193.symm) rfl mx_193 rfl rfl hd_195 h
    · replace h := h.2 e2
      refine Y_al0 i_195_29 ?_
      refine Y_gI (v := (F 68 16)) i_195_30 ow_195 lf_10_169 (by decide) (k_68 hG) rfl ?_
      refine Y_iconst (v := 1) i_195_33 (by decide) ?_
      refine Y_cne i_195_34 (fun e3 => ?_) (fun e3 => ?_)
      · replace h := h.1 e3
        refine Y_al0 i_195_37 ?_
        refine Y_al0 i_195_38 ?_
        refine Y_gR i_195_39 ow_195 lf_10_35 (k_68 hG) (r_68_1 hG) ?_
        exact Y_iv1 (L0 := [.ref 68, .ref 70, .null]) i_195_42 ow_195 lm_10_229 ((k_68 hG).trans ow_190.symm) rfl mx_190 rfl rfl hd_195 h
      · replace h := h.2 e3
        refine Y_al0 i_195_75 ?_
        refine Y_bipush (v := 40) i_195_76 (by decide) ?_
        exact Y_iv1 (L0 := [.ref 68, .int 40]) i_195_78 ow_195 lm_10_233 ((k_68 hG).trans ow_192.symm) rfl mx_192 rfl rfl hd_195 h
  · replace h := h.2 e1
    exact Y_vret i_195_7 rt_195 h
theorem k_195_25 {d : Nat} {F A : Nat → Nat → Int32} {J : Nat → Nat → Int64} {G : pG} {Q : pR → pM → Prop} {SL p q : Nat} {x1 r : Int32} (hG : Geo G SL p q) (h : (((F 68 20) = 0 → inB ((600 : Int32) + (A 72 7)) 1200 = true ∧ (Q (.inl none) (F, (wF (wF A 78 ((600 : Int32) + (A 72 7)).toNatClampNeg r) 72 7 ((A 72 7) + 1)), J, G))) ∧ (¬ (F 68 20) = 0 → Q (.inl none) (F, A, J, G)))) : KK (d + 3) 195 25 [.ref 68, .int x1, .null] [.ref 68] Q (.inl (some (.int r))) (F, A, J, G) := by
  refine KKi ?_
  refine Y_iv1 (L0 := [.ref 68, .int r]) i_195_25 ow_195 lm_10_226 ((k_68 hG).trans ow_194.symm) rfl mx_194 rfl rfl hd_195 ?_
  refine Y_al0 i_194_0 ?_
  refine Y_gI (v := (F 68 20)) i_194_1 ow_194 lf_10_195 (by decide) (k_68 hG) rfl ?_
  refine Y_zeq i_194_4 (fun e1 => ?_) (fun e1 => ?_)
  · replace h := h.1 e1
    refine Y_al0 i_194_8 ?_
    refine Y_gR i_194_9 ow_194 lf_10_57 (k_68 hG) (r_68_10 hG) ?_
    refine Y_sipush (v := 600) i_194_12 (by decide) ?_
    refine Y_al0 i_194_15 ?_
    refine Y_gR i_194_16 ow_194 lf_10_42 (k_68 hG) (r_68_4 hG) ?_
    refine Y_bipush (v := 7) i_194_19 (by decide) ?_
    refine Y_iaload (k := 7) (v := (A 72 7)) i_194_21 (k_72 hG) (l_72 hG) (by decide) (by decide) rfl ?_
    refine Y_iadd i_194_22 ?_
    refine Y_il1 i_194_23 ?_
    have o2 := h.1
    replace h := h.2
    refine Y_iast i_194_24 (k_78 hG) (l_78 hG) o2 rfl ?_
    refine Y_al0 i_194_25 ?_
    refine Y_gR i_194_26 ow_194 lf_10_42 (k_68 hG) (r_68_4 hG) ?_
    refine Y_bipush (v := 7) i_194_29 (by decide) ?_
    refine Y_dup2 i_194_31 rfl rfl ?_
    refine Y_iaload (k := 7) (v := (A 72 7)) i_194_32 (k_72 hG) (l_72 hG) (by decide) (by decide) (by simp [wF, wJ, va_up, cpR, bF, bA]) ?_
    refine Y_iconst (v := 1) i_194_33 (by decide) ?_
    refine Y_iadd i_194_34 ?_
    refine Y_iast (k := 7) i_194_35 (k_72 hG) (l_72 hG) (by decide) (by decide) ?_
    refine Y_vret i_194_36 rt_194 (KKv ?_)
    exact Y_vret i_195_28 rt_195 h
  · replace h := h.2 e1
    refine Y_vret i_194_7 rt_194 (KKv ?_)
    exact Y_vret i_195_28 rt_195 h
theorem k_195_45 {d : Nat} {F A : Nat → Nat → Int32} {J : Nat → Nat → Int64} {G : pG} {Q : pR → pM → Prop} {SL p q : Nat} {x1 r : Int32} (hG : Geo G SL p q) (h : ((r = (-1) → (((F 68 20) = 0 → Q (.inl none) ((wF (wF F 68 20 3) 68 21 (F 68 18)), A, J, G)) ∧ (¬ (F 68 20) = 0 → (((F 68 20) = 0 → inB ((600 : Int32) + (A 72 7)) 1200 = true ∧ (((F 68 20) = 0 → X (d + 2) 187 0 [.ref 68, .null] [] (F, (wF (wF A 78 ((600 : Int32) + (A 72 7)).toNatClampNeg ((-1 : Int32) - r)) 72 7 ((A 72 7) + 1)), J, G) (KK (d + 3) 195 74 [.ref 68, .int x1, .int r] [] Q)) ∧ (¬ (F 68 20) = 0 → Q (.inl none) (F, (wF (wF A 78 ((600 : Int32) + (A 72 7)).toNatClampNeg ((-1 : Int32) - r)) 72 7 ((A 72 7) + 1)), J, G)))) ∧ (¬ (F 68 20) = 0 → (((F 68 20) = 0 → X (d + 2) 187 0 [.ref 68, .null] [] (F, A, J, G) (KK (d + 3) 195 74 [.ref 68, .int x1, .int r] [] Q)) ∧ (¬ (F 68 20) = 0 → Q (.inl none) (F, A, J, G)))))))) ∧ (¬ r = (-1) → (((F 68 20) = 0 → inB ((600 : Int32) + (A 72 7)) 1200 = true ∧ (((F 68 20) = 0 → X (d + 2) 187 0 [.ref 68, .null] [] (F, (wF (wF A 78 ((600 : Int32) + (A 72 7)).toNatClampNeg ((-1 : Int32) - r)) 72 7 ((A 72 7) + 1)), J, G) (KK (d + 3) 195 74 [.ref 68, .int x1, .int r] [] Q)) ∧ (¬ (F 68 20) = 0 → Q (.inl none) (F, (wF (wF A 78 ((600 : Int32) + (A 72 7)).toNatClampNeg ((-1 : Int32) - r)) 72 7 ((A 72 7) + 1)), J, G)))) ∧ (¬ (F 68 20) = 0 → (((F 68 20) = 0 → X (d + 2) 187 0 [.ref 68, .null] [] (F, A, J, G) (KK (d + 3) 195 74 [.ref 68, .int x1, .int r] [] Q)) ∧ (¬ (F 68 20) = 0 → Q (.inl none) (F, A, J, G)))))))) : KK (d + 3) 195 45 [.ref 68, .int x1, .null] [] Q (.inl (some (.int r))) (F, A, J, G) := by
  refine KKi ?_
  refine Y_is2 i_195_45 rfl ?_
  refine Y_il2 i_195_46 ?_
  refine Y_iconst (v := (-1)) i_195_47 (by decide) ?_
  refine Y_cne i_195_48 (fun e1 => ?_) (fun e1 => ?_)
  · replace h := h.1 e1
    refine Y_al0 i_195_51 ?_
    refine Y_iconst (v := 3) i_195_52 (by decide) ?_
    refine Y_iv1 (L0 := [.ref 68, .int 3]) i_195_53 ow_195 lm_10_216 ((k_68 hG).trans ow_188.symm) rfl mx_188 rfl rfl hd_195 ?_
    refine Y_al0 i_188_0 ?_
    refine Y_gI (v := (F 68 20)) i_188_1 ow_188 lf_10_195 (by decide) (k_68 hG) rfl ?_
    refine Y_zeq i_188_4 (fun e2 => ?_) (fun e2 => ?_)
    · replace h := h.1 e2
      refine Y_al0 i_188_8 ?_
      refine Y_il1 i_188_9 ?_
      refine Y_pI i_188_10 ow_188 lf_10_195 (k_68 hG) ?_
      refine Y_al0 i_188_13 ?_
      refine Y_al0 i_188_14 ?_
      refine Y_gI (v := (F 68 18)) i_188_15 ow_188 lf_10_166 (by decide) (k_68 hG) (by simp [wF, wJ, va_up, cpR, bF, bA]) ?_
      refine Y_pI i_188_18 ow_188 lf_10_198 (k_68 hG) ?_
      refine Y_vret i_188_21 rt_188 (KKv ?_)
      refine Y_al0 i_195_56 ?_
      refine Y_iconst (v := (-1)) i_195_57 (by decide) ?_
      refine Y_il2 i_195_58 ?_
      refine Y_isub i_195_59 ?_
      refine Y_iv1 (L0 := [.ref 68, .int ((-1 : Int32) - r)]) i_195_60 ow_195 lm_10_226 ((k_68 hG).trans ow_194.symm) rfl mx_194 rfl rfl hd_195 ?_
      refine Y_al0 i_194_0 ?_
      refine Y_gI (v := 3) i_194_1 ow_194 lf_10_195 (by decide) (k_68 hG) (by simp [wF, wJ, va_up, cpR, bF, bA]) ?_
      refine Y_zF i_194_4 (by decide) ?_
      refine Y_vret i_194_7 rt_194 (KKv ?_)
      refine Y_al0 i_195_63 ?_
      refine Y_gI (v := 3) i_195_64 ow_195 lf_10_195 (by decide) (k_68 hG) (by simp [wF, wJ, va_up, cpR, bF, bA]) ?_
      refine Y_zT i_195_67 (by decide) ?_
      exact Y_vret i_195_74 rt_195 h
    · replace h := h.2 e2
      refine Y_vret i_188_7 rt_188 (KKv ?_)
      refine Y_al0 i_195_56 ?_
      refine Y_iconst (v := (-1)) i_195_57 (by decide) ?_
      refine Y_il2 i_195_58 ?_
      refine Y_isub i_195_59 ?_
      refine Y_iv1 (L0 := [.ref 68, .int ((-1 : Int32) - r)]) i_195_60 ow_195 lm_10_226 ((k_68 hG).trans ow_194.symm) rfl mx_194 rfl rfl hd_195 ?_
      refine Y_al0 i_194_0 ?_
      refine Y_gI (v := (F 68 20)) i_194_1 ow_194 lf_10_195 (by decide) (k_68 hG) rfl ?_
      refine Y_zeq i_194_4 (fun e3 => ?_) (fun e3 => ?_)
      · replace h := h.1 e3
        refine Y_al0 i_194_8 ?_
        refine Y_gR i_194_9 ow_194 lf_10_57 (k_68 hG) (r_68_10 hG) ?_
        refine Y_sipush (v := 600) i_194_12 (by decide) ?_
        refine Y_al0 i_194_15 ?_
        refine Y_gR i_194_16 ow_194 lf_10_42 (k_68 hG) (r_68_4 hG) ?_
        refine Y_bipush (v := 7) i_194_19 (by decide) ?_
        refine Y_iaload (k := 7) (v := (A 72 7)) i_194_21 (k_72 hG) (l_72 hG) (by decide) (by decide) rfl ?_
        refine Y_iadd i_194_22 ?_
        refine Y_il1 i_194_23 ?_
        have o4 := h.1
        replace h := h.2
        refine Y_iast i_194_24 (k_78 hG) (l_78 hG) o4 rfl ?_
        refine Y_al0 i_194_25 ?_
        refine Y_gR i_194_26 ow_194 lf_10_42 (k_68 hG) (r_68_4 hG) ?_
        refine Y_bipush (v := 7) i_194_29 (by decide) ?_
        refine Y_dup2 i_194_31 rfl rfl ?_
        refine Y_iaload (k := 7) (v := (A 72 7)) i_194_32 (k_72 hG) (l_72 hG) (by decide) (by decide) (by simp [wF, wJ, va_up, cpR, bF, bA]) ?_
        refine Y_iconst (v := 1) i_194_33 (by decide) ?_
        refine Y_iadd i_194_34 ?_
        refine Y_iast (k := 7) i_194_35 (k_72 hG) (l_72 hG) (by decide) (by decide) ?_
        refine Y_vret i_194_36 rt_194 (KKv ?_)
        refine Y_al0 i_195_63 ?_
        refine Y_gI (v := (F 68 20)) i_195_64 ow_195 lf_10_195 (by decide) (k_68 hG) rfl ?_
        refine Y_zne i_195_67 (fun e5 => ?_) (fun e5 => ?_)
        · replace h := h.1 e5
          refine Y_al0 i_195_70 ?_
          exact Y_iv0 (L0 := [.ref 68, .null]) i_195_71 ow_195 lm_10_220 ((k_68 hG).trans ow_187.symm) rfl mx_187 rfl rfl hd_195 h
        · replace h := h.2 e5
          exact Y_vret i_195_74 rt_195 h
      · replace h := h.2 e3
        refine Y_vret i_194_7 rt_194 (KKv ?_)
        refine Y_al0 i_195_63 ?_
        refine Y_gI (v := (F 68 20)) i_195_64 ow_195 lf_10_195 (by decide) (k_68 hG) rfl ?_
        refine Y_zne i_195_67 (fun e6 => ?_) (fun e6 => ?_)
        · replace h := h.1 e6
          refine Y_al0 i_195_70 ?_
          exact Y_iv0 (L0 := [.ref 68, .null]) i_195_71 ow_195 lm_10_220 ((k_68 hG).trans ow_187.symm) rfl mx_187 rfl rfl hd_195 h
        · replace h := h.2 e6
          exact Y_vret i_195_74 rt_195 h
  · replace h := h.2 e1
    refine Y_al0 i_195_56 ?_
    refine Y_iconst (v := (-1)) i_195_57 (by decide) ?_
    refine Y_il2 i_195_58 ?_
    refine Y_isub i_195_59 ?_
    refine Y_iv1 (L0 := [.ref 68, .int ((-1 : Int32) - r)]) i_195_60 ow_195 lm_10_226 ((k_68 hG).trans ow_194.symm) rfl mx_194 rfl rfl hd_195 ?_
    refine Y_al0 i_194_0 ?_
    refine Y_gI (v := (F 68 20)) i_194_1 ow_194 lf_10_195 (by decide) (k_68 hG) rfl ?_
    refine Y_zeq i_194_4 (fun e7 => ?_) (fun e7 => ?_)
    · replace h := h.1 e7
      refine Y_al0 i_194_8 ?_
      refine Y_gR i_194_9 ow_194 lf_10_57 (k_68 hG) (r_68_10 hG) ?_
      refine Y_sipush (v := 600) i_194_12 (by decide) ?_
      refine Y_al0 i_194_15 ?_
      refine Y_gR i_194_16 ow_194 lf_10_42 (k_68 hG) (r_68_4 hG) ?_
      refine Y_bipush (v := 7) i_194_19 (by decide) ?_
      refine Y_iaload (k := 7) (v := (A 72 7)) i_194_21 (k_72 hG) (l_72 hG) (by decide) (by decide) rfl ?_
      refine Y_iadd i_194_22 ?_
      refine Y_il1 i_194_23 ?_
      have o8 := h.1
      replace h := h.2
      refine Y_iast i_194_24 (k_78 hG) (l_78 hG) o8 rfl ?_
      refine Y_al0 i_194_25 ?_
      refine Y_gR i_194_26 ow_194 lf_10_42 (k_68 hG) (r_68_4 hG) ?_
      refine Y_bipush (v := 7) i_194_29 (by decide) ?_
      refine Y_dup2 i_194_31 rfl rfl ?_
      refine Y_iaload (k := 7) (v := (A 72 7)) i_194_32 (k_72 hG) (l_72 hG) (by decide) (by decide) (by simp [wF, wJ, va_up, cpR, bF, bA]) ?_
      refine Y_iconst (v := 1) i_194_33 (by decide) ?_
      refine Y_iadd i_194_34 ?_
      refine Y_iast (k := 7) i_194_35 (k_72 hG) (l_72 hG) (by decide) (by decide) ?_
      refine Y_vret i_194_36 rt_194 (KKv ?_)
      refine Y_al0 i_195_63 ?_
      refine Y_gI (v := (F 68 20)) i_195_64 ow_195 lf_10_195 (by decide) (k_68 hG) rfl ?_
      refine Y_zne i_195_67 (fun e9 => ?_) (fun e9 => ?_)
      · replace h := h.1 e9
        refine Y_al0 i_195_70 ?_
        exact Y_iv0 (L0 := [.ref 68, .null]) i_195_71 ow_195 lm_10_220 ((k_68 hG).trans ow_187.symm) rfl mx_187 rfl rfl hd_195 h
      · replace h := h.2 e9
        exact Y_vret i_195_74 rt_195 h
    · replace h := h.2 e7
      refine Y_vret i_194_7 rt_194 (KKv ?_)
      refine Y_al0 i_195_63 ?_
      refine Y_gI (v := (F 68 20)) i_195_64 ow_195 lf_10_195 (by decide) (k_68 hG) rfl ?_
      refine Y_zne i_195_67 (fun e10 => ?_) (fun e10 => ?_)
      · replace h := h.1 e10
        refine Y_al0 i_195_70 ?_
        exact Y_iv0 (L0 := [.ref 68, .null]) i_195_71 ow_195 lm_10_220 ((k_68 hG).trans ow_187.symm) rfl mx_187 rfl rfl hd_195 h
      · replace h := h.2 e10
        exact Y_vret i_195_74 rt_195 h
theorem k_195_74 {d : Nat} {F A : Nat → Nat → Int32} {J : Nat → Nat → Int64} {G : pG} {Q : pR → pM → Prop} {SL p q : Nat} {x1 x2 : Int32} (hG : Geo G SL p q) (h : Q (.inl none) (F, A, J, G)) : KK (d + 3) 195 74 [.ref 68, .int x1, .int x2] [] Q (.inl none) (F, A, J, G) := by
  refine KKv ?_
  exact Y_vret i_195_74 rt_195 h
theorem k_195_81 {d : Nat} {F A : Nat → Nat → Int32} {J : Nat → Nat → Int64} {G : pG} {Q : pR → pM → Prop} {SL p q : Nat} {x1 : Int32} (hG : Geo G SL p q) (h : X (d + 2) 200 0 [.ref 68, .int (x1 + 1), .null] [] (F, A, J, G) (KK (d + 3) 195 88 [.ref 68, .int x1, .null] [] Q)) : KK (d + 3) 195 81 [.ref 68, .int x1, .null] [] Q (.inl none) (F, A, J, G) := by
  refine KKv ?_
  refine Y_al0 i_195_81 ?_
  refine Y_il1 i_195_82 ?_
  refine Y_iconst (v := 1) i_195_83 (by decide) ?_
  refine Y_iadd i_195_84 ?_
  exact Y_iv1 (L0 := [.ref 68, .int (x1 + 1), .null]) i_195_85 ow_195 lm_10_236 ((k_68 hG).trans ow_200.symm) rfl mx_200 rfl rfl hd_195 h
theorem k_195_88 {d : Nat} {F A : Nat → Nat → Int32} {J : Nat → Nat → Int64} {G : pG} {Q : pR → pM → Prop} {SL p q : Nat} {x1 : Int32} (hG : Geo G SL p q) (h : X (d + 2) 192 0 [.ref 68, .int 41] [] (F, A, J, G) (KK (d + 3) 195 94 [.ref 68, .int x1, .null] [] Q)) : KK (d + 3) 195 88 [.ref 68, .int x1, .null] [] Q (.inl none) (F, A, J, G) := by
  refine KKv ?_
  refine Y_al0 i_195_88 ?_
  refine Y_bipush (v := 41) i_195_89 (by decide) ?_
  exact Y_iv1 (L0 := [.ref 68, .int 41]) i_195_91 ow_195 lm_10_233 ((k_68 hG).trans ow_192.symm) rfl mx_192 rfl rfl hd_195 h
theorem k_195_94 {d : Nat} {F A : Nat → Nat → Int32} {J : Nat → Nat → Int64} {G : pG} {Q : pR → pM → Prop} {SL p q : Nat} {x1 : Int32} (hG : Geo G SL p q) (h : Q (.inl none) (F, A, J, G)) : KK (d + 3) 195 94 [.ref 68, .int x1, .null] [] Q (.inl none) (F, A, J, G) := by
  refine KKv ?_
  exact Y_vret i_195_94 rt_195 h
/- 196 Model.readProduct(I)V -/
theorem t_196_0 {d : Nat} {F A : Nat → Nat → Int32} {J : Nat → Nat → Int64} {G : pG} {Q : pR → pM → Prop} {SL p q : Nat} {x1 : Int32} (hG : Geo G SL p q) (h : X (d + 1) 195 0 [.ref 68, .int x1, .null] [] (F, A, J, G) (KK (d + 2) 196 5 [.ref 68, .int x1, .null] [] Q)) : X (d + 2) 196 0 [.ref 68, .int x1, .null] [] (F, A, J, G) Q := by
  refine Y_al0 i_196_0 ?_
  refine Y_il1 i_196_1 ?_
  exact Y_iv1 (L0 := [.ref 68, .int x1, .null]) i_196_2 ow_196 lm_10_239 ((k_68 hG).trans ow_195.symm) rfl mx_195 rfl rfl hd_196 h
theorem k_196_5 {d : Nat} {F A : Nat → Nat → Int32} {J : Nat → Nat → Int64} {G : pG} {Q : pR → pM → Prop} {SL p q : Nat} {x1 : Int32} (hG : Geo G SL p q) (h : (F 68 20 = 0 → F 68 16 = 3 → inB (F 68 18) 600 = true) ∧ (((mkB (F 68 20) (F 68 16) (A 80 (F 68 18).toNatClampNeg) 42) = true → (((mkB (F 68 20) (F 68 16) (A 80 (F 68 18).toNatClampNeg) 42) = true → X (d + 1) 187 0 [.ref 68, .null] [] (F, A, J, G) (KK (d + 2) 196 44 [.ref 68, .int x1, .int (-22)] [] Q)) ∧ ((mkB (F 68 20) (F 68 16) (A 80 (F 68 18).toNatClampNeg) 42) = false → X (d + 1) 187 0 [.ref 68, .null] [] (F, A, J, G) (KK (d + 2) 196 44 [.ref 68, .int x1, .int (-23)] [] Q)))) ∧ ((mkB (F 68 20) (F 68 16) (A 80 (F 68 18).toNatClampNeg) 42) = false → (((mkB (F 68 20) (F 68 16) (A 80 (F 68 18).toNatClampNeg) 47) = true → (((mkB (F 68 20) (F 68 16) (A 80 (F 68 18).toNatClampNeg) 42) = true → X (d + 1) 187 0 [.ref 68, .null] [] (F, A, J, G) (KK (d + 2) 196 44 [.ref 68, .int x1, .int (-22)] [] Q)) ∧ ((mkB (F 68 20) (F 68 16) (A 80 (F 68 18).toNatClampNeg) 42) = false → X (d + 1) 187 0 [.ref 68, .null] [] (F, A, J, G) (KK (d + 2) 196 44 [.ref 68, .int x1, .int (-23)] [] Q)))) ∧ ((mkB (F 68 20) (F 68 16) (A 80 (F 68 18).toNatClampNeg) 47) = false → Q (.inl none) (F, A, J, G)))))) : KK (d + 2) 196 5 [.ref 68, .int x1, .null] [] Q (.inl none) (F, A, J, G) := by
  refine KKv ?_
  refine Y_al0 i_196_5 ?_
  refine Y_bipush (v := 42) i_196_6 (by decide) ?_
  have o1 := h.1
  replace h := h.2
  refine Y_iv1 (L0 := [.ref 68, .int 42]) i_196_8 ow_196 lm_10_213 ((k_68 hG).trans ow_191.symm) rfl mx_191 rfl rfl hd_196 ?_
  refine c_191 hG o1 (KKi ?_)
  refine Y_bne i_196_11 (fun e2 => ?_) (fun e2 => ?_)
  · replace h := h.1 e2
    refine Y_al0 i_196_23 ?_
    refine Y_bipush (v := 42) i_196_24 (by decide) ?_
    refine Y_iv1 (L0 := [.ref 68, .int 42]) i_196_26 ow_196 lm_10_213 ((k_68 hG).trans ow_191.symm) rfl mx_191 rfl rfl hd_196 ?_
    refine c_191 hG o1 (KKi ?_)
    refine Y_beq i_196_29 (fun e3 => ?_) (fun e3 => ?_)
    · replace h := h.1 e3
      refine Y_bipush (v := (-22)) i_196_32 (by decide) ?_
      refine Y_goto i_196_34 ?_
      refine Y_is2 i_196_39 rfl ?_
      refine Y_al0 i_196_40 ?_
      exact Y_iv0 (L0 := [.ref 68, .null]) i_196_41 ow_196 lm_10_220 ((k_68 hG).trans ow_187.symm) rfl mx_187 rfl rfl hd_196 h
    · replace h := h.2 e3
      refine Y_bipush (v := (-23)) i_196_37 (by decide) ?_
      refine Y_is2 i_196_39 rfl ?_
      refine Y_al0 i_196_40 ?_
      exact Y_iv0 (L0 := [.ref 68, .null]) i_196_41 ow_196 lm_10_220 ((k_68 hG).trans ow_187.symm) rfl mx_187 rfl rfl hd_196 h
  · replace h := h.2 e2
    refine Y_al0 i_196_14 ?_
    refine Y_bipush (v := 47) i_196_15 (by decide) ?_
    refine Y_iv1 (L0 := [.ref 68, .int 47]) i_196_17 ow_196 lm_10_213 ((k_68 hG).trans ow_191.symm) rfl mx_191 rfl rfl hd_196 ?_
    refine c_191 hG o1 (KKi ?_)
    refine Y_beq i_196_20 (fun e4 => ?_) (fun e4 => ?_)
    · replace h := h.1 e4
      refine Y_al0 i_196_23 ?_
      refine Y_bipush (v := 42) i_196_24 (by decide) ?_
      refine Y_iv1 (L0 := [.ref 68, .int 42]) i_196_26 ow_196 lm_10_213 ((k_68 hG).trans ow_191.symm) rfl mx_191 rfl rfl hd_196 ?_
      refine c_191 hG o1 (KKi ?_)
      refine Y_beq i_196_29 (fun e5 => ?_) (fun e5 => ?_)
      · replace h := h.1 e5
        refine Y_bipush (v := (-22)) i_196_32 (by decide) ?_
        refine Y_goto i_196_34 ?_
        refine Y_is2 i_196_39 rfl ?_
        refine Y_al0 i_196_40 ?_
        exact Y_iv0 (L0 := [.ref 68, .null]) i_196_41 ow_196 lm_10_220 ((k_68 hG).trans ow_187.symm) rfl mx_187 rfl rfl hd_196 h
      · replace h := h.2 e5
        refine Y_bipush (v := (-23)) i_196_37 (by decide) ?_
        refine Y_is2 i_196_39 rfl ?_
        refine Y_al0 i_196_40 ?_
        exact Y_iv0 (L0 := [.ref 68, .null]) i_196_41 ow_196 lm_10_220 ((k_68 hG).trans ow_187.symm) rfl mx_187 rfl rfl hd_196 h
    · replace h := h.2 e4
      exact Y_vret i_196_57 rt_196 h
theorem t_196_5 {d : Nat} {F A : Nat → Nat → Int32} {J : Nat → Nat → Int64} {G : pG} {Q : pR → pM → Prop} {SL p q : Nat} {x1 x2 : Int32} (hG : Geo G SL p q) (h : (F 68 20 = 0 → F 68 16 = 3 → inB (F 68 18) 600 = true) ∧ (((mkB (F 68 20) (F 68 16) (A 80 (F 68 18).toNatClampNeg) 42) = true → (((mkB (F 68 20) (F 68 16) (A 80 (F 68 18).toNatClampNeg) 42) = true → X (d + 1) 187 0 [.ref 68, .null] [] (F, A, J, G) (KK (d + 2) 196 44 [.ref 68, .int x1, .int (-22)] [] Q)) ∧ ((mkB (F 68 20) (F 68 16) (A 80 (F 68 18).toNatClampNeg) 42) = false → X (d + 1) 187 0 [.ref 68, .null] [] (F, A, J, G) (KK (d + 2) 196 44 [.ref 68, .int x1, .int (-23)] [] Q)))) ∧ ((mkB (F 68 20) (F 68 16) (A 80 (F 68 18).toNatClampNeg) 42) = false → (((mkB (F 68 20) (F 68 16) (A 80 (F 68 18).toNatClampNeg) 47) = true → (((mkB (F 68 20) (F 68 16) (A 80 (F 68 18).toNatClampNeg) 42) = true → X (d + 1) 187 0 [.ref 68, .null] [] (F, A, J, G) (KK (d + 2) 196 44 [.ref 68, .int x1, .int (-22)] [] Q)) ∧ ((mkB (F 68 20) (F 68 16) (A 80 (F 68 18).toNatClampNeg) 42) = false → X (d + 1) 187 0 [.ref 68, .null] [] (F, A, J, G) (KK (d + 2) 196 44 [.ref 68, .int x1, .int (-23)] [] Q)))) ∧ ((mkB (F 68 20) (F 68 16) (A 80 (F 68 18).toNatClampNeg) 47) = false → Q (.inl none) (F, A, J, G)))))) : X (d + 2) 196 5 [.ref 68, .int x1, .int x2] [] (F, A, J, G) Q := by
  refine Y_al0 i_196_5 ?_
  refine Y_bipush (v := 42) i_196_6 (by decide) ?_
  have o1 := h.1
  replace h := h.2
  refine Y_iv1 (L0 := [.ref 68, .int 42]) i_196_8 ow_196 lm_10_213 ((k_68 hG).trans ow_191.symm) rfl mx_191 rfl rfl hd_196 ?_
  refine c_191 hG o1 (KKi ?_)
  refine Y_bne i_196_11 (fun e2 => ?_) (fun e2 => ?_)
  · replace h := h.1 e2
    refine Y_al0 i_196_23 ?_
    refine Y_bipush (v := 42) i_196_24 (by decide) ?_
    refine Y_iv1 (L0 := [.ref 68, .int 42]) i_196_26 ow_196 lm_10_213 ((k_68 hG).trans ow_191.symm) rfl mx_191 rfl rfl hd_196 ?_
    refine c_191 hG o1 (KKi ?_)
    refine Y_beq i_196_29 (fun e3 => ?_) (fun e3 => ?_)
    · replace h := h.1 e3
      refine Y_bipush (v := (-22)) i_196_32 (by decide) ?_
      refine Y_goto i_196_34 ?_
      refine Y_is2 i_196_39 rfl ?_
      refine Y_al0 i_196_40 ?_
      exact Y_iv0 (L0 := [.ref 68, .null]) i_196_41 ow_196 lm_10_220 ((k_68 hG).trans ow_187.symm) rfl mx_187 rfl rfl hd_196 h
    · replace h := h.2 e3
      refine Y_bipush (v := (-23)) i_196_37 (by decide) ?_
      refine Y_is2 i_196_39 rfl ?_
      refine Y_al0 i_196_40 ?_
      exact Y_iv0 (L0 := [.ref 68, .null]) i_196_41 ow_196 lm_10_220 ((k_68 hG).trans ow_187.symm) rfl mx_187 rfl rfl hd_196 h
  · replace h := h.2 e2
    refine Y_al0 i_196_14 ?_
    refine Y_bipush (v := 47) i_196_15 (by decide) ?_
    refine Y_iv1 (L0 := [.ref 68, .int 47]) i_196_17 ow_196 lm_10_213 ((k_68 hG).trans ow_191.symm) rfl mx_191 rfl rfl hd_196 ?_
    refine c_191 hG o1 (KKi ?_)
    refine Y_beq i_196_20 (fun e4 => ?_) (fun e4 => ?_)
    · replace h := h.1 e4
      refine Y_al0 i_196_23 ?_
      refine Y_bipush (v := 42) i_196_24 (by decide) ?_
      refine Y_iv1 (L0 := [.ref 68, .int 42]) i_196_26 ow_196 lm_10_213 ((k_68 hG).trans ow_191.symm) rfl mx_191 rfl rfl hd_196 ?_
      refine c_191 hG o1 (KKi ?_)
      refine Y_beq i_196_29 (fun e5 => ?_) (fun e5 => ?_)
      · replace h := h.1 e5
        refine Y_bipush (v := (-22)) i_196_32 (by decide) ?_
        refine Y_goto i_196_34 ?_
        refine Y_is2 i_196_39 rfl ?_
        refine Y_al0 i_196_40 ?_
        exact Y_iv0 (L0 := [.ref 68, .null]) i_196_41 ow_196 lm_10_220 ((k_68 hG).trans ow_187.symm) rfl mx_187 rfl rfl hd_196 h
      · replace h := h.2 e5
        refine Y_bipush (v := (-23)) i_196_37 (by decide) ?_
        refine Y_is2 i_196_39 rfl ?_
        refine Y_al0 i_196_40 ?_
        exact Y_iv0 (L0 := [.ref 68, .null]) i_196_41 ow_196 lm_10_220 ((k_68 hG).trans ow_187.symm) rfl mx_187 rfl rfl hd_196 h
    · replace h := h.2 e4
      exact Y_vret i_196_57 rt_196 h
theorem k_196_44 {d : Nat} {F A : Nat → Nat → Int32} {J : Nat → Nat → Int64} {G : pG} {Q : pR → pM → Prop} {SL p q : Nat} {x1 x2 : Int32} (hG : Geo G SL p q) (h : X (d + 1) 195 0 [.ref 68, .int x1, .null] [] (F, A, J, G) (KK (d + 2) 196 49 [.ref 68, .int x1, .int x2] [] Q)) : KK (d + 2) 196 44 [.ref 68, .int x1, .int x2] [] Q (.inl none) (F, A, J, G) := by
  refine KKv ?_
  refine Y_al0 i_196_44 ?_
  refine Y_il1 i_196_45 ?_
  exact Y_iv1 (L0 := [.ref 68, .int x1, .null]) i_196_46 ow_196 lm_10_239 ((k_68 hG).trans ow_195.symm) rfl mx_195 rfl rfl hd_196 h
theorem k_196_49 {d : Nat} {F A : Nat → Nat → Int32} {J : Nat → Nat → Int64} {G : pG} {Q : pR → pM → Prop} {SL p q : Nat} {x1 x2 : Int32} (hG : Geo G SL p q) (h : (((F 68 20) = 0 → inB ((600 : Int32) + (A 72 7)) 1200 = true ∧ (X (d + 2) 196 5 [.ref 68, .int x1, .int x2] [] (F, (wF (wF A 78 ((600 : Int32) + (A 72 7)).toNatClampNeg x2) 72 7 ((A 72 7) + 1)), J, G) Q)) ∧ (¬ (F 68 20) = 0 → X (d + 2) 196 5 [.ref 68, .int x1, .int x2] [] (F, A, J, G) Q))) : KK (d + 2) 196 49 [.ref 68, .int x1, .int x2] [] Q (.inl none) (F, A, J, G) := by
  refine KKv ?_
  refine Y_al0 i_196_49 ?_
  refine Y_il2 i_196_50 ?_
  refine Y_iv1 (L0 := [.ref 68, .int x2]) i_196_51 ow_196 lm_10_226 ((k_68 hG).trans ow_194.symm) rfl mx_194 rfl rfl hd_196 ?_
  refine Y_al0 i_194_0 ?_
  refine Y_gI (v := (F 68 20)) i_194_1 ow_194 lf_10_195 (by decide) (k_68 hG) rfl ?_
  refine Y_zeq i_194_4 (fun e1 => ?_) (fun e1 => ?_)
  · replace h := h.1 e1
    refine Y_al0 i_194_8 ?_
    refine Y_gR i_194_9 ow_194 lf_10_57 (k_68 hG) (r_68_10 hG) ?_
    refine Y_sipush (v := 600) i_194_12 (by decide) ?_
    refine Y_al0 i_194_15 ?_
    refine Y_gR i_194_16 ow_194 lf_10_42 (k_68 hG) (r_68_4 hG) ?_
    refine Y_bipush (v := 7) i_194_19 (by decide) ?_
    refine Y_iaload (k := 7) (v := (A 72 7)) i_194_21 (k_72 hG) (l_72 hG) (by decide) (by decide) rfl ?_
    refine Y_iadd i_194_22 ?_
    refine Y_il1 i_194_23 ?_
    have o2 := h.1
    replace h := h.2
    refine Y_iast i_194_24 (k_78 hG) (l_78 hG) o2 rfl ?_
    refine Y_al0 i_194_25 ?_
    refine Y_gR i_194_26 ow_194 lf_10_42 (k_68 hG) (r_68_4 hG) ?_
    refine Y_bipush (v := 7) i_194_29 (by decide) ?_
    refine Y_dup2 i_194_31 rfl rfl ?_
    refine Y_iaload (k := 7) (v := (A 72 7)) i_194_32 (k_72 hG) (l_72 hG) (by decide) (by decide) (by simp [wF, wJ, va_up, cpR, bF, bA]) ?_
    refine Y_iconst (v := 1) i_194_33 (by decide) ?_
    refine Y_iadd i_194_34 ?_
    refine Y_iast (k := 7) i_194_35 (k_72 hG) (l_72 hG) (by decide) (by decide) ?_
    refine Y_vret i_194_36 rt_194 (KKv ?_)
    refine Y_goto i_196_54 ?_
    exact h
  · replace h := h.2 e1
    refine Y_vret i_194_7 rt_194 (KKv ?_)
    refine Y_goto i_196_54 ?_
    exact h
/- 197 Model.readSum(I)V -/
theorem t_197_0 {d : Nat} {F A : Nat → Nat → Int32} {J : Nat → Nat → Int64} {G : pG} {Q : pR → pM → Prop} {SL p q : Nat} {x1 : Int32} (hG : Geo G SL p q) (h : X (d + 1) 196 0 [.ref 68, .int x1, .null] [] (F, A, J, G) (KK (d + 2) 197 5 [.ref 68, .int x1, .null] [] Q)) : X (d + 2) 197 0 [.ref 68, .int x1, .null] [] (F, A, J, G) Q := by
  refine Y_al0 i_197_0 ?_
  refine Y_il1 i_197_1 ?_
  exact Y_iv1 (L0 := [.ref 68, .int x1, .null]) i_197_2 ow_197 lm_10_242 ((k_68 hG).trans ow_196.symm) rfl mx_196 rfl rfl hd_197 h
theorem k_197_5 {d : Nat} {F A : Nat → Nat → Int32} {J : Nat → Nat → Int64} {G : pG} {Q : pR → pM → Prop} {SL p q : Nat} {x1 : Int32} (hG : Geo G SL p q) (h : (F 68 20 = 0 → F 68 16 = 3 → inB (F 68 18) 600 = true) ∧ (((mkB (F 68 20) (F 68 16) (A 80 (F 68 18).toNatClampNeg) 43) = true → (((mkB (F 68 20) (F 68 16) (A 80 (F 68 18).toNatClampNeg) 43) = true → X (d + 1) 187 0 [.ref 68, .null] [] (F, A, J, G) (KK (d + 2) 197 44 [.ref 68, .int x1, .int (-20)] [] Q)) ∧ ((mkB (F 68 20) (F 68 16) (A 80 (F 68 18).toNatClampNeg) 43) = false → X (d + 1) 187 0 [.ref 68, .null] [] (F, A, J, G) (KK (d + 2) 197 44 [.ref 68, .int x1, .int (-21)] [] Q)))) ∧ ((mkB (F 68 20) (F 68 16) (A 80 (F 68 18).toNatClampNeg) 43) = false → (((mkB (F 68 20) (F 68 16) (A 80 (F 68 18).toNatClampNeg) 45) = true → (((mkB (F 68 20) (F 68 16) (A 80 (F 68 18).toNatClampNeg) 43) = true → X (d + 1) 187 0 [.ref 68, .null] [] (F, A, J, G) (KK (d + 2) 197 44 [.ref 68, .int x1, .int (-20)] [] Q)) ∧ ((mkB (F 68 20) (F 68 16) (A 80 (F 68 18).toNatClampNeg) 43) = false → X (d + 1) 187 0 [.ref 68, .null] [] (F, A, J, G) (KK (d + 2) 197 44 [.ref 68, .int x1, .int (-21)] [] Q)))) ∧ ((mkB (F 68 20) (F 68 16) (A 80 (F 68 18).toNatClampNeg) 45) = false → Q (.inl none) (F, A, J, G)))))) : KK (d + 2) 197 5 [.ref 68, .int x1, .null] [] Q (.inl none) (F, A, J, G) := by
  refine KKv ?_
  refine Y_al0 i_197_5 ?_
  refine Y_bipush (v := 43) i_197_6 (by decide) ?_
  have o1 := h.1
  replace h := h.2
  refine Y_iv1 (L0 := [.ref 68, .int 43]) i_197_8 ow_197 lm_10_213 ((k_68 hG).trans ow_191.symm) rfl mx_191 rfl rfl hd_197 ?_
  refine c_191 hG o1 (KKi ?_)
  refine Y_bne i_197_11 (fun e2 => ?_) (fun e2 => ?_)
  · replace h := h.1 e2
    refine Y_al0 i_197_23 ?_
    refine Y_bipush (v := 43) i_197_24 (by decide) ?_
    refine Y_iv1 (L0 := [.ref 68, .int 43]) i_197_26 ow_197 lm_10_213 ((k_68 hG).trans ow_191.symm) rfl mx_191 rfl rfl hd_197 ?_
    refine c_191 hG o1 (KKi ?_)
    refine Y_beq i_197_29 (fun e3 => ?_) (fun e3 => ?_)
    · replace h := h.1 e3
      refine Y_bipush (v := (-20)) i_197_32 (by decide) ?_
      refine Y_goto i_197_34 ?_
      refine Y_is2 i_197_39 rfl ?_
      refine Y_al0 i_197_40 ?_
      exact Y_iv0 (L0 := [.ref 68, .null]) i_197_41 ow_197 lm_10_220 ((k_68 hG).trans ow_187.symm) rfl mx_187 rfl rfl hd_197 h
    · replace h := h.2 e3
      refine Y_bipush (v := (-21)) i_197_37 (by decide) ?_
      refine Y_is2 i_197_39 rfl ?_
      refine Y_al0 i_197_40 ?_
      exact Y_iv0 (L0 := [.ref 68, .null]) i_197_41 ow_197 lm_10_220 ((k_68 hG).trans ow_187.symm) rfl mx_187 rfl rfl hd_197 h
  · replace h := h.2 e2
    refine Y_al0 i_197_14 ?_
    refine Y_bipush (v := 45) i_197_15 (by decide) ?_
    refine Y_iv1 (L0 := [.ref 68, .int 45]) i_197_17 ow_197 lm_10_213 ((k_68 hG).trans ow_191.symm) rfl mx_191 rfl rfl hd_197 ?_
    refine c_191 hG o1 (KKi ?_)
    refine Y_beq i_197_20 (fun e4 => ?_) (fun e4 => ?_)
    · replace h := h.1 e4
      refine Y_al0 i_197_23 ?_
      refine Y_bipush (v := 43) i_197_24 (by decide) ?_
      refine Y_iv1 (L0 := [.ref 68, .int 43]) i_197_26 ow_197 lm_10_213 ((k_68 hG).trans ow_191.symm) rfl mx_191 rfl rfl hd_197 ?_
      refine c_191 hG o1 (KKi ?_)
      refine Y_beq i_197_29 (fun e5 => ?_) (fun e5 => ?_)
      · replace h := h.1 e5
        refine Y_bipush (v := (-20)) i_197_32 (by decide) ?_
        refine Y_goto i_197_34 ?_
        refine Y_is2 i_197_39 rfl ?_
        refine Y_al0 i_197_40 ?_
        exact Y_iv0 (L0 := [.ref 68, .null]) i_197_41 ow_197 lm_10_220 ((k_68 hG).trans ow_187.symm) rfl mx_187 rfl rfl hd_197 h
      · replace h := h.2 e5
        refine Y_bipush (v := (-21)) i_197_37 (by decide) ?_
        refine Y_is2 i_197_39 rfl ?_
        refine Y_al0 i_197_40 ?_
        exact Y_iv0 (L0 := [.ref 68, .null]) i_197_41 ow_197 lm_10_220 ((k_68 hG).trans ow_187.symm) rfl mx_187 rfl rfl hd_197 h
    · replace h := h.2 e4
      exact Y_vret i_197_57 rt_197 h
theorem t_197_5 {d : Nat} {F A : Nat → Nat → Int32} {J : Nat → Nat → Int64} {G : pG} {Q : pR → pM → Prop} {SL p q : Nat} {x1 x2 : Int32} (hG : Geo G SL p q) (h : (F 68 20 = 0 → F 68 16 = 3 → inB (F 68 18) 600 = true) ∧ (((mkB (F 68 20) (F 68 16) (A 80 (F 68 18).toNatClampNeg) 43) = true → (((mkB (F 68 20) (F 68 16) (A 80 (F 68 18).toNatClampNeg) 43) = true → X (d + 1) 187 0 [.ref 68, .null] [] (F, A, J, G) (KK (d + 2) 197 44 [.ref 68, .int x1, .int (-20)] [] Q)) ∧ ((mkB (F 68 20) (F 68 16) (A 80 (F 68 18).toNatClampNeg) 43) = false → X (d + 1) 187 0 [.ref 68, .null] [] (F, A, J, G) (KK (d + 2) 197 44 [.ref 68, .int x1, .int (-21)] [] Q)))) ∧ ((mkB (F 68 20) (F 68 16) (A 80 (F 68 18).toNatClampNeg) 43) = false → (((mkB (F 68 20) (F 68 16) (A 80 (F 68 18).toNatClampNeg) 45) = true → (((mkB (F 68 20) (F 68 16) (A 80 (F 68 18).toNatClampNeg) 43) = true → X (d + 1) 187 0 [.ref 68, .null] [] (F, A, J, G) (KK (d + 2) 197 44 [.ref 68, .int x1, .int (-20)] [] Q)) ∧ ((mkB (F 68 20) (F 68 16) (A 80 (F 68 18).toNatClampNeg) 43) = false → X (d + 1) 187 0 [.ref 68, .null] [] (F, A, J, G) (KK (d + 2) 197 44 [.ref 68, .int x1, .int (-21)] [] Q)))) ∧ ((mkB (F 68 20) (F 68 16) (A 80 (F 68 18).toNatClampNeg) 45) = false → Q (.inl none) (F, A, J, G)))))) : X (d + 2) 197 5 [.ref 68, .int x1, .int x2] [] (F, A, J, G) Q := by
  refine Y_al0 i_197_5 ?_
  refine Y_bipush (v := 43) i_197_6 (by decide) ?_
  have o1 := h.1
  replace h := h.2
  refine Y_iv1 (L0 := [.ref 68, .int 43]) i_197_8 ow_197 lm_10_213 ((k_68 hG).trans ow_191.symm) rfl mx_191 rfl rfl hd_197 ?_
  refine c_191 hG o1 (KKi ?_)
  refine Y_bne i_197_11 (fun e2 => ?_) (fun e2 => ?_)
  · replace h := h.1 e2
    refine Y_al0 i_197_23 ?_
    refine Y_bipush (v := 43) i_197_24 (by decide) ?_
    refine Y_iv1 (L0 := [.ref 68, .int 43]) i_197_26 ow_197 lm_10_213 ((k_68 hG).trans ow_191.symm) rfl mx_191 rfl rfl hd_197 ?_
    refine c_191 hG o1 (KKi ?_)
    refine Y_beq i_197_29 (fun e3 => ?_) (fun e3 => ?_)
    · replace h := h.1 e3
      refine Y_bipush (v := (-20)) i_197_32 (by decide) ?_
      refine Y_goto i_197_34 ?_
      refine Y_is2 i_197_39 rfl ?_
      refine Y_al0 i_197_40 ?_
      exact Y_iv0 (L0 := [.ref 68, .null]) i_197_41 ow_197 lm_10_220 ((k_68 hG).trans ow_187.symm) rfl mx_187 rfl rfl hd_197 h
    · replace h := h.2 e3
      refine Y_bipush (v := (-21)) i_197_37 (by decide) ?_
      refine Y_is2 i_197_39 rfl ?_
      refine Y_al0 i_197_40 ?_
      exact Y_iv0 (L0 := [.ref 68, .null]) i_197_41 ow_197 lm_10_220 ((k_68 hG).trans ow_187.symm) rfl mx_187 rfl rfl hd_197 h
  · replace h := h.2 e2
    refine Y_al0 i_197_14 ?_
    refine Y_bipush (v := 45) i_197_15 (by decide) ?_
    refine Y_iv1 (L0 := [.ref 68, .int 45]) i_197_17 ow_197 lm_10_213 ((k_68 hG).trans ow_191.symm) rfl mx_191 rfl rfl hd_197 ?_
    refine c_191 hG o1 (KKi ?_)
    refine Y_beq i_197_20 (fun e4 => ?_) (fun e4 => ?_)
    · replace h := h.1 e4
      refine Y_al0 i_197_23 ?_
      refine Y_bipush (v := 43) i_197_24 (by decide) ?_
      refine Y_iv1 (L0 := [.ref 68, .int 43]) i_197_26 ow_197 lm_10_213 ((k_68 hG).trans ow_191.symm) rfl mx_191 rfl rfl hd_197 ?_
      refine c_191 hG o1 (KKi ?_)
      refine Y_beq i_197_29 (fun e5 => ?_) (fun e5 => ?_)
      · replace h := h.1 e5
        refine Y_bipush (v := (-20)) i_197_32 (by decide) ?_
        refine Y_goto i_197_34 ?_
        refine Y_is2 i_197_39 rfl ?_
        refine Y_al0 i_197_40 ?_
        exact Y_iv0 (L0 := [.ref 68, .null]) i_197_41 ow_197 lm_10_220 ((k_68 hG).trans ow_187.symm) rfl mx_187 rfl rfl hd_197 h
      · replace h := h.2 e5
        refine Y_bipush (v := (-21)) i_197_37 (by decide) ?_
        refine Y_is2 i_197_39 rfl ?_
        refine Y_al0 i_197_40 ?_
        exact Y_iv0 (L0 := [.ref 68, .null]) i_197_41 ow_197 lm_10_220 ((k_68 hG).trans ow_187.symm) rfl mx_187 rfl rfl hd_197 h
    · replace h := h.2 e4
      exact Y_vret i_197_57 rt_197 h
theorem k_197_44 {d : Nat} {F A : Nat → Nat → Int32} {J : Nat → Nat → Int64} {G : pG} {Q : pR → pM → Prop} {SL p q : Nat} {x1 x2 : Int32} (hG : Geo G SL p q) (h : X (d + 1) 196 0 [.ref 68, .int x1, .null] [] (F, A, J, G) (KK (d + 2) 197 49 [.ref 68, .int x1, .int x2] [] Q)) : KK (d + 2) 197 44 [.ref 68, .int x1, .int x2] [] Q (.inl none) (F, A, J, G) := by
  refine KKv ?_
  refine Y_al0 i_197_44 ?_
  refine Y_il1 i_197_45 ?_
  exact Y_iv1 (L0 := [.ref 68, .int x1, .null]) i_197_46 ow_197 lm_10_242 ((k_68 hG).trans ow_196.symm) rfl mx_196 rfl rfl hd_197 h
theorem k_197_49 {d : Nat} {F A : Nat → Nat → Int32} {J : Nat → Nat → Int64} {G : pG} {Q : pR → pM → Prop} {SL p q : Nat} {x1 x2 : Int32} (hG : Geo G SL p q) (h : (((F 68 20) = 0 → inB ((600 : Int32) + (A 72 7)) 1200 = true ∧ (X (d + 2) 197 5 [.ref 68, .int x1, .int x2] [] (F, (wF (wF A 78 ((600 : Int32) + (A 72 7)).toNatClampNeg x2) 72 7 ((A 72 7) + 1)), J, G) Q)) ∧ (¬ (F 68 20) = 0 → X (d + 2) 197 5 [.ref 68, .int x1, .int x2] [] (F, A, J, G) Q))) : KK (d + 2) 197 49 [.ref 68, .int x1, .int x2] [] Q (.inl none) (F, A, J, G) := by
  refine KKv ?_
  refine Y_al0 i_197_49 ?_
  refine Y_il2 i_197_50 ?_
  refine Y_iv1 (L0 := [.ref 68, .int x2]) i_197_51 ow_197 lm_10_226 ((k_68 hG).trans ow_194.symm) rfl mx_194 rfl rfl hd_197 ?_
  refine Y_al0 i_194_0 ?_
  refine Y_gI (v := (F 68 20)) i_194_1 ow_194 lf_10_195 (by decide) (k_68 hG) rfl ?_
  refine Y_zeq i_194_4 (fun e1 => ?_) (fun e1 => ?_)
  · replace h := h.1 e1
    refine Y_al0 i_194_8 ?_
    refine Y_gR i_194_9 ow_194 lf_10_57 (k_68 hG) (r_68_10 hG) ?_
    refine Y_sipush (v := 600) i_194_12 (by decide) ?_
    refine Y_al0 i_194_15 ?_
    refine Y_gR i_194_16 ow_194 lf_10_42 (k_68 hG) (r_68_4 hG) ?_
    refine Y_bipush (v := 7) i_194_19 (by decide) ?_
    refine Y_iaload (k := 7) (v := (A 72 7)) i_194_21 (k_72 hG) (l_72 hG) (by decide) (by decide) rfl ?_
    refine Y_iadd i_194_22 ?_
    refine Y_il1 i_194_23 ?_
    have o2 := h.1
    replace h := h.2
    refine Y_iast i_194_24 (k_78 hG) (l_78 hG) o2 rfl ?_
    refine Y_al0 i_194_25 ?_
    refine Y_gR i_194_26 ow_194 lf_10_42 (k_68 hG) (r_68_4 hG) ?_
    refine Y_bipush (v := 7) i_194_29 (by decide) ?_
    refine Y_dup2 i_194_31 rfl rfl ?_
    refine Y_iaload (k := 7) (v := (A 72 7)) i_194_32 (k_72 hG) (l_72 hG) (by decide) (by decide) (by simp [wF, wJ, va_up, cpR, bF, bA]) ?_
    refine Y_iconst (v := 1) i_194_33 (by decide) ?_
    refine Y_iadd i_194_34 ?_
    refine Y_iast (k := 7) i_194_35 (k_72 hG) (l_72 hG) (by decide) (by decide) ?_
    refine Y_vret i_194_36 rt_194 (KKv ?_)
    refine Y_goto i_197_54 ?_
    exact h
  · replace h := h.2 e1
    refine Y_vret i_194_7 rt_194 (KKv ?_)
    refine Y_goto i_197_54 ?_
    exact h
/- 198 Model.readNot(I)V -/
theorem t_198_0 {d : Nat} {F A : Nat → Nat → Int32} {J : Nat → Nat → Int64} {G : pG} {Q : pR → pM → Prop} {SL p q : Nat} {x1 : Int32} (hG : Geo G SL p q) (h : X (d + 2) 198 2 [.ref 68, .int x1, .int 0, .null] [] (F, A, J, G) Q) : X (d + 2) 198 0 [.ref 68, .int x1, .null, .null] [] (F, A, J, G) Q := by
  refine Y_iconst (v := 0) i_198_0 (by decide) ?_
  refine Y_is2 i_198_1 rfl ?_
  exact h
theorem t_198_2 {d : Nat} {F A : Nat → Nat → Int32} {J : Nat → Nat → Int64} {G : pG} {Q : pR → pM → Prop} {SL p q : Nat} {x1 x2 : Int32} (hG : Geo G SL p q) (h : X (d + 1) 189 0 [.ref 68, .ref 1009, .null, .null] [] (F, A, J, G) (KK (d + 2) 198 8 [.ref 68, .int x1, .int x2, .null] [] Q)) : X (d + 2) 198 2 [.ref 68, .int x1, .int x2, .null] [] (F, A, J, G) Q := by
  refine Y_al0 i_198_2 ?_
  refine Y_ldcS (r := 1009) i_198_3 ow_198 li_10_245 ls_10_245 rfl ?_
  exact Y_iv1 (L0 := [.ref 68, .ref 1009, .null, .null]) i_198_5 ow_198 lm_10_209 ((k_68 hG).trans ow_189.symm) rfl mx_189 rfl rfl hd_198 h
theorem k_198_8 {d : Nat} {F A : Nat → Nat → Int32} {J : Nat → Nat → Int64} {G : pG} {Q : pR → pM → Prop} {SL p q : Nat} {x1 x2 r : Int32} (hG : Geo G SL p q) (h : ((r = 0 → X (d + 1) 197 0 [.ref 68, .int x1, .null] [] (F, A, J, G) (KK (d + 2) 198 44 [.ref 68, .int x1, .int x2, .null] [] Q)) ∧ (¬ r = 0 → ((x2 = 6 → (((F 68 20) = 0 → X (d + 2) 198 2 [.ref 68, .int x1, .int (x2 + 1), .null] [] ((wF (wF F 68 20 2) 68 21 (F 68 18)), A, J, G) Q) ∧ (¬ (F 68 20) = 0 → (((F 68 20) = 0 → X (d + 1) 187 0 [.ref 68, .null] [] (F, A, J, G) (KK (d + 2) 198 36 [.ref 68, .int x1, .int (x2 + 1), .null] [] Q)) ∧ (¬ (F 68 20) = 0 → X (d + 2) 198 2 [.ref 68, .int x1, .int (x2 + 1), .null] [] (F, A, J, G) Q))))) ∧ (¬ x2 = 6 → (((F 68 20) = 0 → X (d + 1) 187 0 [.ref 68, .null] [] (F, A, J, G) (KK (d + 2) 198 36 [.ref 68, .int x1, .int (x2 + 1), .null] [] Q)) ∧ (¬ (F 68 20) = 0 → X (d + 2) 198 2 [.ref 68, .int x1, .int (x2 + 1), .null] [] (F, A, J, G) Q))))))) : KK (d + 2) 198 8 [.ref 68, .int x1, .int x2, .null] [] Q (.inl (some (.int r))) (F, A, J, G) := by
  refine KKi ?_
  refine Y_zeq i_198_8 (fun e1 => ?_) (fun e1 => ?_)
  · replace h := h.1 e1
    refine Y_al0 i_198_39 ?_
    refine Y_il1 i_198_40 ?_
    exact Y_iv1 (L0 := [.ref 68, .int x1, .null]) i_198_41 ow_198 lm_10_247 ((k_68 hG).trans ow_197.symm) rfl mx_197 rfl rfl hd_198 h
  · replace h := h.2 e1
    refine Y_il2 i_198_11 ?_
    refine Y_bipush (v := 6) i_198_12 (by decide) ?_
    refine Y_cne i_198_14 (fun e2 => ?_) (fun e2 => ?_)
    · replace h := h.1 e2
      refine Y_al0 i_198_17 ?_
      refine Y_iconst (v := 2) i_198_18 (by decide) ?_
      refine Y_iv1 (L0 := [.ref 68, .int 2]) i_198_19 ow_198 lm_10_216 ((k_68 hG).trans ow_188.symm) rfl mx_188 rfl rfl hd_198 ?_
      refine Y_al0 i_188_0 ?_
      refine Y_gI (v := (F 68 20)) i_188_1 ow_188 lf_10_195 (by decide) (k_68 hG) rfl ?_
      refine Y_zeq i_188_4 (fun e3 => ?_) (fun e3 => ?_)
      · replace h := h.1 e3
        refine Y_al0 i_188_8 ?_
        refine Y_il1 i_188_9 ?_
        refine Y_pI i_188_10 ow_188 lf_10_195 (k_68 hG) ?_
        refine Y_al0 i_188_13 ?_
        refine Y_al0 i_188_14 ?_
        refine Y_gI (v := (F 68 18)) i_188_15 ow_188 lf_10_166 (by decide) (k_68 hG) (by simp [wF, wJ, va_up, cpR, bF, bA]) ?_
        refine Y_pI i_188_18 ow_188 lf_10_198 (k_68 hG) ?_
        refine Y_vret i_188_21 rt_188 (KKv ?_)
        refine Y_ii2 (v := 1) i_198_22 (by decide) rfl ?_
        refine Y_al0 i_198_25 ?_
        refine Y_gI (v := 2) i_198_26 ow_198 lf_10_195 (by decide) (k_68 hG) (by simp [wF, wJ, va_up, cpR, bF, bA]) ?_
        refine Y_zT i_198_29 (by decide) ?_
        exact h
      · replace h := h.2 e3
        refine Y_vret i_188_7 rt_188 (KKv ?_)
        refine Y_ii2 (v := 1) i_198_22 (by decide) rfl ?_
        refine Y_al0 i_198_25 ?_
        refine Y_gI (v := (F 68 20)) i_198_26 ow_198 lf_10_195 (by decide) (k_68 hG) rfl ?_
        refine Y_zne i_198_29 (fun e4 => ?_) (fun e4 => ?_)
        · replace h := h.1 e4
          refine Y_al0 i_198_32 ?_
          exact Y_iv0 (L0 := [.ref 68, .null]) i_198_33 ow_198 lm_10_220 ((k_68 hG).trans ow_187.symm) rfl mx_187 rfl rfl hd_198 h
        · replace h := h.2 e4
          exact h
    · replace h := h.2 e2
      refine Y_ii2 (v := 1) i_198_22 (by decide) rfl ?_
      refine Y_al0 i_198_25 ?_
      refine Y_gI (v := (F 68 20)) i_198_26 ow_198 lf_10_195 (by decide) (k_68 hG) rfl ?_
      refine Y_zne i_198_29 (fun e5 => ?_) (fun e5 => ?_)
      · replace h := h.1 e5
        refine Y_al0 i_198_32 ?_
        exact Y_iv0 (L0 := [.ref 68, .null]) i_198_33 ow_198 lm_10_220 ((k_68 hG).trans ow_187.symm) rfl mx_187 rfl rfl hd_198 h
      · replace h := h.2 e5
        exact h
theorem k_198_36 {d : Nat} {F A : Nat → Nat → Int32} {J : Nat → Nat → Int64} {G : pG} {Q : pR → pM → Prop} {SL p q : Nat} {x1 x2 : Int32} (hG : Geo G SL p q) (h : X (d + 2) 198 2 [.ref 68, .int x1, .int x2, .null] [] (F, A, J, G) Q) : KK (d + 2) 198 36 [.ref 68, .int x1, .int x2, .null] [] Q (.inl none) (F, A, J, G) := by
  refine KKv ?_
  refine Y_goto i_198_36 ?_
  exact h
theorem k_198_44 {d : Nat} {F A : Nat → Nat → Int32} {J : Nat → Nat → Int64} {G : pG} {Q : pR → pM → Prop} {SL p q : Nat} {x1 x2 : Int32} (hG : Geo G SL p q) (h : (F 68 20 = 0 → F 68 16 = 3 → inB (F 68 18) 600 = true) ∧ (((mkB (F 68 20) (F 68 16) (A 80 (F 68 18).toNatClampNeg) 60) = true → (((mkB (F 68 20) (F 68 16) (A 80 (F 68 18).toNatClampNeg) 60) = true → X (d + 1) 187 0 [.ref 68, .null] [] (F, A, J, G) (KK (d + 2) 198 83 [.ref 68, .int x1, .int x2, .int (-24)] [] Q)) ∧ ((mkB (F 68 20) (F 68 16) (A 80 (F 68 18).toNatClampNeg) 60) = false → X (d + 1) 187 0 [.ref 68, .null] [] (F, A, J, G) (KK (d + 2) 198 83 [.ref 68, .int x1, .int x2, .int (-25)] [] Q)))) ∧ ((mkB (F 68 20) (F 68 16) (A 80 (F 68 18).toNatClampNeg) 60) = false → (((mkB (F 68 20) (F 68 16) (A 80 (F 68 18).toNatClampNeg) 61) = true → (((mkB (F 68 20) (F 68 16) (A 80 (F 68 18).toNatClampNeg) 60) = true → X (d + 1) 187 0 [.ref 68, .null] [] (F, A, J, G) (KK (d + 2) 198 83 [.ref 68, .int x1, .int x2, .int (-24)] [] Q)) ∧ ((mkB (F 68 20) (F 68 16) (A 80 (F 68 18).toNatClampNeg) 60) = false → X (d + 1) 187 0 [.ref 68, .null] [] (F, A, J, G) (KK (d + 2) 198 83 [.ref 68, .int x1, .int x2, .int (-25)] [] Q)))) ∧ ((mkB (F 68 20) (F 68 16) (A 80 (F 68 18).toNatClampNeg) 61) = false → X (d + 2) 198 95 [.ref 68, .int x1, .int x2, .int 0] [] (F, A, J, G) Q))))) : KK (d + 2) 198 44 [.ref 68, .int x1, .int x2, .null] [] Q (.inl none) (F, A, J, G) := by
  refine KKv ?_
  refine Y_al0 i_198_44 ?_
  refine Y_bipush (v := 60) i_198_45 (by decide) ?_
  have o1 := h.1
  replace h := h.2
  refine Y_iv1 (L0 := [.ref 68, .int 60]) i_198_47 ow_198 lm_10_213 ((k_68 hG).trans ow_191.symm) rfl mx_191 rfl rfl hd_198 ?_
  refine c_191 hG o1 (KKi ?_)
  refine Y_bne i_198_50 (fun e2 => ?_) (fun e2 => ?_)
  · replace h := h.1 e2
    refine Y_al0 i_198_62 ?_
    refine Y_bipush (v := 60) i_198_63 (by decide) ?_
    refine Y_iv1 (L0 := [.ref 68, .int 60]) i_198_65 ow_198 lm_10_213 ((k_68 hG).trans ow_191.symm) rfl mx_191 rfl rfl hd_198 ?_
    refine c_191 hG o1 (KKi ?_)
    refine Y_beq i_198_68 (fun e3 => ?_) (fun e3 => ?_)
    · replace h := h.1 e3
      refine Y_bipush (v := (-24)) i_198_71 (by decide) ?_
      refine Y_goto i_198_73 ?_
      refine Y_is3 i_198_78 rfl ?_
      refine Y_al0 i_198_79 ?_
      exact Y_iv0 (L0 := [.ref 68, .null]) i_198_80 ow_198 lm_10_220 ((k_68 hG).trans ow_187.symm) rfl mx_187 rfl rfl hd_198 h
    · replace h := h.2 e3
      refine Y_bipush (v := (-25)) i_198_76 (by decide) ?_
      refine Y_is3 i_198_78 rfl ?_
      refine Y_al0 i_198_79 ?_
      exact Y_iv0 (L0 := [.ref 68, .null]) i_198_80 ow_198 lm_10_220 ((k_68 hG).trans ow_187.symm) rfl mx_187 rfl rfl hd_198 h
  · replace h := h.2 e2
    refine Y_al0 i_198_53 ?_
    refine Y_bipush (v := 61) i_198_54 (by decide) ?_
    refine Y_iv1 (L0 := [.ref 68, .int 61]) i_198_56 ow_198 lm_10_213 ((k_68 hG).trans ow_191.symm) rfl mx_191 rfl rfl hd_198 ?_
    refine c_191 hG o1 (KKi ?_)
    refine Y_beq i_198_59 (fun e4 => ?_) (fun e4 => ?_)
    · replace h := h.1 e4
      refine Y_al0 i_198_62 ?_
      refine Y_bipush (v := 60) i_198_63 (by decide) ?_
      refine Y_iv1 (L0 := [.ref 68, .int 60]) i_198_65 ow_198 lm_10_213 ((k_68 hG).trans ow_191.symm) rfl mx_191 rfl rfl hd_198 ?_
      refine c_191 hG o1 (KKi ?_)
      refine Y_beq i_198_68 (fun e5 => ?_) (fun e5 => ?_)
      · replace h := h.1 e5
        refine Y_bipush (v := (-24)) i_198_71 (by decide) ?_
        refine Y_goto i_198_73 ?_
        refine Y_is3 i_198_78 rfl ?_
        refine Y_al0 i_198_79 ?_
        exact Y_iv0 (L0 := [.ref 68, .null]) i_198_80 ow_198 lm_10_220 ((k_68 hG).trans ow_187.symm) rfl mx_187 rfl rfl hd_198 h
      · replace h := h.2 e5
        refine Y_bipush (v := (-25)) i_198_76 (by decide) ?_
        refine Y_is3 i_198_78 rfl ?_
        refine Y_al0 i_198_79 ?_
        exact Y_iv0 (L0 := [.ref 68, .null]) i_198_80 ow_198 lm_10_220 ((k_68 hG).trans ow_187.symm) rfl mx_187 rfl rfl hd_198 h
    · replace h := h.2 e4
      refine Y_iconst (v := 0) i_198_93 (by decide) ?_
      refine Y_is3 i_198_94 rfl ?_
      exact h
theorem k_198_83 {d : Nat} {F A : Nat → Nat → Int32} {J : Nat → Nat → Int64} {G : pG} {Q : pR → pM → Prop} {SL p q : Nat} {x1 x2 x3 : Int32} (hG : Geo G SL p q) (h : X (d + 1) 197 0 [.ref 68, .int x1, .null] [] (F, A, J, G) (KK (d + 2) 198 88 [.ref 68, .int x1, .int x2, .int x3] [] Q)) : KK (d + 2) 198 83 [.ref 68, .int x1, .int x2, .int x3] [] Q (.inl none) (F, A, J, G) := by
  refine KKv ?_
  refine Y_al0 i_198_83 ?_
  refine Y_il1 i_198_84 ?_
  exact Y_iv1 (L0 := [.ref 68, .int x1, .null]) i_198_85 ow_198 lm_10_247 ((k_68 hG).trans ow_197.symm) rfl mx_197 rfl rfl hd_198 h
theorem k_198_88 {d : Nat} {F A : Nat → Nat → Int32} {J : Nat → Nat → Int64} {G : pG} {Q : pR → pM → Prop} {SL p q : Nat} {x1 x2 x3 : Int32} (hG : Geo G SL p q) (h : (((F 68 20) = 0 → inB ((600 : Int32) + (A 72 7)) 1200 = true ∧ (X (d + 2) 198 95 [.ref 68, .int x1, .int x2, .int 0] [] (F, (wF (wF A 78 ((600 : Int32) + (A 72 7)).toNatClampNeg x3) 72 7 ((A 72 7) + 1)), J, G) Q)) ∧ (¬ (F 68 20) = 0 → X (d + 2) 198 95 [.ref 68, .int x1, .int x2, .int 0] [] (F, A, J, G) Q))) : KK (d + 2) 198 88 [.ref 68, .int x1, .int x2, .int x3] [] Q (.inl none) (F, A, J, G) := by
  refine KKv ?_
  refine Y_al0 i_198_88 ?_
  refine Y_il3 i_198_89 ?_
  refine Y_iv1 (L0 := [.ref 68, .int x3]) i_198_90 ow_198 lm_10_226 ((k_68 hG).trans ow_194.symm) rfl mx_194 rfl rfl hd_198 ?_
  refine Y_al0 i_194_0 ?_
  refine Y_gI (v := (F 68 20)) i_194_1 ow_194 lf_10_195 (by decide) (k_68 hG) rfl ?_
  refine Y_zeq i_194_4 (fun e1 => ?_) (fun e1 => ?_)
  · replace h := h.1 e1
    refine Y_al0 i_194_8 ?_
    refine Y_gR i_194_9 ow_194 lf_10_57 (k_68 hG) (r_68_10 hG) ?_
    refine Y_sipush (v := 600) i_194_12 (by decide) ?_
    refine Y_al0 i_194_15 ?_
    refine Y_gR i_194_16 ow_194 lf_10_42 (k_68 hG) (r_68_4 hG) ?_
    refine Y_bipush (v := 7) i_194_19 (by decide) ?_
    refine Y_iaload (k := 7) (v := (A 72 7)) i_194_21 (k_72 hG) (l_72 hG) (by decide) (by decide) rfl ?_
    refine Y_iadd i_194_22 ?_
    refine Y_il1 i_194_23 ?_
    have o2 := h.1
    replace h := h.2
    refine Y_iast i_194_24 (k_78 hG) (l_78 hG) o2 rfl ?_
    refine Y_al0 i_194_25 ?_
    refine Y_gR i_194_26 ow_194 lf_10_42 (k_68 hG) (r_68_4 hG) ?_
    refine Y_bipush (v := 7) i_194_29 (by decide) ?_
    refine Y_dup2 i_194_31 rfl rfl ?_
    refine Y_iaload (k := 7) (v := (A 72 7)) i_194_32 (k_72 hG) (l_72 hG) (by decide) (by decide) (by simp [wF, wJ, va_up, cpR, bF, bA]) ?_
    refine Y_iconst (v := 1) i_194_33 (by decide) ?_
    refine Y_iadd i_194_34 ?_
    refine Y_iast (k := 7) i_194_35 (k_72 hG) (l_72 hG) (by decide) (by decide) ?_
    refine Y_vret i_194_36 rt_194 (KKv ?_)
    refine Y_iconst (v := 0) i_198_93 (by decide) ?_
    refine Y_is3 i_198_94 rfl ?_
    exact h
  · replace h := h.2 e1
    refine Y_vret i_194_7 rt_194 (KKv ?_)
    refine Y_iconst (v := 0) i_198_93 (by decide) ?_
    refine Y_is3 i_198_94 rfl ?_
    exact h
theorem t_198_95 {d : Nat} {F A : Nat → Nat → Int32} {J : Nat → Nat → Int64} {G : pG} {Q : pR → pM → Prop} {SL p q : Nat} {x1 x2 x3 : Int32} (hG : Geo G SL p q) (h : ((x3 < x2 → (((F 68 20) = 0 → inB ((600 : Int32) + (A 72 7)) 1200 = true ∧ (X (d + 2) 198 95 [.ref 68, .int x1, .int x2, .int (x3 + 1)] [] (F, (wF (wF A 78 ((600 : Int32) + (A 72 7)).toNatClampNeg (-28)) 72 7 ((A 72 7) + 1)), J, G) Q)) ∧ (¬ (F 68 20) = 0 → X (d + 2) 198 95 [.ref 68, .int x1, .int x2, .int (x3 + 1)] [] (F, A, J, G) Q))) ∧ (¬ x3 < x2 → Q (.inl none) (F, A, J, G)))) : X (d + 2) 198 95 [.ref 68, .int x1, .int x2, .int x3] [] (F, A, J, G) Q := by
  refine Y_il3 i_198_95 ?_
  refine Y_il2 i_198_96 ?_
  refine Y_cge i_198_97 (fun e1 => ?_) (fun e1 => ?_)
  · replace h := h.1 e1
    refine Y_al0 i_198_100 ?_
    refine Y_bipush (v := (-28)) i_198_101 (by decide) ?_
    refine Y_iv1 (L0 := [.ref 68, .int (-28)]) i_198_103 ow_198 lm_10_226 ((k_68 hG).trans ow_194.symm) rfl mx_194 rfl rfl hd_198 ?_
    refine Y_al0 i_194_0 ?_
    refine Y_gI (v := (F 68 20)) i_194_1 ow_194 lf_10_195 (by decide) (k_68 hG) rfl ?_
    refine Y_zeq i_194_4 (fun e2 => ?_) (fun e2 => ?_)
    · replace h := h.1 e2
      refine Y_al0 i_194_8 ?_
      refine Y_gR i_194_9 ow_194 lf_10_57 (k_68 hG) (r_68_10 hG) ?_
      refine Y_sipush (v := 600) i_194_12 (by decide) ?_
      refine Y_al0 i_194_15 ?_
      refine Y_gR i_194_16 ow_194 lf_10_42 (k_68 hG) (r_68_4 hG) ?_
      refine Y_bipush (v := 7) i_194_19 (by decide) ?_
      refine Y_iaload (k := 7) (v := (A 72 7)) i_194_21 (k_72 hG) (l_72 hG) (by decide) (by decide) rfl ?_
      refine Y_iadd i_194_22 ?_
      refine Y_il1 i_194_23 ?_
      have o3 := h.1
      replace h := h.2
      refine Y_iast i_194_24 (k_78 hG) (l_78 hG) o3 rfl ?_
      refine Y_al0 i_194_25 ?_
      refine Y_gR i_194_26 ow_194 lf_10_42 (k_68 hG) (r_68_4 hG) ?_
      refine Y_bipush (v := 7) i_194_29 (by decide) ?_
      refine Y_dup2 i_194_31 rfl rfl ?_
      refine Y_iaload (k := 7) (v := (A 72 7)) i_194_32 (k_72 hG) (l_72 hG) (by decide) (by decide) (by simp [wF, wJ, va_up, cpR, bF, bA]) ?_
      refine Y_iconst (v := 1) i_194_33 (by decide) ?_
      refine Y_iadd i_194_34 ?_
      refine Y_iast (k := 7) i_194_35 (k_72 hG) (l_72 hG) (by decide) (by decide) ?_
      refine Y_vret i_194_36 rt_194 (KKv ?_)
      refine Y_ii3 (v := 1) i_198_106 (by decide) rfl ?_
      refine Y_goto i_198_109 ?_
      exact h
    · replace h := h.2 e2
      refine Y_vret i_194_7 rt_194 (KKv ?_)
      refine Y_ii3 (v := 1) i_198_106 (by decide) rfl ?_
      refine Y_goto i_198_109 ?_
      exact h
  · replace h := h.2 e1
    exact Y_vret i_198_112 rt_198 h
/- 199 Model.readAnd(I)V -/
theorem t_199_0 {d : Nat} {F A : Nat → Nat → Int32} {J : Nat → Nat → Int64} {G : pG} {Q : pR → pM → Prop} {SL p q : Nat} {x1 : Int32} (hG : Geo G SL p q) (h : X (d + 1) 198 0 [.ref 68, .int x1, .null, .null] [] (F, A, J, G) (KK (d + 2) 199 5 [.ref 68, .int x1] [] Q)) : X (d + 2) 199 0 [.ref 68, .int x1] [] (F, A, J, G) Q := by
  refine Y_al0 i_199_0 ?_
  refine Y_il1 i_199_1 ?_
  exact Y_iv1 (L0 := [.ref 68, .int x1, .null, .null]) i_199_2 ow_199 lm_10_250 ((k_68 hG).trans ow_198.symm) rfl mx_198 rfl rfl hd_199 h
theorem k_199_5 {d : Nat} {F A : Nat → Nat → Int32} {J : Nat → Nat → Int64} {G : pG} {Q : pR → pM → Prop} {SL p q : Nat} {x1 : Int32} (hG : Geo G SL p q) (h : X (d + 1) 189 0 [.ref 68, .ref 1016, .null, .null] [] (F, A, J, G) (KK (d + 2) 199 11 [.ref 68, .int x1] [] Q)) : KK (d + 2) 199 5 [.ref 68, .int x1] [] Q (.inl none) (F, A, J, G) := by
  refine KKv ?_
  refine Y_al0 i_199_5 ?_
  refine Y_ldcS (r := 1016) i_199_6 ow_199 li_10_253 ls_10_253 rfl ?_
  exact Y_iv1 (L0 := [.ref 68, .ref 1016, .null, .null]) i_199_8 ow_199 lm_10_209 ((k_68 hG).trans ow_189.symm) rfl mx_189 rfl rfl hd_199 h
theorem t_199_5 {d : Nat} {F A : Nat → Nat → Int32} {J : Nat → Nat → Int64} {G : pG} {Q : pR → pM → Prop} {SL p q : Nat} {x1 : Int32} (hG : Geo G SL p q) (h : X (d + 1) 189 0 [.ref 68, .ref 1016, .null, .null] [] (F, A, J, G) (KK (d + 2) 199 11 [.ref 68, .int x1] [] Q)) : X (d + 2) 199 5 [.ref 68, .int x1] [] (F, A, J, G) Q := by
  refine Y_al0 i_199_5 ?_
  refine Y_ldcS (r := 1016) i_199_6 ow_199 li_10_253 ls_10_253 rfl ?_
  exact Y_iv1 (L0 := [.ref 68, .ref 1016, .null, .null]) i_199_8 ow_199 lm_10_209 ((k_68 hG).trans ow_189.symm) rfl mx_189 rfl rfl hd_199 h
theorem k_199_11 {d : Nat} {F A : Nat → Nat → Int32} {J : Nat → Nat → Int64} {G : pG} {Q : pR → pM → Prop} {SL p q : Nat} {x1 r : Int32} (hG : Geo G SL p q) (h : ((r = 0 → Q (.inl none) (F, A, J, G)) ∧ (¬ r = 0 → X (d + 1) 187 0 [.ref 68, .null] [] (F, A, J, G) (KK (d + 2) 199 18 [.ref 68, .int x1] [] Q)))) : KK (d + 2) 199 11 [.ref 68, .int x1] [] Q (.inl (some (.int r))) (F, A, J, G) := by
  refine KKi ?_
  refine Y_zeq i_199_11 (fun e1 => ?_) (fun e1 => ?_)
  · replace h := h.1 e1
    exact Y_vret i_199_32 rt_199 h
  · replace h := h.2 e1
    refine Y_al0 i_199_14 ?_
    exact Y_iv0 (L0 := [.ref 68, .null]) i_199_15 ow_199 lm_10_220 ((k_68 hG).trans ow_187.symm) rfl mx_187 rfl rfl hd_199 h
theorem k_199_18 {d : Nat} {F A : Nat → Nat → Int32} {J : Nat → Nat → Int64} {G : pG} {Q : pR → pM → Prop} {SL p q : Nat} {x1 : Int32} (hG : Geo G SL p q) (h : X (d + 1) 198 0 [.ref 68, .int x1, .null, .null] [] (F, A, J, G) (KK (d + 2) 199 23 [.ref 68, .int x1] [] Q)) : KK (d + 2) 199 18 [.ref 68, .int x1] [] Q (.inl none) (F, A, J, G) := by
  refine KKv ?_
  refine Y_al0 i_199_18 ?_
  refine Y_il1 i_199_19 ?_
  exact Y_iv1 (L0 := [.ref 68, .int x1, .null, .null]) i_199_20 ow_199 lm_10_250 ((k_68 hG).trans ow_198.symm) rfl mx_198 rfl rfl hd_199 h
theorem k_199_23 {d : Nat} {F A : Nat → Nat → Int32} {J : Nat → Nat → Int64} {G : pG} {Q : pR → pM → Prop} {SL p q : Nat} {x1 : Int32} (hG : Geo G SL p q) (h : (((F 68 20) = 0 → inB ((600 : Int32) + (A 72 7)) 1200 = true ∧ (X (d + 2) 199 5 [.ref 68, .int x1] [] (F, (wF (wF A 78 ((600 : Int32) + (A 72 7)).toNatClampNeg (-26)) 72 7 ((A 72 7) + 1)), J, G) Q)) ∧ (¬ (F 68 20) = 0 → X (d + 2) 199 5 [.ref 68, .int x1] [] (F, A, J, G) Q))) : KK (d + 2) 199 23 [.ref 68, .int x1] [] Q (.inl none) (F, A, J, G) := by
  refine KKv ?_
  refine Y_al0 i_199_23 ?_
  refine Y_bipush (v := (-26)) i_199_24 (by decide) ?_
  refine Y_iv1 (L0 := [.ref 68, .int (-26)]) i_199_26 ow_199 lm_10_226 ((k_68 hG).trans ow_194.symm) rfl mx_194 rfl rfl hd_199 ?_
  refine Y_al0 i_194_0 ?_
  refine Y_gI (v := (F 68 20)) i_194_1 ow_194 lf_10_195 (by decide) (k_68 hG) rfl ?_
  refine Y_zeq i_194_4 (fun e1 => ?_) (fun e1 => ?_)
  · replace h := h.1 e1
    refine Y_al0 i_194_8 ?_
    refine Y_gR i_194_9 ow_194 lf_10_57 (k_68 hG) (r_68_10 hG) ?_
    refine Y_sipush (v := 600) i_194_12 (by decide) ?_
    refine Y_al0 i_194_15 ?_
    refine Y_gR i_194_16 ow_194 lf_10_42 (k_68 hG) (r_68_4 hG) ?_
    refine Y_bipush (v := 7) i_194_19 (by decide) ?_
    refine Y_iaload (k := 7) (v := (A 72 7)) i_194_21 (k_72 hG) (l_72 hG) (by decide) (by decide) rfl ?_
    refine Y_iadd i_194_22 ?_
    refine Y_il1 i_194_23 ?_
    have o2 := h.1
    replace h := h.2
    refine Y_iast i_194_24 (k_78 hG) (l_78 hG) o2 rfl ?_
    refine Y_al0 i_194_25 ?_
    refine Y_gR i_194_26 ow_194 lf_10_42 (k_68 hG) (r_68_4 hG) ?_
    refine Y_bipush (v := 7) i_194_29 (by decide) ?_
    refine Y_dup2 i_194_31 rfl rfl ?_
    refine Y_iaload (k := 7) (v := (A 72 7)) i_194_32 (k_72 hG) (l_72 hG) (by decide) (by decide) (by simp [wF, wJ, va_up, cpR, bF, bA]) ?_
    refine Y_iconst (v := 1) i_194_33 (by decide) ?_
    refine Y_iadd i_194_34 ?_
    refine Y_iast (k := 7) i_194_35 (k_72 hG) (l_72 hG) (by decide) (by decide) ?_
    refine Y_vret i_194_36 rt_194 (KKv ?_)
    refine Y_goto i_199_29 ?_
    exact h
  · replace h := h.2 e1
    refine Y_vret i_194_7 rt_194 (KKv ?_)
    refine Y_goto i_199_29 ?_
    exact h
/- 200 Model.readExpression(I)V -/
theorem t_200_0 {d : Nat} {F A : Nat → Nat → Int32} {J : Nat → Nat → Int64} {G : pG} {Q : pR → pM → Prop} {SL p q : Nat} {x1 : Int32} (hG : Geo G SL p q) (h : (((F 68 20) = 0 → (((F 68 16) = 2 → ((x1 = 6 → (((F 68 20) = 0 → X (d + 1) 199 0 [.ref 68, .int x1] [] ((wF (wF F 68 20 2) 68 21 (F 68 18)), A, J, G) (KK (d + 2) 200 67 [.ref 68, .int x1, .int 1] [] Q)) ∧ (¬ (F 68 20) = 0 → X (d + 1) 199 0 [.ref 68, .int x1] [] (F, A, J, G) (KK (d + 2) 200 67 [.ref 68, .int x1, .int 1] [] Q)))) ∧ (¬ x1 = 6 → X (d + 1) 199 0 [.ref 68, .int x1] [] (F, A, J, G) (KK (d + 2) 200 67 [.ref 68, .int x1, .int 1] [] Q)))) ∧ (¬ (F 68 16) = 2 → (((F 68 16) = 1 → ((x1 = 6 → (((F 68 20) = 0 → X (d + 1) 199 0 [.ref 68, .int x1] [] ((wF (wF F 68 20 2) 68 21 (F 68 18)), A, J, G) (KK (d + 2) 200 67 [.ref 68, .int x1, .int 1] [] Q)) ∧ (¬ (F 68 20) = 0 → X (d + 1) 199 0 [.ref 68, .int x1] [] (F, A, J, G) (KK (d + 2) 200 67 [.ref 68, .int x1, .int 1] [] Q)))) ∧ (¬ x1 = 6 → X (d + 1) 199 0 [.ref 68, .int x1] [] (F, A, J, G) (KK (d + 2) 200 67 [.ref 68, .int x1, .int 1] [] Q)))) ∧ (¬ (F 68 16) = 1 → (F 68 20 = 0 → F 68 16 = 3 → inB (F 68 18) 600 = true) ∧ (((mkB (F 68 20) (F 68 16) (A 80 (F 68 18).toNatClampNeg) 40) = true → ((x1 = 6 → (((F 68 20) = 0 → X (d + 1) 199 0 [.ref 68, .int x1] [] ((wF (wF F 68 20 2) 68 21 (F 68 18)), A, J, G) (KK (d + 2) 200 67 [.ref 68, .int x1, .int 1] [] Q)) ∧ (¬ (F 68 20) = 0 → X (d + 1) 199 0 [.ref 68, .int x1] [] (F, A, J, G) (KK (d + 2) 200 67 [.ref 68, .int x1, .int 1] [] Q)))) ∧ (¬ x1 = 6 → X (d + 1) 199 0 [.ref 68, .int x1] [] (F, A, J, G) (KK (d + 2) 200 67 [.ref 68, .int x1, .int 1] [] Q)))) ∧ ((mkB (F 68 20) (F 68 16) (A 80 (F 68 18).toNatClampNeg) 40) = false → (((F 68 20) = 0 → X (d + 1) 199 0 [.ref 68, .int x1] [] ((wF (wF F 68 20 1) 68 21 (F 68 18)), A, J, G) (KK (d + 2) 200 67 [.ref 68, .int x1, .int 0] [] Q)) ∧ (¬ (F 68 20) = 0 → X (d + 1) 199 0 [.ref 68, .int x1] [] (F, A, J, G) (KK (d + 2) 200 67 [.ref 68, .int x1, .int 0] [] Q)))))))))) ∧ (¬ (F 68 20) = 0 → Q (.inl none) (F, A, J, G)))) : X (d + 2) 200 0 [.ref 68, .int x1, .null] [] (F, A, J, G) Q := by
  refine Y_al0 i_200_0 ?_
  refine Y_gI (v := (F 68 20)) i_200_1 ow_200 lf_10_195 (by decide) (k_68 hG) rfl ?_
  refine Y_zeq i_200_4 (fun e1 => ?_) (fun e1 => ?_)
  · replace h := h.1 e1
    refine Y_al0 i_200_8 ?_
    refine Y_gI (v := (F 68 16)) i_200_9 ow_200 lf_10_169 (by decide) (k_68 hG) rfl ?_
    refine Y_iconst (v := 2) i_200_12 (by decide) ?_
    refine Y_ceq i_200_13 (fun e2 => ?_) (fun e2 => ?_)
    · replace h := h.1 e2
      refine Y_iconst (v := 1) i_200_33 (by decide) ?_
      refine Y_goto i_200_34 ?_
      refine Y_is2 i_200_38 rfl ?_
      refine Y_il2 i_200_39 ?_
      refine Y_zT i_200_40 (by decide) ?_
      refine Y_il1 i_200_51 ?_
      refine Y_bipush (v := 6) i_200_52 (by decide) ?_
      refine Y_cne i_200_54 (fun e3 => ?_) (fun e3 => ?_)
      · replace h := h.1 e3
        refine Y_al0 i_200_57 ?_
        refine Y_iconst (v := 2) i_200_58 (by decide) ?_
        refine Y_iv1 (L0 := [.ref 68, .int 2]) i_200_59 ow_200 lm_10_216 ((k_68 hG).trans ow_188.symm) rfl mx_188 rfl rfl hd_200 ?_
        refine Y_al0 i_188_0 ?_
        refine Y_gI (v := (F 68 20)) i_188_1 ow_188 lf_10_195 (by decide) (k_68 hG) rfl ?_
        refine Y_zeq i_188_4 (fun e4 => ?_) (fun e4 => ?_)
        · replace h := h.1 e4
          refine Y_al0 i_188_8 ?_
          refine Y_il1 i_188_9 ?_
          refine Y_pI i_188_10 ow_188 lf_10_195 (k_68 hG) ?_
          refine Y_al0 i_188_13 ?_
          refine Y_al0 i_188_14 ?_
          refine Y_gI (v := (F 68 18)) i_188_15 ow_188 lf_10_166 (by decide) (k_68 hG) (by simp [wF, wJ, va_up, cpR, bF, bA]) ?_
          refine Y_pI i_188_18 ow_188 lf_10_198 (k_68 hG) ?_
          refine Y_vret i_188_21 rt_188 (KKv ?_)
          refine Y_al0 i_200_62 ?_
          refine Y_il1 i_200_63 ?_
          exact Y_iv1 (L0 := [.ref 68, .int x1]) i_200_64 ow_200 lm_10_255 ((k_68 hG).trans ow_199.symm) rfl mx_199 rfl rfl hd_200 h
        · replace h := h.2 e4
          refine Y_vret i_188_7 rt_188 (KKv ?_)
          refine Y_al0 i_200_62 ?_
          refine Y_il1 i_200_63 ?_
          exact Y_iv1 (L0 := [.ref 68, .int x1]) i_200_64 ow_200 lm_10_255 ((k_68 hG).trans ow_199.symm) rfl mx_199 rfl rfl hd_200 h
      · replace h := h.2 e3
        refine Y_al0 i_200_62 ?_
        refine Y_il1 i_200_63 ?_
        exact Y_iv1 (L0 := [.ref 68, .int x1]) i_200_64 ow_200 lm_10_255 ((k_68 hG).trans ow_199.symm) rfl mx_199 rfl rfl hd_200 h
    · replace h := h.2 e2
      refine Y_al0 i_200_16 ?_
      refine Y_gI (v := (F 68 16)) i_200_17 ow_200 lf_10_169 (by decide) (k_68 hG) rfl ?_
      refine Y_iconst (v := 1) i_200_20 (by decide) ?_
      refine Y_ceq i_200_21 (fun e5 => ?_) (fun e5 => ?_)
      · replace h := h.1 e5
        refine Y_iconst (v := 1) i_200_33 (by decide) ?_
        refine Y_goto i_200_34 ?_
        refine Y_is2 i_200_38 rfl ?_
        refine Y_il2 i_200_39 ?_
        refine Y_zT i_200_40 (by decide) ?_
        refine Y_il1 i_200_51 ?_
        refine Y_bipush (v := 6) i_200_52 (by decide) ?_
        refine Y_cne i_200_54 (fun e6 => ?_) (fun e6 => ?_)
        · replace h := h.1 e6
          refine Y_al0 i_200_57 ?_
          refine Y_iconst (v := 2) i_200_58 (by decide) ?_
          refine Y_iv1 (L0 := [.ref 68, .int 2]) i_200_59 ow_200 lm_10_216 ((k_68 hG).trans ow_188.symm) rfl mx_188 rfl rfl hd_200 ?_
          refine Y_al0 i_188_0 ?_
          refine Y_gI (v := (F 68 20)) i_188_1 ow_188 lf_10_195 (by decide) (k_68 hG) rfl ?_
          refine Y_zeq i_188_4 (fun e7 => ?_) (fun e7 => ?_)
          · replace h := h.1 e7
            refine Y_al0 i_188_8 ?_
            refine Y_il1 i_188_9 ?_
            refine Y_pI i_188_10 ow_188 lf_10_195 (k_68 hG) ?_
            refine Y_al0 i_188_13 ?_
            refine Y_al0 i_188_14 ?_
            refine Y_gI (v := (F 68 18)) i_188_15 ow_188 lf_10_166 (by decide) (k_68 hG) (by simp [wF, wJ, va_up, cpR, bF, bA]) ?_
            refine Y_pI i_188_18 ow_188 lf_10_198 (k_68 hG) ?_
            refine Y_vret i_188_21 rt_188 (KKv ?_)
            refine Y_al0 i_200_62 ?_
            refine Y_il1 i_200_63 ?_
            exact Y_iv1 (L0 := [.ref 68, .int x1]) i_200_64 ow_200 lm_10_255 ((k_68 hG).trans ow_199.symm) rfl mx_199 rfl rfl hd_200 h
          · replace h := h.2 e7
            refine Y_vret i_188_7 rt_188 (KKv ?_)
            refine Y_al0 i_200_62 ?_
            refine Y_il1 i_200_63 ?_
            exact Y_iv1 (L0 := [.ref 68, .int x1]) i_200_64 ow_200 lm_10_255 ((k_68 hG).trans ow_199.symm) rfl mx_199 rfl rfl hd_200 h
        · replace h := h.2 e6
          refine Y_al0 i_200_62 ?_
          refine Y_il1 i_200_63 ?_
          exact Y_iv1 (L0 := [.ref 68, .int x1]) i_200_64 ow_200 lm_10_255 ((k_68 hG).trans ow_199.symm) rfl mx_199 rfl rfl hd_200 h
      · replace h := h.2 e5
        refine Y_al0 i_200_24 ?_
        refine Y_bipush (v := 40) i_200_25 (by decide) ?_
        have o8 := h.1
        replace h := h.2
        refine Y_iv1 (L0 := [.ref 68, .int 40]) i_200_27 ow_200 lm_10_213 ((k_68 hG).trans ow_191.symm) rfl mx_191 rfl rfl hd_200 ?_
        refine c_191 hG o8 (KKi ?_)
        refine Y_beq i_200_30 (fun e9 => ?_) (fun e9 => ?_)
        · replace h := h.1 e9
          refine Y_iconst (v := 1) i_200_33 (by decide) ?_
          refine Y_goto i_200_34 ?_
          refine Y_is2 i_200_38 rfl ?_
          refine Y_il2 i_200_39 ?_
          refine Y_zT i_200_40 (by decide) ?_
          refine Y_il1 i_200_51 ?_
          refine Y_bipush (v := 6) i_200_52 (by decide) ?_
          refine Y_cne i_200_54 (fun e10 => ?_) (fun e10 => ?_)
          · replace h := h.1 e10
            refine Y_al0 i_200_57 ?_
            refine Y_iconst (v := 2) i_200_58 (by decide) ?_
            refine Y_iv1 (L0 := [.ref 68, .int 2]) i_200_59 ow_200 lm_10_216 ((k_68 hG).trans ow_188.symm) rfl mx_188 rfl rfl hd_200 ?_
            refine Y_al0 i_188_0 ?_
            refine Y_gI (v := (F 68 20)) i_188_1 ow_188 lf_10_195 (by decide) (k_68 hG) rfl ?_
            refine Y_zeq i_188_4 (fun e11 => ?_) (fun e11 => ?_)
            · replace h := h.1 e11
              refine Y_al0 i_188_8 ?_
              refine Y_il1 i_188_9 ?_
              refine Y_pI i_188_10 ow_188 lf_10_195 (k_68 hG) ?_
              refine Y_al0 i_188_13 ?_
              refine Y_al0 i_188_14 ?_
              refine Y_gI (v := (F 68 18)) i_188_15 ow_188 lf_10_166 (by decide) (k_68 hG) (by simp [wF, wJ, va_up, cpR, bF, bA]) ?_
              refine Y_pI i_188_18 ow_188 lf_10_198 (k_68 hG) ?_
              refine Y_vret i_188_21 rt_188 (KKv ?_)
              refine Y_al0 i_200_62 ?_
              refine Y_il1 i_200_63 ?_
              exact Y_iv1 (L0 := [.ref 68, .int x1]) i_200_64 ow_200 lm_10_255 ((k_68 hG).trans ow_199.symm) rfl mx_199 rfl rfl hd_200 h
            · replace h := h.2 e11
              refine Y_vret i_188_7 rt_188 (KKv ?_)
              refine Y_al0 i_200_62 ?_
              refine Y_il1 i_200_63 ?_
              exact Y_iv1 (L0 := [.ref 68, .int x1]) i_200_64 ow_200 lm_10_255 ((k_68 hG).trans ow_199.symm) rfl mx_199 rfl rfl hd_200 h
          · replace h := h.2 e10
            refine Y_al0 i_200_62 ?_
            refine Y_il1 i_200_63 ?_
            exact Y_iv1 (L0 := [.ref 68, .int x1]) i_200_64 ow_200 lm_10_255 ((k_68 hG).trans ow_199.symm) rfl mx_199 rfl rfl hd_200 h
        · replace h := h.2 e9
          refine Y_iconst (v := 0) i_200_37 (by decide) ?_
          refine Y_is2 i_200_38 rfl ?_
          refine Y_il2 i_200_39 ?_
          refine Y_zF i_200_40 (by decide) ?_
          refine Y_al0 i_200_43 ?_
          refine Y_iconst (v := 1) i_200_44 (by decide) ?_
          refine Y_iv1 (L0 := [.ref 68, .int 1]) i_200_45 ow_200 lm_10_216 ((k_68 hG).trans ow_188.symm) rfl mx_188 rfl rfl hd_200 ?_
          refine Y_al0 i_188_0 ?_
          refine Y_gI (v := (F 68 20)) i_188_1 ow_188 lf_10_195 (by decide) (k_68 hG) rfl ?_
          refine Y_zeq i_188_4 (fun e12 => ?_) (fun e12 => ?_)
          · replace h := h.1 e12
            refine Y_al0 i_188_8 ?_
            refine Y_il1 i_188_9 ?_
            refine Y_pI i_188_10 ow_188 lf_10_195 (k_68 hG) ?_
            refine Y_al0 i_188_13 ?_
            refine Y_al0 i_188_14 ?_
            refine Y_gI (v := (F 68 18)) i_188_15 ow_188 lf_10_166 (by decide) (k_68 hG) (by simp [wF, wJ, va_up, cpR, bF, bA]) ?_
            refine Y_pI i_188_18 ow_188 lf_10_198 (k_68 hG) ?_
            refine Y_vret i_188_21 rt_188 (KKv ?_)
            refine Y_goto i_200_48 ?_
            refine Y_al0 i_200_62 ?_
            refine Y_il1 i_200_63 ?_
            exact Y_iv1 (L0 := [.ref 68, .int x1]) i_200_64 ow_200 lm_10_255 ((k_68 hG).trans ow_199.symm) rfl mx_199 rfl rfl hd_200 h
          · replace h := h.2 e12
            refine Y_vret i_188_7 rt_188 (KKv ?_)
            refine Y_goto i_200_48 ?_
            refine Y_al0 i_200_62 ?_
            refine Y_il1 i_200_63 ?_
            exact Y_iv1 (L0 := [.ref 68, .int x1]) i_200_64 ow_200 lm_10_255 ((k_68 hG).trans ow_199.symm) rfl mx_199 rfl rfl hd_200 h
  · replace h := h.2 e1
    exact Y_vret i_200_7 rt_200 h
theorem k_200_67 {d : Nat} {F A : Nat → Nat → Int32} {J : Nat → Nat → Int64} {G : pG} {Q : pR → pM → Prop} {SL p q : Nat} {x1 x2 : Int32} (hG : Geo G SL p q) (h : X (d + 1) 189 0 [.ref 68, .ref 1017, .null, .null] [] (F, A, J, G) (KK (d + 2) 200 74 [.ref 68, .int x1, .int x2] [] Q)) : KK (d + 2) 200 67 [.ref 68, .int x1, .int x2] [] Q (.inl none) (F, A, J, G) := by
  refine KKv ?_
  refine Y_al0 i_200_67 ?_
  refine Y_ldcSw (r := 1017) i_200_68 ow_200 li_10_258 ls_10_258 rfl ?_
  exact Y_iv1 (L0 := [.ref 68, .ref 1017, .null, .null]) i_200_71 ow_200 lm_10_209 ((k_68 hG).trans ow_189.symm) rfl mx_189 rfl rfl hd_200 h
theorem t_200_67 {d : Nat} {F A : Nat → Nat → Int32} {J : Nat → Nat → Int64} {G : pG} {Q : pR → pM → Prop} {SL p q : Nat} {x1 x2 : Int32} (hG : Geo G SL p q) (h : X (d + 1) 189 0 [.ref 68, .ref 1017, .null, .null] [] (F, A, J, G) (KK (d + 2) 200 74 [.ref 68, .int x1, .int x2] [] Q)) : X (d + 2) 200 67 [.ref 68, .int x1, .int x2] [] (F, A, J, G) Q := by
  refine Y_al0 i_200_67 ?_
  refine Y_ldcSw (r := 1017) i_200_68 ow_200 li_10_258 ls_10_258 rfl ?_
  exact Y_iv1 (L0 := [.ref 68, .ref 1017, .null, .null]) i_200_71 ow_200 lm_10_209 ((k_68 hG).trans ow_189.symm) rfl mx_189 rfl rfl hd_200 h
theorem k_200_74 {d : Nat} {F A : Nat → Nat → Int32} {J : Nat → Nat → Int64} {G : pG} {Q : pR → pM → Prop} {SL p q : Nat} {x1 x2 r : Int32} (hG : Geo G SL p q) (h : ((r = 0 → Q (.inl none) (F, A, J, G)) ∧ (¬ r = 0 → X (d + 1) 187 0 [.ref 68, .null] [] (F, A, J, G) (KK (d + 2) 200 81 [.ref 68, .int x1, .int x2] [] Q)))) : KK (d + 2) 200 74 [.ref 68, .int x1, .int x2] [] Q (.inl (some (.int r))) (F, A, J, G) := by
  refine KKi ?_
  refine Y_zeq i_200_74 (fun e1 => ?_) (fun e1 => ?_)
  · replace h := h.1 e1
    exact Y_vret i_200_95 rt_200 h
  · replace h := h.2 e1
    refine Y_al0 i_200_77 ?_
    exact Y_iv0 (L0 := [.ref 68, .null]) i_200_78 ow_200 lm_10_220 ((k_68 hG).trans ow_187.symm) rfl mx_187 rfl rfl hd_200 h
theorem k_200_81 {d : Nat} {F A : Nat → Nat → Int32} {J : Nat → Nat → Int64} {G : pG} {Q : pR → pM → Prop} {SL p q : Nat} {x1 x2 : Int32} (hG : Geo G SL p q) (h : X (d + 1) 199 0 [.ref 68, .int x1] [] (F, A, J, G) (KK (d + 2) 200 86 [.ref 68, .int x1, .int x2] [] Q)) : KK (d + 2) 200 81 [.ref 68, .int x1, .int x2] [] Q (.inl none) (F, A, J, G) := by
  refine KKv ?_
  refine Y_al0 i_200_81 ?_
  refine Y_il1 i_200_82 ?_
  exact Y_iv1 (L0 := [.ref 68, .int x1]) i_200_83 ow_200 lm_10_255 ((k_68 hG).trans ow_199.symm) rfl mx_199 rfl rfl hd_200 h
theorem k_200_86 {d : Nat} {F A : Nat → Nat → Int32} {J : Nat → Nat → Int64} {G : pG} {Q : pR → pM → Prop} {SL p q : Nat} {x1 x2 : Int32} (hG : Geo G SL p q) (h : (((F 68 20) = 0 → inB ((600 : Int32) + (A 72 7)) 1200 = true ∧ (X (d + 2) 200 67 [.ref 68, .int x1, .int x2] [] (F, (wF (wF A 78 ((600 : Int32) + (A 72 7)).toNatClampNeg (-27)) 72 7 ((A 72 7) + 1)), J, G) Q)) ∧ (¬ (F 68 20) = 0 → X (d + 2) 200 67 [.ref 68, .int x1, .int x2] [] (F, A, J, G) Q))) : KK (d + 2) 200 86 [.ref 68, .int x1, .int x2] [] Q (.inl none) (F, A, J, G) := by
  refine KKv ?_
  refine Y_al0 i_200_86 ?_
  refine Y_bipush (v := (-27)) i_200_87 (by decide) ?_
  refine Y_iv1 (L0 := [.ref 68, .int (-27)]) i_200_89 ow_200 lm_10_226 ((k_68 hG).trans ow_194.symm) rfl mx_194 rfl rfl hd_200 ?_
  refine Y_al0 i_194_0 ?_
  refine Y_gI (v := (F 68 20)) i_194_1 ow_194 lf_10_195 (by decide) (k_68 hG) rfl ?_
  refine Y_zeq i_194_4 (fun e1 => ?_) (fun e1 => ?_)
  · replace h := h.1 e1
    refine Y_al0 i_194_8 ?_
    refine Y_gR i_194_9 ow_194 lf_10_57 (k_68 hG) (r_68_10 hG) ?_
    refine Y_sipush (v := 600) i_194_12 (by decide) ?_
    refine Y_al0 i_194_15 ?_
    refine Y_gR i_194_16 ow_194 lf_10_42 (k_68 hG) (r_68_4 hG) ?_
    refine Y_bipush (v := 7) i_194_19 (by decide) ?_
    refine Y_iaload (k := 7) (v := (A 72 7)) i_194_21 (k_72 hG) (l_72 hG) (by decide) (by decide) rfl ?_
    refine Y_iadd i_194_22 ?_
    refine Y_il1 i_194_23 ?_
    have o2 := h.1
    replace h := h.2
    refine Y_iast i_194_24 (k_78 hG) (l_78 hG) o2 rfl ?_
    refine Y_al0 i_194_25 ?_
    refine Y_gR i_194_26 ow_194 lf_10_42 (k_68 hG) (r_68_4 hG) ?_
    refine Y_bipush (v := 7) i_194_29 (by decide) ?_
    refine Y_dup2 i_194_31 rfl rfl ?_
    refine Y_iaload (k := 7) (v := (A 72 7)) i_194_32 (k_72 hG) (l_72 hG) (by decide) (by decide) (by simp [wF, wJ, va_up, cpR, bF, bA]) ?_
    refine Y_iconst (v := 1) i_194_33 (by decide) ?_
    refine Y_iadd i_194_34 ?_
    refine Y_iast (k := 7) i_194_35 (k_72 hG) (l_72 hG) (by decide) (by decide) ?_
    refine Y_vret i_194_36 rt_194 (KKv ?_)
    refine Y_goto i_200_92 ?_
    exact h
  · replace h := h.2 e1
    refine Y_vret i_194_7 rt_194 (KKv ?_)
    refine Y_goto i_200_92 ?_
    exact h
/- 201 Model.readTable(I)V -/
theorem t_201_0 {d : Nat} {F A : Nat → Nat → Int32} {J : Nat → Nat → Int64} {G : pG} {Q : pR → pM → Prop} {SL p q : Nat} {x1 : Int32} (hG : Geo G SL p q) (h : (((A 72 4) = 10 → (((F 68 20) = 0 → Q (.inl none) ((wF (wF F 68 20 2) 68 21 (F 68 18)), A, J, G)) ∧ (¬ (F 68 20) = 0 → (((F 68 20) = 0 → X (d + 2) 187 0 [.ref 68, .null] [] (F, A, J, G) (KK (d + 3) 201 28 [.ref 68, .int x1, .null, .null, .null] [] Q)) ∧ (¬ (F 68 20) = 0 → Q (.inl none) (F, A, J, G)))))) ∧ (¬ (A 72 4) = 10 → (((F 68 20) = 0 → X (d + 2) 187 0 [.ref 68, .null] [] (F, A, J, G) (KK (d + 3) 201 28 [.ref 68, .int x1, .null, .null, .null] [] Q)) ∧ (¬ (F 68 20) = 0 → Q (.inl none) (F, A, J, G)))))) : X (d + 3) 201 0 [.ref 68, .int x1, .null, .null, .null] [] (F, A, J, G) Q := by
  refine Y_al0 i_201_0 ?_
  refine Y_gR i_201_1 ow_201 lf_10_42 (k_68 hG) (r_68_4 hG) ?_
  refine Y_iconst (v := 4) i_201_4 (by decide) ?_
  refine Y_iaload (k := 4) (v := (A 72 4)) i_201_5 (k_72 hG) (l_72 hG) (by decide) (by decide) rfl ?_
  refine Y_bipush (v := 10) i_201_6 (by decide) ?_
  refine Y_cne i_201_8 (fun e1 => ?_) (fun e1 => ?_)
  · replace h := h.1 e1
    refine Y_al0 i_201_11 ?_
    refine Y_iconst (v := 2) i_201_12 (by decide) ?_
    refine Y_iv1 (L0 := [.ref 68, .int 2]) i_201_13 ow_201 lm_10_216 ((k_68 hG).trans ow_188.symm) rfl mx_188 rfl rfl hd_201 ?_
    refine Y_al0 i_188_0 ?_
    refine Y_gI (v := (F 68 20)) i_188_1 ow_188 lf_10_195 (by decide) (k_68 hG) rfl ?_
    refine Y_zeq i_188_4 (fun e2 => ?_) (fun e2 => ?_)
    · replace h := h.1 e2
      refine Y_al0 i_188_8 ?_
      refine Y_il1 i_188_9 ?_
      refine Y_pI i_188_10 ow_188 lf_10_195 (k_68 hG) ?_
      refine Y_al0 i_188_13 ?_
      refine Y_al0 i_188_14 ?_
      refine Y_gI (v := (F 68 18)) i_188_15 ow_188 lf_10_166 (by decide) (k_68 hG) (by simp [wF, wJ, va_up, cpR, bF, bA]) ?_
      refine Y_pI i_188_18 ow_188 lf_10_198 (k_68 hG) ?_
      refine Y_vret i_188_21 rt_188 (KKv ?_)
      refine Y_al0 i_201_16 ?_
      refine Y_gI (v := 2) i_201_17 ow_201 lf_10_195 (by decide) (k_68 hG) (by simp [wF, wJ, va_up, cpR, bF, bA]) ?_
      refine Y_zF i_201_20 (by decide) ?_
      exact Y_vret i_201_23 rt_201 h
    · replace h := h.2 e2
      refine Y_vret i_188_7 rt_188 (KKv ?_)
      refine Y_al0 i_201_16 ?_
      refine Y_gI (v := (F 68 20)) i_201_17 ow_201 lf_10_195 (by decide) (k_68 hG) rfl ?_
      refine Y_zeq i_201_20 (fun e3 => ?_) (fun e3 => ?_)
      · replace h := h.1 e3
        refine Y_al0 i_201_24 ?_
        exact Y_iv0 (L0 := [.ref 68, .null]) i_201_25 ow_201 lm_10_220 ((k_68 hG).trans ow_187.symm) rfl mx_187 rfl rfl hd_201 h
      · replace h := h.2 e3
        exact Y_vret i_201_23 rt_201 h
  · replace h := h.2 e1
    refine Y_al0 i_201_16 ?_
    refine Y_gI (v := (F 68 20)) i_201_17 ow_201 lf_10_195 (by decide) (k_68 hG) rfl ?_
    refine Y_zeq i_201_20 (fun e4 => ?_) (fun e4 => ?_)
    · replace h := h.1 e4
      refine Y_al0 i_201_24 ?_
      exact Y_iv0 (L0 := [.ref 68, .null]) i_201_25 ow_201 lm_10_220 ((k_68 hG).trans ow_187.symm) rfl mx_187 rfl rfl hd_201 h
    · replace h := h.2 e4
      exact Y_vret i_201_23 rt_201 h
theorem k_201_28 {d : Nat} {F A : Nat → Nat → Int32} {J : Nat → Nat → Int64} {G : pG} {Q : pR → pM → Prop} {SL p q : Nat} {x1 : Int32} (hG : Geo G SL p q) (h : inB ((10 : Int32) + (A 72 4)) 20 = true ∧ (X (d + 2) 193 0 [.ref 68, .int 1, .int 99, .null] [] (F, (wF A 73 ((10 : Int32) + (A 72 4)).toNatClampNeg x1), J, G) (KK (d + 3) 201 57 [.ref 68, .int x1, .int ((10 : Int32) + (A 72 4)), .null, .null] [.int ((10 : Int32) + (A 72 4)), .ref 74] Q))) : KK (d + 3) 201 28 [.ref 68, .int x1, .null, .null, .null] [] Q (.inl none) (F, A, J, G) := by
  refine KKv ?_
  refine Y_bipush (v := 10) i_201_28 (by decide) ?_
  refine Y_al0 i_201_30 ?_
  refine Y_gR i_201_31 ow_201 lf_10_42 (k_68 hG) (r_68_4 hG) ?_
  refine Y_iconst (v := 4) i_201_34 (by decide) ?_
  refine Y_iaload (k := 4) (v := (A 72 4)) i_201_35 (k_72 hG) (l_72 hG) (by decide) (by decide) rfl ?_
  refine Y_iadd i_201_36 ?_
  refine Y_is2 i_201_37 rfl ?_
  refine Y_al0 i_201_38 ?_
  refine Y_gR i_201_39 ow_201 lf_10_45 (k_68 hG) (r_68_5 hG) ?_
  refine Y_il2 i_201_42 ?_
  refine Y_il1 i_201_43 ?_
  have o1 := h.1
  replace h := h.2
  refine Y_iast i_201_44 (k_73 hG) (l_73 hG) o1 rfl ?_
  refine Y_al0 i_201_45 ?_
  refine Y_gR i_201_46 ow_201 lf_10_47 (k_68 hG) (r_68_6 hG) ?_
  refine Y_il2 i_201_49 ?_
  refine Y_al0 i_201_50 ?_
  refine Y_iconst (v := 1) i_201_51 (by decide) ?_
  refine Y_bipush (v := 99) i_201_52 (by decide) ?_
  exact Y_iv2 (L0 := [.ref 68, .int 1, .int 99, .null]) i_201_54 ow_201 lm_10_223 ((k_68 hG).trans ow_193.symm) rfl mx_193 rfl rfl hd_201 h
theorem k_201_57 {d : Nat} {F A : Nat → Nat → Int32} {J : Nat → Nat → Int64} {G : pG} {Q : pR → pM → Prop} {SL p q : Nat} {x1 x2 r s0 : Int32} (hG : Geo G SL p q) (h : inB s0 20 = true ∧ (X (d + 2) 193 0 [.ref 68, .int 0, .int 999, .null] [] (F, (wF A 74 s0.toNatClampNeg r), J, G) (KK (d + 3) 201 71 [.ref 68, .int x1, .int x2, .null, .null] [.int x2, .ref 75] Q))) : KK (d + 3) 201 57 [.ref 68, .int x1, .int x2, .null, .null] [.int s0, .ref 74] Q (.inl (some (.int r))) (F, A, J, G) := by
  refine KKi ?_
  have o1 := h.1
  replace h := h.2
  refine Y_iast i_201_57 (k_74 hG) (l_74 hG) o1 rfl ?_
  refine Y_al0 i_201_58 ?_
  refine Y_gR i_201_59 ow_201 lf_10_49 (k_68 hG) (r_68_7 hG) ?_
  refine Y_il2 i_201_62 ?_
  refine Y_al0 i_201_63 ?_
  refine Y_iconst (v := 0) i_201_64 (by decide) ?_
  refine Y_sipush (v := 999) i_201_65 (by decide) ?_
  exact Y_iv2 (L0 := [.ref 68, .int 0, .int 999, .null]) i_201_68 ow_201 lm_10_223 ((k_68 hG).trans ow_193.symm) rfl mx_193 rfl rfl hd_201 h
theorem k_201_71 {d : Nat} {F A : Nat → Nat → Int32} {J : Nat → Nat → Int64} {G : pG} {Q : pR → pM → Prop} {SL p q : Nat} {x1 x2 r s0 : Int32} (hG : Geo G SL p q) (h : inB s0 20 = true ∧ (F 68 20 = 0 → F 68 16 = 3 → inB (F 68 18) 600 = true) ∧ (((mkB (F 68 20) (F 68 16) (A 80 (F 68 18).toNatClampNeg) 45) = true → X (d + 2) 187 0 [.ref 68, .null] [] (F, (wF A 75 s0.toNatClampNeg r), J, G) (KK (d + 3) 201 87 [.ref 68, .int x1, .int x2, .int (bI (mkB (F 68 20) (F 68 16) (A 80 (F 68 18).toNatClampNeg) 45)), .null] [] Q)) ∧ ((mkB (F 68 20) (F 68 16) (A 80 (F 68 18).toNatClampNeg) 45) = false → X (d + 2) 193 0 [.ref 68, .int 0, .int 9, .null] [] (F, (wF A 75 s0.toNatClampNeg r), J, G) (KK (d + 3) 201 94 [.ref 68, .int x1, .int x2, .int (bI (mkB (F 68 20) (F 68 16) (A 80 (F 68 18).toNatClampNeg) 45)), .null] [] Q)))) : KK (d + 3) 201 71 [.ref 68, .int x1, .int x2, .null, .null] [.int s0, .ref 75] Q (.inl (some (.int r))) (F, A, J, G) := by
  refine KKi ?_
  have o1 := h.1
  replace h := h.2
  refine Y_iast i_201_71 (k_75 hG) (l_75 hG) o1 rfl ?_
  refine Y_al0 i_201_72 ?_
  refine Y_bipush (v := 45) i_201_73 (by decide) ?_
  have o2 := h.1
  replace h := h.2
  refine Y_iv1 (L0 := [.ref 68, .int 45]) i_201_75 ow_201 lm_10_213 ((k_68 hG).trans ow_191.symm) rfl mx_191 rfl rfl hd_201 ?_
  refine c_191 hG o2 (KKi' (v' := (bI (mkB (F 68 20) (F 68 16) (A 80 (F 68 18).toNatClampNeg) 45))) (by simp [wF, wJ, va_up, cpR, bF, bA]) ?_)
  refine Y_is3 i_201_78 rfl ?_
  refine Y_il3 i_201_79 ?_
  refine Y_beq i_201_80 (fun e3 => ?_) (fun e3 => ?_)
  · replace h := h.1 e3
    refine Y_al0 i_201_83 ?_
    exact Y_iv0 (L0 := [.ref 68, .null]) i_201_84 ow_201 lm_10_220 ((k_68 hG).trans ow_187.symm) rfl mx_187 rfl rfl hd_201 h
  · replace h := h.2 e3
    refine Y_al0 i_201_87 ?_
    refine Y_iconst (v := 0) i_201_88 (by decide) ?_
    refine Y_bipush (v := 9) i_201_89 (by decide) ?_
    exact Y_iv2 (L0 := [.ref 68, .int 0, .int 9, .null]) i_201_91 ow_201 lm_10_223 ((k_68 hG).trans ow_193.symm) rfl mx_193 rfl rfl hd_201 h
theorem k_201_87 {d : Nat} {F A : Nat → Nat → Int32} {J : Nat → Nat → Int64} {G : pG} {Q : pR → pM → Prop} {SL p q : Nat} {x1 x2 x3 : Int32} (hG : Geo G SL p q) (h : X (d + 2) 193 0 [.ref 68, .int 0, .int 9, .null] [] (F, A, J, G) (KK (d + 3) 201 94 [.ref 68, .int x1, .int x2, .int x3, .null] [] Q)) : KK (d + 3) 201 87 [.ref 68, .int x1, .int x2, .int x3, .null] [] Q (.inl none) (F, A, J, G) := by
  refine KKv ?_
  refine Y_al0 i_201_87 ?_
  refine Y_iconst (v := 0) i_201_88 (by decide) ?_
  refine Y_bipush (v := 9) i_201_89 (by decide) ?_
  exact Y_iv2 (L0 := [.ref 68, .int 0, .int 9, .null]) i_201_91 ow_201 lm_10_223 ((k_68 hG).trans ow_193.symm) rfl mx_193 rfl rfl hd_201 h
theorem k_201_94 {d : Nat} {F A : Nat → Nat → Int32} {J : Nat → Nat → Int64} {G : pG} {Q : pR → pM → Prop} {SL p q : Nat} {x1 x2 x3 r : Int32} (hG : Geo G SL p q) (h : ((x3 = 0 → inB x2 20 = true ∧ (X (d + 2) 193 0 [.ref 68, .int 0, .int 99, .null] [] (F, (wF A 76 x2.toNatClampNeg r), J, G) (KK (d + 3) 201 126 [.ref 68, .int x1, .int x2, .int x3, .int r] [.int x2, .ref 77] Q))) ∧ (¬ x3 = 0 → inB x2 20 = true ∧ (X (d + 2) 193 0 [.ref 68, .int 0, .int 99, .null] [] (F, (wF A 76 x2.toNatClampNeg (-r)), J, G) (KK (d + 3) 201 126 [.ref 68, .int x1, .int x2, .int x3, .int r] [.int x2, .ref 77] Q))))) : KK (d + 3) 201 94 [.ref 68, .int x1, .int x2, .int x3, .null] [] Q (.inl (some (.int r))) (F, A, J, G) := by
  refine KKi ?_
  refine Y_is4 i_201_94 rfl ?_
  refine Y_al0 i_201_96 ?_
  refine Y_gR i_201_97 ow_201 lf_10_52 (k_68 hG) (r_68_8 hG) ?_
  refine Y_il2 i_201_100 ?_
  refine Y_il3 i_201_101 ?_
  refine Y_zeq i_201_102 (fun e1 => ?_) (fun e1 => ?_)
  · replace h := h.1 e1
    refine Y_il4 i_201_111 ?_
    have o2 := h.1
    replace h := h.2
    refine Y_iast i_201_113 (k_76 hG) (l_76 hG) o2 rfl ?_
    refine Y_al0 i_201_114 ?_
    refine Y_gR i_201_115 ow_201 lf_10_55 (k_68 hG) (r_68_9 hG) ?_
    refine Y_il2 i_201_118 ?_
    refine Y_al0 i_201_119 ?_
    refine Y_iconst (v := 0) i_201_120 (by decide) ?_
    refine Y_bipush (v := 99) i_201_121 (by decide) ?_
    exact Y_iv2 (L0 := [.ref 68, .int 0, .int 99, .null]) i_201_123 ow_201 lm_10_223 ((k_68 hG).trans ow_193.symm) rfl mx_193 rfl rfl hd_201 h
  · replace h := h.2 e1
    refine Y_il4 i_201_105 ?_
    refine Y_ineg i_201_107 ?_
    refine Y_goto i_201_108 ?_
    have o3 := h.1
    replace h := h.2
    refine Y_iast i_201_113 (k_76 hG) (l_76 hG) o3 rfl ?_
    refine Y_al0 i_201_114 ?_
    refine Y_gR i_201_115 ow_201 lf_10_55 (k_68 hG) (r_68_9 hG) ?_
    refine Y_il2 i_201_118 ?_
    refine Y_al0 i_201_119 ?_
    refine Y_iconst (v := 0) i_201_120 (by decide) ?_
    refine Y_bipush (v := 99) i_201_121 (by decide) ?_
    exact Y_iv2 (L0 := [.ref 68, .int 0, .int 99, .null]) i_201_123 ow_201 lm_10_223 ((k_68 hG).trans ow_193.symm) rfl mx_193 rfl rfl hd_201 h
theorem k_201_126 {d : Nat} {F A : Nat → Nat → Int32} {J : Nat → Nat → Int64} {G : pG} {Q : pR → pM → Prop} {SL p q : Nat} {x1 x2 x3 x4 r s0 : Int32} (hG : Geo G SL p q) (h : inB s0 20 = true ∧ (Q (.inl none) (F, (wF (wF A 77 s0.toNatClampNeg r) 72 4 ((A 72 4) + 1)), J, G))) : KK (d + 3) 201 126 [.ref 68, .int x1, .int x2, .int x3, .int x4] [.int s0, .ref 77] Q (.inl (some (.int r))) (F, A, J, G) := by
  refine KKi ?_
  have o1 := h.1
  replace h := h.2
  refine Y_iast i_201_126 (k_77 hG) (l_77 hG) o1 rfl ?_
  refine Y_al0 i_201_127 ?_
  refine Y_gR i_201_128 ow_201 lf_10_42 (k_68 hG) (r_68_4 hG) ?_
  refine Y_iconst (v := 4) i_201_131 (by decide) ?_
  refine Y_dup2 i_201_132 rfl rfl ?_
  refine Y_iaload (k := 4) (v := (A 72 4)) i_201_133 (k_72 hG) (l_72 hG) (by decide) (by decide) (by simp [wF, wJ, va_up, cpR, bF, bA]) ?_
  refine Y_iconst (v := 1) i_201_134 (by decide) ?_
  refine Y_iadd i_201_135 ?_
  refine Y_iast (k := 4) i_201_136 (k_72 hG) (l_72 hG) (by decide) (by decide) ?_
  exact Y_vret i_201_137 rt_201 h
/- 202 Model.readLine(I)I -/
theorem t_202_0 {d : Nat} {F A : Nat → Nat → Int32} {J : Nat → Nat → Int64} {G : pG} {Q : pR → pM → Prop} {SL p q : Nat} {x1 : Int32} (hG : Geo G SL p q) (h : X (d + 3) 189 0 [.ref 68, .ref 1006, .null, .null] [] (F, A, J, G) (KK (d + 4) 202 7 [.ref 68, .int x1, .null, .null] [] Q)) : X (d + 4) 202 0 [.ref 68, .int x1, .null, .null] [] (F, A, J, G) Q := by
  refine Y_al0 i_202_0 ?_
  refine Y_ldcSw (r := 1006) i_202_1 ow_202 li_10_260 ls_10_260 rfl ?_
  exact Y_iv1 (L0 := [.ref 68, .ref 1006, .null, .null]) i_202_4 ow_202 lm_10_209 ((k_68 hG).trans ow_189.symm) rfl mx_189 rfl rfl hd_202 h
theorem k_202_7 {d : Nat} {F A : Nat → Nat → Int32} {J : Nat → Nat → Int64} {G : pG} {Q : pR → pM → Prop} {SL p q : Nat} {x1 r : Int32} (hG : Geo G SL p q) (h : ((r = 0 → X (d + 3) 189 0 [.ref 68, .ref 1007, .null, .null] [] (F, A, J, G) (KK (d + 4) 202 21 [.ref 68, .int x1, .null, .null] [] Q)) ∧ (¬ r = 0 → X (d + 3) 190 0 [.ref 68, .ref 69, .null] [] (F, A, J, G) (KK (d + 4) 202 52 [.ref 68, .int x1, .int 1, .null] [] Q)))) : KK (d + 4) 202 7 [.ref 68, .int x1, .null, .null] [] Q (.inl (some (.int r))) (F, A, J, G) := by
  refine KKi ?_
  refine Y_zeq i_202_7 (fun e1 => ?_) (fun e1 => ?_)
  · replace h := h.1 e1
    refine Y_al0 i_202_14 ?_
    refine Y_ldcSw (r := 1007) i_202_15 ow_202 li_10_262 ls_10_262 rfl ?_
    exact Y_iv1 (L0 := [.ref 68, .ref 1007, .null, .null]) i_202_18 ow_202 lm_10_209 ((k_68 hG).trans ow_189.symm) rfl mx_189 rfl rfl hd_202 h
  · replace h := h.2 e1
    refine Y_iconst (v := 1) i_202_10 (by decide) ?_
    refine Y_goto i_202_11 ?_
    refine Y_is2 i_202_43 rfl ?_
    refine Y_al0 i_202_44 ?_
    refine Y_al0 i_202_45 ?_
    refine Y_gR i_202_46 ow_202 lf_10_19 (k_68 hG) (r_68_0 hG) ?_
    exact Y_iv1 (L0 := [.ref 68, .ref 69, .null]) i_202_49 ow_202 lm_10_229 ((k_68 hG).trans ow_190.symm) rfl mx_190 rfl rfl hd_202 h
theorem k_202_21 {d : Nat} {F A : Nat → Nat → Int32} {J : Nat → Nat → Int64} {G : pG} {Q : pR → pM → Prop} {SL p q : Nat} {x1 r : Int32} (hG : Geo G SL p q) (h : ((r = 0 → X (d + 3) 189 0 [.ref 68, .ref 1008, .null, .null] [] (F, A, J, G) (KK (d + 4) 202 35 [.ref 68, .int x1, .null, .null] [] Q)) ∧ (¬ r = 0 → X (d + 3) 190 0 [.ref 68, .ref 69, .null] [] (F, A, J, G) (KK (d + 4) 202 52 [.ref 68, .int x1, .int 2, .null] [] Q)))) : KK (d + 4) 202 21 [.ref 68, .int x1, .null, .null] [] Q (.inl (some (.int r))) (F, A, J, G) := by
  refine KKi ?_
  refine Y_zeq i_202_21 (fun e1 => ?_) (fun e1 => ?_)
  · replace h := h.1 e1
    refine Y_al0 i_202_28 ?_
    refine Y_ldcSw (r := 1008) i_202_29 ow_202 li_10_264 ls_10_264 rfl ?_
    exact Y_iv1 (L0 := [.ref 68, .ref 1008, .null, .null]) i_202_32 ow_202 lm_10_209 ((k_68 hG).trans ow_189.symm) rfl mx_189 rfl rfl hd_202 h
  · replace h := h.2 e1
    refine Y_iconst (v := 2) i_202_24 (by decide) ?_
    refine Y_goto i_202_25 ?_
    refine Y_is2 i_202_43 rfl ?_
    refine Y_al0 i_202_44 ?_
    refine Y_al0 i_202_45 ?_
    refine Y_gR i_202_46 ow_202 lf_10_19 (k_68 hG) (r_68_0 hG) ?_
    exact Y_iv1 (L0 := [.ref 68, .ref 69, .null]) i_202_49 ow_202 lm_10_229 ((k_68 hG).trans ow_190.symm) rfl mx_190 rfl rfl hd_202 h
theorem k_202_35 {d : Nat} {F A : Nat → Nat → Int32} {J : Nat → Nat → Int64} {G : pG} {Q : pR → pM → Prop} {SL p q : Nat} {x1 r : Int32} (hG : Geo G SL p q) (h : ((r = 0 → X (d + 3) 190 0 [.ref 68, .ref 69, .null] [] (F, A, J, G) (KK (d + 4) 202 52 [.ref 68, .int x1, .int 0, .null] [] Q)) ∧ (¬ r = 0 → X (d + 3) 190 0 [.ref 68, .ref 69, .null] [] (F, A, J, G) (KK (d + 4) 202 52 [.ref 68, .int x1, .int 4, .null] [] Q)))) : KK (d + 4) 202 35 [.ref 68, .int x1, .null, .null] [] Q (.inl (some (.int r))) (F, A, J, G) := by
  refine KKi ?_
  refine Y_zeq i_202_35 (fun e1 => ?_) (fun e1 => ?_)
  · replace h := h.1 e1
    refine Y_iconst (v := 0) i_202_42 (by decide) ?_
    refine Y_is2 i_202_43 rfl ?_
    refine Y_al0 i_202_44 ?_
    refine Y_al0 i_202_45 ?_
    refine Y_gR i_202_46 ow_202 lf_10_19 (k_68 hG) (r_68_0 hG) ?_
    exact Y_iv1 (L0 := [.ref 68, .ref 69, .null]) i_202_49 ow_202 lm_10_229 ((k_68 hG).trans ow_190.symm) rfl mx_190 rfl rfl hd_202 h
  · replace h := h.2 e1
    refine Y_iconst (v := 4) i_202_38 (by decide) ?_
    refine Y_goto i_202_39 ?_
    refine Y_is2 i_202_43 rfl ?_
    refine Y_al0 i_202_44 ?_
    refine Y_al0 i_202_45 ?_
    refine Y_gR i_202_46 ow_202 lf_10_19 (k_68 hG) (r_68_0 hG) ?_
    exact Y_iv1 (L0 := [.ref 68, .ref 69, .null]) i_202_49 ow_202 lm_10_229 ((k_68 hG).trans ow_190.symm) rfl mx_190 rfl rfl hd_202 h
theorem k_202_52 {d : Nat} {F A : Nat → Nat → Int32} {J : Nat → Nat → Int64} {G : pG} {Q : pR → pM → Prop} {SL p q : Nat} {x1 x2 r : Int32} (hG : Geo G SL p q) (h : (((x2 &&& x1) = 0 → ((0 < x2 → (((F 68 20) = 0 → X (d + 3) 187 0 [.ref 68, .null] [] (F, A, J, G) (KK (d + 4) 202 79 [.ref 68, .int x1, .int x2, .int r] [] Q)) ∧ (¬ (F 68 20) = 0 → ((x2 = 1 → X (d + 3) 193 0 [.ref 68, .int 0, .int 40, .null] [] (F, A, J, G) (KK (d + 4) 202 96 [.ref 68, .int x1, .int x2, .int r] [.int 5, .ref 72] Q)) ∧ (¬ x2 = 1 → ((x2 = 2 → X (d + 3) 193 0 [.ref 68, .int 0, .int 999, .null] [] (F, A, J, G) (KK (d + 4) 202 119 [.ref 68, .int x1, .int x2, .int r] [.int 6, .ref 72] Q)) ∧ (¬ x2 = 2 → X (d + 3) 200 0 [.ref 68, .int 0, .null] [] (F, A, J, G) (KK (d + 4) 202 128 [.ref 68, .int x1, .int x2, .int r] [] Q)))))))) ∧ (¬ 0 < x2 → ((r = (-1) → (((F 68 20) = 0 → X (d + 3) 192 0 [.ref 68, .int 59] [] ((wF (wF F 68 20 1) 68 21 (F 68 18)), A, J, G) (KK (d + 4) 202 155 [.ref 68, .int x1, .int x2, .int r] [] Q)) ∧ (¬ (F 68 20) = 0 → X (d + 3) 192 0 [.ref 68, .int 59] [] (F, A, J, G) (KK (d + 4) 202 155 [.ref 68, .int x1, .int x2, .int r] [] Q)))) ∧ (¬ r = (-1) → X (d + 3) 201 0 [.ref 68, .int r, .null, .null, .null] [] (F, A, J, G) (KK (d + 4) 202 141 [.ref 68, .int x1, .int x2, .int r] [] Q)))))) ∧ (¬ (x2 &&& x1) = 0 → (((F 68 20) = 0 → ((0 < x2 → ((x2 = 1 → X (d + 3) 193 0 [.ref 68, .int 0, .int 40, .null] [] ((wF (wF F 68 20 4) 68 21 (F 68 18)), A, J, G) (KK (d + 4) 202 96 [.ref 68, .int x1, .int x2, .int r] [.int 5, .ref 72] Q)) ∧ (¬ x2 = 1 → ((x2 = 2 → X (d + 3) 193 0 [.ref 68, .int 0, .int 999, .null] [] ((wF (wF F 68 20 4) 68 21 (F 68 18)), A, J, G) (KK (d + 4) 202 119 [.ref 68, .int x1, .int x2, .int r] [.int 6, .ref 72] Q)) ∧ (¬ x2 = 2 → X (d + 3) 200 0 [.ref 68, .int 0, .null] [] ((wF (wF F 68 20 4) 68 21 (F 68 18)), A, J, G) (KK (d + 4) 202 128 [.ref 68, .int x1, .int x2, .int r] [] Q)))))) ∧ (¬ 0 < x2 → ((r = (-1) → X (d + 3) 192 0 [.ref 68, .int 59] [] ((wF (wF F 68 20 4) 68 21 (F 68 18)), A, J, G) (KK (d + 4) 202 155 [.ref 68, .int x1, .int x2, .int r] [] Q)) ∧ (¬ r = (-1) → X (d + 3) 201 0 [.ref 68, .int r, .null, .null, .null] [] ((wF (wF F 68 20 4) 68 21 (F 68 18)), A, J, G) (KK (d + 4) 202 141 [.ref 68, .int x1, .int x2, .int r] [] Q)))))) ∧ (¬ (F 68 20) = 0 → ((0 < x2 → (((F 68 20) = 0 → X (d + 3) 187 0 [.ref 68, .null] [] (F, A, J, G) (KK (d + 4) 202 79 [.ref 68, .int x1, .int x2, .int r] [] Q)) ∧ (¬ (F 68 20) = 0 → ((x2 = 1 → X (d + 3) 193 0 [.ref 68, .int 0, .int 40, .null] [] (F, A, J, G) (KK (d + 4) 202 96 [.ref 68, .int x1, .int x2, .int r] [.int 5, .ref 72] Q)) ∧ (¬ x2 = 1 → ((x2 = 2 → X (d + 3) 193 0 [.ref 68, .int 0, .int 999, .null] [] (F, A, J, G) (KK (d + 4) 202 119 [.ref 68, .int x1, .int x2, .int r] [.int 6, .ref 72] Q)) ∧ (¬ x2 = 2 → X (d + 3) 200 0 [.ref 68, .int 0, .null] [] (F, A, J, G) (KK (d + 4) 202 128 [.ref 68, .int x1, .int x2, .int r] [] Q)))))))) ∧ (¬ 0 < x2 → ((r = (-1) → (((F 68 20) = 0 → X (d + 3) 192 0 [.ref 68, .int 59] [] ((wF (wF F 68 20 1) 68 21 (F 68 18)), A, J, G) (KK (d + 4) 202 155 [.ref 68, .int x1, .int x2, .int r] [] Q)) ∧ (¬ (F 68 20) = 0 → X (d + 3) 192 0 [.ref 68, .int 59] [] (F, A, J, G) (KK (d + 4) 202 155 [.ref 68, .int x1, .int x2, .int r] [] Q)))) ∧ (¬ r = (-1) → X (d + 3) 201 0 [.ref 68, .int r, .null, .null, .null] [] (F, A, J, G) (KK (d + 4) 202 141 [.ref 68, .int x1, .int x2, .int r] [] Q)))))))))) : KK (d + 4) 202 52 [.ref 68, .int x1, .int x2, .null] [] Q (.inl (some (.int r))) (F, A, J, G) := by
  refine KKi ?_
  refine Y_is3 i_202_52 rfl ?_
  refine Y_il2 i_202_53 ?_
  refine Y_il1 i_202_54 ?_
  refine Y_iand i_202_55 ?_
  refine Y_zeq i_202_56 (fun e1 => ?_) (fun e1 => ?_)
  · replace h := h.1 e1
    refine Y_il2 i_202_64 ?_
    refine Y_zle i_202_65 (fun e2 => ?_) (fun e2 => ?_)
    · replace h := h.1 e2
      refine Y_al0 i_202_68 ?_
      refine Y_gI (v := (F 68 20)) i_202_69 ow_202 lf_10_195 (by decide) (k_68 hG) rfl ?_
      refine Y_zne i_202_72 (fun e3 => ?_) (fun e3 => ?_)
      · replace h := h.1 e3
        refine Y_al0 i_202_75 ?_
        exact Y_iv0 (L0 := [.ref 68, .null]) i_202_76 ow_202 lm_10_220 ((k_68 hG).trans ow_187.symm) rfl mx_187 rfl rfl hd_202 h
      · replace h := h.2 e3
        refine Y_il2 i_202_79 ?_
        refine Y_iconst (v := 1) i_202_80 (by decide) ?_
        refine Y_cne i_202_81 (fun e4 => ?_) (fun e4 => ?_)
        · replace h := h.1 e4
          refine Y_al0 i_202_84 ?_
          refine Y_gR i_202_85 ow_202 lf_10_42 (k_68 hG) (r_68_4 hG) ?_
          refine Y_iconst (v := 5) i_202_88 (by decide) ?_
          refine Y_al0 i_202_89 ?_
          refine Y_iconst (v := 0) i_202_90 (by decide) ?_
          refine Y_bipush (v := 40) i_202_91 (by decide) ?_
          exact Y_iv2 (L0 := [.ref 68, .int 0, .int 40, .null]) i_202_93 ow_202 lm_10_223 ((k_68 hG).trans ow_193.symm) rfl mx_193 rfl rfl hd_202 h
        · replace h := h.2 e4
          refine Y_il2 i_202_100 ?_
          refine Y_iconst (v := 2) i_202_101 (by decide) ?_
          refine Y_cne i_202_102 (fun e5 => ?_) (fun e5 => ?_)
          · replace h := h.1 e5
            refine Y_al0 i_202_105 ?_
            refine Y_gR i_202_106 ow_202 lf_10_42 (k_68 hG) (r_68_4 hG) ?_
            refine Y_bipush (v := 6) i_202_109 (by decide) ?_
            refine Y_al0 i_202_111 ?_
            refine Y_iconst (v := 0) i_202_112 (by decide) ?_
            refine Y_sipush (v := 999) i_202_113 (by decide) ?_
            exact Y_iv2 (L0 := [.ref 68, .int 0, .int 999, .null]) i_202_116 ow_202 lm_10_223 ((k_68 hG).trans ow_193.symm) rfl mx_193 rfl rfl hd_202 h
          · replace h := h.2 e5
            refine Y_al0 i_202_123 ?_
            refine Y_iconst (v := 0) i_202_124 (by decide) ?_
            exact Y_iv1 (L0 := [.ref 68, .int 0, .null]) i_202_125 ow_202 lm_10_236 ((k_68 hG).trans ow_200.symm) rfl mx_200 rfl rfl hd_202 h
    · replace h := h.2 e2
      refine Y_il3 i_202_131 ?_
      refine Y_iconst (v := (-1)) i_202_132 (by decide) ?_
      refine Y_ceq i_202_133 (fun e6 => ?_) (fun e6 => ?_)
      · replace h := h.1 e6
        refine Y_al0 i_202_144 ?_
        refine Y_iconst (v := 1) i_202_145 (by decide) ?_
        refine Y_iv1 (L0 := [.ref 68, .int 1]) i_202_146 ow_202 lm_10_216 ((k_68 hG).trans ow_188.symm) rfl mx_188 rfl rfl hd_202 ?_
        refine Y_al0 i_188_0 ?_
        refine Y_gI (v := (F 68 20)) i_188_1 ow_188 lf_10_195 (by decide) (k_68 hG) rfl ?_
        refine Y_zeq i_188_4 (fun e7 => ?_) (fun e7 => ?_)
        · replace h := h.1 e7
          refine Y_al0 i_188_8 ?_
          refine Y_il1 i_188_9 ?_
          refine Y_pI i_188_10 ow_188 lf_10_195 (k_68 hG) ?_
          refine Y_al0 i_188_13 ?_
          refine Y_al0 i_188_14 ?_
          refine Y_gI (v := (F 68 18)) i_188_15 ow_188 lf_10_166 (by decide) (k_68 hG) (by simp [wF, wJ, va_up, cpR, bF, bA]) ?_
          refine Y_pI i_188_18 ow_188 lf_10_198 (k_68 hG) ?_
          refine Y_vret i_188_21 rt_188 (KKv ?_)
          refine Y_al0 i_202_149 ?_
          refine Y_bipush (v := 59) i_202_150 (by decide) ?_
          exact Y_iv1 (L0 := [.ref 68, .int 59]) i_202_152 ow_202 lm_10_233 ((k_68 hG).trans ow_192.symm) rfl mx_192 rfl rfl hd_202 h
        · replace h := h.2 e7
          refine Y_vret i_188_7 rt_188 (KKv ?_)
          refine Y_al0 i_202_149 ?_
          refine Y_bipush (v := 59) i_202_150 (by decide) ?_
          exact Y_iv1 (L0 := [.ref 68, .int 59]) i_202_152 ow_202 lm_10_233 ((k_68 hG).trans ow_192.symm) rfl mx_192 rfl rfl hd_202 h
      · replace h := h.2 e6
        refine Y_al0 i_202_136 ?_
        refine Y_il3 i_202_137 ?_
        exact Y_iv1 (L0 := [.ref 68, .int r, .null, .null, .null]) i_202_138 ow_202 lm_10_266 ((k_68 hG).trans ow_201.symm) rfl mx_201 rfl rfl hd_202 h
  · replace h := h.2 e1
    refine Y_al0 i_202_59 ?_
    refine Y_iconst (v := 4) i_202_60 (by decide) ?_
    refine Y_iv1 (L0 := [.ref 68, .int 4]) i_202_61 ow_202 lm_10_216 ((k_68 hG).trans ow_188.symm) rfl mx_188 rfl rfl hd_202 ?_
    refine Y_al0 i_188_0 ?_
    refine Y_gI (v := (F 68 20)) i_188_1 ow_188 lf_10_195 (by decide) (k_68 hG) rfl ?_
    refine Y_zeq i_188_4 (fun e8 => ?_) (fun e8 => ?_)
    · replace h := h.1 e8
      refine Y_al0 i_188_8 ?_
      refine Y_il1 i_188_9 ?_
      refine Y_pI i_188_10 ow_188 lf_10_195 (k_68 hG) ?_
      refine Y_al0 i_188_13 ?_
      refine Y_al0 i_188_14 ?_
      refine Y_gI (v := (F 68 18)) i_188_15 ow_188 lf_10_166 (by decide) (k_68 hG) (by simp [wF, wJ, va_up, cpR, bF, bA]) ?_
      refine Y_pI i_188_18 ow_188 lf_10_198 (k_68 hG) ?_
      refine Y_vret i_188_21 rt_188 (KKv ?_)
      refine Y_il2 i_202_64 ?_
      refine Y_zle i_202_65 (fun e9 => ?_) (fun e9 => ?_)
      · replace h := h.1 e9
        refine Y_al0 i_202_68 ?_
        refine Y_gI (v := 4) i_202_69 ow_202 lf_10_195 (by decide) (k_68 hG) (by simp [wF, wJ, va_up, cpR, bF, bA]) ?_
        refine Y_zT i_202_72 (by decide) ?_
        refine Y_il2 i_202_79 ?_
        refine Y_iconst (v := 1) i_202_80 (by decide) ?_
        refine Y_cne i_202_81 (fun e10 => ?_) (fun e10 => ?_)
        · replace h := h.1 e10
          refine Y_al0 i_202_84 ?_
          refine Y_gR i_202_85 ow_202 lf_10_42 (k_68 hG) (r_68_4 hG) ?_
          refine Y_iconst (v := 5) i_202_88 (by decide) ?_
          refine Y_al0 i_202_89 ?_
          refine Y_iconst (v := 0) i_202_90 (by decide) ?_
          refine Y_bipush (v := 40) i_202_91 (by decide) ?_
          exact Y_iv2 (L0 := [.ref 68, .int 0, .int 40, .null]) i_202_93 ow_202 lm_10_223 ((k_68 hG).trans ow_193.symm) rfl mx_193 rfl rfl hd_202 h
        · replace h := h.2 e10
          refine Y_il2 i_202_100 ?_
          refine Y_iconst (v := 2) i_202_101 (by decide) ?_
          refine Y_cne i_202_102 (fun e11 => ?_) (fun e11 => ?_)
          · replace h := h.1 e11
            refine Y_al0 i_202_105 ?_
            refine Y_gR i_202_106 ow_202 lf_10_42 (k_68 hG) (r_68_4 hG) ?_
            refine Y_bipush (v := 6) i_202_109 (by decide) ?_
            refine Y_al0 i_202_111 ?_
            refine Y_iconst (v := 0) i_202_112 (by decide) ?_
            refine Y_sipush (v := 999) i_202_113 (by decide) ?_
            exact Y_iv2 (L0 := [.ref 68, .int 0, .int 999, .null]) i_202_116 ow_202 lm_10_223 ((k_68 hG).trans ow_193.symm) rfl mx_193 rfl rfl hd_202 h
          · replace h := h.2 e11
            refine Y_al0 i_202_123 ?_
            refine Y_iconst (v := 0) i_202_124 (by decide) ?_
            exact Y_iv1 (L0 := [.ref 68, .int 0, .null]) i_202_125 ow_202 lm_10_236 ((k_68 hG).trans ow_200.symm) rfl mx_200 rfl rfl hd_202 h
      · replace h := h.2 e9
        refine Y_il3 i_202_131 ?_
        refine Y_iconst (v := (-1)) i_202_132 (by decide) ?_
        refine Y_ceq i_202_133 (fun e12 => ?_) (fun e12 => ?_)
        · replace h := h.1 e12
          refine Y_al0 i_202_144 ?_
          refine Y_iconst (v := 1) i_202_145 (by decide) ?_
          refine Y_iv1 (L0 := [.ref 68, .int 1]) i_202_146 ow_202 lm_10_216 ((k_68 hG).trans ow_188.symm) rfl mx_188 rfl rfl hd_202 ?_
          refine Y_al0 i_188_0 ?_
          refine Y_gI (v := 4) i_188_1 ow_188 lf_10_195 (by decide) (k_68 hG) (by simp [wF, wJ, va_up, cpR, bF, bA]) ?_
          refine Y_zF i_188_4 (by decide) ?_
          refine Y_vret i_188_7 rt_188 (KKv ?_)
          refine Y_al0 i_202_149 ?_
          refine Y_bipush (v := 59) i_202_150 (by decide) ?_
          exact Y_iv1 (L0 := [.ref 68, .int 59]) i_202_152 ow_202 lm_10_233 ((k_68 hG).trans ow_192.symm) rfl mx_192 rfl rfl hd_202 h
        · replace h := h.2 e12
          refine Y_al0 i_202_136 ?_
          refine Y_il3 i_202_137 ?_
          exact Y_iv1 (L0 := [.ref 68, .int r, .null, .null, .null]) i_202_138 ow_202 lm_10_266 ((k_68 hG).trans ow_201.symm) rfl mx_201 rfl rfl hd_202 h
    · replace h := h.2 e8
      refine Y_vret i_188_7 rt_188 (KKv ?_)
      refine Y_il2 i_202_64 ?_
      refine Y_zle i_202_65 (fun e13 => ?_) (fun e13 => ?_)
      · replace h := h.1 e13
        refine Y_al0 i_202_68 ?_
        refine Y_gI (v := (F 68 20)) i_202_69 ow_202 lf_10_195 (by decide) (k_68 hG) rfl ?_
        refine Y_zne i_202_72 (fun e14 => ?_) (fun e14 => ?_)
        · replace h := h.1 e14
          refine Y_al0 i_202_75 ?_
          exact Y_iv0 (L0 := [.ref 68, .null]) i_202_76 ow_202 lm_10_220 ((k_68 hG).trans ow_187.symm) rfl mx_187 rfl rfl hd_202 h
        · replace h := h.2 e14
          refine Y_il2 i_202_79 ?_
          refine Y_iconst (v := 1) i_202_80 (by decide) ?_
          refine Y_cne i_202_81 (fun e15 => ?_) (fun e15 => ?_)
          · replace h := h.1 e15
            refine Y_al0 i_202_84 ?_
            refine Y_gR i_202_85 ow_202 lf_10_42 (k_68 hG) (r_68_4 hG) ?_
            refine Y_iconst (v := 5) i_202_88 (by decide) ?_
            refine Y_al0 i_202_89 ?_
            refine Y_iconst (v := 0) i_202_90 (by decide) ?_
            refine Y_bipush (v := 40) i_202_91 (by decide) ?_
            exact Y_iv2 (L0 := [.ref 68, .int 0, .int 40, .null]) i_202_93 ow_202 lm_10_223 ((k_68 hG).trans ow_193.symm) rfl mx_193 rfl rfl hd_202 h
          · replace h := h.2 e15
            refine Y_il2 i_202_100 ?_
            refine Y_iconst (v := 2) i_202_101 (by decide) ?_
            refine Y_cne i_202_102 (fun e16 => ?_) (fun e16 => ?_)
            · replace h := h.1 e16
              refine Y_al0 i_202_105 ?_
              refine Y_gR i_202_106 ow_202 lf_10_42 (k_68 hG) (r_68_4 hG) ?_
              refine Y_bipush (v := 6) i_202_109 (by decide) ?_
              refine Y_al0 i_202_111 ?_
              refine Y_iconst (v := 0) i_202_112 (by decide) ?_
              refine Y_sipush (v := 999) i_202_113 (by decide) ?_
              exact Y_iv2 (L0 := [.ref 68, .int 0, .int 999, .null]) i_202_116 ow_202 lm_10_223 ((k_68 hG).trans ow_193.symm) rfl mx_193 rfl rfl hd_202 h
            · replace h := h.2 e16
              refine Y_al0 i_202_123 ?_
              refine Y_iconst (v := 0) i_202_124 (by decide) ?_
              exact Y_iv1 (L0 := [.ref 68, .int 0, .null]) i_202_125 ow_202 lm_10_236 ((k_68 hG).trans ow_200.symm) rfl mx_200 rfl rfl hd_202 h
      · replace h := h.2 e13
        refine Y_il3 i_202_131 ?_
        refine Y_iconst (v := (-1)) i_202_132 (by decide) ?_
        refine Y_ceq i_202_133 (fun e17 => ?_) (fun e17 => ?_)
        · replace h := h.1 e17
          refine Y_al0 i_202_144 ?_
          refine Y_iconst (v := 1) i_202_145 (by decide) ?_
          refine Y_iv1 (L0 := [.ref 68, .int 1]) i_202_146 ow_202 lm_10_216 ((k_68 hG).trans ow_188.symm) rfl mx_188 rfl rfl hd_202 ?_
          refine Y_al0 i_188_0 ?_
          refine Y_gI (v := (F 68 20)) i_188_1 ow_188 lf_10_195 (by decide) (k_68 hG) rfl ?_
          refine Y_zeq i_188_4 (fun e18 => ?_) (fun e18 => ?_)
          · replace h := h.1 e18
            refine Y_al0 i_188_8 ?_
            refine Y_il1 i_188_9 ?_
            refine Y_pI i_188_10 ow_188 lf_10_195 (k_68 hG) ?_
            refine Y_al0 i_188_13 ?_
            refine Y_al0 i_188_14 ?_
            refine Y_gI (v := (F 68 18)) i_188_15 ow_188 lf_10_166 (by decide) (k_68 hG) (by simp [wF, wJ, va_up, cpR, bF, bA]) ?_
            refine Y_pI i_188_18 ow_188 lf_10_198 (k_68 hG) ?_
            refine Y_vret i_188_21 rt_188 (KKv ?_)
            refine Y_al0 i_202_149 ?_
            refine Y_bipush (v := 59) i_202_150 (by decide) ?_
            exact Y_iv1 (L0 := [.ref 68, .int 59]) i_202_152 ow_202 lm_10_233 ((k_68 hG).trans ow_192.symm) rfl mx_192 rfl rfl hd_202 h
          · replace h := h.2 e18
            refine Y_vret i_188_7 rt_188 (KKv ?_)
            refine Y_al0 i_202_149 ?_
            refine Y_bipush (v := 59) i_202_150 (by decide) ?_
            exact Y_iv1 (L0 := [.ref 68, .int 59]) i_202_152 ow_202 lm_10_233 ((k_68 hG).trans ow_192.symm) rfl mx_192 rfl rfl hd_202 h
        · replace h := h.2 e17
          refine Y_al0 i_202_136 ?_
          refine Y_il3 i_202_137 ?_
          exact Y_iv1 (L0 := [.ref 68, .int r, .null, .null, .null]) i_202_138 ow_202 lm_10_266 ((k_68 hG).trans ow_201.symm) rfl mx_201 rfl rfl hd_202 h
theorem k_202_79 {d : Nat} {F A : Nat → Nat → Int32} {J : Nat → Nat → Int64} {G : pG} {Q : pR → pM → Prop} {SL p q : Nat} {x1 x2 x3 : Int32} (hG : Geo G SL p q) (h : ((x2 = 1 → X (d + 3) 193 0 [.ref 68, .int 0, .int 40, .null] [] (F, A, J, G) (KK (d + 4) 202 96 [.ref 68, .int x1, .int x2, .int x3] [.int 5, .ref 72] Q)) ∧ (¬ x2 = 1 → ((x2 = 2 → X (d + 3) 193 0 [.ref 68, .int 0, .int 999, .null] [] (F, A, J, G) (KK (d + 4) 202 119 [.ref 68, .int x1, .int x2, .int x3] [.int 6, .ref 72] Q)) ∧ (¬ x2 = 2 → X (d + 3) 200 0 [.ref 68, .int 0, .null] [] (F, A, J, G) (KK (d + 4) 202 128 [.ref 68, .int x1, .int x2, .int x3] [] Q)))))) : KK (d + 4) 202 79 [.ref 68, .int x1, .int x2, .int x3] [] Q (.inl none) (F, A, J, G) := by
  refine KKv ?_
  refine Y_il2 i_202_79 ?_
  refine Y_iconst (v := 1) i_202_80 (by decide) ?_
  refine Y_cne i_202_81 (fun e1 => ?_) (fun e1 => ?_)
  · replace h := h.1 e1
    refine Y_al0 i_202_84 ?_
    refine Y_gR i_202_85 ow_202 lf_10_42 (k_68 hG) (r_68_4 hG) ?_
    refine Y_iconst (v := 5) i_202_88 (by decide) ?_
    refine Y_al0 i_202_89 ?_
    refine Y_iconst (v := 0) i_202_90 (by decide) ?_
    refine Y_bipush (v := 40) i_202_91 (by decide) ?_
    exact Y_iv2 (L0 := [.ref 68, .int 0, .int 40, .null]) i_202_93 ow_202 lm_10_223 ((k_68 hG).trans ow_193.symm) rfl mx_193 rfl rfl hd_202 h
  · replace h := h.2 e1
    refine Y_il2 i_202_100 ?_
    refine Y_iconst (v := 2) i_202_101 (by decide) ?_
    refine Y_cne i_202_102 (fun e2 => ?_) (fun e2 => ?_)
    · replace h := h.1 e2
      refine Y_al0 i_202_105 ?_
      refine Y_gR i_202_106 ow_202 lf_10_42 (k_68 hG) (r_68_4 hG) ?_
      refine Y_bipush (v := 6) i_202_109 (by decide) ?_
      refine Y_al0 i_202_111 ?_
      refine Y_iconst (v := 0) i_202_112 (by decide) ?_
      refine Y_sipush (v := 999) i_202_113 (by decide) ?_
      exact Y_iv2 (L0 := [.ref 68, .int 0, .int 999, .null]) i_202_116 ow_202 lm_10_223 ((k_68 hG).trans ow_193.symm) rfl mx_193 rfl rfl hd_202 h
    · replace h := h.2 e2
      refine Y_al0 i_202_123 ?_
      refine Y_iconst (v := 0) i_202_124 (by decide) ?_
      exact Y_iv1 (L0 := [.ref 68, .int 0, .null]) i_202_125 ow_202 lm_10_236 ((k_68 hG).trans ow_200.symm) rfl mx_200 rfl rfl hd_202 h
theorem k_202_96 {d : Nat} {F A : Nat → Nat → Int32} {J : Nat → Nat → Int64} {G : pG} {Q : pR → pM → Prop} {SL p q : Nat} {x1 x2 x3 r s0 : Int32} (hG : Geo G SL p q) (h : inB s0 8 = true ∧ (X (d + 3) 192 0 [.ref 68, .int 59] [] (F, (wF A 72 s0.toNatClampNeg r), J, G) (KK (d + 4) 202 155 [.ref 68, .int x1, .int x2, .int x3] [] Q))) : KK (d + 4) 202 96 [.ref 68, .int x1, .int x2, .int x3] [.int s0, .ref 72] Q (.inl (some (.int r))) (F, A, J, G) := by
  refine KKi ?_
  have o1 := h.1
  replace h := h.2
  refine Y_iast i_202_96 (k_72 hG) (l_72 hG) o1 rfl ?_
  refine Y_goto i_202_97 ?_
  refine Y_al0 i_202_149 ?_
  refine Y_bipush (v := 59) i_202_150 (by decide) ?_
  exact Y_iv1 (L0 := [.ref 68, .int 59]) i_202_152 ow_202 lm_10_233 ((k_68 hG).trans ow_192.symm) rfl mx_192 rfl rfl hd_202 h
theorem k_202_119 {d : Nat} {F A : Nat → Nat → Int32} {J : Nat → Nat → Int64} {G : pG} {Q : pR → pM → Prop} {SL p q : Nat} {x1 x2 x3 r s0 : Int32} (hG : Geo G SL p q) (h : inB s0 8 = true ∧ (X (d + 3) 192 0 [.ref 68, .int 59] [] (F, (wF A 72 s0.toNatClampNeg r), J, G) (KK (d + 4) 202 155 [.ref 68, .int x1, .int x2, .int x3] [] Q))) : KK (d + 4) 202 119 [.ref 68, .int x1, .int x2, .int x3] [.int s0, .ref 72] Q (.inl (some (.int r))) (F, A, J, G) := by
  refine KKi ?_
  have o1 := h.1
  replace h := h.2
  refine Y_iast i_202_119 (k_72 hG) (l_72 hG) o1 rfl ?_
  refine Y_goto i_202_120 ?_
  refine Y_al0 i_202_149 ?_
  refine Y_bipush (v := 59) i_202_150 (by decide) ?_
  exact Y_iv1 (L0 := [.ref 68, .int 59]) i_202_152 ow_202 lm_10_233 ((k_68 hG).trans ow_192.symm) rfl mx_192 rfl rfl hd_202 h
theorem k_202_128 {d : Nat} {F A : Nat → Nat → Int32} {J : Nat → Nat → Int64} {G : pG} {Q : pR → pM → Prop} {SL p q : Nat} {x1 x2 x3 : Int32} (hG : Geo G SL p q) (h : X (d + 3) 192 0 [.ref 68, .int 59] [] (F, A, J, G) (KK (d + 4) 202 155 [.ref 68, .int x1, .int x2, .int x3] [] Q)) : KK (d + 4) 202 128 [.ref 68, .int x1, .int x2, .int x3] [] Q (.inl none) (F, A, J, G) := by
  refine KKv ?_
  refine Y_goto i_202_128 ?_
  refine Y_al0 i_202_149 ?_
  refine Y_bipush (v := 59) i_202_150 (by decide) ?_
  exact Y_iv1 (L0 := [.ref 68, .int 59]) i_202_152 ow_202 lm_10_233 ((k_68 hG).trans ow_192.symm) rfl mx_192 rfl rfl hd_202 h
theorem k_202_141 {d : Nat} {F A : Nat → Nat → Int32} {J : Nat → Nat → Int64} {G : pG} {Q : pR → pM → Prop} {SL p q : Nat} {x1 x2 x3 : Int32} (hG : Geo G SL p q) (h : X (d + 3) 192 0 [.ref 68, .int 59] [] (F, A, J, G) (KK (d + 4) 202 155 [.ref 68, .int x1, .int x2, .int x3] [] Q)) : KK (d + 4) 202 141 [.ref 68, .int x1, .int x2, .int x3] [] Q (.inl none) (F, A, J, G) := by
  refine KKv ?_
  refine Y_goto i_202_141 ?_
  refine Y_al0 i_202_149 ?_
  refine Y_bipush (v := 59) i_202_150 (by decide) ?_
  exact Y_iv1 (L0 := [.ref 68, .int 59]) i_202_152 ow_202 lm_10_233 ((k_68 hG).trans ow_192.symm) rfl mx_192 rfl rfl hd_202 h
theorem k_202_155 {d : Nat} {F A : Nat → Nat → Int32} {J : Nat → Nat → Int64} {G : pG} {Q : pR → pM → Prop} {SL p q : Nat} {x1 x2 x3 : Int32} (hG : Geo G SL p q) (h : Q (.inl (some (.int (x1 ||| x2)))) (F, A, J, G)) : KK (d + 4) 202 155 [.ref 68, .int x1, .int x2, .int x3] [] Q (.inl none) (F, A, J, G) := by
  refine KKv ?_
  refine Y_il1 i_202_155 ?_
  refine Y_il2 i_202_156 ?_
  refine Y_ior i_202_157 ?_
  exact Y_iret i_202_158 rt_202 h
/- 203 Model.town(I)I -/
theorem t_203_0 {d : Nat} {F A : Nat → Nat → Int32} {J : Nat → Nat → Int64} {G : pG} {Q : pR → pM → Prop} {SL p q : Nat} {x1 : Int32} (hG : Geo G SL p q) (h : ((x1 < 0 → Q (.inl (some (.int 0))) ((wF (wF F 68 3 0) 68 3 1), A, J, G)) ∧ (¬ x1 < 0 → (((F 68 13) < x1 → Q (.inl (some (.int 0))) ((wF (wF F 68 3 0) 68 3 1), A, J, G)) ∧ (¬ (F 68 13) < x1 → X (d + 5) 203 50 [.ref 68, .int x1, .int 0] [] ((wF (wF (wF (wF (wF (wF F 68 3 0) 68 13 0) 68 15 x1) 68 14 0) 68 20 0) 68 22 (-1)), A, J, G) Q))))) : X (d + 5) 203 0 [.ref 68, .int x1, .null] [] (F, A, J, G) Q := by
  refine Y_al0 i_203_0 ?_
  refine Y_iconst (v := 0) i_203_1 (by decide) ?_
  refine Y_pI i_203_2 ow_203 lf_10_143 (k_68 hG) ?_
  refine Y_il1 i_203_5 ?_
  refine Y_zlt i_203_6 (fun e1 => ?_) (fun e1 => ?_)
  · replace h := h.1 e1
    refine Y_al0 i_203_17 ?_
    refine Y_iconst (v := 1) i_203_18 (by decide) ?_
    refine Y_iv1 (L0 := [.ref 68, .int 1]) i_203_19 ow_203 lm_10_269 ((k_68 hG).trans ow_176.symm) rfl mx_176 rfl rfl hd_203 ?_
    refine Y_al0 i_176_0 ?_
    refine Y_il1 i_176_1 ?_
    refine Y_pI i_176_2 ow_176 lf_10_143 (k_68 hG) ?_
    refine Y_iconst (v := 0) i_176_5 (by decide) ?_
    refine Y_iret i_176_6 rt_176 (KKi ?_)
    exact Y_iret i_203_22 rt_203 h
  · replace h := h.2 e1
    refine Y_il1 i_203_9 ?_
    refine Y_al0 i_203_10 ?_
    refine Y_gI (v := (F 68 13)) i_203_11 ow_203 lf_10_153 (by decide) (k_68 hG) (by simp [wF, wJ, va_up, cpR, bF, bA]) ?_
    refine Y_cle i_203_14 (fun e2 => ?_) (fun e2 => ?_)
    · replace h := h.1 e2
      refine Y_al0 i_203_17 ?_
      refine Y_iconst (v := 1) i_203_18 (by decide) ?_
      refine Y_iv1 (L0 := [.ref 68, .int 1]) i_203_19 ow_203 lm_10_269 ((k_68 hG).trans ow_176.symm) rfl mx_176 rfl rfl hd_203 ?_
      refine Y_al0 i_176_0 ?_
      refine Y_il1 i_176_1 ?_
      refine Y_pI i_176_2 ow_176 lf_10_143 (k_68 hG) ?_
      refine Y_iconst (v := 0) i_176_5 (by decide) ?_
      refine Y_iret i_176_6 rt_176 (KKi ?_)
      exact Y_iret i_203_22 rt_203 h
    · replace h := h.2 e2
      refine Y_al0 i_203_23 ?_
      refine Y_iconst (v := 0) i_203_24 (by decide) ?_
      refine Y_pI i_203_25 ow_203 lf_10_153 (k_68 hG) ?_
      refine Y_al0 i_203_28 ?_
      refine Y_il1 i_203_29 ?_
      refine Y_pI i_203_30 ow_203 lf_10_156 (k_68 hG) ?_
      refine Y_al0 i_203_33 ?_
      refine Y_iconst (v := 0) i_203_34 (by decide) ?_
      refine Y_pI i_203_35 ow_203 lf_10_159 (k_68 hG) ?_
      refine Y_al0 i_203_38 ?_
      refine Y_iconst (v := 0) i_203_39 (by decide) ?_
      refine Y_pI i_203_40 ow_203 lf_10_195 (k_68 hG) ?_
      refine Y_al0 i_203_43 ?_
      refine Y_iconst (v := (-1)) i_203_44 (by decide) ?_
      refine Y_pI i_203_45 ow_203 lf_10_66 (k_68 hG) ?_
      refine Y_iconst (v := 0) i_203_48 (by decide) ?_
      refine Y_is2 i_203_49 rfl ?_
      exact h
theorem t_203_50 {d : Nat} {F A : Nat → Nat → Int32} {J : Nat → Nat → Int64} {G : pG} {Q : pR → pM → Prop} {SL p q : Nat} {x1 x2 : Int32} (hG : Geo G SL p q) (h : ((x2 < 4 → ((x2 = 1 → inB ((4 : Int32) + x2) 8 = true ∧ (X (d + 5) 203 50 [.ref 68, .int x1, .int (x2 + 1)] [] (F, (wF A 72 ((4 : Int32) + x2).toNatClampNeg 9), J, G) Q)) ∧ (¬ x2 = 1 → ((x2 = 2 → inB ((4 : Int32) + x2) 8 = true ∧ (X (d + 5) 203 50 [.ref 68, .int x1, .int (x2 + 1)] [] (F, (wF A 72 ((4 : Int32) + x2).toNatClampNeg 100), J, G) Q)) ∧ (¬ x2 = 2 → inB ((4 : Int32) + x2) 8 = true ∧ (X (d + 5) 203 50 [.ref 68, .int x1, .int (x2 + 1)] [] (F, (wF A 72 ((4 : Int32) + x2).toNatClampNeg 0), J, G) Q)))))) ∧ (¬ x2 < 4 → X (d + 4) 187 0 [.ref 68, .null] [] (F, A, J, G) (KK (d + 5) 203 94 [.ref 68, .int x1, .int x2] [] Q)))) : X (d + 5) 203 50 [.ref 68, .int x1, .int x2] [] (F, A, J, G) Q := by
  refine Y_il2 i_203_50 ?_
  refine Y_iconst (v := 4) i_203_51 (by decide) ?_
  refine Y_cge i_203_52 (fun e1 => ?_) (fun e1 => ?_)
  · replace h := h.1 e1
    refine Y_al0 i_203_55 ?_
    refine Y_gR i_203_56 ow_203 lf_10_42 (k_68 hG) (r_68_4 hG) ?_
    refine Y_iconst (v := 4) i_203_59 (by decide) ?_
    refine Y_il2 i_203_60 ?_
    refine Y_iadd i_203_61 ?_
    refine Y_il2 i_203_62 ?_
    refine Y_iconst (v := 1) i_203_63 (by decide) ?_
    refine Y_cne i_203_64 (fun e2 => ?_) (fun e2 => ?_)
    · replace h := h.1 e2
      refine Y_bipush (v := 9) i_203_67 (by decide) ?_
      refine Y_goto i_203_69 ?_
      have o3 := h.1
      replace h := h.2
      refine Y_iast i_203_83 (k_72 hG) (l_72 hG) o3 rfl ?_
      refine Y_ii2 (v := 1) i_203_84 (by decide) rfl ?_
      refine Y_goto i_203_87 ?_
      exact h
    · replace h := h.2 e2
      refine Y_il2 i_203_72 ?_
      refine Y_iconst (v := 2) i_203_73 (by decide) ?_
      refine Y_cne i_203_74 (fun e4 => ?_) (fun e4 => ?_)
      · replace h := h.1 e4
        refine Y_bipush (v := 100) i_203_77 (by decide) ?_
        refine Y_goto i_203_79 ?_
        have o5 := h.1
        replace h := h.2
        refine Y_iast i_203_83 (k_72 hG) (l_72 hG) o5 rfl ?_
        refine Y_ii2 (v := 1) i_203_84 (by decide) rfl ?_
        refine Y_goto i_203_87 ?_
        exact h
      · replace h := h.2 e4
        refine Y_iconst (v := 0) i_203_82 (by decide) ?_
        have o6 := h.1
        replace h := h.2
        refine Y_iast i_203_83 (k_72 hG) (l_72 hG) o6 rfl ?_
        refine Y_ii2 (v := 1) i_203_84 (by decide) rfl ?_
        refine Y_goto i_203_87 ?_
        exact h
  · replace h := h.2 e1
    refine Y_al0 i_203_90 ?_
    exact Y_iv0 (L0 := [.ref 68, .null]) i_203_91 ow_203 lm_10_220 ((k_68 hG).trans ow_187.symm) rfl mx_187 rfl rfl hd_203 h
theorem k_203_94 {d : Nat} {F A : Nat → Nat → Int32} {J : Nat → Nat → Int64} {G : pG} {Q : pR → pM → Prop} {SL p q : Nat} {x1 x2 : Int32} (hG : Geo G SL p q) (h : X (d + 5) 203 96 [.ref 68, .int x1, .int 0] [] (F, A, J, G) Q) : KK (d + 5) 203 94 [.ref 68, .int x1, .int x2] [] Q (.inl none) (F, A, J, G) := by
  refine KKv ?_
  refine Y_iconst (v := 0) i_203_94 (by decide) ?_
  refine Y_is2 i_203_95 rfl ?_
  exact h
theorem t_203_96 {d : Nat} {F A : Nat → Nat → Int32} {J : Nat → Nat → Int64} {G : pG} {Q : pR → pM → Prop} {SL p q : Nat} {x1 x2 : Int32} (hG : Geo G SL p q) (h : (((F 68 20) = 0 → (((F 68 16) = 0 → (((F 68 20) = 0 → X (d + 4) 205 0 [.ref 68, .null] [] (F, A, J, G) (KK (d + 5) 203 153 [.ref 68, .int x1, .int x2] [] Q)) ∧ (¬ (F 68 20) = 0 → Q (.inl (some (.int (F 68 20)))) ((wF F 68 22 (F 68 21)), (wF A 79 0 ((A 79 0) + 1)), J, G)))) ∧ (¬ (F 68 16) = 0 → X (d + 4) 202 0 [.ref 68, .int x2, .null, .null] [] (F, A, J, G) (KK (d + 5) 203 115 [.ref 68, .int x1, .int x2] [] Q)))) ∧ (¬ (F 68 20) = 0 → (((F 68 20) = 0 → X (d + 4) 205 0 [.ref 68, .null] [] (F, A, J, G) (KK (d + 5) 203 153 [.ref 68, .int x1, .int x2] [] Q)) ∧ (¬ (F 68 20) = 0 → Q (.inl (some (.int (F 68 20)))) ((wF F 68 22 (F 68 21)), (wF A 79 0 ((A 79 0) + 1)), J, G)))))) : X (d + 5) 203 96 [.ref 68, .int x1, .int x2] [] (F, A, J, G) Q := by
  refine Y_al0 i_203_96 ?_
  refine Y_gI (v := (F 68 20)) i_203_97 ow_203 lf_10_195 (by decide) (k_68 hG) rfl ?_
  refine Y_zne i_203_100 (fun e1 => ?_) (fun e1 => ?_)
  · replace h := h.1 e1
    refine Y_al0 i_203_103 ?_
    refine Y_gI (v := (F 68 16)) i_203_104 ow_203 lf_10_169 (by decide) (k_68 hG) rfl ?_
    refine Y_zeq i_203_107 (fun e2 => ?_) (fun e2 => ?_)
    · replace h := h.1 e2
      refine Y_al0 i_203_119 ?_
      refine Y_gI (v := (F 68 20)) i_203_120 ow_203 lf_10_195 (by decide) (k_68 hG) rfl ?_
      refine Y_zeq i_203_123 (fun e3 => ?_) (fun e3 => ?_)
      · replace h := h.1 e3
        refine Y_al0 i_203_149 ?_
        exact Y_iv0 (L0 := [.ref 68, .null]) i_203_150 ow_203 lm_10_275 ((k_68 hG).trans ow_205.symm) rfl mx_205 rfl rfl hd_203 h
      · replace h := h.2 e3
        refine Y_al0 i_203_126 ?_
        refine Y_al0 i_203_127 ?_
        refine Y_gI (v := (F 68 21)) i_203_128 ow_203 lf_10_198 (by decide) (k_68 hG) rfl ?_
        refine Y_pI i_203_131 ow_203 lf_10_66 (k_68 hG) ?_
        refine Y_al0 i_203_134 ?_
        refine Y_gR i_203_135 ow_203 lf_10_60 (k_68 hG) (r_68_11 hG) ?_
        refine Y_iconst (v := 0) i_203_138 (by decide) ?_
        refine Y_dup2 i_203_139 rfl rfl ?_
        refine Y_iaload (k := 0) (v := (A 79 0)) i_203_140 (k_79 hG) (l_79 hG) (by decide) (by decide) rfl ?_
        refine Y_iconst (v := 1) i_203_141 (by decide) ?_
        refine Y_iadd i_203_142 ?_
        refine Y_iast (k := 0) i_203_143 (k_79 hG) (l_79 hG) (by decide) (by decide) ?_
        refine Y_al0 i_203_144 ?_
        refine Y_gI (v := (F 68 20)) i_203_145 ow_203 lf_10_195 (by decide) (k_68 hG) (by simp [wF, wJ, va_up, cpR, bF, bA]) ?_
        exact Y_iret i_203_148 rt_203 h
    · replace h := h.2 e2
      refine Y_al0 i_203_110 ?_
      refine Y_il2 i_203_111 ?_
      exact Y_iv1 (L0 := [.ref 68, .int x2, .null, .null]) i_203_112 ow_203 lm_10_272 ((k_68 hG).trans ow_202.symm) rfl mx_202 rfl rfl hd_203 h
  · replace h := h.2 e1
    refine Y_al0 i_203_119 ?_
    refine Y_gI (v := (F 68 20)) i_203_120 ow_203 lf_10_195 (by decide) (k_68 hG) rfl ?_
    refine Y_zeq i_203_123 (fun e4 => ?_) (fun e4 => ?_)
    · replace h := h.1 e4
      refine Y_al0 i_203_149 ?_
      exact Y_iv0 (L0 := [.ref 68, .null]) i_203_150 ow_203 lm_10_275 ((k_68 hG).trans ow_205.symm) rfl mx_205 rfl rfl hd_203 h
    · replace h := h.2 e4
      refine Y_al0 i_203_126 ?_
      refine Y_al0 i_203_127 ?_
      refine Y_gI (v := (F 68 21)) i_203_128 ow_203 lf_10_198 (by decide) (k_68 hG) rfl ?_
      refine Y_pI i_203_131 ow_203 lf_10_66 (k_68 hG) ?_
      refine Y_al0 i_203_134 ?_
      refine Y_gR i_203_135 ow_203 lf_10_60 (k_68 hG) (r_68_11 hG) ?_
      refine Y_iconst (v := 0) i_203_138 (by decide) ?_
      refine Y_dup2 i_203_139 rfl rfl ?_
      refine Y_iaload (k := 0) (v := (A 79 0)) i_203_140 (k_79 hG) (l_79 hG) (by decide) (by decide) rfl ?_
      refine Y_iconst (v := 1) i_203_141 (by decide) ?_
      refine Y_iadd i_203_142 ?_
      refine Y_iast (k := 0) i_203_143 (k_79 hG) (l_79 hG) (by decide) (by decide) ?_
      refine Y_al0 i_203_144 ?_
      refine Y_gI (v := (F 68 20)) i_203_145 ow_203 lf_10_195 (by decide) (k_68 hG) (by simp [wF, wJ, va_up, cpR, bF, bA]) ?_
      exact Y_iret i_203_148 rt_203 h
theorem k_203_115 {d : Nat} {F A : Nat → Nat → Int32} {J : Nat → Nat → Int64} {G : pG} {Q : pR → pM → Prop} {SL p q : Nat} {x1 x2 r : Int32} (hG : Geo G SL p q) (h : X (d + 5) 203 96 [.ref 68, .int x1, .int r] [] (F, A, J, G) Q) : KK (d + 5) 203 115 [.ref 68, .int x1, .int x2] [] Q (.inl (some (.int r))) (F, A, J, G) := by
  refine KKi ?_
  refine Y_is2 i_203_115 rfl ?_
  refine Y_goto i_203_116 ?_
  exact h
theorem k_203_153 {d : Nat} {F A : Nat → Nat → Int32} {J : Nat → Nat → Int64} {G : pG} {Q : pR → pM → Prop} {SL p q : Nat} {x1 x2 : Int32} (hG : Geo G SL p q) (h : Q (.inl (some (.int 0))) (F, A, J, G)) : KK (d + 5) 203 153 [.ref 68, .int x1, .int x2] [] Q (.inl none) (F, A, J, G) := by
  refine KKv ?_
  refine Y_iconst (v := 0) i_203_153 (by decide) ?_
  exact Y_iret i_203_154 rt_203 h
/- 204 Model.takeHalf([I)V -/
theorem t_204_0 {d : Nat} {F A : Nat → Nat → Int32} {J : Nat → Nat → Int64} {G : pG} {Q : pR → pM → Prop} {SL p q : Nat} {a na : Nat} (hG : Geo G SL p q) (hka : gK G a = 20) (hla : gL G a = na) (h : X d 204 2 [.ref a, .int 0] [] (F, A, J, G) Q) : X d 204 0 [.ref a, .null] [] (F, A, J, G) Q := by
  refine Y_iconst (v := 0) i_204_0 (by decide) ?_
  refine Y_is1 i_204_1 rfl ?_
  exact h
theorem t_204_2 {d : Nat} {F A : Nat → Nat → Int32} {J : Nat → Nat → Int64} {G : pG} {Q : pR → pM → Prop} {SL p q : Nat} {a na : Nat} {x1 : Int32} (hG : Geo G SL p q) (hka : gK G a = 20) (hla : gL G a = na) (h : ((x1 < ((nI na) / 2) → inB (((nI na) / 2) + x1) na = true ∧ inB x1 na = true ∧ (X d 204 2 [.ref a, .int (x1 + 1)] [] (F, (wF A a x1.toNatClampNeg (A a (((nI na) / 2) + x1).toNatClampNeg)), J, G) Q)) ∧ (¬ x1 < ((nI na) / 2) → Q (.inl none) (F, A, J, G)))) : X d 204 2 [.ref a, .int x1] [] (F, A, J, G) Q := by
  refine Y_il1 i_204_2 ?_
  refine Y_al0 i_204_3 ?_
  refine Y_alen (v := nI na) i_204_4 (Or.inl hka) hla rfl ?_
  refine Y_iconst (v := 2) i_204_5 (by decide) ?_
  refine Y_idiv i_204_6 (by decide) ?_
  refine Y_cge i_204_7 (fun e1 => ?_) (fun e1 => ?_)
  · replace h := h.1 e1
    refine Y_al0 i_204_10 ?_
    refine Y_il1 i_204_11 ?_
    refine Y_al0 i_204_12 ?_
    refine Y_al0 i_204_13 ?_
    refine Y_alen (v := nI na) i_204_14 (Or.inl hka) hla rfl ?_
    refine Y_iconst (v := 2) i_204_15 (by decide) ?_
    refine Y_idiv i_204_16 (by decide) ?_
    refine Y_il1 i_204_17 ?_
    refine Y_iadd i_204_18 ?_
    have o2 := h.1
    replace h := h.2
    refine Y_iaload (k := (((nI na) / 2) + x1).toNatClampNeg) (v := (A a (((nI na) / 2) + x1).toNatClampNeg)) i_204_19 hka hla o2 rfl rfl ?_
    have o3 := h.1
    replace h := h.2
    refine Y_iast i_204_20 hka hla o3 rfl ?_
    refine Y_ii1 (v := 1) i_204_21 (by decide) rfl ?_
    refine Y_goto i_204_24 ?_
    exact h
  · replace h := h.2 e1
    exact Y_vret i_204_27 rt_204 h
end Tr14f
