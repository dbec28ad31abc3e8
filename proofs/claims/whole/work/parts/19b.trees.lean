section Tr19b
/- 247 Model.tellWays(I)V -/
theorem t_247n_0 {d : Nat} {F A : Nat → Nat → Int32} {J : Nat → Nat → Int64} {G : pG} {Q : pR → pM → Prop} {SL p q : Nat} {x1 : Int32} (hG : Geo G SL p q) (h : inB x1 1024 = true ∧ (X (d + 3) 247 9 [.ref 68, .int x1, .int x1, .null] [] (F, A, (wJ J 91 x1.toNatClampNeg 1), G) Q)) : X (d + 3) 247 0 [.ref 68, .int x1, .null, .null] [] (F, A, J, G) Q := by
  refine Y_al0 i_247_0 ?_
  refine Y_gR i_247_1 ow_247 lf_10_103 (k_68 hG) (r_68_38 hG) ?_
  refine Y_il1 i_247_4 ?_
  refine Y_lconst (v := 1) i_247_5 (by decide) ?_
  have o1 := h.1
  replace h := h.2
  refine Y_last i_247_6 (k_91 hG) (l_91 hG) o1 rfl ?_
  refine Y_il1 i_247_7 ?_
  refine Y_is2 i_247_8 rfl ?_
  exact h
theorem t_247n_9 {d : Nat} {F A : Nat → Nat → Int32} {J : Nat → Nat → Int64} {G : pG} {Q : pR → pM → Prop} {SL p q : Nat} {x1 x2 : Int32} {v3 : Value} (hG : Geo G SL p q) (h : ((x2 = 0 → Q (.inl none) (F, A, J, G)) ∧ (¬ x2 = 0 → inB ((x2 - 1) &&& x1) 1024 = true ∧ (X (d + 3) 247 28 [.ref 68, .int x1, .int ((x2 - 1) &&& x1), .int 0] [] (F, A, (wJ J 91 ((x2 - 1) &&& x1).toNatClampNeg 0), G) Q)))) : X (d + 3) 247 9 [.ref 68, .int x1, .int x2, v3] [] (F, A, J, G) Q := by
  refine Y_il2 i_247_9 ?_
  refine Y_zeq i_247_10 (fun e1 => ?_) (fun e1 => ?_)
  · replace h := h.1 e1
    exact Y_vret i_247_103 rt_247 h
  · replace h := h.2 e1
    refine Y_il2 i_247_13 ?_
    refine Y_iconst (v := 1) i_247_14 (by decide) ?_
    refine Y_isub i_247_15 ?_
    refine Y_il1 i_247_16 ?_
    refine Y_iand i_247_17 ?_
    refine Y_is2 i_247_18 rfl ?_
    refine Y_al0 i_247_19 ?_
    refine Y_gR i_247_20 ow_247 lf_10_103 (k_68 hG) (r_68_38 hG) ?_
    refine Y_il2 i_247_23 ?_
    refine Y_lconst (v := 0) i_247_24 (by decide) ?_
    have o2 := h.1
    replace h := h.2
    refine Y_last i_247_25 (k_91 hG) (l_91 hG) o2 rfl ?_
    refine Y_iconst (v := 0) i_247_26 (by decide) ?_
    refine Y_is3 i_247_27 rfl ?_
    exact h
theorem t_247n_28 {d : Nat} {F A : Nat → Nat → Int32} {J : Nat → Nat → Int64} {G : pG} {Q : pR → pM → Prop} {SL p q : Nat} {x1 x2 x3 : Int32} (hG : Geo G SL p q) (h : ((x3 < (A 72 0) → (((isO (x1 &&& (x2 ^^^ (-1))) x3) = true → inB (x2 ||| ((1 : Int32) <<< (x3 &&& 31))) 1024 = true ∧ ((0 < (J 91 (x2 ||| ((1 : Int32) <<< (x3 &&& 31))).toNatClampNeg) → X (d + 2) 246 0 [.ref 68, .int x2, .int x3, .int x1, .null] [] (F, A, J, G) (KK (d + 3) 247 72 [.ref 68, .int x1, .int x2, .int x3] [] Q)) ∧ (¬ 0 < (J 91 (x2 ||| ((1 : Int32) <<< (x3 &&& 31))).toNatClampNeg) → X (d + 3) 247 28 [.ref 68, .int x1, .int x2, .int (x3 + 1)] [] (F, A, J, G) Q))) ∧ ((isO (x1 &&& (x2 ^^^ (-1))) x3) = false → X (d + 3) 247 28 [.ref 68, .int x1, .int x2, .int (x3 + 1)] [] (F, A, J, G) Q))) ∧ (¬ x3 < (A 72 0) → X (d + 3) 247 9 [.ref 68, .int x1, .int x2, .int x3] [] (F, A, J, G) Q))) : X (d + 3) 247 28 [.ref 68, .int x1, .int x2, .int x3] [] (F, A, J, G) Q := by
  refine Y_il3 i_247_28 ?_
  refine Y_al0 i_247_29 ?_
  refine Y_gR i_247_30 ow_247 lf_10_42 (k_68 hG) (r_68_4 hG) ?_
  refine Y_iconst (v := 0) i_247_33 (by decide) ?_
  refine Y_iaload (k := 0) (v := (A 72 0)) i_247_34 (k_72 hG) (l_72 hG) (by decide) (by decide) rfl ?_
  refine Y_cge i_247_35 (fun e1 => ?_) (fun e1 => ?_)
  · replace h := h.1 e1
    refine Y_il1 i_247_38 ?_
    refine Y_il2 i_247_39 ?_
    refine Y_iconst (v := (-1)) i_247_40 (by decide) ?_
    refine Y_ixor i_247_41 ?_
    refine Y_iand i_247_42 ?_
    refine Y_il3 i_247_43 ?_
    refine Y_is_2 (L0 := [.int (x1 &&& (x2 ^^^ (-1))), .int x3]) i_247_44 ow_247 lm_10_395 rfl mx_179 rfl rfl hd_247 ?_
    refine c_179 hG (KKi ?_)
    refine Y_beq i_247_47 (fun e2 => ?_) (fun e2 => ?_)
    · replace h := h.1 e2
      refine Y_al0 i_247_50 ?_
      refine Y_gR i_247_51 ow_247 lf_10_103 (k_68 hG) (r_68_38 hG) ?_
      refine Y_il2 i_247_54 ?_
      refine Y_iconst (v := 1) i_247_55 (by decide) ?_
      refine Y_il3 i_247_56 ?_
      refine Y_ishl i_247_57 ?_
      refine Y_ior i_247_58 ?_
      have o3 := h.1
      replace h := h.2
      refine Y_laload (k := (x2 ||| ((1 : Int32) <<< (x3 &&& 31))).toNatClampNeg) (v := (J 91 (x2 ||| ((1 : Int32) <<< (x3 &&& 31))).toNatClampNeg)) i_247_59 (k_91 hG) (l_91 hG) o3 rfl rfl ?_
      refine Y_lconst (v := 0) i_247_60 (by decide) ?_
      refine Y_lcmp i_247_61 ?_
      refine Y_wle i_247_62 (fun e4 => ?_) (fun e4 => ?_)
      · replace h := h.1 e4
        refine Y_al0 i_247_65 ?_
        refine Y_il2 i_247_66 ?_
        refine Y_il3 i_247_67 ?_
        refine Y_il1 i_247_68 ?_
        exact Y_iv3 (L0 := [.ref 68, .int x2, .int x3, .int x1, .null]) i_247_69 ow_247 lm_10_405 ((k_68 hG).trans ow_246.symm) rfl mx_246 rfl rfl hd_247 h
      · replace h := h.2 e4
        refine Y_ii3 (v := 1) i_247_94 (by decide) rfl ?_
        refine Y_goto i_247_97 ?_
        exact h
    · replace h := h.2 e2
      refine Y_ii3 (v := 1) i_247_94 (by decide) rfl ?_
      refine Y_goto i_247_97 ?_
      exact h
  · replace h := h.2 e1
    refine Y_goto i_247_100 ?_
    exact h
theorem k_247n_72 {d : Nat} {F A : Nat → Nat → Int32} {J : Nat → Nat → Int64} {G : pG} {Q : pR → pM → Prop} {SL p q : Nat} {x1 x2 x3 r : Int32} (hG : Geo G SL p q) (h : ((r = 0 → X (d + 3) 247 28 [.ref 68, .int x1, .int x2, .int (x3 + 1)] [] (F, A, J, G) Q) ∧ (¬ r = 0 → inB x2 1024 = true ∧ inB (x2 ||| ((1 : Int32) <<< (x3 &&& 31))) 1024 = true ∧ (X (d + 3) 247 28 [.ref 68, .int x1, .int x2, .int (x3 + 1)] [] (F, A, (wJ J 91 x2.toNatClampNeg ((J 91 x2.toNatClampNeg) + (J 91 (x2 ||| ((1 : Int32) <<< (x3 &&& 31))).toNatClampNeg))), G) Q)))) : KK (d + 3) 247 72 [.ref 68, .int x1, .int x2, .int x3] [] Q (.inl (some (.int r))) (F, A, J, G) := by
  refine KKi ?_
  refine Y_zeq i_247_72 (fun e1 => ?_) (fun e1 => ?_)
  · replace h := h.1 e1
    refine Y_ii3 (v := 1) i_247_94 (by decide) rfl ?_
    refine Y_goto i_247_97 ?_
    exact h
  · replace h := h.2 e1
    refine Y_al0 i_247_75 ?_
    refine Y_gR i_247_76 ow_247 lf_10_103 (k_68 hG) (r_68_38 hG) ?_
    refine Y_il2 i_247_79 ?_
    refine Y_dup2 i_247_80 rfl rfl ?_
    have o2 := h.1
    replace h := h.2
    refine Y_laload (k := x2.toNatClampNeg) (v := (J 91 x2.toNatClampNeg)) i_247_81 (k_91 hG) (l_91 hG) o2 rfl rfl ?_
    refine Y_al0 i_247_82 ?_
    refine Y_gR i_247_83 ow_247 lf_10_103 (k_68 hG) (r_68_38 hG) ?_
    refine Y_il2 i_247_86 ?_
    refine Y_iconst (v := 1) i_247_87 (by decide) ?_
    refine Y_il3 i_247_88 ?_
    refine Y_ishl i_247_89 ?_
    refine Y_ior i_247_90 ?_
    have o3 := h.1
    replace h := h.2
    refine Y_laload (k := (x2 ||| ((1 : Int32) <<< (x3 &&& 31))).toNatClampNeg) (v := (J 91 (x2 ||| ((1 : Int32) <<< (x3 &&& 31))).toNatClampNeg)) i_247_91 (k_91 hG) (l_91 hG) o3 rfl rfl ?_
    refine Y_ladd i_247_92 ?_
    refine Y_last i_247_93 (k_91 hG) (l_91 hG) o2 rfl ?_
    refine Y_ii3 (v := 1) i_247_94 (by decide) rfl ?_
    refine Y_goto i_247_97 ?_
    exact h
/- 250 Model.row(I)I -/
theorem t_250n_0 {d : Nat} {F A : Nat → Nat → Int32} {J : Nat → Nat → Int64} {G : pG} {Q : pR → pM → Prop} {SL p q : Nat} {x1 : Int32} (hG : Geo G SL p q) (h : X (d + 4) 248 0 [.ref 68, .null, .null] [] ((wF F 68 3 0), A, J, G) (KK (d + 5) 250 9 [.ref 68, .int x1, .null, .null, .null, .null, .null] [] Q)) : X (d + 5) 250 0 [.ref 68, .int x1, .null, .null, .null, .null, .null] [] (F, A, J, G) Q := by
  refine Y_al0 i_250_0 ?_
  refine Y_iconst (v := 0) i_250_1 (by decide) ?_
  refine Y_pI i_250_2 ow_250 lf_10_143 (k_68 hG) ?_
  refine Y_al0 i_250_5 ?_
  exact Y_iv0 (L0 := [.ref 68, .null, .null]) i_250_6 ow_250 lm_10_415 ((k_68 hG).trans ow_248.symm) rfl mx_248 rfl rfl hd_250 h
theorem k_250n_9 {d : Nat} {F A : Nat → Nat → Int32} {J : Nat → Nat → Int64} {G : pG} {Q : pR → pM → Prop} {SL p q : Nat} {x1 r : Int32} (hG : Geo G SL p q) (h : inB r 1024 = true ∧ (((inL x1.toInt64 0 (((nI (pcn r.toNatClampNeg)) - 1).toInt64)) = true → X (d + 4) 247 0 [.ref 68, .int r, .null, .null] [] (F, A, J, G) (KK (d + 5) 250 37 [.ref 68, .int x1, .int r, .null, .null, .null, .null] [] Q)) ∧ ((inL x1.toInt64 0 (((nI (pcn r.toNatClampNeg)) - 1).toInt64)) = false → Q (.inl (some (.int 0))) ((wF F 68 3 1), A, J, G)))) : KK (d + 5) 250 9 [.ref 68, .int x1, .null, .null, .null, .null, .null] [] Q (.inl (some (.int r))) (F, A, J, G) := by
  refine KKi ?_
  refine Y_is2 i_250_9 rfl ?_
  refine Y_il1 i_250_10 ?_
  refine Y_i2l i_250_11 ?_
  refine Y_lconst (v := 0) i_250_12 (by decide) ?_
  refine Y_il2 i_250_13 ?_
  have o1 := h.1
  replace h := h.2
  refine Y_is_1 (L0 := [.int r, .null, .null]) i_250_14 ow_250 lm_10_399 rfl mx_245 rfl rfl hd_250 ?_
  refine c_245 hG o1 (KKi ?_)
  refine Y_iconst (v := 1) i_250_17 (by decide) ?_
  refine Y_isub i_250_18 ?_
  refine Y_i2l i_250_19 ?_
  refine Y_is_3 (L0 := [.long x1.toInt64, .null, .long 0, .null, .long (((nI (pcn r.toNatClampNeg)) - 1).toInt64), .null]) i_250_20 ow_250 lm_10_146 rfl mx_178 rfl rfl hd_250 ?_
  refine c_178 hG (KKi ?_)
  refine Y_bne i_250_23 (fun e2 => ?_) (fun e2 => ?_)
  · replace h := h.1 e2
    refine Y_al0 i_250_32 ?_
    refine Y_il2 i_250_33 ?_
    exact Y_iv1 (L0 := [.ref 68, .int r, .null, .null]) i_250_34 ow_250 lm_10_412 ((k_68 hG).trans ow_247.symm) rfl mx_247 rfl rfl hd_250 h
  · replace h := h.2 e2
    refine Y_al0 i_250_26 ?_
    refine Y_iconst (v := 1) i_250_27 (by decide) ?_
    refine Y_iv1 (L0 := [.ref 68, .int 1]) i_250_28 ow_250 lm_10_269 ((k_68 hG).trans ow_176.symm) rfl mx_176 rfl rfl hd_250 ?_
    refine Y_al0 i_176_0 ?_
    refine Y_il1 i_176_1 ?_
    refine Y_pI i_176_2 ow_176 lf_10_143 (k_68 hG) ?_
    refine Y_iconst (v := 0) i_176_5 (by decide) ?_
    refine Y_iret i_176_6 rt_176 (KKi ?_)
    exact Y_iret i_250_31 rt_250 h
theorem k_250n_37 {d : Nat} {F A : Nat → Nat → Int32} {J : Nat → Nat → Int64} {G : pG} {Q : pR → pM → Prop} {SL p q : Nat} {x1 x2 : Int32} (hG : Geo G SL p q) (h : X (d + 5) 250 45 [.ref 68, .int x1, .int x2, .int 0, .int (-1), .int 0, .null] [] (F, A, J, G) Q) : KK (d + 5) 250 37 [.ref 68, .int x1, .int x2, .null, .null, .null, .null] [] Q (.inl none) (F, A, J, G) := by
  refine KKv ?_
  refine Y_iconst (v := 0) i_250_37 (by decide) ?_
  refine Y_is3 i_250_38 rfl ?_
  refine Y_iconst (v := (-1)) i_250_39 (by decide) ?_
  refine Y_is4 i_250_40 rfl ?_
  refine Y_iconst (v := 0) i_250_42 (by decide) ?_
  refine Y_is5 i_250_43 rfl ?_
  exact h
theorem t_250n_45 {d : Nat} {F A : Nat → Nat → Int32} {J : Nat → Nat → Int64} {G : pG} {Q : pR → pM → Prop} {SL p q : Nat} {x1 x2 x3 x4 x5 : Int32} {v6 : Value} (hG : Geo G SL p q) (h : ((x1 < x5 → Q (.inl (some (.int x4))) (F, A, J, G)) ∧ (¬ x1 < x5 → X (d + 5) 250 57 [.ref 68, .int x1, .int x2, .int x3, .int (-1), .int x5, .int 0] [] (F, A, J, G) Q))) : X (d + 5) 250 45 [.ref 68, .int x1, .int x2, .int x3, .int x4, .int x5, v6] [] (F, A, J, G) Q := by
  refine Y_il5 i_250_45 ?_
  refine Y_il1 i_250_47 ?_
  refine Y_cgt i_250_48 (fun e1 => ?_) (fun e1 => ?_)
  · replace h := h.1 e1
    refine Y_il4 i_250_137 ?_
    exact Y_iret i_250_139 rt_250 h
  · replace h := h.2 e1
    refine Y_iconst (v := (-1)) i_250_51 (by decide) ?_
    refine Y_is4 i_250_52 rfl ?_
    refine Y_iconst (v := 0) i_250_54 (by decide) ?_
    refine Y_is6 i_250_55 rfl ?_
    exact h
theorem t_250n_57 {d : Nat} {F A : Nat → Nat → Int32} {J : Nat → Nat → Int64} {G : pG} {Q : pR → pM → Prop} {SL p q : Nat} {x1 x2 x3 x4 x5 x6 : Int32} (hG : Geo G SL p q) (h : ((x6 < (A 72 0) → ((x4 = (-1) → (((isO (x2 &&& (x3 ^^^ (-1))) x6) = true → inB (x3 ||| ((1 : Int32) <<< (x6 &&& 31))) 1024 = true ∧ ((0 < (J 91 (x3 ||| ((1 : Int32) <<< (x6 &&& 31))).toNatClampNeg) → X (d + 4) 246 0 [.ref 68, .int x3, .int x6, .int x2, .null] [] (F, A, J, G) (KK (d + 5) 250 111 [.ref 68, .int x1, .int x2, .int x3, .int x4, .int x5, .int x6] [] Q)) ∧ (¬ 0 < (J 91 (x3 ||| ((1 : Int32) <<< (x6 &&& 31))).toNatClampNeg) → X (d + 5) 250 57 [.ref 68, .int x1, .int x2, .int x3, .int x4, .int x5, .int (x6 + 1)] [] (F, A, J, G) Q))) ∧ ((isO (x2 &&& (x3 ^^^ (-1))) x6) = false → X (d + 5) 250 57 [.ref 68, .int x1, .int x2, .int x3, .int x4, .int x5, .int (x6 + 1)] [] (F, A, J, G) Q))) ∧ (¬ x4 = (-1) → X (d + 5) 250 45 [.ref 68, .int x1, .int x2, .int (x3 ||| ((1 : Int32) <<< (x4 &&& 31))), .int x4, .int (x5 + 1), .int x6] [] (F, A, J, G) Q))) ∧ (¬ x6 < (A 72 0) → X (d + 5) 250 45 [.ref 68, .int x1, .int x2, .int (x3 ||| ((1 : Int32) <<< (x4 &&& 31))), .int x4, .int (x5 + 1), .int x6] [] (F, A, J, G) Q))) : X (d + 5) 250 57 [.ref 68, .int x1, .int x2, .int x3, .int x4, .int x5, .int x6] [] (F, A, J, G) Q := by
  refine Y_il6 i_250_57 ?_
  refine Y_al0 i_250_59 ?_
  refine Y_gR i_250_60 ow_250 lf_10_42 (k_68 hG) (r_68_4 hG) ?_
  refine Y_iconst (v := 0) i_250_63 (by decide) ?_
  refine Y_iaload (k := 0) (v := (A 72 0)) i_250_64 (k_72 hG) (l_72 hG) (by decide) (by decide) rfl ?_
  refine Y_cge i_250_65 (fun e1 => ?_) (fun e1 => ?_)
  · replace h := h.1 e1
    refine Y_il4 i_250_68 ?_
    refine Y_iconst (v := (-1)) i_250_70 (by decide) ?_
    refine Y_cne i_250_71 (fun e2 => ?_) (fun e2 => ?_)
    · replace h := h.1 e2
      refine Y_il2 i_250_74 ?_
      refine Y_il3 i_250_75 ?_
      refine Y_iconst (v := (-1)) i_250_76 (by decide) ?_
      refine Y_ixor i_250_77 ?_
      refine Y_iand i_250_78 ?_
      refine Y_il6 i_250_79 ?_
      refine Y_is_2 (L0 := [.int (x2 &&& (x3 ^^^ (-1))), .int x6]) i_250_81 ow_250 lm_10_395 rfl mx_179 rfl rfl hd_250 ?_
      refine c_179 hG (KKi ?_)
      refine Y_beq i_250_84 (fun e3 => ?_) (fun e3 => ?_)
      · replace h := h.1 e3
        refine Y_al0 i_250_87 ?_
        refine Y_gR i_250_88 ow_250 lf_10_103 (k_68 hG) (r_68_38 hG) ?_
        refine Y_il3 i_250_91 ?_
        refine Y_iconst (v := 1) i_250_92 (by decide) ?_
        refine Y_il6 i_250_93 ?_
        refine Y_ishl i_250_95 ?_
        refine Y_ior i_250_96 ?_
        have o4 := h.1
        replace h := h.2
        refine Y_laload (k := (x3 ||| ((1 : Int32) <<< (x6 &&& 31))).toNatClampNeg) (v := (J 91 (x3 ||| ((1 : Int32) <<< (x6 &&& 31))).toNatClampNeg)) i_250_97 (k_91 hG) (l_91 hG) o4 rfl rfl ?_
        refine Y_lconst (v := 0) i_250_98 (by decide) ?_
        refine Y_lcmp i_250_99 ?_
        refine Y_wle i_250_100 (fun e5 => ?_) (fun e5 => ?_)
        · replace h := h.1 e5
          refine Y_al0 i_250_103 ?_
          refine Y_il3 i_250_104 ?_
          refine Y_il6 i_250_105 ?_
          refine Y_il2 i_250_107 ?_
          exact Y_iv3 (L0 := [.ref 68, .int x3, .int x6, .int x2, .null]) i_250_108 ow_250 lm_10_405 ((k_68 hG).trans ow_246.symm) rfl mx_246 rfl rfl hd_250 h
        · replace h := h.2 e5
          refine Y_ii6 (v := 1) i_250_118 (by decide) rfl ?_
          refine Y_goto i_250_121 ?_
          exact h
      · replace h := h.2 e3
        refine Y_ii6 (v := 1) i_250_118 (by decide) rfl ?_
        refine Y_goto i_250_121 ?_
        exact h
    · replace h := h.2 e2
      refine Y_il3 i_250_124 ?_
      refine Y_iconst (v := 1) i_250_125 (by decide) ?_
      refine Y_il4 i_250_126 ?_
      refine Y_ishl i_250_128 ?_
      refine Y_ior i_250_129 ?_
      refine Y_is3 i_250_130 rfl ?_
      refine Y_ii5 (v := 1) i_250_131 (by decide) rfl ?_
      refine Y_goto i_250_134 ?_
      exact h
  · replace h := h.2 e1
    refine Y_il3 i_250_124 ?_
    refine Y_iconst (v := 1) i_250_125 (by decide) ?_
    refine Y_il4 i_250_126 ?_
    refine Y_ishl i_250_128 ?_
    refine Y_ior i_250_129 ?_
    refine Y_is3 i_250_130 rfl ?_
    refine Y_ii5 (v := 1) i_250_131 (by decide) rfl ?_
    refine Y_goto i_250_134 ?_
    exact h
theorem k_250n_111 {d : Nat} {F A : Nat → Nat → Int32} {J : Nat → Nat → Int64} {G : pG} {Q : pR → pM → Prop} {SL p q : Nat} {x1 x2 x3 x4 x5 x6 r : Int32} (hG : Geo G SL p q) (h : ((r = 0 → X (d + 5) 250 57 [.ref 68, .int x1, .int x2, .int x3, .int x4, .int x5, .int (x6 + 1)] [] (F, A, J, G) Q) ∧ (¬ r = 0 → X (d + 5) 250 57 [.ref 68, .int x1, .int x2, .int x3, .int x6, .int x5, .int (x6 + 1)] [] (F, A, J, G) Q))) : KK (d + 5) 250 111 [.ref 68, .int x1, .int x2, .int x3, .int x4, .int x5, .int x6] [] Q (.inl (some (.int r))) (F, A, J, G) := by
  refine KKi ?_
  refine Y_zeq i_250_111 (fun e1 => ?_) (fun e1 => ?_)
  · replace h := h.1 e1
    refine Y_ii6 (v := 1) i_250_118 (by decide) rfl ?_
    refine Y_goto i_250_121 ?_
    exact h
  · replace h := h.2 e1
    refine Y_il6 i_250_114 ?_
    refine Y_is4 i_250_116 rfl ?_
    refine Y_ii6 (v := 1) i_250_118 (by decide) rfl ?_
    refine Y_goto i_250_121 ?_
    exact h
end Tr19b
