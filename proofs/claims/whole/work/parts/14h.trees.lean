section Tr14h
/- 250 Model.row(I)I -/
theorem t_250_0 {d : Nat} {F A : Nat → Nat → Int32} {J : Nat → Nat → Int64} {G : pG} {Q : pR → pM → Prop} {SL p q : Nat} {x1 : Int32} (hG : Geo G SL p q) (h : X (d + 4) 248 0 [.ref 68, .null, .null] [] ((wF F 68 3 0), A, J, G) (KK (d + 5) 250 9 [.ref 68, .int x1, .null, .null, .null, .null, .null] [] Q)) : X (d + 5) 250 0 [.ref 68, .int x1, .null, .null, .null, .null, .null] [] (F, A, J, G) Q := by
  refine Y_al0 i_250_0 ?_
  refine Y_iconst (v := 0) i_250_1 (by decide) ?_
  refine Y_pI i_250_2 ow_250 lf_10_143 (k_68 hG) ?_
  refine Y_al0 i_250_5 ?_
  exact Y_iv0 (L0 := [.ref 68, .null, .null]) i_250_6 ow_250 lm_10_415 ((k_68 hG).trans ow_248.symm) rfl mx_248 rfl rfl hd_250 h
theorem k_250_9 {d : Nat} {F A : Nat → Nat → Int32} {J : Nat → Nat → Int64} {G : pG} {Q : pR → pM → Prop} {SL p q : Nat} {x1 r : Int32} (hG : Geo G SL p q) (h : inB r 1024 = true ∧ (((inL x1.toInt64 0 (((nI (pcn r.toNatClampNeg)) - 1).toInt64)) = true → X (d + 4) 247 0 [.ref 68, .int r, .null, .null] [] (F, A, J, G) (KK (d + 5) 250 37 [.ref 68, .int x1, .int r, .null, .null, .null, .null] [] Q)) ∧ ((inL x1.toInt64 0 (((nI (pcn r.toNatClampNeg)) - 1).toInt64)) = false → Q (.inl (some (.int 0))) ((wF F 68 3 1), A, J, G)))) : KK (d + 5) 250 9 [.ref 68, .int x1, .null, .null, .null, .null, .null] [] Q (.inl (some (.int r))) (F, A, J, G) := by
  refine KKi ?_
  refine Y_is2 i_250_9 rfl ?_
  refine Y_il1 i_250_10 ?_
  refine Y_i2l i_250_11 ?_
  refine Y_lconst (v := 0) i_250_12 (by decide) ?_
  refine Y_il2 i_250_13 ?_
  have o1 := h.1
  replace h := h.2
  refine Y_is_1 (L0 := [.int r, .null, .null]) i_250_14 ow_250 lm_10_399 rfl mx_245 rfl rfl hd_250 ?_
  refine c_245 hG o1 (KKi ?_)
  refine Y_iconst (v := 1) i_250_17 (by decide) ?_
  refine Y_isub i_250_18 ?_
  refine Y_i2l i_250_19 ?_
  refine Y_is_3 (L0 := [.long x1.toInt64, .null, .long 0, .null, .long (((nI (pcn r.toNatClampNeg)) - 1).toInt64), .null]) i_250_20 ow_250 lm_10_146 rfl mx_178 rfl rfl hd_250 ?_
  refine c_178 hG (KKi ?_)
  refine Y_bne i_250_23 (fun e2 => ?_) (fun e2 => ?_)
  · replace h := h.1 e2
    refine Y_al0 i_250_32 ?_
    refine Y_il2 i_250_33 ?_
    exact Y_iv1 (L0 := [.ref 68, .int r, .null, .null]) i_250_34 ow_250 lm_10_412 ((k_68 hG).trans ow_247.symm) rfl mx_247 rfl rfl hd_250 h
  · replace h := h.2 e2
    refine Y_al0 i_250_26 ?_
    refine Y_iconst (v := 1) i_250_27 (by decide) ?_
    refine Y_iv1 (L0 := [.ref 68, .int 1]) i_250_28 ow_250 lm_10_269 ((k_68 hG).trans ow_176.symm) rfl mx_176 rfl rfl hd_250 ?_
    refine Y_al0 i_176_0 ?_
    refine Y_il1 i_176_1 ?_
    refine Y_pI i_176_2 ow_176 lf_10_143 (k_68 hG) ?_
    refine Y_iconst (v := 0) i_176_5 (by decide) ?_
    refine Y_iret i_176_6 rt_176 (KKi ?_)
    exact Y_iret i_250_31 rt_250 h
theorem k_250_37 {d : Nat} {F A : Nat → Nat → Int32} {J : Nat → Nat → Int64} {G : pG} {Q : pR → pM → Prop} {SL p q : Nat} {x1 x2 : Int32} (hG : Geo G SL p q) (h : X (d + 5) 250 45 [.ref 68, .int x1, .int x2, .int 0, .int (-1), .int 0, .null] [] (F, A, J, G) Q) : KK (d + 5) 250 37 [.ref 68, .int x1, .int x2, .null, .null, .null, .null] [] Q (.inl none) (F, A, J, G) := by
  refine KKv ?_
  refine Y_iconst (v := 0) i_250_37 (by decide) ?_
  refine Y_is3 i_250_38 rfl ?_
  refine Y_iconst (v := (-1)) i_250_39 (by decide) ?_
  refine Y_is4 i_250_40 rfl ?_
  refine Y_iconst (v := 0) i_250_42 (by decide) ?_
  refine Y_is5 i_250_43 rfl ?_
  exact h
theorem t_250_45 {d : Nat} {F A : Nat → Nat → Int32} {J : Nat → Nat → Int64} {G : pG} {Q : pR → pM → Prop} {SL p q : Nat} {x1 x2 x3 x4 x5 : Int32} {v6 : Value} (hG : Geo G SL p q) (h : ((x1 < x5 → Q (.inl (some (.int x4))) (F, A, J, G)) ∧ (¬ x1 < x5 → X (d + 5) 250 57 [.ref 68, .int x1, .int x2, .int x3, .int (-1), .int x5, .int 0] [] (F, A, J, G) Q))) : X (d + 5) 250 45 [.ref 68, .int x1, .int x2, .int x3, .int x4, .int x5, v6] [] (F, A, J, G) Q := by
  refine Y_il5 i_250_45 ?_
  refine Y_il1 i_250_47 ?_
  refine Y_cgt i_250_48 (fun e1 => ?_) (fun e1 => ?_)
  · replace h := h.1 e1
    refine Y_il4 i_250_137 ?_
    exact Y_iret i_250_139 rt_250 h
  · replace h := h.2 e1
    refine Y_iconst (v := (-1)) i_250_51 (by decide) ?_
    refine Y_is4 i_250_52 rfl ?_
    refine Y_iconst (v := 0) i_250_54 (by decide) ?_
    refine Y_is6 i_250_55 rfl ?_
    exact h
theorem t_250_57 {d : Nat} {F A : Nat → Nat → Int32} {J : Nat → Nat → Int64} {G : pG} {Q : pR → pM → Prop} {SL p q : Nat} {x1 x2 x3 x4 x5 x6 : Int32} (hG : Geo G SL p q) (h : ((x6 < (A 72 0) → ((x4 = (-1) → (((isO (x2 &&& (x3 ^^^ (-1))) x6) = true → inB (x3 ||| ((1 : Int32) <<< (x6 &&& 31))) 1024 = true ∧ ((0 < (J 91 (x3 ||| ((1 : Int32) <<< (x6 &&& 31))).toNatClampNeg) → (((isO (F 68 39) x6) = true → inB x3 1024 = true ∧ (((nI (pcn x3.toNatClampNeg)) < (F 68 40) → X (d + 5) 250 57 [.ref 68, .int x1, .int x2, .int x3, .int x4, .int x5, .int (x6 + 1)] [] (F, A, J, G) Q) ∧ (¬ (nI (pcn x3.toNatClampNeg)) < (F 68 40) → inB x2 1024 = true ∧ inB x6 10 = true ∧ (((x3 ||| ((1 : Int32) <<< (x6 &&& 31))) = x2 → inB x6 20 = true ∧ inB (A 73 x6.toNatClampNeg) 4 = true ∧ Wrm A ∧ (((carS (A 73 x6.toNatClampNeg) (A 75 x6.toNatClampNeg) (F 68 29) 1) < (((A 89 x2.toNatClampNeg) - (A 89 (x3 ||| ((1 : Int32) <<< (x6 &&& 31))).toNatClampNeg)) + (A 82 x6.toNatClampNeg)) → X (d + 5) 250 57 [.ref 68, .int x1, .int x2, .int x3, .int x4, .int x5, .int (x6 + 1)] [] (F, A, J, G) Q) ∧ (¬ (carS (A 73 x6.toNatClampNeg) (A 75 x6.toNatClampNeg) (F 68 29) 1) < (((A 89 x2.toNatClampNeg) - (A 89 (x3 ||| ((1 : Int32) <<< (x6 &&& 31))).toNatClampNeg)) + (A 82 x6.toNatClampNeg)) → (((A 72 1) < (jabs (A 90 (x3 ||| ((1 : Int32) <<< (x6 &&& 31))).toNatClampNeg)) → X (d + 5) 250 57 [.ref 68, .int x1, .int x2, .int x3, .int x4, .int x5, .int (x6 + 1)] [] (F, A, J, G) Q) ∧ (¬ (A 72 1) < (jabs (A 90 (x3 ||| ((1 : Int32) <<< (x6 &&& 31))).toNatClampNeg)) → X (d + 5) 250 57 [.ref 68, .int x1, .int x2, .int x3, .int x6, .int x5, .int (x6 + 1)] [] (F, A, J, G) Q))))) ∧ (¬ (x3 ||| ((1 : Int32) <<< (x6 &&& 31))) = x2 → inB x6 20 = true ∧ inB (A 73 x6.toNatClampNeg) 4 = true ∧ Wrm A ∧ (((carS (A 73 x6.toNatClampNeg) (A 75 x6.toNatClampNeg) (F 68 29) 0) < (((A 89 x2.toNatClampNeg) - (A 89 (x3 ||| ((1 : Int32) <<< (x6 &&& 31))).toNatClampNeg)) + (A 82 x6.toNatClampNeg)) → X (d + 5) 250 57 [.ref 68, .int x1, .int x2, .int x3, .int x4, .int x5, .int (x6 + 1)] [] (F, A, J, G) Q) ∧ (¬ (carS (A 73 x6.toNatClampNeg) (A 75 x6.toNatClampNeg) (F 68 29) 0) < (((A 89 x2.toNatClampNeg) - (A 89 (x3 ||| ((1 : Int32) <<< (x6 &&& 31))).toNatClampNeg)) + (A 82 x6.toNatClampNeg)) → (((A 72 1) < (jabs (A 90 (x3 ||| ((1 : Int32) <<< (x6 &&& 31))).toNatClampNeg)) → X (d + 5) 250 57 [.ref 68, .int x1, .int x2, .int x3, .int x4, .int x5, .int (x6 + 1)] [] (F, A, J, G) Q) ∧ (¬ (A 72 1) < (jabs (A 90 (x3 ||| ((1 : Int32) <<< (x6 &&& 31))).toNatClampNeg)) → X (d + 5) 250 57 [.ref 68, .int x1, .int x2, .int x3, .int x6, .int x5, .int (x6 + 1)] [] (F, A, J, G) Q))))))))) ∧ ((isO (F 68 39) x6) = false → inB x2 1024 = true ∧ inB x6 10 = true ∧ (((x3 ||| ((1 : Int32) <<< (x6 &&& 31))) = x2 → inB x6 20 = true ∧ inB (A 73 x6.toNatClampNeg) 4 = true ∧ Wrm A ∧ (((carS (A 73 x6.toNatClampNeg) (A 75 x6.toNatClampNeg) (F 68 29) 1) < (((A 89 x2.toNatClampNeg) - (A 89 (x3 ||| ((1 : Int32) <<< (x6 &&& 31))).toNatClampNeg)) + (A 82 x6.toNatClampNeg)) → X (d + 5) 250 57 [.ref 68, .int x1, .int x2, .int x3, .int x4, .int x5, .int (x6 + 1)] [] (F, A, J, G) Q) ∧ (¬ (carS (A 73 x6.toNatClampNeg) (A 75 x6.toNatClampNeg) (F 68 29) 1) < (((A 89 x2.toNatClampNeg) - (A 89 (x3 ||| ((1 : Int32) <<< (x6 &&& 31))).toNatClampNeg)) + (A 82 x6.toNatClampNeg)) → (((A 72 1) < (jabs (A 90 (x3 ||| ((1 : Int32) <<< (x6 &&& 31))).toNatClampNeg)) → X (d + 5) 250 57 [.ref 68, .int x1, .int x2, .int x3, .int x4, .int x5, .int (x6 + 1)] [] (F, A, J, G) Q) ∧ (¬ (A 72 1) < (jabs (A 90 (x3 ||| ((1 : Int32) <<< (x6 &&& 31))).toNatClampNeg)) → X (d + 5) 250 57 [.ref 68, .int x1, .int x2, .int x3, .int x6, .int x5, .int (x6 + 1)] [] (F, A, J, G) Q))))) ∧ (¬ (x3 ||| ((1 : Int32) <<< (x6 &&& 31))) = x2 → inB x6 20 = true ∧ inB (A 73 x6.toNatClampNeg) 4 = true ∧ Wrm A ∧ (((carS (A 73 x6.toNatClampNeg) (A 75 x6.toNatClampNeg) (F 68 29) 0) < (((A 89 x2.toNatClampNeg) - (A 89 (x3 ||| ((1 : Int32) <<< (x6 &&& 31))).toNatClampNeg)) + (A 82 x6.toNatClampNeg)) → X (d + 5) 250 57 [.ref 68, .int x1, .int x2, .int x3, .int x4, .int x5, .int (x6 + 1)] [] (F, A, J, G) Q) ∧ (¬ (carS (A 73 x6.toNatClampNeg) (A 75 x6.toNatClampNeg) (F 68 29) 0) < (((A 89 x2.toNatClampNeg) - (A 89 (x3 ||| ((1 : Int32) <<< (x6 &&& 31))).toNatClampNeg)) + (A 82 x6.toNatClampNeg)) → (((A 72 1) < (jabs (A 90 (x3 ||| ((1 : Int32) <<< (x6 &&& 31))).toNatClampNeg)) → X (d + 5) 250 57 [.ref 68, .int x1, .int x2, .int x3, .int x4, .int x5, .int (x6 + 1)] [] (F, A, J, G) Q) ∧ (¬ (A 72 1) < (jabs (A 90 (x3 ||| ((1 : Int32) <<< (x6 &&& 31))).toNatClampNeg)) → X (d + 5) 250 57 [.ref 68, .int x1, .int x2, .int x3, .int x6, .int x5, .int (x6 + 1)] [] (F, A, J, G) Q))))))))) ∧ (¬ 0 < (J 91 (x3 ||| ((1 : Int32) <<< (x6 &&& 31))).toNatClampNeg) → X (d + 5) 250 57 [.ref 68, .int x1, .int x2, .int x3, .int x4, .int x5, .int (x6 + 1)] [] (F, A, J, G) Q))) ∧ ((isO (x2 &&& (x3 ^^^ (-1))) x6) = false → X (d + 5) 250 57 [.ref 68, .int x1, .int x2, .int x3, .int x4, .int x5, .int (x6 + 1)] [] (F, A, J, G) Q))) ∧ (¬ x4 = (-1) → X (d + 5) 250 45 [.ref 68, .int x1, .int x2, .int (x3 ||| ((1 : Int32) <<< (x4 &&& 31))), .int x4, .int (x5 + 1), .int x6] [] (F, A, J, G) Q))) ∧ (¬ x6 < (A 72 0) → X (d + 5) 250 45 [.ref 68, .int x1, .int x2, .int (x3 ||| ((1 : Int32) <<< (x4 &&& 31))), .int x4, .int (x5 + 1), .int x6] [] (F, A, J, G) Q))) : X (d + 5) 250 57 [.ref 68, .int x1, .int x2, .int x3, .int x4, .int x5, .int x6] [] (F, A, J, G) Q := by
  refine Y_il6 i_250_57 ?_
  refine Y_al0 i_250_59 ?_
  refine Y_gR i_250_60 ow_250 lf_10_42 (k_68 hG) (r_68_4 hG) ?_
  refine Y_iconst (v := 0) i_250_63 (by decide) ?_
  refine Y_iaload (k := 0) (v := (A 72 0)) i_250_64 (k_72 hG) (l_72 hG) (by decide) (by decide) rfl ?_
  refine Y_cge i_250_65 (fun e1 => ?_) (fun e1 => ?_)
  · replace h := h.1 e1
    refine Y_il4 i_250_68 ?_
    refine Y_iconst (v := (-1)) i_250_70 (by decide) ?_
    refine Y_cne i_250_71 (fun e2 => ?_) (fun e2 => ?_)
    · replace h := h.1 e2
      refine Y_il2 i_250_74 ?_
      refine Y_il3 i_250_75 ?_
      refine Y_iconst (v := (-1)) i_250_76 (by decide) ?_
      refine Y_ixor i_250_77 ?_
      refine Y_iand i_250_78 ?_
      refine Y_il6 i_250_79 ?_
      refine Y_is_2 (L0 := [.int (x2 &&& (x3 ^^^ (-1))), .int x6]) i_250_81 ow_250 lm_10_395 rfl mx_179 rfl rfl hd_250 ?_
      refine c_179 hG (KKi ?_)
      refine Y_beq i_250_84 (fun e3 => ?_) (fun e3 => ?_)
      · replace h := h.1 e3
        refine Y_al0 i_250_87 ?_
        refine Y_gR i_250_88 ow_250 lf_10_103 (k_68 hG) (r_68_38 hG) ?_
        refine Y_il3 i_250_91 ?_
        refine Y_iconst (v := 1) i_250_92 (by decide) ?_
        refine Y_il6 i_250_93 ?_
        refine Y_ishl i_250_95 ?_
        refine Y_ior i_250_96 ?_
        have o4 := h.1
        replace h := h.2
        refine Y_laload (k := (x3 ||| ((1 : Int32) <<< (x6 &&& 31))).toNatClampNeg) (v := (J 91 (x3 ||| ((1 : Int32) <<< (x6 &&& 31))).toNatClampNeg)) i_250_97 (k_91 hG) (l_91 hG) o4 rfl rfl ?_
        refine Y_lconst (v := 0) i_250_98 (by decide) ?_
        refine Y_lcmp i_250_99 ?_
        refine Y_wle i_250_100 (fun e5 => ?_) (fun e5 => ?_)
        · replace h := h.1 e5
          refine Y_al0 i_250_103 ?_
          refine Y_il3 i_250_104 ?_
          refine Y_il6 i_250_105 ?_
          refine Y_il2 i_250_107 ?_
          refine Y_iv3 (L0 := [.ref 68, .int x3, .int x6, .int x2, .null]) i_250_108 ow_250 lm_10_405 ((k_68 hG).trans ow_246.symm) rfl mx_246 rfl rfl hd_250 ?_
          refine Y_il1 i_246_0 ?_
          refine Y_iconst (v := 1) i_246_1 (by decide) ?_
          refine Y_il2 i_246_2 ?_
          refine Y_ishl i_246_3 ?_
          refine Y_ior i_246_4 ?_
          refine Y_is4 i_246_5 rfl ?_
          refine Y_al0 i_246_7 ?_
          refine Y_gI (v := (F 68 39)) i_246_8 ow_246 lf_10_392 (by decide) (k_68 hG) rfl ?_
          refine Y_il2 i_246_11 ?_
          refine Y_is_2 (L0 := [.int (F 68 39), .int x6]) i_246_12 ow_246 lm_10_395 rfl mx_179 rfl rfl hd_246 ?_
          refine c_179 hG (KKi ?_)
          refine Y_beq i_246_15 (fun e6 => ?_) (fun e6 => ?_)
          · replace h := h.1 e6
            refine Y_il1 i_246_18 ?_
            have o7 := h.1
            replace h := h.2
            refine Y_is_1 (L0 := [.int x3, .null, .null]) i_246_19 ow_246 lm_10_399 rfl mx_245 rfl rfl hd_246 ?_
            refine c_245 hG o7 (KKi ?_)
            refine Y_al0 i_246_22 ?_
            refine Y_gI (v := (F 68 40)) i_246_23 ow_246 lf_10_402 (by decide) (k_68 hG) rfl ?_
            refine Y_cge i_246_26 (fun e8 => ?_) (fun e8 => ?_)
            · replace h := h.1 e8
              refine Y_iconst (v := 0) i_246_29 (by decide) ?_
              refine Y_bret i_246_30 rt_246 (by decide) (KKi ?_)
              refine Y_zT i_250_111 (by decide) ?_
              refine Y_ii6 (v := 1) i_250_118 (by decide) rfl ?_
              refine Y_goto i_250_121 ?_
              exact h
            · replace h := h.2 e8
              refine Y_al0 i_246_31 ?_
              refine Y_gR i_246_32 ow_246 lf_10_97 (k_68 hG) (r_68_36 hG) ?_
              refine Y_il3 i_246_35 ?_
              have o9 := h.1
              replace h := h.2
              refine Y_iaload (k := x2.toNatClampNeg) (v := (A 89 x2.toNatClampNeg)) i_246_36 (k_89 hG) (l_89 hG) o9 rfl rfl ?_
              refine Y_al0 i_246_37 ?_
              refine Y_gR i_246_38 ow_246 lf_10_97 (k_68 hG) (r_68_36 hG) ?_
              refine Y_il4 i_246_41 ?_
              refine Y_iaload (k := (x3 ||| ((1 : Int32) <<< (x6 &&& 31))).toNatClampNeg) (v := (A 89 (x3 ||| ((1 : Int32) <<< (x6 &&& 31))).toNatClampNeg)) i_246_43 (k_89 hG) (l_89 hG) o4 rfl rfl ?_
              refine Y_isub i_246_44 ?_
              refine Y_al0 i_246_45 ?_
              refine Y_gR i_246_46 ow_246 lf_10_73 (k_68 hG) (r_68_24 hG) ?_
              refine Y_il2 i_246_49 ?_
              have o10 := h.1
              replace h := h.2
              refine Y_iaload (k := x6.toNatClampNeg) (v := (A 82 x6.toNatClampNeg)) i_246_50 (k_82 hG) (l_82 hG) o10 rfl rfl ?_
              refine Y_iadd i_246_51 ?_
              refine Y_al0 i_246_52 ?_
              refine Y_il2 i_246_53 ?_
              refine Y_il4 i_246_54 ?_
              refine Y_il3 i_246_56 ?_
              refine Y_cne i_246_57 (fun e11 => ?_) (fun e11 => ?_)
              · replace h := h.1 e11
                refine Y_iconst (v := 1) i_246_60 (by decide) ?_
                refine Y_goto i_246_61 ?_
                have o12 := h.1
                replace h := h.2
                have o13 := h.1
                replace h := h.2
                have o14 := h.1
                replace h := h.2
                refine Y_iv2 (L0 := [.ref 68, .int x6, .int 1, .null]) i_246_65 ow_246 lm_10_301 ((k_68 hG).trans ow_211.symm) rfl mx_211 rfl rfl hd_246 ?_
                refine c_211 hG o12 o13 o14 (KKi ?_)
                refine Y_cgt i_246_68 (fun e15 => ?_) (fun e15 => ?_)
                · replace h := h.1 e15
                  refine Y_iconst (v := 0) i_246_94 (by decide) ?_
                  refine Y_bret i_246_95 rt_246 (by decide) (KKi ?_)
                  refine Y_zT i_250_111 (by decide) ?_
                  refine Y_ii6 (v := 1) i_250_118 (by decide) rfl ?_
                  refine Y_goto i_250_121 ?_
                  exact h
                · replace h := h.2 e15
                  refine Y_al0 i_246_71 ?_
                  refine Y_gR i_246_72 ow_246 lf_10_100 (k_68 hG) (r_68_37 hG) ?_
                  refine Y_il4 i_246_75 ?_
                  refine Y_iaload (k := (x3 ||| ((1 : Int32) <<< (x6 &&& 31))).toNatClampNeg) (v := (A 90 (x3 ||| ((1 : Int32) <<< (x6 &&& 31))).toNatClampNeg)) i_246_77 (k_90 hG) (l_90 hG) o4 rfl rfl ?_
                  refine Y_abs i_246_78 ow_246 lm_10_317 rfl ?_
                  refine Y_al0 i_246_81 ?_
                  refine Y_gR i_246_82 ow_246 lf_10_42 (k_68 hG) (r_68_4 hG) ?_
                  refine Y_iconst (v := 1) i_246_85 (by decide) ?_
                  refine Y_iaload (k := 1) (v := (A 72 1)) i_246_86 (k_72 hG) (l_72 hG) (by decide) (by decide) rfl ?_
                  refine Y_cgt i_246_87 (fun e16 => ?_) (fun e16 => ?_)
                  · replace h := h.1 e16
                    refine Y_iconst (v := 0) i_246_94 (by decide) ?_
                    refine Y_bret i_246_95 rt_246 (by decide) (KKi ?_)
                    refine Y_zT i_250_111 (by decide) ?_
                    refine Y_ii6 (v := 1) i_250_118 (by decide) rfl ?_
                    refine Y_goto i_250_121 ?_
                    exact h
                  · replace h := h.2 e16
                    refine Y_iconst (v := 1) i_246_90 (by decide) ?_
                    refine Y_goto i_246_91 ?_
                    refine Y_bret i_246_95 rt_246 (by decide) (KKi ?_)
                    refine Y_zF i_250_111 (by decide) ?_
                    refine Y_il6 i_250_114 ?_
                    refine Y_is4 i_250_116 rfl ?_
                    refine Y_ii6 (v := 1) i_250_118 (by decide) rfl ?_
                    refine Y_goto i_250_121 ?_
                    exact h
              · replace h := h.2 e11
                refine Y_iconst (v := 0) i_246_64 (by decide) ?_
                have o17 := h.1
                replace h := h.2
                have o18 := h.1
                replace h := h.2
                have o19 := h.1
                replace h := h.2
                refine Y_iv2 (L0 := [.ref 68, .int x6, .int 0, .null]) i_246_65 ow_246 lm_10_301 ((k_68 hG).trans ow_211.symm) rfl mx_211 rfl rfl hd_246 ?_
                refine c_211 hG o17 o18 o19 (KKi ?_)
                refine Y_cgt i_246_68 (fun e20 => ?_) (fun e20 => ?_)
                · replace h := h.1 e20
                  refine Y_iconst (v := 0) i_246_94 (by decide) ?_
                  refine Y_bret i_246_95 rt_246 (by decide) (KKi ?_)
                  refine Y_zT i_250_111 (by decide) ?_
                  refine Y_ii6 (v := 1) i_250_118 (by decide) rfl ?_
                  refine Y_goto i_250_121 ?_
                  exact h
                · replace h := h.2 e20
                  refine Y_al0 i_246_71 ?_
                  refine Y_gR i_246_72 ow_246 lf_10_100 (k_68 hG) (r_68_37 hG) ?_
                  refine Y_il4 i_246_75 ?_
                  refine Y_iaload (k := (x3 ||| ((1 : Int32) <<< (x6 &&& 31))).toNatClampNeg) (v := (A 90 (x3 ||| ((1 : Int32) <<< (x6 &&& 31))).toNatClampNeg)) i_246_77 (k_90 hG) (l_90 hG) o4 rfl rfl ?_
                  refine Y_abs i_246_78 ow_246 lm_10_317 rfl ?_
                  refine Y_al0 i_246_81 ?_
                  refine Y_gR i_246_82 ow_246 lf_10_42 (k_68 hG) (r_68_4 hG) ?_
                  refine Y_iconst (v := 1) i_246_85 (by decide) ?_
                  refine Y_iaload (k := 1) (v := (A 72 1)) i_246_86 (k_72 hG) (l_72 hG) (by decide) (by decide) rfl ?_
                  refine Y_cgt i_246_87 (fun e21 => ?_) (fun e21 => ?_)
                  · replace h := h.1 e21
                    refine Y_iconst (v := 0) i_246_94 (by decide) ?_
                    refine Y_bret i_246_95 rt_246 (by decide) (KKi ?_)
                    refine Y_zT i_250_111 (by decide) ?_
                    refine Y_ii6 (v := 1) i_250_118 (by decide) rfl ?_
                    refine Y_goto i_250_121 ?_
                    exact h
                  · replace h := h.2 e21
                    refine Y_iconst (v := 1) i_246_90 (by decide) ?_
                    refine Y_goto i_246_91 ?_
                    refine Y_bret i_246_95 rt_246 (by decide) (KKi ?_)
                    refine Y_zF i_250_111 (by decide) ?_
                    refine Y_il6 i_250_114 ?_
                    refine Y_is4 i_250_116 rfl ?_
                    refine Y_ii6 (v := 1) i_250_118 (by decide) rfl ?_
                    refine Y_goto i_250_121 ?_
                    exact h
          · replace h := h.2 e6
            refine Y_al0 i_246_31 ?_
            refine Y_gR i_246_32 ow_246 lf_10_97 (k_68 hG) (r_68_36 hG) ?_
            refine Y_il3 i_246_35 ?_
            have o22 := h.1
            replace h := h.2
            refine Y_iaload (k := x2.toNatClampNeg) (v := (A 89 x2.toNatClampNeg)) i_246_36 (k_89 hG) (l_89 hG) o22 rfl rfl ?_
            refine Y_al0 i_246_37 ?_
            refine Y_gR i_246_38 ow_246 lf_10_97 (k_68 hG) (r_68_36 hG) ?_
            refine Y_il4 i_246_41 ?_
            refine Y_iaload (k := (x3 ||| ((1 : Int32) <<< (x6 &&& 31))).toNatClampNeg) (v := (A 89 (x3 ||| ((1 : Int32) <<< (x6 &&& 31))).toNatClampNeg)) i_246_43 (k_89 hG) (l_89 hG) o4 rfl rfl ?_
            refine Y_isub i_246_44 ?_
            refine Y_al0 i_246_45 ?_
            refine Y_gR i_246_46 ow_246 lf_10_73 (k_68 hG) (r_68_24 hG) ?_
            refine Y_il2 i_246_49 ?_
            have o23 := h.1
            replace h := h.2
            refine Y_iaload (k := x6.toNatClampNeg) (v := (A 82 x6.toNatClampNeg)) i_246_50 (k_82 hG) (l_82 hG) o23 rfl rfl ?_
            refine Y_iadd i_246_51 ?_
            refine Y_al0 i_246_52 ?_
            refine Y_il2 i_246_53 ?_
            refine Y_il4 i_246_54 ?_
            refine Y_il3 i_246_56 ?_
            refine Y_cne i_246_57 (fun e24 => ?_) (fun e24 => ?_)
            · replace h := h.1 e24
              refine Y_iconst (v := 1) i_246_60 (by decide) ?_
              refine Y_goto i_246_61 ?_
              have o25 := h.1
              replace h := h.2
              have o26 := h.1
              replace h := h.2
              have o27 := h.1
              replace h := h.2
              refine Y_iv2 (L0 := [.ref 68, .int x6, .int 1, .null]) i_246_65 ow_246 lm_10_301 ((k_68 hG).trans ow_211.symm) rfl mx_211 rfl rfl hd_246 ?_
              refine c_211 hG o25 o26 o27 (KKi ?_)
              refine Y_cgt i_246_68 (fun e28 => ?_) (fun e28 => ?_)
              · replace h := h.1 e28
                refine Y_iconst (v := 0) i_246_94 (by decide) ?_
                refine Y_bret i_246_95 rt_246 (by decide) (KKi ?_)
                refine Y_zT i_250_111 (by decide) ?_
                refine Y_ii6 (v := 1) i_250_118 (by decide) rfl ?_
                refine Y_goto i_250_121 ?_
                exact h
              · replace h := h.2 e28
                refine Y_al0 i_246_71 ?_
                refine Y_gR i_246_72 ow_246 lf_10_100 (k_68 hG) (r_68_37 hG) ?_
                refine Y_il4 i_246_75 ?_
                refine Y_iaload (k := (x3 ||| ((1 : Int32) <<< (x6 &&& 31))).toNatClampNeg) (v := (A 90 (x3 ||| ((1 : Int32) <<< (x6 &&& 31))).toNatClampNeg)) i_246_77 (k_90 hG) (l_90 hG) o4 rfl rfl ?_
                refine Y_abs i_246_78 ow_246 lm_10_317 rfl ?_
                refine Y_al0 i_246_81 ?_
                refine Y_gR i_246_82 ow_246 lf_10_42 (k_68 hG) (r_68_4 hG) ?_
                refine Y_iconst (v := 1) i_246_85 (by decide) ?_
                refine Y_iaload (k := 1) (v := (A 72 1)) i_246_86 (k_72 hG) (l_72 hG) (by decide) (by decide) rfl ?_
                refine Y_cgt i_246_87 (fun e29 => ?_) (fun e29 => ?_)
                · replace h := h.1 e29
                  refine Y_iconst (v := 0) i_246_94 (by decide) ?_
                  refine Y_bret i_246_95 rt_246 (by decide) (KKi ?_)
                  refine Y_zT i_250_111 (by decide) ?_
                  refine Y_ii6 (v := 1) i_250_118 (by decide) rfl ?_
                  refine Y_goto i_250_121 ?_
                  exact h
                · replace h := h.2 e29
                  refine Y_iconst (v := 1) i_246_90 (by decide) ?_
                  refine Y_goto i_246_91 ?_
                  refine Y_bret i_246_95 rt_246 (by decide) (KKi ?_)
                  refine Y_zF i_250_111 (by decide) ?_
                  refine Y_il6 i_250_114 ?_
                  refine Y_is4 i_250_116 rfl ?_
                  refine Y_ii6 (v := 1) i_250_118 (by decide) rfl ?_
                  refine Y_goto i_250_121 ?_
                  exact h
            · replace h := h.2 e24
              refine Y_iconst (v := 0) i_246_64 (by decide) ?_
              have o30 := h.1
              replace h := h.2
              have o31 := h.1
              replace h := h.2
              have o32 := h.1
              replace h := h.2
              refine Y_iv2 (L0 := [.ref 68, .int x6, .int 0, .null]) i_246_65 ow_246 lm_10_301 ((k_68 hG).trans ow_211.symm) rfl mx_211 rfl rfl hd_246 ?_
              refine c_211 hG o30 o31 o32 (KKi ?_)
              refine Y_cgt i_246_68 (fun e33 => ?_) (fun e33 => ?_)
              · replace h := h.1 e33
                refine Y_iconst (v := 0) i_246_94 (by decide) ?_
                refine Y_bret i_246_95 rt_246 (by decide) (KKi ?_)
                refine Y_zT i_250_111 (by decide) ?_
                refine Y_ii6 (v := 1) i_250_118 (by decide) rfl ?_
                refine Y_goto i_250_121 ?_
                exact h
              · replace h := h.2 e33
                refine Y_al0 i_246_71 ?_
                refine Y_gR i_246_72 ow_246 lf_10_100 (k_68 hG) (r_68_37 hG) ?_
                refine Y_il4 i_246_75 ?_
                refine Y_iaload (k := (x3 ||| ((1 : Int32) <<< (x6 &&& 31))).toNatClampNeg) (v := (A 90 (x3 ||| ((1 : Int32) <<< (x6 &&& 31))).toNatClampNeg)) i_246_77 (k_90 hG) (l_90 hG) o4 rfl rfl ?_
                refine Y_abs i_246_78 ow_246 lm_10_317 rfl ?_
                refine Y_al0 i_246_81 ?_
                refine Y_gR i_246_82 ow_246 lf_10_42 (k_68 hG) (r_68_4 hG) ?_
                refine Y_iconst (v := 1) i_246_85 (by decide) ?_
                refine Y_iaload (k := 1) (v := (A 72 1)) i_246_86 (k_72 hG) (l_72 hG) (by decide) (by decide) rfl ?_
                refine Y_cgt i_246_87 (fun e34 => ?_) (fun e34 => ?_)
                · replace h := h.1 e34
                  refine Y_iconst (v := 0) i_246_94 (by decide) ?_
                  refine Y_bret i_246_95 rt_246 (by decide) (KKi ?_)
                  refine Y_zT i_250_111 (by decide) ?_
                  refine Y_ii6 (v := 1) i_250_118 (by decide) rfl ?_
                  refine Y_goto i_250_121 ?_
                  exact h
                · replace h := h.2 e34
                  refine Y_iconst (v := 1) i_246_90 (by decide) ?_
                  refine Y_goto i_246_91 ?_
                  refine Y_bret i_246_95 rt_246 (by decide) (KKi ?_)
                  refine Y_zF i_250_111 (by decide) ?_
                  refine Y_il6 i_250_114 ?_
                  refine Y_is4 i_250_116 rfl ?_
                  refine Y_ii6 (v := 1) i_250_118 (by decide) rfl ?_
                  refine Y_goto i_250_121 ?_
                  exact h
        · replace h := h.2 e5
          refine Y_ii6 (v := 1) i_250_118 (by decide) rfl ?_
          refine Y_goto i_250_121 ?_
          exact h
      · replace h := h.2 e3
        refine Y_ii6 (v := 1) i_250_118 (by decide) rfl ?_
        refine Y_goto i_250_121 ?_
        exact h
    · replace h := h.2 e2
      refine Y_il3 i_250_124 ?_
      refine Y_iconst (v := 1) i_250_125 (by decide) ?_
      refine Y_il4 i_250_126 ?_
      refine Y_ishl i_250_128 ?_
      refine Y_ior i_250_129 ?_
      refine Y_is3 i_250_130 rfl ?_
      refine Y_ii5 (v := 1) i_250_131 (by decide) rfl ?_
      refine Y_goto i_250_134 ?_
      exact h
  · replace h := h.2 e1
    refine Y_il3 i_250_124 ?_
    refine Y_iconst (v := 1) i_250_125 (by decide) ?_
    refine Y_il4 i_250_126 ?_
    refine Y_ishl i_250_128 ?_
    refine Y_ior i_250_129 ?_
    refine Y_is3 i_250_130 rfl ?_
    refine Y_ii5 (v := 1) i_250_131 (by decide) rfl ?_
    refine Y_goto i_250_134 ?_
    exact h
/- 251 Model.ordersOf(I)J -/
theorem t_251_0 {d : Nat} {F A : Nat → Nat → Int32} {J : Nat → Nat → Int64} {G : pG} {Q : pR → pM → Prop} {SL p q : Nat} {x1 : Int32} (hG : Geo G SL p q) (h : X (d + 3) 244 0 [.ref 68, .null, .null] [] (F, A, J, G) (KK (d + 4) 251 4 [.ref 68, .int x1] [] Q)) : X (d + 4) 251 0 [.ref 68, .int x1] [] (F, A, J, G) Q := by
  refine Y_al0 i_251_0 ?_
  exact Y_iv0 (L0 := [.ref 68, .null, .null]) i_251_1 ow_251 lm_10_409 ((k_68 hG).trans ow_244.symm) rfl mx_244 rfl rfl hd_251 h
theorem k_251_4 {d : Nat} {F A : Nat → Nat → Int32} {J : Nat → Nat → Int64} {G : pG} {Q : pR → pM → Prop} {SL p q : Nat} {x1 : Int32} (hG : Geo G SL p q) (h : ((x1 = 0 → Q (.inl (some (.long 1))) (F, A, J, G)) ∧ (¬ x1 = 0 → X (d + 3) 247 0 [.ref 68, .int x1, .null, .null] [] (F, A, J, G) (KK (d + 4) 251 15 [.ref 68, .int x1] [] Q)))) : KK (d + 4) 251 4 [.ref 68, .int x1] [] Q (.inl none) (F, A, J, G) := by
  refine KKv ?_
  refine Y_il1 i_251_4 ?_
  refine Y_zne i_251_5 (fun e1 => ?_) (fun e1 => ?_)
  · replace h := h.1 e1
    refine Y_lconst (v := 1) i_251_8 (by decide) ?_
    exact Y_lret i_251_9 rt_251 h
  · replace h := h.2 e1
    refine Y_al0 i_251_10 ?_
    refine Y_il1 i_251_11 ?_
    exact Y_iv1 (L0 := [.ref 68, .int x1, .null, .null]) i_251_12 ow_251 lm_10_412 ((k_68 hG).trans ow_247.symm) rfl mx_247 rfl rfl hd_251 h
theorem k_251_15 {d : Nat} {F A : Nat → Nat → Int32} {J : Nat → Nat → Int64} {G : pG} {Q : pR → pM → Prop} {SL p q : Nat} {x1 : Int32} (hG : Geo G SL p q) (h : Q (.inl (some (.long (J 91 0)))) (F, A, J, G)) : KK (d + 4) 251 15 [.ref 68, .int x1] [] Q (.inl none) (F, A, J, G) := by
  refine KKv ?_
  refine Y_al0 i_251_15 ?_
  refine Y_gR i_251_16 ow_251 lf_10_103 (k_68 hG) (r_68_38 hG) ?_
  refine Y_iconst (v := 0) i_251_19 (by decide) ?_
  refine Y_laload (k := 0) (v := (J 91 0)) i_251_20 (k_91 hG) (l_91 hG) (by decide) (by decide) rfl ?_
  exact Y_lret i_251_21 rt_251 h
/- 252 Model.orders()J -/
theorem t_252_0 {d : Nat} {F A : Nat → Nat → Int32} {J : Nat → Nat → Int64} {G : pG} {Q : pR → pM → Prop} {SL p q : Nat} (hG : Geo G SL p q) (h : hB ((wF (wF F 68 3 0) 68 39 0) 68 28) = true ∧ (X (d + 4) 251 0 [.ref 68, .int (bitsI (A 81) ((wF (wF F 68 3 0) 68 39 0) 68 28))] [] ((wF (wF F 68 3 0) 68 39 0), A, J, G) (KK (d + 5) 252 18 [.ref 68] [] Q))) : X (d + 5) 252 0 [.ref 68] [] (F, A, J, G) Q := by
  refine Y_al0 i_252_0 ?_
  refine Y_iconst (v := 0) i_252_1 (by decide) ?_
  refine Y_pI i_252_2 ow_252 lf_10_143 (k_68 hG) ?_
  refine Y_al0 i_252_5 ?_
  refine Y_iconst (v := 0) i_252_6 (by decide) ?_
  refine Y_pI i_252_7 ow_252 lf_10_392 (k_68 hG) ?_
  refine Y_al0 i_252_10 ?_
  refine Y_al0 i_252_11 ?_
  have o1 := h.1
  replace h := h.2
  refine Y_iv0 (L0 := [.ref 68, .null, .null]) i_252_12 ow_252 lm_10_339 ((k_68 hG).trans ow_221.symm) rfl mx_221 rfl rfl hd_252 ?_
  refine c_221 hG o1 (KKi ?_)
  exact Y_iv1 (L0 := [.ref 68, .int (bitsI (A 81) ((wF (wF F 68 3 0) 68 39 0) 68 28))]) i_252_15 ow_252 lm_10_418 ((k_68 hG).trans ow_251.symm) rfl mx_251 rfl rfl hd_252 h
theorem k_252_18 {d : Nat} {F A : Nat → Nat → Int32} {J : Nat → Nat → Int64} {G : pG} {Q : pR → pM → Prop} {SL p q : Nat} {r : Int64} (hG : Geo G SL p q) (h : Q (.inl (some (.long r))) (F, A, J, G)) : KK (d + 5) 252 18 [.ref 68] [] Q (.inl (some (.long r))) (F, A, J, G) := by
  refine KKl ?_
  exact Y_lret i_252_18 rt_252 h
/- 253 Model.lifted(II)J -/
theorem t_253_0 {d : Nat} {F A : Nat → Nat → Int32} {J : Nat → Nat → Int64} {G : pG} {Q : pR → pM → Prop} {SL p q : Nat} {x1 x2 : Int32} (hG : Geo G SL p q) (h : (((inL x1.toInt64 0 ((((1 : Int32) <<< ((A 72 0) &&& 31)) - 1).toInt64)) = true → (((inL x2.toInt64 0 10) = true → hB ((wF (wF (wF F 68 3 0) 68 39 x1) 68 40 x2) 68 28) = true ∧ (X (d + 4) 251 0 [.ref 68, .int (bitsI (A 81) ((wF (wF (wF F 68 3 0) 68 39 x1) 68 40 x2) 68 28))] [] ((wF (wF (wF F 68 3 0) 68 39 x1) 68 40 x2), A, J, G) (KK (d + 5) 253 62 [.ref 68, .int x1, .int x2, .null, .null] [] Q))) ∧ ((inL x2.toInt64 0 10) = false → Q (.inl (some (.long ((0 : Int32).toInt64)))) ((wF (wF F 68 3 0) 68 3 1), A, J, G)))) ∧ ((inL x1.toInt64 0 ((((1 : Int32) <<< ((A 72 0) &&& 31)) - 1).toInt64)) = false → Q (.inl (some (.long ((0 : Int32).toInt64)))) ((wF (wF F 68 3 0) 68 3 1), A, J, G)))) : X (d + 5) 253 0 [.ref 68, .int x1, .int x2, .null, .null] [] (F, A, J, G) Q := by
  refine Y_al0 i_253_0 ?_
  refine Y_iconst (v := 0) i_253_1 (by decide) ?_
  refine Y_pI i_253_2 ow_253 lf_10_143 (k_68 hG) ?_
  refine Y_il1 i_253_5 ?_
  refine Y_i2l i_253_6 ?_
  refine Y_lconst (v := 0) i_253_7 (by decide) ?_
  refine Y_iconst (v := 1) i_253_8 (by decide) ?_
  refine Y_al0 i_253_9 ?_
  refine Y_gR i_253_10 ow_253 lf_10_42 (k_68 hG) (r_68_4 hG) ?_
  refine Y_iconst (v := 0) i_253_13 (by decide) ?_
  refine Y_iaload (k := 0) (v := (A 72 0)) i_253_14 (k_72 hG) (l_72 hG) (by decide) (by decide) rfl ?_
  refine Y_ishl i_253_15 ?_
  refine Y_iconst (v := 1) i_253_16 (by decide) ?_
  refine Y_isub i_253_17 ?_
  refine Y_i2l i_253_18 ?_
  refine Y_is_3 (L0 := [.long x1.toInt64, .null, .long 0, .null, .long ((((1 : Int32) <<< ((A 72 0) &&& 31)) - 1).toInt64), .null]) i_253_19 ow_253 lm_10_146 rfl mx_178 rfl rfl hd_253 ?_
  refine c_178 hG (KKi ?_)
  refine Y_beq i_253_22 (fun e1 => ?_) (fun e1 => ?_)
  · replace h := h.1 e1
    refine Y_il2 i_253_25 ?_
    refine Y_i2l i_253_26 ?_
    refine Y_lconst (v := 0) i_253_27 (by decide) ?_
    refine Y_ldcL i_253_28 ow_253 lj_10_422 ?_
    refine Y_is_3 (L0 := [.long x2.toInt64, .null, .long 0, .null, .long 10, .null]) i_253_31 ow_253 lm_10_146 rfl mx_178 rfl rfl hd_253 ?_
    refine c_178 hG (KKi ?_)
    refine Y_bne i_253_34 (fun e2 => ?_) (fun e2 => ?_)
    · replace h := h.1 e2
      refine Y_al0 i_253_44 ?_
      refine Y_il1 i_253_45 ?_
      refine Y_pI i_253_46 ow_253 lf_10_392 (k_68 hG) ?_
      refine Y_al0 i_253_49 ?_
      refine Y_il2 i_253_50 ?_
      refine Y_pI i_253_51 ow_253 lf_10_402 (k_68 hG) ?_
      refine Y_al0 i_253_54 ?_
      refine Y_al0 i_253_55 ?_
      have o3 := h.1
      replace h := h.2
      refine Y_iv0 (L0 := [.ref 68, .null, .null]) i_253_56 ow_253 lm_10_339 ((k_68 hG).trans ow_221.symm) rfl mx_221 rfl rfl hd_253 ?_
      refine c_221 hG o3 (KKi ?_)
      exact Y_iv1 (L0 := [.ref 68, .int (bitsI (A 81) ((wF (wF (wF F 68 3 0) 68 39 x1) 68 40 x2) 68 28))]) i_253_59 ow_253 lm_10_418 ((k_68 hG).trans ow_251.symm) rfl mx_251 rfl rfl hd_253 h
    · replace h := h.2 e2
      refine Y_al0 i_253_37 ?_
      refine Y_iconst (v := 1) i_253_38 (by decide) ?_
      refine Y_iv1 (L0 := [.ref 68, .int 1]) i_253_39 ow_253 lm_10_269 ((k_68 hG).trans ow_176.symm) rfl mx_176 rfl rfl hd_253 ?_
      refine Y_al0 i_176_0 ?_
      refine Y_il1 i_176_1 ?_
      refine Y_pI i_176_2 ow_176 lf_10_143 (k_68 hG) ?_
      refine Y_iconst (v := 0) i_176_5 (by decide) ?_
      refine Y_iret i_176_6 rt_176 (KKi ?_)
      refine Y_i2l i_253_42 ?_
      exact Y_lret i_253_43 rt_253 h
  · replace h := h.2 e1
    refine Y_al0 i_253_37 ?_
    refine Y_iconst (v := 1) i_253_38 (by decide) ?_
    refine Y_iv1 (L0 := [.ref 68, .int 1]) i_253_39 ow_253 lm_10_269 ((k_68 hG).trans ow_176.symm) rfl mx_176 rfl rfl hd_253 ?_
    refine Y_al0 i_176_0 ?_
    refine Y_il1 i_176_1 ?_
    refine Y_pI i_176_2 ow_176 lf_10_143 (k_68 hG) ?_
    refine Y_iconst (v := 0) i_176_5 (by decide) ?_
    refine Y_iret i_176_6 rt_176 (KKi ?_)
    refine Y_i2l i_253_42 ?_
    exact Y_lret i_253_43 rt_253 h
theorem k_253_62 {d : Nat} {F A : Nat → Nat → Int32} {J : Nat → Nat → Int64} {G : pG} {Q : pR → pM → Prop} {SL p q : Nat} {x1 x2 : Int32} {r : Int64} (hG : Geo G SL p q) (h : Q (.inl (some (.long r))) ((wF F 68 39 0), A, J, G)) : KK (d + 5) 253 62 [.ref 68, .int x1, .int x2, .null, .null] [] Q (.inl (some (.long r))) (F, A, J, G) := by
  refine KKl ?_
  refine Y_ls3 i_253_62 rfl ?_
  refine Y_al0 i_253_63 ?_
  refine Y_iconst (v := 0) i_253_64 (by decide) ?_
  refine Y_pI i_253_65 ow_253 lf_10_392 (k_68 hG) ?_
  refine Y_ll3 i_253_68 ?_
  exact Y_lret i_253_69 rt_253 h
/- 254 Model.wedgeLevel(I)V -/
theorem t_254_0 {d : Nat} {F A : Nat → Nat → Int32} {J : Nat → Nat → Int64} {G : pG} {Q : pR → pM → Prop} {SL p q : Nat} {x1 : Int32} (hG : Geo G SL p q) (h : inB x1 20 = true ∧ (((A 73 x1.toNatClampNeg) = 3 → X d 254 18 [.ref 68, .int x1, .int 2, .int 0, .null, .null] [] (F, A, J, G) Q) ∧ (¬ (A 73 x1.toNatClampNeg) = 3 → X d 254 18 [.ref 68, .int x1, .int 1, .int 0, .null, .null] [] (F, A, J, G) Q))) : X d 254 0 [.ref 68, .int x1, .null, .null, .null, .null] [] (F, A, J, G) Q := by
  refine Y_al0 i_254_0 ?_
  refine Y_gR i_254_1 ow_254 lf_10_45 (k_68 hG) (r_68_5 hG) ?_
  refine Y_il1 i_254_4 ?_
  have o1 := h.1
  replace h := h.2
  refine Y_iaload (k := x1.toNatClampNeg) (v := (A 73 x1.toNatClampNeg)) i_254_5 (k_73 hG) (l_73 hG) o1 rfl rfl ?_
  refine Y_iconst (v := 3) i_254_6 (by decide) ?_
  refine Y_cne i_254_7 (fun e2 => ?_) (fun e2 => ?_)
  · replace h := h.1 e2
    refine Y_iconst (v := 2) i_254_10 (by decide) ?_
    refine Y_goto i_254_11 ?_
    refine Y_is2 i_254_15 rfl ?_
    refine Y_iconst (v := 0) i_254_16 (by decide) ?_
    refine Y_is3 i_254_17 rfl ?_
    exact h
  · replace h := h.2 e2
    refine Y_iconst (v := 1) i_254_14 (by decide) ?_
    refine Y_is2 i_254_15 rfl ?_
    refine Y_iconst (v := 0) i_254_16 (by decide) ?_
    refine Y_is3 i_254_17 rfl ?_
    exact h
theorem t_254_18 {d : Nat} {F A : Nat → Nat → Int32} {J : Nat → Nat → Int64} {G : pG} {Q : pR → pM → Prop} {SL p q : Nat} {x1 x2 x3 : Int32} (hG : Geo G SL p q) (h : ((80 < x3 → X d 254 40 [.ref 68, .int x1, .int x2, .int 0, .null, .null] [] (F, A, J, G) Q) ∧ (¬ 80 < x3 → inB x3 81 = true ∧ (X d 254 18 [.ref 68, .int x1, .int x2, .int (x3 + 1), .null, .null] [] (F, (wF A 93 x3.toNatClampNeg 100000), J, G) Q)))) : X d 254 18 [.ref 68, .int x1, .int x2, .int x3, .null, .null] [] (F, A, J, G) Q := by
  refine Y_il3 i_254_18 ?_
  refine Y_bipush (v := 80) i_254_19 (by decide) ?_
  refine Y_cgt i_254_21 (fun e1 => ?_) (fun e1 => ?_)
  · replace h := h.1 e1
    refine Y_iconst (v := 0) i_254_38 (by decide) ?_
    refine Y_is3 i_254_39 rfl ?_
    exact h
  · replace h := h.2 e1
    refine Y_al0 i_254_24 ?_
    refine Y_gR i_254_25 ow_254 lf_10_110 (k_68 hG) (r_68_42 hG) ?_
    refine Y_il3 i_254_28 ?_
    refine Y_ldcI i_254_29 ow_254 li_10_182 ?_
    have o2 := h.1
    replace h := h.2
    refine Y_iast i_254_31 (k_93 hG) (l_93 hG) o2 rfl ?_
    refine Y_ii3 (v := 1) i_254_32 (by decide) rfl ?_
    refine Y_goto i_254_35 ?_
    exact h
theorem t_254_40 {d : Nat} {F A : Nat → Nat → Int32} {J : Nat → Nat → Int64} {G : pG} {Q : pR → pM → Prop} {SL p q : Nat} {x1 x2 x3 : Int32} {v4 v5 : Value} (hG : Geo G SL p q) (h : ((80 < x3 → X d 254 149 [.ref 68, .int x1, .int x2, .int 0, v4, v5] [] (F, A, J, G) Q) ∧ (¬ 80 < x3 → X d 254 50 [.ref 68, .int x1, .int x2, .int x3, .int (-9), v5] [] (F, A, J, G) Q))) : X d 254 40 [.ref 68, .int x1, .int x2, .int x3, v4, v5] [] (F, A, J, G) Q := by
  refine Y_il3 i_254_40 ?_
  refine Y_bipush (v := 80) i_254_41 (by decide) ?_
  refine Y_cgt i_254_43 (fun e1 => ?_) (fun e1 => ?_)
  · replace h := h.1 e1
    refine Y_iconst (v := 0) i_254_147 (by decide) ?_
    refine Y_is3 i_254_148 rfl ?_
    exact h
  · replace h := h.2 e1
    refine Y_bipush (v := (-9)) i_254_46 (by decide) ?_
    refine Y_is4 i_254_48 rfl ?_
    exact h
theorem t_254_50 {d : Nat} {F A : Nat → Nat → Int32} {J : Nat → Nat → Int64} {G : pG} {Q : pR → pM → Prop} {SL p q : Nat} {x1 x2 x3 x4 : Int32} {v5 : Value} (hG : Geo G SL p q) (h : ((9 < x4 → X d 254 40 [.ref 68, .int x1, .int x2, .int (x3 + 1), .int x4, v5] [] (F, A, J, G) Q) ∧ (¬ 9 < x4 → inB x3 81 = true ∧ (((A 92 x3.toNatClampNeg) < 100000 → inB x1 10 = true ∧ (((A 72 1) < (jabs ((x3 - 40) + (x2 * ((A 84 x1.toNatClampNeg) + x4)))) → X d 254 50 [.ref 68, .int x1, .int x2, .int x3, .int (x4 + 1), .int ((x3 - 40) + (x2 * ((A 84 x1.toNatClampNeg) + x4)))] [] (F, A, J, G) Q) ∧ (¬ (A 72 1) < (jabs ((x3 - 40) + (x2 * ((A 84 x1.toNatClampNeg) + x4)))) → inB (((x3 - 40) + (x2 * ((A 84 x1.toNatClampNeg) + x4))) + 40) 81 = true ∧ (X d 254 50 [.ref 68, .int x1, .int x2, .int x3, .int (x4 + 1), .int ((x3 - 40) + (x2 * ((A 84 x1.toNatClampNeg) + x4)))] [] (F, (wF A 93 (((x3 - 40) + (x2 * ((A 84 x1.toNatClampNeg) + x4))) + 40).toNatClampNeg (jmin (A 93 (((x3 - 40) + (x2 * ((A 84 x1.toNatClampNeg) + x4))) + 40).toNatClampNeg) ((A 92 x3.toNatClampNeg) + (jabs x4)))), J, G) Q)))) ∧ (¬ (A 92 x3.toNatClampNeg) < 100000 → X d 254 40 [.ref 68, .int x1, .int x2, .int (x3 + 1), .int x4, v5] [] (F, A, J, G) Q))))) : X d 254 50 [.ref 68, .int x1, .int x2, .int x3, .int x4, v5] [] (F, A, J, G) Q := by
  refine Y_il4 i_254_50 ?_
  refine Y_bipush (v := 9) i_254_52 (by decide) ?_
  refine Y_cgt i_254_54 (fun e1 => ?_) (fun e1 => ?_)
  · replace h := h.1 e1
    refine Y_ii3 (v := 1) i_254_141 (by decide) rfl ?_
    refine Y_goto i_254_144 ?_
    exact h
  · replace h := h.2 e1
    refine Y_al0 i_254_57 ?_
    refine Y_gR i_254_58 ow_254 lf_10_107 (k_68 hG) (r_68_41 hG) ?_
    refine Y_il3 i_254_61 ?_
    have o2 := h.1
    replace h := h.2
    refine Y_iaload (k := x3.toNatClampNeg) (v := (A 92 x3.toNatClampNeg)) i_254_62 (k_92 hG) (l_92 hG) o2 rfl rfl ?_
    refine Y_ldcI i_254_63 ow_254 li_10_182 ?_
    refine Y_cge i_254_65 (fun e3 => ?_) (fun e3 => ?_)
    · replace h := h.1 e3
      refine Y_il3 i_254_68 ?_
      refine Y_bipush (v := 40) i_254_69 (by decide) ?_
      refine Y_isub i_254_71 ?_
      refine Y_il2 i_254_72 ?_
      refine Y_al0 i_254_73 ?_
      refine Y_gR i_254_74 ow_254 lf_10_79 (k_68 hG) (r_68_26 hG) ?_
      refine Y_il1 i_254_77 ?_
      have o4 := h.1
      replace h := h.2
      refine Y_iaload (k := x1.toNatClampNeg) (v := (A 84 x1.toNatClampNeg)) i_254_78 (k_84 hG) (l_84 hG) o4 rfl rfl ?_
      refine Y_il4 i_254_79 ?_
      refine Y_iadd i_254_81 ?_
      refine Y_imul i_254_82 ?_
      refine Y_iadd i_254_83 ?_
      refine Y_is5 i_254_84 rfl ?_
      refine Y_il5 i_254_86 ?_
      refine Y_abs i_254_88 ow_254 lm_10_317 rfl ?_
      refine Y_al0 i_254_91 ?_
      refine Y_gR i_254_92 ow_254 lf_10_42 (k_68 hG) (r_68_4 hG) ?_
      refine Y_iconst (v := 1) i_254_95 (by decide) ?_
      refine Y_iaload (k := 1) (v := (A 72 1)) i_254_96 (k_72 hG) (l_72 hG) (by decide) (by decide) rfl ?_
      refine Y_cgt i_254_97 (fun e5 => ?_) (fun e5 => ?_)
      · replace h := h.1 e5
        refine Y_ii4 (v := 1) i_254_135 (by decide) rfl ?_
        refine Y_goto i_254_138 ?_
        exact h
      · replace h := h.2 e5
        refine Y_al0 i_254_100 ?_
        refine Y_gR i_254_101 ow_254 lf_10_110 (k_68 hG) (r_68_42 hG) ?_
        refine Y_il5 i_254_104 ?_
        refine Y_bipush (v := 40) i_254_106 (by decide) ?_
        refine Y_iadd i_254_108 ?_
        refine Y_al0 i_254_109 ?_
        refine Y_gR i_254_110 ow_254 lf_10_110 (k_68 hG) (r_68_42 hG) ?_
        refine Y_il5 i_254_113 ?_
        refine Y_bipush (v := 40) i_254_115 (by decide) ?_
        refine Y_iadd i_254_117 ?_
        have o6 := h.1
        replace h := h.2
        refine Y_iaload (k := (((x3 - 40) + (x2 * ((A 84 x1.toNatClampNeg) + x4))) + 40).toNatClampNeg) (v := (A 93 (((x3 - 40) + (x2 * ((A 84 x1.toNatClampNeg) + x4))) + 40).toNatClampNeg)) i_254_118 (k_93 hG) (l_93 hG) o6 rfl rfl ?_
        refine Y_al0 i_254_119 ?_
        refine Y_gR i_254_120 ow_254 lf_10_107 (k_68 hG) (r_68_41 hG) ?_
        refine Y_il3 i_254_123 ?_
        refine Y_iaload (k := x3.toNatClampNeg) (v := (A 92 x3.toNatClampNeg)) i_254_124 (k_92 hG) (l_92 hG) o2 rfl rfl ?_
        refine Y_il4 i_254_125 ?_
        refine Y_abs i_254_127 ow_254 lm_10_317 rfl ?_
        refine Y_iadd i_254_130 ?_
        refine Y_min i_254_131 ow_254 lm_10_183 rfl ?_
        refine Y_iast i_254_134 (k_93 hG) (l_93 hG) o6 rfl ?_
        refine Y_ii4 (v := 1) i_254_135 (by decide) rfl ?_
        refine Y_goto i_254_138 ?_
        exact h
    · replace h := h.2 e3
      refine Y_ii3 (v := 1) i_254_141 (by decide) rfl ?_
      refine Y_goto i_254_144 ?_
      exact h
theorem t_254_149 {d : Nat} {F A : Nat → Nat → Int32} {J : Nat → Nat → Int64} {G : pG} {Q : pR → pM → Prop} {SL p q : Nat} {x1 x2 x3 : Int32} {v4 v5 : Value} (hG : Geo G SL p q) (h : ((80 < x3 → Q (.inl none) (F, A, J, G)) ∧ (¬ 80 < x3 → inB x3 81 = true ∧ (X d 254 149 [.ref 68, .int x1, .int x2, .int (x3 + 1), v4, v5] [] (F, (wF A 92 x3.toNatClampNeg (A 93 x3.toNatClampNeg)), J, G) Q)))) : X d 254 149 [.ref 68, .int x1, .int x2, .int x3, v4, v5] [] (F, A, J, G) Q := by
  refine Y_il3 i_254_149 ?_
  refine Y_bipush (v := 80) i_254_150 (by decide) ?_
  refine Y_cgt i_254_152 (fun e1 => ?_) (fun e1 => ?_)
  · replace h := h.1 e1
    exact Y_vret i_254_173 rt_254 h
  · replace h := h.2 e1
    refine Y_al0 i_254_155 ?_
    refine Y_gR i_254_156 ow_254 lf_10_107 (k_68 hG) (r_68_41 hG) ?_
    refine Y_il3 i_254_159 ?_
    refine Y_al0 i_254_160 ?_
    refine Y_gR i_254_161 ow_254 lf_10_110 (k_68 hG) (r_68_42 hG) ?_
    refine Y_il3 i_254_164 ?_
    have o2 := h.1
    replace h := h.2
    refine Y_iaload (k := x3.toNatClampNeg) (v := (A 93 x3.toNatClampNeg)) i_254_165 (k_93 hG) (l_93 hG) o2 rfl rfl ?_
    refine Y_iast i_254_166 (k_92 hG) (l_92 hG) o2 rfl ?_
    refine Y_ii3 (v := 1) i_254_167 (by decide) rfl ?_
    refine Y_goto i_254_170 ?_
    exact h
/- 255 Model.wedges()I -/
theorem t_255_0 {d : Nat} {F A : Nat → Nat → Int32} {J : Nat → Nat → Int64} {G : pG} {Q : pR → pM → Prop} {SL p q : Nat} (hG : Geo G SL p q) (h : X (d + 1) 255 7 [.ref 68, .int 0, .null] [] ((wF F 68 3 0), A, J, G) Q) : X (d + 1) 255 0 [.ref 68, .null, .null] [] (F, A, J, G) Q := by
  refine Y_al0 i_255_0 ?_
  refine Y_iconst (v := 0) i_255_1 (by decide) ?_
  refine Y_pI i_255_2 ow_255 lf_10_143 (k_68 hG) ?_
  refine Y_iconst (v := 0) i_255_5 (by decide) ?_
  refine Y_is1 i_255_6 rfl ?_
  exact h
theorem t_255_7 {d : Nat} {F A : Nat → Nat → Int32} {J : Nat → Nat → Int64} {G : pG} {Q : pR → pM → Prop} {SL p q : Nat} {x1 : Int32} (hG : Geo G SL p q) (h : ((80 < x1 → X (d + 1) 255 37 [.ref 68, .int 0, .null] [] (F, (wF A 92 40 0), J, G) Q) ∧ (¬ 80 < x1 → inB x1 81 = true ∧ (X (d + 1) 255 7 [.ref 68, .int (x1 + 1), .null] [] (F, (wF A 92 x1.toNatClampNeg 100000), J, G) Q)))) : X (d + 1) 255 7 [.ref 68, .int x1, .null] [] (F, A, J, G) Q := by
  refine Y_il1 i_255_7 ?_
  refine Y_bipush (v := 80) i_255_8 (by decide) ?_
  refine Y_cgt i_255_10 (fun e1 => ?_) (fun e1 => ?_)
  · replace h := h.1 e1
    refine Y_al0 i_255_27 ?_
    refine Y_gR i_255_28 ow_255 lf_10_107 (k_68 hG) (r_68_41 hG) ?_
    refine Y_bipush (v := 40) i_255_31 (by decide) ?_
    refine Y_iconst (v := 0) i_255_33 (by decide) ?_
    refine Y_iast (k := 40) i_255_34 (k_92 hG) (l_92 hG) (by decide) (by decide) ?_
    refine Y_iconst (v := 0) i_255_35 (by decide) ?_
    refine Y_is1 i_255_36 rfl ?_
    exact h
  · replace h := h.2 e1
    refine Y_al0 i_255_13 ?_
    refine Y_gR i_255_14 ow_255 lf_10_107 (k_68 hG) (r_68_41 hG) ?_
    refine Y_il1 i_255_17 ?_
    refine Y_ldcI i_255_18 ow_255 li_10_182 ?_
    have o2 := h.1
    replace h := h.2
    refine Y_iast i_255_20 (k_92 hG) (l_92 hG) o2 rfl ?_
    refine Y_ii1 (v := 1) i_255_21 (by decide) rfl ?_
    refine Y_goto i_255_24 ?_
    exact h
theorem t_255_37 {d : Nat} {F A : Nat → Nat → Int32} {J : Nat → Nat → Int64} {G : pG} {Q : pR → pM → Prop} {SL p q : Nat} {x1 : Int32} (hG : Geo G SL p q) (h : ((x1 < (F 68 28) → inB x1 10 = true ∧ (X d 254 0 [.ref 68, .int (A 81 x1.toNatClampNeg), .null, .null, .null, .null] [] (F, A, J, G) (KK (d + 1) 255 55 [.ref 68, .int x1, .null] [] Q))) ∧ (¬ x1 < (F 68 28) → X (d + 1) 255 66 [.ref 68, .int 100000, .int 0] [] (F, A, J, G) Q))) : X (d + 1) 255 37 [.ref 68, .int x1, .null] [] (F, A, J, G) Q := by
  refine Y_il1 i_255_37 ?_
  refine Y_al0 i_255_38 ?_
  refine Y_gI (v := (F 68 28)) i_255_39 ow_255 lf_10_150 (by decide) (k_68 hG) rfl ?_
  refine Y_cge i_255_42 (fun e1 => ?_) (fun e1 => ?_)
  · replace h := h.1 e1
    refine Y_al0 i_255_45 ?_
    refine Y_al0 i_255_46 ?_
    refine Y_gR i_255_47 ow_255 lf_10_70 (k_68 hG) (r_68_23 hG) ?_
    refine Y_il1 i_255_50 ?_
    have o2 := h.1
    replace h := h.2
    refine Y_iaload (k := x1.toNatClampNeg) (v := (A 81 x1.toNatClampNeg)) i_255_51 (k_81 hG) (l_81 hG) o2 rfl rfl ?_
    exact Y_iv1 (L0 := [.ref 68, .int (A 81 x1.toNatClampNeg), .null, .null, .null, .null]) i_255_52 ow_255 lm_10_424 ((k_68 hG).trans ow_254.symm) rfl mx_254 rfl rfl hd_255 h
  · replace h := h.2 e1
    refine Y_ldcI i_255_61 ow_255 li_10_182 ?_
    refine Y_is1 i_255_63 rfl ?_
    refine Y_iconst (v := 0) i_255_64 (by decide) ?_
    refine Y_is2 i_255_65 rfl ?_
    exact h
theorem k_255_55 {d : Nat} {F A : Nat → Nat → Int32} {J : Nat → Nat → Int64} {G : pG} {Q : pR → pM → Prop} {SL p q : Nat} {x1 : Int32} (hG : Geo G SL p q) (h : X (d + 1) 255 37 [.ref 68, .int (x1 + 1), .null] [] (F, A, J, G) Q) : KK (d + 1) 255 55 [.ref 68, .int x1, .null] [] Q (.inl none) (F, A, J, G) := by
  refine KKv ?_
  refine Y_ii1 (v := 1) i_255_55 (by decide) rfl ?_
  refine Y_goto i_255_58 ?_
  exact h
theorem t_255_66 {d : Nat} {F A : Nat → Nat → Int32} {J : Nat → Nat → Int64} {G : pG} {Q : pR → pM → Prop} {SL p q : Nat} {x1 x2 : Int32} (hG : Geo G SL p q) (h : ((80 < x2 → ((x1 = 100000 → Q (.inl (some (.int (-1)))) (F, A, J, G)) ∧ (¬ x1 = 100000 → Q (.inl (some (.int x1))) (F, A, J, G)))) ∧ (¬ 80 < x2 → inB x2 81 = true ∧ (X (d + 1) 255 66 [.ref 68, .int (jmin x1 (A 92 x2.toNatClampNeg)), .int (x2 + 1)] [] (F, A, J, G) Q)))) : X (d + 1) 255 66 [.ref 68, .int x1, .int x2] [] (F, A, J, G) Q := by
  refine Y_il2 i_255_66 ?_
  refine Y_bipush (v := 80) i_255_67 (by decide) ?_
  refine Y_cgt i_255_69 (fun e1 => ?_) (fun e1 => ?_)
  · replace h := h.1 e1
    refine Y_il1 i_255_89 ?_
    refine Y_ldcI i_255_90 ow_255 li_10_182 ?_
    refine Y_cne i_255_92 (fun e2 => ?_) (fun e2 => ?_)
    · replace h := h.1 e2
      refine Y_iconst (v := (-1)) i_255_95 (by decide) ?_
      refine Y_goto i_255_96 ?_
      exact Y_iret i_255_100 rt_255 h
    · replace h := h.2 e2
      refine Y_il1 i_255_99 ?_
      exact Y_iret i_255_100 rt_255 h
  · replace h := h.2 e1
    refine Y_il1 i_255_72 ?_
    refine Y_al0 i_255_73 ?_
    refine Y_gR i_255_74 ow_255 lf_10_107 (k_68 hG) (r_68_41 hG) ?_
    refine Y_il2 i_255_77 ?_
    have o3 := h.1
    replace h := h.2
    refine Y_iaload (k := x2.toNatClampNeg) (v := (A 92 x2.toNatClampNeg)) i_255_78 (k_92 hG) (l_92 hG) o3 rfl rfl ?_
    refine Y_min i_255_79 ow_255 lm_10_183 rfl ?_
    refine Y_is1 i_255_82 rfl ?_
    refine Y_ii2 (v := 1) i_255_83 (by decide) rfl ?_
    refine Y_goto i_255_86 ?_
    exact h
/- 256 Model.when()I -/
theorem t_256_0 {d : Nat} {F A : Nat → Nat → Int32} {J : Nat → Nat → Int64} {G : pG} {Q : pR → pM → Prop} {SL p q : Nat} (hG : Geo G SL p q) (h : X (d + 6) 256 14 [.ref 68, .int (F 68 29), .int (-1), .int 0] [] ((wF F 68 3 0), A, J, G) Q) : X (d + 6) 256 0 [.ref 68, .null, .null, .null] [] (F, A, J, G) Q := by
  refine Y_al0 i_256_0 ?_
  refine Y_iconst (v := 0) i_256_1 (by decide) ?_
  refine Y_pI i_256_2 ow_256 lf_10_143 (k_68 hG) ?_
  refine Y_al0 i_256_5 ?_
  refine Y_gI (v := (F 68 29)) i_256_6 ow_256 lf_10_282 (by decide) (k_68 hG) (by simp [wF, wJ, va_up, cpR, bF, bA]) ?_
  refine Y_is1 i_256_9 rfl ?_
  refine Y_iconst (v := (-1)) i_256_10 (by decide) ?_
  refine Y_is2 i_256_11 rfl ?_
  refine Y_iconst (v := 0) i_256_12 (by decide) ?_
  refine Y_is3 i_256_13 rfl ?_
  exact h
theorem t_256_14 {d : Nat} {F A : Nat → Nat → Int32} {J : Nat → Nat → Int64} {G : pG} {Q : pR → pM → Prop} {SL p q : Nat} {x1 x2 x3 : Int32} (hG : Geo G SL p q) (h : ((99 < x3 → Q (.inl (some (.int x2))) ((wF F 68 29 x1), A, J, G)) ∧ (¬ 99 < x3 → ((x2 = (-1) → X (d + 5) 218 0 [.ref 68] [] ((wF F 68 29 (x1 + x3)), A, J, G) (KK (d + 6) 256 36 [.ref 68, .int x1, .int x2, .int x3] [] Q)) ∧ (¬ x2 = (-1) → Q (.inl (some (.int x2))) ((wF F 68 29 x1), A, J, G)))))) : X (d + 6) 256 14 [.ref 68, .int x1, .int x2, .int x3] [] (F, A, J, G) Q := by
  refine Y_il3 i_256_14 ?_
  refine Y_bipush (v := 99) i_256_15 (by decide) ?_
  refine Y_cgt i_256_17 (fun e1 => ?_) (fun e1 => ?_)
  · replace h := h.1 e1
    refine Y_al0 i_256_47 ?_
    refine Y_il1 i_256_48 ?_
    refine Y_pI i_256_49 ow_256 lf_10_282 (k_68 hG) ?_
    refine Y_il2 i_256_52 ?_
    exact Y_iret i_256_53 rt_256 h
  · replace h := h.2 e1
    refine Y_il2 i_256_20 ?_
    refine Y_iconst (v := (-1)) i_256_21 (by decide) ?_
    refine Y_cne i_256_22 (fun e2 => ?_) (fun e2 => ?_)
    · replace h := h.1 e2
      refine Y_al0 i_256_25 ?_
      refine Y_il1 i_256_26 ?_
      refine Y_il3 i_256_27 ?_
      refine Y_iadd i_256_28 ?_
      refine Y_pI i_256_29 ow_256 lf_10_282 (k_68 hG) ?_
      refine Y_al0 i_256_32 ?_
      exact Y_iv0 (L0 := [.ref 68]) i_256_33 ow_256 lm_10_326 ((k_68 hG).trans ow_218.symm) rfl mx_218 rfl rfl hd_256 h
    · replace h := h.2 e2
      refine Y_al0 i_256_47 ?_
      refine Y_il1 i_256_48 ?_
      refine Y_pI i_256_49 ow_256 lf_10_282 (k_68 hG) ?_
      refine Y_il2 i_256_52 ?_
      exact Y_iret i_256_53 rt_256 h
theorem k_256_36 {d : Nat} {F A : Nat → Nat → Int32} {J : Nat → Nat → Int64} {G : pG} {Q : pR → pM → Prop} {SL p q : Nat} {x1 x2 x3 r : Int32} (hG : Geo G SL p q) (h : ((r = 0 → X (d + 6) 256 14 [.ref 68, .int x1, .int x3, .int (x3 + 1)] [] (F, A, J, G) Q) ∧ (¬ r = 0 → X (d + 6) 256 14 [.ref 68, .int x1, .int x2, .int (x3 + 1)] [] (F, A, J, G) Q))) : KK (d + 6) 256 36 [.ref 68, .int x1, .int x2, .int x3] [] Q (.inl (some (.int r))) (F, A, J, G) := by
  refine KKi ?_
  refine Y_zne i_256_36 (fun e1 => ?_) (fun e1 => ?_)
  · replace h := h.1 e1
    refine Y_il3 i_256_39 ?_
    refine Y_is2 i_256_40 rfl ?_
    refine Y_ii3 (v := 1) i_256_41 (by decide) rfl ?_
    refine Y_goto i_256_44 ?_
    exact h
  · replace h := h.2 e1
    refine Y_ii3 (v := 1) i_256_41 (by decide) rfl ?_
    refine Y_goto i_256_44 ?_
    exact h
/- 257 Model.broken(I)I -/
theorem t_257_0 {d : Nat} {F A : Nat → Nat → Int32} {J : Nat → Nat → Int64} {G : pG} {Q : pR → pM → Prop} {SL p q : Nat} {x1 : Int32} (hG : Geo G SL p q) (h : (((inL x1.toInt64 0 99) = true → X (d + 4) 217 0 [.ref 68, .null] [] ((wF (wF F 68 3 0) 68 29 ((F 68 29) + x1)), A, J, G) (KK (d + 5) 257 37 [.ref 68, .int x1, .null] [] Q)) ∧ ((inL x1.toInt64 0 99) = false → Q (.inl (some (.int 0))) ((wF (wF F 68 3 0) 68 3 1), A, J, G)))) : X (d + 5) 257 0 [.ref 68, .int x1, .null] [] (F, A, J, G) Q := by
  refine Y_al0 i_257_0 ?_
  refine Y_iconst (v := 0) i_257_1 (by decide) ?_
  refine Y_pI i_257_2 ow_257 lf_10_143 (k_68 hG) ?_
  refine Y_il1 i_257_5 ?_
  refine Y_i2l i_257_6 ?_
  refine Y_lconst (v := 0) i_257_7 (by decide) ?_
  refine Y_ldcL i_257_8 ow_257 lj_10_427 ?_
  refine Y_is_3 (L0 := [.long x1.toInt64, .null, .long 0, .null, .long 99, .null]) i_257_11 ow_257 lm_10_146 rfl mx_178 rfl rfl hd_257 ?_
  refine c_178 hG (KKi ?_)
  refine Y_bne i_257_14 (fun e1 => ?_) (fun e1 => ?_)
  · replace h := h.1 e1
    refine Y_al0 i_257_23 ?_
    refine Y_dup i_257_24 rfl ?_
    refine Y_gI (v := (F 68 29)) i_257_25 ow_257 lf_10_282 (by decide) (k_68 hG) (by simp [wF, wJ, va_up, cpR, bF, bA]) ?_
    refine Y_il1 i_257_28 ?_
    refine Y_iadd i_257_29 ?_
    refine Y_pI i_257_30 ow_257 lf_10_282 (k_68 hG) ?_
    refine Y_al0 i_257_33 ?_
    exact Y_iv0 (L0 := [.ref 68, .null]) i_257_34 ow_257 lm_10_323 ((k_68 hG).trans ow_217.symm) rfl mx_217 rfl rfl hd_257 h
  · replace h := h.2 e1
    refine Y_al0 i_257_17 ?_
    refine Y_iconst (v := 1) i_257_18 (by decide) ?_
    refine Y_iv1 (L0 := [.ref 68, .int 1]) i_257_19 ow_257 lm_10_269 ((k_68 hG).trans ow_176.symm) rfl mx_176 rfl rfl hd_257 ?_
    refine Y_al0 i_176_0 ?_
    refine Y_il1 i_176_1 ?_
    refine Y_pI i_176_2 ow_176 lf_10_143 (k_68 hG) ?_
    refine Y_iconst (v := 0) i_176_5 (by decide) ?_
    refine Y_iret i_176_6 rt_176 (KKi ?_)
    exact Y_iret i_257_22 rt_257 h
theorem k_257_37 {d : Nat} {F A : Nat → Nat → Int32} {J : Nat → Nat → Int64} {G : pG} {Q : pR → pM → Prop} {SL p q : Nat} {x1 r : Int32} (hG : Geo G SL p q) (h : Q (.inl (some (.int r))) ((wF F 68 29 ((F 68 29) - x1)), A, J, G)) : KK (d + 5) 257 37 [.ref 68, .int x1, .null] [] Q (.inl (some (.int r))) (F, A, J, G) := by
  refine KKi ?_
  refine Y_is2 i_257_37 rfl ?_
  refine Y_al0 i_257_38 ?_
  refine Y_dup i_257_39 rfl ?_
  refine Y_gI (v := (F 68 29)) i_257_40 ow_257 lf_10_282 (by decide) (k_68 hG) rfl ?_
  refine Y_il1 i_257_43 ?_
  refine Y_isub i_257_44 ?_
  refine Y_pI i_257_45 ow_257 lf_10_282 (k_68 hG) ?_
  refine Y_il2 i_257_48 ?_
  exact Y_iret i_257_49 rt_257 h
/- 259 Model.marry(II)Z -/
theorem t_259_0 {d : Nat} {F A : Nat → Nat → Int32} {J : Nat → Nat → Int64} {G : pG} {Q : pR → pM → Prop} {SL p q : Nat} {x1 x2 : Int32} (hG : Geo G SL p q) (h : hB (A 72 0) = true ∧ (((inR x1 (A 72 0)) = true → (((inR x2 (A 72 0)) = true → ((x1 = x2 → Q (.inl (some (.int 0))) ((wF (wF F 68 3 0) 68 3 2), A, J, G)) ∧ (¬ x1 = x2 → inB x1 10 = true ∧ inB x2 10 = true ∧ inB (A 73 x1.toNatClampNeg) 4 = true ∧ inB (A 73 x2.toNatClampNeg) 4 = true ∧ Wrm A ∧ (Q (.inl (some (.int (bI (marB (carS (A 73 x1.toNatClampNeg) (A 75 x1.toNatClampNeg) ((wF F 68 3 0) 68 29) 0) (A 74 x2.toNatClampNeg) (carS (A 73 x2.toNatClampNeg) (A 75 x2.toNatClampNeg) ((wF F 68 3 0) 68 29) 0) (A 74 x1.toNatClampNeg)))))) ((wF F 68 3 0), A, J, G))))) ∧ ((inR x2 (A 72 0)) = false → Q (.inl (some (.int 0))) ((wF (wF F 68 3 0) 68 3 1), A, J, G)))) ∧ ((inR x1 (A 72 0)) = false → Q (.inl (some (.int 0))) ((wF (wF F 68 3 0) 68 3 1), A, J, G)))) : X (d + 3) 259 0 [.ref 68, .int x1, .int x2] [] (F, A, J, G) Q := by
  refine Y_al0 i_259_0 ?_
  refine Y_iconst (v := 0) i_259_1 (by decide) ?_
  refine Y_pI i_259_2 ow_259 lf_10_143 (k_68 hG) ?_
  refine Y_al0 i_259_5 ?_
  refine Y_il1 i_259_6 ?_
  have o1 := h.1
  replace h := h.2
  refine Y_iv1 (L0 := [.ref 68, .int x1]) i_259_7 ow_259 lm_10_333 ((k_68 hG).trans ow_180.symm) rfl mx_180 rfl rfl hd_259 ?_
  refine c_180 hG o1 (KKi ?_)
  refine Y_beq i_259_10 (fun e2 => ?_) (fun e2 => ?_)
  · replace h := h.1 e2
    refine Y_al0 i_259_13 ?_
    refine Y_il2 i_259_14 ?_
    refine Y_iv1 (L0 := [.ref 68, .int x2]) i_259_15 ow_259 lm_10_333 ((k_68 hG).trans ow_180.symm) rfl mx_180 rfl rfl hd_259 ?_
    refine c_180 hG o1 (KKi ?_)
    refine Y_bne i_259_18 (fun e3 => ?_) (fun e3 => ?_)
    · replace h := h.1 e3
      refine Y_il1 i_259_27 ?_
      refine Y_il2 i_259_28 ?_
      refine Y_cne i_259_29 (fun e4 => ?_) (fun e4 => ?_)
      · replace h := h.1 e4
        refine Y_al0 i_259_32 ?_
        refine Y_iconst (v := 2) i_259_33 (by decide) ?_
        refine Y_iv1 (L0 := [.ref 68, .int 2]) i_259_34 ow_259 lm_10_360 ((k_68 hG).trans ow_177.symm) rfl mx_177 rfl rfl hd_259 ?_
        refine Y_al0 i_177_0 ?_
        refine Y_il1 i_177_1 ?_
        refine Y_pI i_177_2 ow_177 lf_10_143 (k_68 hG) ?_
        refine Y_iconst (v := 0) i_177_5 (by decide) ?_
        refine Y_bret i_177_6 rt_177 (by decide) (KKi ?_)
        refine Y_goto i_259_37 ?_
        exact Y_bret i_259_46 rt_259 (by decide) h
      · replace h := h.2 e4
        refine Y_al0 i_259_40 ?_
        refine Y_il1 i_259_41 ?_
        refine Y_il2 i_259_42 ?_
        have o5 := h.1
        replace h := h.2
        have o6 := h.1
        replace h := h.2
        have o7 := h.1
        replace h := h.2
        have o8 := h.1
        replace h := h.2
        have o9 := h.1
        replace h := h.2
        refine Y_iv2 (L0 := [.ref 68, .int x1, .int x2]) i_259_43 ow_259 lm_10_429 ((k_68 hG).trans ow_258.symm) rfl mx_258 rfl rfl hd_259 ?_
        refine c_258 hG o5 o6 o7 o8 o9 (KKi ?_)
        exact Y_bret i_259_46 rt_259 (bI_01 _) h
    · replace h := h.2 e3
      refine Y_al0 i_259_21 ?_
      refine Y_iconst (v := 1) i_259_22 (by decide) ?_
      refine Y_iv1 (L0 := [.ref 68, .int 1]) i_259_23 ow_259 lm_10_360 ((k_68 hG).trans ow_177.symm) rfl mx_177 rfl rfl hd_259 ?_
      refine Y_al0 i_177_0 ?_
      refine Y_il1 i_177_1 ?_
      refine Y_pI i_177_2 ow_177 lf_10_143 (k_68 hG) ?_
      refine Y_iconst (v := 0) i_177_5 (by decide) ?_
      refine Y_bret i_177_6 rt_177 (by decide) (KKi ?_)
      exact Y_bret i_259_26 rt_259 (by decide) h
  · replace h := h.2 e2
    refine Y_al0 i_259_21 ?_
    refine Y_iconst (v := 1) i_259_22 (by decide) ?_
    refine Y_iv1 (L0 := [.ref 68, .int 1]) i_259_23 ow_259 lm_10_360 ((k_68 hG).trans ow_177.symm) rfl mx_177 rfl rfl hd_259 ?_
    refine Y_al0 i_177_0 ?_
    refine Y_il1 i_177_1 ?_
    refine Y_pI i_177_2 ow_177 lf_10_143 (k_68 hG) ?_
    refine Y_iconst (v := 0) i_177_5 (by decide) ?_
    refine Y_bret i_177_6 rt_177 (by decide) (KKi ?_)
    exact Y_bret i_259_26 rt_259 (by decide) h
/- 260 Model.couplesOf(I)I -/
theorem t_260_0 {d : Nat} {F A : Nat → Nat → Int32} {J : Nat → Nat → Int64} {G : pG} {Q : pR → pM → Prop} {SL p q : Nat} {x1 : Int32} (hG : Geo G SL p q) (h : X (d + 3) 260 2 [.ref 68, .int x1, .int 0, .null, .null, .null] [] (F, A, J, G) Q) : X (d + 3) 260 0 [.ref 68, .int x1, .null, .null, .null, .null] [] (F, A, J, G) Q := by
  refine Y_iconst (v := 0) i_260_0 (by decide) ?_
  refine Y_is2 i_260_1 rfl ?_
  exact h
theorem t_260_2 {d : Nat} {F A : Nat → Nat → Int32} {J : Nat → Nat → Int64} {G : pG} {Q : pR → pM → Prop} {SL p q : Nat} {x1 x2 : Int32} (hG : Geo G SL p q) (h : ((x2 < (A 72 0) → (((isO x1 x2) = true → ((x2 = (A 72 0) → Q (.inl (some (.int 0))) (F, A, J, G)) ∧ (¬ x2 = (A 72 0) → X (d + 2) 260 0 [.ref 68, .int (x1 &&& (((1 : Int32) <<< (x2 &&& 31)) ^^^ (-1))), .null, .null, .null, .null] [] (F, A, J, G) (KK (d + 3) 260 51 [.ref 68, .int x1, .int x2, .int (x1 &&& (((1 : Int32) <<< (x2 &&& 31)) ^^^ (-1))), .null, .null] [] Q)))) ∧ ((isO x1 x2) = false → X (d + 3) 260 2 [.ref 68, .int x1, .int (x2 + 1), .null, .null, .null] [] (F, A, J, G) Q))) ∧ (¬ x2 < (A 72 0) → ((x2 = (A 72 0) → Q (.inl (some (.int 0))) (F, A, J, G)) ∧ (¬ x2 = (A 72 0) → X (d + 2) 260 0 [.ref 68, .int (x1 &&& (((1 : Int32) <<< (x2 &&& 31)) ^^^ (-1))), .null, .null, .null, .null] [] (F, A, J, G) (KK (d + 3) 260 51 [.ref 68, .int x1, .int x2, .int (x1 &&& (((1 : Int32) <<< (x2 &&& 31)) ^^^ (-1))), .null, .null] [] Q)))))) : X (d + 3) 260 2 [.ref 68, .int x1, .int x2, .null, .null, .null] [] (F, A, J, G) Q := by
  refine Y_il2 i_260_2 ?_
  refine Y_al0 i_260_3 ?_
  refine Y_gR i_260_4 ow_260 lf_10_42 (k_68 hG) (r_68_4 hG) ?_
  refine Y_iconst (v := 0) i_260_7 (by decide) ?_
  refine Y_iaload (k := 0) (v := (A 72 0)) i_260_8 (k_72 hG) (l_72 hG) (by decide) (by decide) rfl ?_
  refine Y_cge i_260_9 (fun e1 => ?_) (fun e1 => ?_)
  · replace h := h.1 e1
    refine Y_il1 i_260_12 ?_
    refine Y_il2 i_260_13 ?_
    refine Y_is_2 (L0 := [.int x1, .int x2]) i_260_14 ow_260 lm_10_395 rfl mx_179 rfl rfl hd_260 ?_
    refine c_179 hG (KKi ?_)
    refine Y_bne i_260_17 (fun e2 => ?_) (fun e2 => ?_)
    · replace h := h.1 e2
      refine Y_il2 i_260_26 ?_
      refine Y_al0 i_260_27 ?_
      refine Y_gR i_260_28 ow_260 lf_10_42 (k_68 hG) (r_68_4 hG) ?_
      refine Y_iconst (v := 0) i_260_31 (by decide) ?_
      refine Y_iaload (k := 0) (v := (A 72 0)) i_260_32 (k_72 hG) (l_72 hG) (by decide) (by decide) rfl ?_
      refine Y_cne i_260_33 (fun e3 => ?_) (fun e3 => ?_)
      · replace h := h.1 e3
        refine Y_iconst (v := 0) i_260_36 (by decide) ?_
        exact Y_iret i_260_37 rt_260 h
      · replace h := h.2 e3
        refine Y_il1 i_260_38 ?_
        refine Y_iconst (v := 1) i_260_39 (by decide) ?_
        refine Y_il2 i_260_40 ?_
        refine Y_ishl i_260_41 ?_
        refine Y_iconst (v := (-1)) i_260_42 (by decide) ?_
        refine Y_ixor i_260_43 ?_
        refine Y_iand i_260_44 ?_
        refine Y_is3 i_260_45 rfl ?_
        refine Y_al0 i_260_46 ?_
        refine Y_il3 i_260_47 ?_
        exact Y_iv1 (L0 := [.ref 68, .int (x1 &&& (((1 : Int32) <<< (x2 &&& 31)) ^^^ (-1))), .null, .null, .null, .null]) i_260_48 ow_260 lm_10_432 ((k_68 hG).trans ow_260.symm) rfl mx_260 rfl rfl hd_260 h
    · replace h := h.2 e2
      refine Y_ii2 (v := 1) i_260_20 (by decide) rfl ?_
      refine Y_goto i_260_23 ?_
      exact h
  · replace h := h.2 e1
    refine Y_il2 i_260_26 ?_
    refine Y_al0 i_260_27 ?_
    refine Y_gR i_260_28 ow_260 lf_10_42 (k_68 hG) (r_68_4 hG) ?_
    refine Y_iconst (v := 0) i_260_31 (by decide) ?_
    refine Y_iaload (k := 0) (v := (A 72 0)) i_260_32 (k_72 hG) (l_72 hG) (by decide) (by decide) rfl ?_
    refine Y_cne i_260_33 (fun e4 => ?_) (fun e4 => ?_)
    · replace h := h.1 e4
      refine Y_iconst (v := 0) i_260_36 (by decide) ?_
      exact Y_iret i_260_37 rt_260 h
    · replace h := h.2 e4
      refine Y_il1 i_260_38 ?_
      refine Y_iconst (v := 1) i_260_39 (by decide) ?_
      refine Y_il2 i_260_40 ?_
      refine Y_ishl i_260_41 ?_
      refine Y_iconst (v := (-1)) i_260_42 (by decide) ?_
      refine Y_ixor i_260_43 ?_
      refine Y_iand i_260_44 ?_
      refine Y_is3 i_260_45 rfl ?_
      refine Y_al0 i_260_46 ?_
      refine Y_il3 i_260_47 ?_
      exact Y_iv1 (L0 := [.ref 68, .int (x1 &&& (((1 : Int32) <<< (x2 &&& 31)) ^^^ (-1))), .null, .null, .null, .null]) i_260_48 ow_260 lm_10_432 ((k_68 hG).trans ow_260.symm) rfl mx_260 rfl rfl hd_260 h
theorem k_260_51 {d : Nat} {F A : Nat → Nat → Int32} {J : Nat → Nat → Int64} {G : pG} {Q : pR → pM → Prop} {SL p q : Nat} {x1 x2 x3 r : Int32} (hG : Geo G SL p q) (h : X (d + 3) 260 58 [.ref 68, .int x1, .int x2, .int x3, .int r, .int (x2 + 1)] [] (F, A, J, G) Q) : KK (d + 3) 260 51 [.ref 68, .int x1, .int x2, .int x3, .null, .null] [] Q (.inl (some (.int r))) (F, A, J, G) := by
  refine KKi ?_
  refine Y_is4 i_260_51 rfl ?_
  refine Y_il2 i_260_53 ?_
  refine Y_iconst (v := 1) i_260_54 (by decide) ?_
  refine Y_iadd i_260_55 ?_
  refine Y_is5 i_260_56 rfl ?_
  exact h
theorem t_260_58 {d : Nat} {F A : Nat → Nat → Int32} {J : Nat → Nat → Int64} {G : pG} {Q : pR → pM → Prop} {SL p q : Nat} {x1 x2 x3 x4 x5 : Int32} (hG : Geo G SL p q) (h : ((x5 < (A 72 0) → (((isO x3 x5) = true → inB x2 10 = true ∧ inB x5 10 = true ∧ inB (A 73 x2.toNatClampNeg) 4 = true ∧ inB (A 73 x5.toNatClampNeg) 4 = true ∧ Wrm A ∧ (((marB (carS (A 73 x2.toNatClampNeg) (A 75 x2.toNatClampNeg) (F 68 29) 0) (A 74 x5.toNatClampNeg) (carS (A 73 x5.toNatClampNeg) (A 75 x5.toNatClampNeg) (F 68 29) 0) (A 74 x2.toNatClampNeg)) = true → X (d + 2) 260 0 [.ref 68, .int (x3 &&& (((1 : Int32) <<< (x5 &&& 31)) ^^^ (-1))), .null, .null, .null, .null] [] (F, A, J, G) (KK (d + 3) 260 103 [.ref 68, .int x1, .int x2, .int x3, .int x4, .int x5] [.int 1, .int x4] Q)) ∧ ((marB (carS (A 73 x2.toNatClampNeg) (A 75 x2.toNatClampNeg) (F 68 29) 0) (A 74 x5.toNatClampNeg) (carS (A 73 x5.toNatClampNeg) (A 75 x5.toNatClampNeg) (F 68 29) 0) (A 74 x2.toNatClampNeg)) = false → X (d + 3) 260 58 [.ref 68, .int x1, .int x2, .int x3, .int x4, .int (x5 + 1)] [] (F, A, J, G) Q))) ∧ ((isO x3 x5) = false → X (d + 3) 260 58 [.ref 68, .int x1, .int x2, .int x3, .int x4, .int (x5 + 1)] [] (F, A, J, G) Q))) ∧ (¬ x5 < (A 72 0) → Q (.inl (some (.int x4))) (F, A, J, G)))) : X (d + 3) 260 58 [.ref 68, .int x1, .int x2, .int x3, .int x4, .int x5] [] (F, A, J, G) Q := by
  refine Y_il5 i_260_58 ?_
  refine Y_al0 i_260_60 ?_
  refine Y_gR i_260_61 ow_260 lf_10_42 (k_68 hG) (r_68_4 hG) ?_
  refine Y_iconst (v := 0) i_260_64 (by decide) ?_
  refine Y_iaload (k := 0) (v := (A 72 0)) i_260_65 (k_72 hG) (l_72 hG) (by decide) (by decide) rfl ?_
  refine Y_cge i_260_66 (fun e1 => ?_) (fun e1 => ?_)
  · replace h := h.1 e1
    refine Y_il3 i_260_69 ?_
    refine Y_il5 i_260_70 ?_
    refine Y_is_2 (L0 := [.int x3, .int x5]) i_260_72 ow_260 lm_10_395 rfl mx_179 rfl rfl hd_260 ?_
    refine c_179 hG (KKi ?_)
    refine Y_beq i_260_75 (fun e2 => ?_) (fun e2 => ?_)
    · replace h := h.1 e2
      refine Y_al0 i_260_78 ?_
      refine Y_il2 i_260_79 ?_
      refine Y_il5 i_260_80 ?_
      have o3 := h.1
      replace h := h.2
      have o4 := h.1
      replace h := h.2
      have o5 := h.1
      replace h := h.2
      have o6 := h.1
      replace h := h.2
      have o7 := h.1
      replace h := h.2
      refine Y_iv2 (L0 := [.ref 68, .int x2, .int x5]) i_260_82 ow_260 lm_10_429 ((k_68 hG).trans ow_258.symm) rfl mx_258 rfl rfl hd_260 ?_
      refine c_258 hG o3 o4 o5 o6 o7 (KKi ?_)
      refine Y_beq i_260_85 (fun e8 => ?_) (fun e8 => ?_)
      · replace h := h.1 e8
        refine Y_il4 i_260_88 ?_
        refine Y_iconst (v := 1) i_260_90 (by decide) ?_
        refine Y_al0 i_260_91 ?_
        refine Y_il3 i_260_92 ?_
        refine Y_iconst (v := 1) i_260_93 (by decide) ?_
        refine Y_il5 i_260_94 ?_
        refine Y_ishl i_260_96 ?_
        refine Y_iconst (v := (-1)) i_260_97 (by decide) ?_
        refine Y_ixor i_260_98 ?_
        refine Y_iand i_260_99 ?_
        exact Y_iv1 (L0 := [.ref 68, .int (x3 &&& (((1 : Int32) <<< (x5 &&& 31)) ^^^ (-1))), .null, .null, .null, .null]) i_260_100 ow_260 lm_10_432 ((k_68 hG).trans ow_260.symm) rfl mx_260 rfl rfl hd_260 h
      · replace h := h.2 e8
        refine Y_ii5 (v := 1) i_260_109 (by decide) rfl ?_
        refine Y_goto i_260_112 ?_
        exact h
    · replace h := h.2 e2
      refine Y_ii5 (v := 1) i_260_109 (by decide) rfl ?_
      refine Y_goto i_260_112 ?_
      exact h
  · replace h := h.2 e1
    refine Y_il4 i_260_115 ?_
    exact Y_iret i_260_117 rt_260 h
theorem k_260_103 {d : Nat} {F A : Nat → Nat → Int32} {J : Nat → Nat → Int64} {G : pG} {Q : pR → pM → Prop} {SL p q : Nat} {x1 x2 x3 x4 x5 r s0 s1 : Int32} (hG : Geo G SL p q) (h : X (d + 3) 260 58 [.ref 68, .int x1, .int x2, .int x3, .int (jmax s1 (s0 + r)), .int (x5 + 1)] [] (F, A, J, G) Q) : KK (d + 3) 260 103 [.ref 68, .int x1, .int x2, .int x3, .int x4, .int x5] [.int s0, .int s1] Q (.inl (some (.int r))) (F, A, J, G) := by
  refine KKi ?_
  refine Y_iadd i_260_103 ?_
  refine Y_max i_260_104 ow_260 lm_10_298 rfl ?_
  refine Y_is4 i_260_107 rfl ?_
  refine Y_ii5 (v := 1) i_260_109 (by decide) rfl ?_
  refine Y_goto i_260_112 ?_
  exact h
/- 261 Model.marriages()I -/
theorem t_261_0 {d : Nat} {F A : Nat → Nat → Int32} {J : Nat → Nat → Int64} {G : pG} {Q : pR → pM → Prop} {SL p q : Nat} (hG : Geo G SL p q) (h : X (d + 3) 260 0 [.ref 68, .int (((1 : Int32) <<< ((A 72 0) &&& 31)) - 1), .null, .null, .null, .null] [] ((wF F 68 3 0), A, J, G) (KK (d + 4) 261 19 [.ref 68] [] Q)) : X (d + 4) 261 0 [.ref 68] [] (F, A, J, G) Q := by
  refine Y_al0 i_261_0 ?_
  refine Y_iconst (v := 0) i_261_1 (by decide) ?_
  refine Y_pI i_261_2 ow_261 lf_10_143 (k_68 hG) ?_
  refine Y_al0 i_261_5 ?_
  refine Y_iconst (v := 1) i_261_6 (by decide) ?_
  refine Y_al0 i_261_7 ?_
  refine Y_gR i_261_8 ow_261 lf_10_42 (k_68 hG) (r_68_4 hG) ?_
  refine Y_iconst (v := 0) i_261_11 (by decide) ?_
  refine Y_iaload (k := 0) (v := (A 72 0)) i_261_12 (k_72 hG) (l_72 hG) (by decide) (by decide) rfl ?_
  refine Y_ishl i_261_13 ?_
  refine Y_iconst (v := 1) i_261_14 (by decide) ?_
  refine Y_isub i_261_15 ?_
  exact Y_iv1 (L0 := [.ref 68, .int (((1 : Int32) <<< ((A 72 0) &&& 31)) - 1), .null, .null, .null, .null]) i_261_16 ow_261 lm_10_432 ((k_68 hG).trans ow_260.symm) rfl mx_260 rfl rfl hd_261 h
theorem k_261_19 {d : Nat} {F A : Nat → Nat → Int32} {J : Nat → Nat → Int64} {G : pG} {Q : pR → pM → Prop} {SL p q : Nat} {r : Int32} (hG : Geo G SL p q) (h : Q (.inl (some (.int r))) (F, A, J, G)) : KK (d + 4) 261 19 [.ref 68] [] Q (.inl (some (.int r))) (F, A, J, G) := by
  refine KKi ?_
  exact Y_iret i_261_19 rt_261 h
/- 262 Model.nod(II)I -/
theorem t_262_0 {d : Nat} {F A : Nat → Nat → Int32} {J : Nat → Nat → Int64} {G : pG} {Q : pR → pM → Prop} {SL p q : Nat} {x1 x2 : Int32} (hG : Geo G SL p q) (h : hB (A 72 0) = true ∧ (((inR x1 (A 72 0)) = true → hB ((wF F 68 3 0) 68 28) = true ∧ (((lvI (A 81) ((wF F 68 3 0) 68 28) x1) = (-1) → Q (.inl (some (.int 0))) ((wF (wF F 68 3 0) 68 3 1), A, J, G)) ∧ (¬ (lvI (A 81) ((wF F 68 3 0) 68 28) x1) = (-1) → (((inL x2.toInt64 0 99) = true → inB x1 10 = true ∧ (X (d + 4) 217 0 [.ref 68, .null] [] ((wF F 68 3 0), (wF A 82 x1.toNatClampNeg ((A 82 x1.toNatClampNeg) + x2)), J, G) (KK (d + 5) 262 60 [.ref 68, .int x1, .int x2, .null] [] Q))) ∧ ((inL x2.toInt64 0 99) = false → Q (.inl (some (.int 0))) ((wF (wF F 68 3 0) 68 3 2), A, J, G)))))) ∧ ((inR x1 (A 72 0)) = false → Q (.inl (some (.int 0))) ((wF (wF F 68 3 0) 68 3 1), A, J, G)))) : X (d + 5) 262 0 [.ref 68, .int x1, .int x2, .null] [] (F, A, J, G) Q := by
  refine Y_al0 i_262_0 ?_
  refine Y_iconst (v := 0) i_262_1 (by decide) ?_
  refine Y_pI i_262_2 ow_262 lf_10_143 (k_68 hG) ?_
  refine Y_al0 i_262_5 ?_
  refine Y_il1 i_262_6 ?_
  have o1 := h.1
  replace h := h.2
  refine Y_iv1 (L0 := [.ref 68, .int x1]) i_262_7 ow_262 lm_10_333 ((k_68 hG).trans ow_180.symm) rfl mx_180 rfl rfl hd_262 ?_
  refine c_180 hG o1 (KKi ?_)
  refine Y_beq i_262_10 (fun e2 => ?_) (fun e2 => ?_)
  · replace h := h.1 e2
    refine Y_al0 i_262_13 ?_
    refine Y_il1 i_262_14 ?_
    have o3 := h.1
    replace h := h.2
    refine Y_iv1 (L0 := [.ref 68, .int x1, .null]) i_262_15 ow_262 lm_10_336 ((k_68 hG).trans ow_209.symm) rfl mx_209 rfl rfl hd_262 ?_
    refine c_209 hG o3 (KKi ?_)
    refine Y_iconst (v := (-1)) i_262_18 (by decide) ?_
    refine Y_cne i_262_19 (fun e4 => ?_) (fun e4 => ?_)
    · replace h := h.1 e4
      refine Y_al0 i_262_22 ?_
      refine Y_iconst (v := 1) i_262_23 (by decide) ?_
      refine Y_iv1 (L0 := [.ref 68, .int 1]) i_262_24 ow_262 lm_10_269 ((k_68 hG).trans ow_176.symm) rfl mx_176 rfl rfl hd_262 ?_
      refine Y_al0 i_176_0 ?_
      refine Y_il1 i_176_1 ?_
      refine Y_pI i_176_2 ow_176 lf_10_143 (k_68 hG) ?_
      refine Y_iconst (v := 0) i_176_5 (by decide) ?_
      refine Y_iret i_176_6 rt_176 (KKi ?_)
      exact Y_iret i_262_27 rt_262 h
    · replace h := h.2 e4
      refine Y_il2 i_262_28 ?_
      refine Y_i2l i_262_29 ?_
      refine Y_lconst (v := 0) i_262_30 (by decide) ?_
      refine Y_ldcL i_262_31 ow_262 lj_10_427 ?_
      refine Y_is_3 (L0 := [.long x2.toInt64, .null, .long 0, .null, .long 99, .null]) i_262_34 ow_262 lm_10_146 rfl mx_178 rfl rfl hd_262 ?_
      refine c_178 hG (KKi ?_)
      refine Y_bne i_262_37 (fun e5 => ?_) (fun e5 => ?_)
      · replace h := h.1 e5
        refine Y_al0 i_262_46 ?_
        refine Y_gR i_262_47 ow_262 lf_10_73 (k_68 hG) (r_68_24 hG) ?_
        refine Y_il1 i_262_50 ?_
        refine Y_dup2 i_262_51 rfl rfl ?_
        have o6 := h.1
        replace h := h.2
        refine Y_iaload (k := x1.toNatClampNeg) (v := (A 82 x1.toNatClampNeg)) i_262_52 (k_82 hG) (l_82 hG) o6 rfl rfl ?_
        refine Y_il2 i_262_53 ?_
        refine Y_iadd i_262_54 ?_
        refine Y_iast i_262_55 (k_82 hG) (l_82 hG) o6 rfl ?_
        refine Y_al0 i_262_56 ?_
        exact Y_iv0 (L0 := [.ref 68, .null]) i_262_57 ow_262 lm_10_323 ((k_68 hG).trans ow_217.symm) rfl mx_217 rfl rfl hd_262 h
      · replace h := h.2 e5
        refine Y_al0 i_262_40 ?_
        refine Y_iconst (v := 2) i_262_41 (by decide) ?_
        refine Y_iv1 (L0 := [.ref 68, .int 2]) i_262_42 ow_262 lm_10_269 ((k_68 hG).trans ow_176.symm) rfl mx_176 rfl rfl hd_262 ?_
        refine Y_al0 i_176_0 ?_
        refine Y_il1 i_176_1 ?_
        refine Y_pI i_176_2 ow_176 lf_10_143 (k_68 hG) ?_
        refine Y_iconst (v := 0) i_176_5 (by decide) ?_
        refine Y_iret i_176_6 rt_176 (KKi ?_)
        exact Y_iret i_262_45 rt_262 h
  · replace h := h.2 e2
    refine Y_al0 i_262_22 ?_
    refine Y_iconst (v := 1) i_262_23 (by decide) ?_
    refine Y_iv1 (L0 := [.ref 68, .int 1]) i_262_24 ow_262 lm_10_269 ((k_68 hG).trans ow_176.symm) rfl mx_176 rfl rfl hd_262 ?_
    refine Y_al0 i_176_0 ?_
    refine Y_il1 i_176_1 ?_
    refine Y_pI i_176_2 ow_176 lf_10_143 (k_68 hG) ?_
    refine Y_iconst (v := 0) i_176_5 (by decide) ?_
    refine Y_iret i_176_6 rt_176 (KKi ?_)
    exact Y_iret i_262_27 rt_262 h
theorem k_262_60 {d : Nat} {F A : Nat → Nat → Int32} {J : Nat → Nat → Int64} {G : pG} {Q : pR → pM → Prop} {SL p q : Nat} {x1 x2 r : Int32} (hG : Geo G SL p q) (h : inB x1 10 = true ∧ (Q (.inl (some (.int r))) (F, (wF A 82 x1.toNatClampNeg ((A 82 x1.toNatClampNeg) - x2)), J, G))) : KK (d + 5) 262 60 [.ref 68, .int x1, .int x2, .null] [] Q (.inl (some (.int r))) (F, A, J, G) := by
  refine KKi ?_
  refine Y_is3 i_262_60 rfl ?_
  refine Y_al0 i_262_61 ?_
  refine Y_gR i_262_62 ow_262 lf_10_73 (k_68 hG) (r_68_24 hG) ?_
  refine Y_il1 i_262_65 ?_
  refine Y_dup2 i_262_66 rfl rfl ?_
  have o1 := h.1
  replace h := h.2
  refine Y_iaload (k := x1.toNatClampNeg) (v := (A 82 x1.toNatClampNeg)) i_262_67 (k_82 hG) (l_82 hG) o1 rfl rfl ?_
  refine Y_il2 i_262_68 ?_
  refine Y_isub i_262_69 ?_
  refine Y_iast i_262_70 (k_82 hG) (l_82 hG) o1 rfl ?_
  refine Y_il3 i_262_71 ?_
  exact Y_iret i_262_72 rt_262 h
/- 263 Model.fair()I -/
theorem t_263_0 {d : Nat} {F A : Nat → Nat → Int32} {J : Nat → Nat → Int64} {G : pG} {Q : pR → pM → Prop} {SL p q : Nat} (hG : Geo G SL p q) (h : X (d + 2) 207 0 [.ref 68, .ref 88, .int 0, .null] [] ((wF F 68 3 0), A, J, G) (KK (d + 3) 263 14 [.ref 68, .null, .null] [] Q)) : X (d + 3) 263 0 [.ref 68, .null, .null] [] (F, A, J, G) Q := by
  refine Y_al0 i_263_0 ?_
  refine Y_iconst (v := 0) i_263_1 (by decide) ?_
  refine Y_pI i_263_2 ow_263 lf_10_143 (k_68 hG) ?_
  refine Y_al0 i_263_5 ?_
  refine Y_al0 i_263_6 ?_
  refine Y_gR i_263_7 ow_263 lf_10_94 (k_68 hG) (r_68_35 hG) ?_
  refine Y_iconst (v := 0) i_263_10 (by decide) ?_
  exact Y_iv2 (L0 := [.ref 68, .ref 88, .int 0, .null]) i_263_11 ow_263 lm_10_347 ((k_68 hG).trans ow_207.symm) rfl mx_207 rfl rfl hd_263 h
theorem k_263_14 {d : Nat} {F A : Nat → Nat → Int32} {J : Nat → Nat → Int64} {G : pG} {Q : pR → pM → Prop} {SL p q : Nat} (hG : Geo G SL p q) (h : X (d + 3) 263 18 [.ref 68, .int (-1), .int 0] [] (F, A, J, G) Q) : KK (d + 3) 263 14 [.ref 68, .null, .null] [] Q (.inl none) (F, A, J, G) := by
  refine KKv ?_
  refine Y_iconst (v := (-1)) i_263_14 (by decide) ?_
  refine Y_is1 i_263_15 rfl ?_
  refine Y_iconst (v := 0) i_263_16 (by decide) ?_
  refine Y_is2 i_263_17 rfl ?_
  exact h
theorem t_263_18 {d : Nat} {F A : Nat → Nat → Int32} {J : Nat → Nat → Int64} {G : pG} {Q : pR → pM → Prop} {SL p q : Nat} {x1 x2 : Int32} (hG : Geo G SL p q) (h : ((999 < x2 → X (d + 2) 208 0 [.ref 68, .ref 88, .int 0, .null] [] (F, A, J, G) (KK (d + 3) 263 64 [.ref 68, .int x1, .int x2] [] Q)) ∧ (¬ 999 < x2 → ((x1 = (-1) → X (d + 2) 238 0 [.ref 68, .int x2, .null, .null, .null, .null] [] (F, A, J, G) (KK (d + 3) 263 35 [.ref 68, .int x1, .int x2] [] Q)) ∧ (¬ x1 = (-1) → X (d + 2) 208 0 [.ref 68, .ref 88, .int 0, .null] [] (F, A, J, G) (KK (d + 3) 263 64 [.ref 68, .int x1, .int x2] [] Q)))))) : X (d + 3) 263 18 [.ref 68, .int x1, .int x2] [] (F, A, J, G) Q := by
  refine Y_il2 i_263_18 ?_
  refine Y_sipush (v := 999) i_263_19 (by decide) ?_
  refine Y_cgt i_263_22 (fun e1 => ?_) (fun e1 => ?_)
  · replace h := h.1 e1
    refine Y_al0 i_263_55 ?_
    refine Y_al0 i_263_56 ?_
    refine Y_gR i_263_57 ow_263 lf_10_94 (k_68 hG) (r_68_35 hG) ?_
    refine Y_iconst (v := 0) i_263_60 (by decide) ?_
    exact Y_iv2 (L0 := [.ref 68, .ref 88, .int 0, .null]) i_263_61 ow_263 lm_10_386 ((k_68 hG).trans ow_208.symm) rfl mx_208 rfl rfl hd_263 h
  · replace h := h.2 e1
    refine Y_il1 i_263_25 ?_
    refine Y_iconst (v := (-1)) i_263_26 (by decide) ?_
    refine Y_cne i_263_27 (fun e2 => ?_) (fun e2 => ?_)
    · replace h := h.1 e2
      refine Y_al0 i_263_30 ?_
      refine Y_il2 i_263_31 ?_
      exact Y_iv1 (L0 := [.ref 68, .int x2, .null, .null, .null, .null]) i_263_32 ow_263 lm_10_381 ((k_68 hG).trans ow_238.symm) rfl mx_238 rfl rfl hd_263 h
    · replace h := h.2 e2
      refine Y_al0 i_263_55 ?_
      refine Y_al0 i_263_56 ?_
      refine Y_gR i_263_57 ow_263 lf_10_94 (k_68 hG) (r_68_35 hG) ?_
      refine Y_iconst (v := 0) i_263_60 (by decide) ?_
      exact Y_iv2 (L0 := [.ref 68, .ref 88, .int 0, .null]) i_263_61 ow_263 lm_10_386 ((k_68 hG).trans ow_208.symm) rfl mx_208 rfl rfl hd_263 h
theorem k_263_35 {d : Nat} {F A : Nat → Nat → Int32} {J : Nat → Nat → Int64} {G : pG} {Q : pR → pM → Prop} {SL p q : Nat} {x1 x2 r : Int32} (hG : Geo G SL p q) (h : X (d + 2) 220 0 [.ref 68, .null, .null] [] (F, A, J, G) (KK (d + 3) 263 40 [.ref 68, .int x1, .int x2] [] Q)) : KK (d + 3) 263 35 [.ref 68, .int x1, .int x2] [] Q (.inl (some (.int r))) (F, A, J, G) := by
  refine KKi ?_
  refine Y_pop i_263_35 rfl ?_
  refine Y_al0 i_263_36 ?_
  exact Y_iv0 (L0 := [.ref 68, .null, .null]) i_263_37 ow_263 lm_10_330 ((k_68 hG).trans ow_220.symm) rfl mx_220 rfl rfl hd_263 h
theorem k_263_40 {d : Nat} {F A : Nat → Nat → Int32} {J : Nat → Nat → Int64} {G : pG} {Q : pR → pM → Prop} {SL p q : Nat} {x1 x2 r : Int32} (hG : Geo G SL p q) (h : hB (F 68 28) = true ∧ ((r = (bitsI (A 81) (F 68 28)) → X (d + 3) 263 18 [.ref 68, .int x2, .int (x2 + 1)] [] (F, A, J, G) Q) ∧ (¬ r = (bitsI (A 81) (F 68 28)) → X (d + 3) 263 18 [.ref 68, .int x1, .int (x2 + 1)] [] (F, A, J, G) Q))) : KK (d + 3) 263 40 [.ref 68, .int x1, .int x2] [] Q (.inl (some (.int r))) (F, A, J, G) := by
  refine KKi ?_
  refine Y_al0 i_263_40 ?_
  have o1 := h.1
  replace h := h.2
  refine Y_iv0 (L0 := [.ref 68, .null, .null]) i_263_41 ow_263 lm_10_339 ((k_68 hG).trans ow_221.symm) rfl mx_221 rfl rfl hd_263 ?_
  refine c_221 hG o1 (KKi ?_)
  refine Y_cne i_263_44 (fun e2 => ?_) (fun e2 => ?_)
  · replace h := h.1 e2
    refine Y_il2 i_263_47 ?_
    refine Y_is1 i_263_48 rfl ?_
    refine Y_ii2 (v := 1) i_263_49 (by decide) rfl ?_
    refine Y_goto i_263_52 ?_
    exact h
  · replace h := h.2 e2
    refine Y_ii2 (v := 1) i_263_49 (by decide) rfl ?_
    refine Y_goto i_263_52 ?_
    exact h
theorem k_263_64 {d : Nat} {F A : Nat → Nat → Int32} {J : Nat → Nat → Int64} {G : pG} {Q : pR → pM → Prop} {SL p q : Nat} {x1 x2 : Int32} (hG : Geo G SL p q) (h : Q (.inl (some (.int x1))) (F, A, J, G)) : KK (d + 3) 263 64 [.ref 68, .int x1, .int x2] [] Q (.inl none) (F, A, J, G) := by
  refine KKv ?_
  refine Y_il1 i_263_64 ?_
  exact Y_iret i_263_65 rt_263 h
/- 264 Model.top(I)I -/
theorem t_264_0 {d : Nat} {F A : Nat → Nat → Int32} {J : Nat → Nat → Int64} {G : pG} {Q : pR → pM → Prop} {SL p q : Nat} {x1 : Int32} (hG : Geo G SL p q) (h : (((inL x1.toInt64 0 999) = true → (((F 68 28) = 0 → Q (.inl (some (.int (-1)))) ((wF F 68 3 0), A, J, G)) ∧ (¬ (F 68 28) = 0 → X (d + 2) 207 0 [.ref 68, .ref 88, .int 0, .null] [] ((wF F 68 3 0), A, J, G) (KK (d + 3) 264 41 [.ref 68, .int x1, .null] [] Q)))) ∧ ((inL x1.toInt64 0 999) = false → Q (.inl (some (.int 0))) ((wF (wF F 68 3 0) 68 3 1), A, J, G)))) : X (d + 3) 264 0 [.ref 68, .int x1, .null] [] (F, A, J, G) Q := by
  refine Y_al0 i_264_0 ?_
  refine Y_iconst (v := 0) i_264_1 (by decide) ?_
  refine Y_pI i_264_2 ow_264 lf_10_143 (k_68 hG) ?_
  refine Y_il1 i_264_5 ?_
  refine Y_i2l i_264_6 ?_
  refine Y_lconst (v := 0) i_264_7 (by decide) ?_
  refine Y_ldcL i_264_8 ow_264 lj_10_435 ?_
  refine Y_is_3 (L0 := [.long x1.toInt64, .null, .long 0, .null, .long 999, .null]) i_264_11 ow_264 lm_10_146 rfl mx_178 rfl rfl hd_264 ?_
  refine c_178 hG (KKi ?_)
  refine Y_bne i_264_14 (fun e1 => ?_) (fun e1 => ?_)
  · replace h := h.1 e1
    refine Y_al0 i_264_23 ?_
    refine Y_gI (v := (F 68 28)) i_264_24 ow_264 lf_10_150 (by decide) (k_68 hG) (by simp [wF, wJ, va_up, cpR, bF, bA]) ?_
    refine Y_zne i_264_27 (fun e2 => ?_) (fun e2 => ?_)
    · replace h := h.1 e2
      refine Y_iconst (v := (-1)) i_264_30 (by decide) ?_
      exact Y_iret i_264_31 rt_264 h
    · replace h := h.2 e2
      refine Y_al0 i_264_32 ?_
      refine Y_al0 i_264_33 ?_
      refine Y_gR i_264_34 ow_264 lf_10_94 (k_68 hG) (r_68_35 hG) ?_
      refine Y_iconst (v := 0) i_264_37 (by decide) ?_
      exact Y_iv2 (L0 := [.ref 68, .ref 88, .int 0, .null]) i_264_38 ow_264 lm_10_347 ((k_68 hG).trans ow_207.symm) rfl mx_207 rfl rfl hd_264 h
  · replace h := h.2 e1
    refine Y_al0 i_264_17 ?_
    refine Y_iconst (v := 1) i_264_18 (by decide) ?_
    refine Y_iv1 (L0 := [.ref 68, .int 1]) i_264_19 ow_264 lm_10_269 ((k_68 hG).trans ow_176.symm) rfl mx_176 rfl rfl hd_264 ?_
    refine Y_al0 i_176_0 ?_
    refine Y_il1 i_176_1 ?_
    refine Y_pI i_176_2 ow_176 lf_10_143 (k_68 hG) ?_
    refine Y_iconst (v := 0) i_176_5 (by decide) ?_
    refine Y_iret i_176_6 rt_176 (KKi ?_)
    exact Y_iret i_264_22 rt_264 h
theorem k_264_41 {d : Nat} {F A : Nat → Nat → Int32} {J : Nat → Nat → Int64} {G : pG} {Q : pR → pM → Prop} {SL p q : Nat} {x1 : Int32} (hG : Geo G SL p q) (h : X (d + 2) 238 0 [.ref 68, .int x1, .null, .null, .null, .null] [] (F, A, J, G) (KK (d + 3) 264 46 [.ref 68, .int x1, .null] [] Q)) : KK (d + 3) 264 41 [.ref 68, .int x1, .null] [] Q (.inl none) (F, A, J, G) := by
  refine KKv ?_
  refine Y_al0 i_264_41 ?_
  refine Y_il1 i_264_42 ?_
  exact Y_iv1 (L0 := [.ref 68, .int x1, .null, .null, .null, .null]) i_264_43 ow_264 lm_10_381 ((k_68 hG).trans ow_238.symm) rfl mx_238 rfl rfl hd_264 h
theorem k_264_46 {d : Nat} {F A : Nat → Nat → Int32} {J : Nat → Nat → Int64} {G : pG} {Q : pR → pM → Prop} {SL p q : Nat} {x1 r : Int32} (hG : Geo G SL p q) (h : inB ((F 68 28) - 1) 10 = true ∧ inB (A 81 ((F 68 28) - 1).toNatClampNeg) 10 = true ∧ (X (d + 2) 208 0 [.ref 68, .ref 88, .int 0, .null] [] (F, A, J, G) (KK (d + 3) 264 73 [.ref 68, .int x1, .int (A 82 (A 81 ((F 68 28) - 1).toNatClampNeg).toNatClampNeg)] [] Q))) : KK (d + 3) 264 46 [.ref 68, .int x1, .null] [] Q (.inl (some (.int r))) (F, A, J, G) := by
  refine KKi ?_
  refine Y_pop i_264_46 rfl ?_
  refine Y_al0 i_264_47 ?_
  refine Y_gR i_264_48 ow_264 lf_10_73 (k_68 hG) (r_68_24 hG) ?_
  refine Y_al0 i_264_51 ?_
  refine Y_gR i_264_52 ow_264 lf_10_70 (k_68 hG) (r_68_23 hG) ?_
  refine Y_al0 i_264_55 ?_
  refine Y_gI (v := (F 68 28)) i_264_56 ow_264 lf_10_150 (by decide) (k_68 hG) rfl ?_
  refine Y_iconst (v := 1) i_264_59 (by decide) ?_
  refine Y_isub i_264_60 ?_
  have o1 := h.1
  replace h := h.2
  refine Y_iaload (k := ((F 68 28) - 1).toNatClampNeg) (v := (A 81 ((F 68 28) - 1).toNatClampNeg)) i_264_61 (k_81 hG) (l_81 hG) o1 rfl rfl ?_
  have o2 := h.1
  replace h := h.2
  refine Y_iaload (k := (A 81 ((F 68 28) - 1).toNatClampNeg).toNatClampNeg) (v := (A 82 (A 81 ((F 68 28) - 1).toNatClampNeg).toNatClampNeg)) i_264_62 (k_82 hG) (l_82 hG) o2 rfl rfl ?_
  refine Y_is2 i_264_63 rfl ?_
  refine Y_al0 i_264_64 ?_
  refine Y_al0 i_264_65 ?_
  refine Y_gR i_264_66 ow_264 lf_10_94 (k_68 hG) (r_68_35 hG) ?_
  refine Y_iconst (v := 0) i_264_69 (by decide) ?_
  exact Y_iv2 (L0 := [.ref 68, .ref 88, .int 0, .null]) i_264_70 ow_264 lm_10_386 ((k_68 hG).trans ow_208.symm) rfl mx_208 rfl rfl hd_264 h
theorem k_264_73 {d : Nat} {F A : Nat → Nat → Int32} {J : Nat → Nat → Int64} {G : pG} {Q : pR → pM → Prop} {SL p q : Nat} {x1 x2 : Int32} (hG : Geo G SL p q) (h : Q (.inl (some (.int x2))) (F, A, J, G)) : KK (d + 3) 264 73 [.ref 68, .int x1, .int x2] [] Q (.inl none) (F, A, J, G) := by
  refine KKv ?_
  refine Y_il2 i_264_73 ?_
  exact Y_iret i_264_74 rt_264 h
/- 265 Model.hungriest()I -/
theorem t_265_0 {d : Nat} {F A : Nat → Nat → Int32} {J : Nat → Nat → Int64} {G : pG} {Q : pR → pM → Prop} {SL p q : Nat} (hG : Geo G SL p q) (h : X (d + 1) 265 11 [.ref 68, .int (-1), .int 0, .int 0] [] ((wF F 68 3 0), A, J, G) Q) : X (d + 1) 265 0 [.ref 68, .null, .null, .null] [] (F, A, J, G) Q := by
  refine Y_al0 i_265_0 ?_
  refine Y_iconst (v := 0) i_265_1 (by decide) ?_
  refine Y_pI i_265_2 ow_265 lf_10_143 (k_68 hG) ?_
  refine Y_iconst (v := (-1)) i_265_5 (by decide) ?_
  refine Y_is1 i_265_6 rfl ?_
  refine Y_iconst (v := 0) i_265_7 (by decide) ?_
  refine Y_is2 i_265_8 rfl ?_
  refine Y_iconst (v := 0) i_265_9 (by decide) ?_
  refine Y_is3 i_265_10 rfl ?_
  exact h
theorem t_265_11 {d : Nat} {F A : Nat → Nat → Int32} {J : Nat → Nat → Int64} {G : pG} {Q : pR → pM → Prop} {SL p q : Nat} {x1 x2 x3 : Int32} (hG : Geo G SL p q) (h : ((x3 < (A 72 0) → hB (F 68 28) = true ∧ (((lvI (A 81) (F 68 28) x3) = (-1) → X (d + 1) 265 11 [.ref 68, .int x1, .int x2, .int (x3 + 1)] [] (F, A, J, G) Q) ∧ (¬ (lvI (A 81) (F 68 28) x3) = (-1) → inB x3 20 = true ∧ inB x3 10 = true ∧ ((x2 < ((A 77 x3.toNatClampNeg) - (A 82 x3.toNatClampNeg)) → X (d + 1) 265 11 [.ref 68, .int x3, .int ((A 77 x3.toNatClampNeg) - (A 82 x3.toNatClampNeg)), .int (x3 + 1)] [] (F, A, J, G) Q) ∧ (¬ x2 < ((A 77 x3.toNatClampNeg) - (A 82 x3.toNatClampNeg)) → X (d + 1) 265 11 [.ref 68, .int x1, .int x2, .int (x3 + 1)] [] (F, A, J, G) Q))))) ∧ (¬ x3 < (A 72 0) → Q (.inl (some (.int x1))) (F, A, J, G)))) : X (d + 1) 265 11 [.ref 68, .int x1, .int x2, .int x3] [] (F, A, J, G) Q := by
  refine Y_il3 i_265_11 ?_
  refine Y_al0 i_265_12 ?_
  refine Y_gR i_265_13 ow_265 lf_10_42 (k_68 hG) (r_68_4 hG) ?_
  refine Y_iconst (v := 0) i_265_16 (by decide) ?_
  refine Y_iaload (k := 0) (v := (A 72 0)) i_265_17 (k_72 hG) (l_72 hG) (by decide) (by decide) rfl ?_
  refine Y_cge i_265_18 (fun e1 => ?_) (fun e1 => ?_)
  · replace h := h.1 e1
    refine Y_al0 i_265_21 ?_
    refine Y_il3 i_265_22 ?_
    have o2 := h.1
    replace h := h.2
    refine Y_iv1 (L0 := [.ref 68, .int x3, .null]) i_265_23 ow_265 lm_10_336 ((k_68 hG).trans ow_209.symm) rfl mx_209 rfl rfl hd_265 ?_
    refine c_209 hG o2 (KKi ?_)
    refine Y_iconst (v := (-1)) i_265_26 (by decide) ?_
    refine Y_ceq i_265_27 (fun e3 => ?_) (fun e3 => ?_)
    · replace h := h.1 e3
      refine Y_ii3 (v := 1) i_265_66 (by decide) rfl ?_
      refine Y_goto i_265_69 ?_
      exact h
    · replace h := h.2 e3
      refine Y_al0 i_265_30 ?_
      refine Y_gR i_265_31 ow_265 lf_10_55 (k_68 hG) (r_68_9 hG) ?_
      refine Y_il3 i_265_34 ?_
      have o4 := h.1
      replace h := h.2
      refine Y_iaload (k := x3.toNatClampNeg) (v := (A 77 x3.toNatClampNeg)) i_265_35 (k_77 hG) (l_77 hG) o4 rfl rfl ?_
      refine Y_al0 i_265_36 ?_
      refine Y_gR i_265_37 ow_265 lf_10_73 (k_68 hG) (r_68_24 hG) ?_
      refine Y_il3 i_265_40 ?_
      have o5 := h.1
      replace h := h.2
      refine Y_iaload (k := x3.toNatClampNeg) (v := (A 82 x3.toNatClampNeg)) i_265_41 (k_82 hG) (l_82 hG) o5 rfl rfl ?_
      refine Y_isub i_265_42 ?_
      refine Y_il2 i_265_43 ?_
      refine Y_cgt i_265_44 (fun e6 => ?_) (fun e6 => ?_)
      · replace h := h.1 e6
        refine Y_il3 i_265_50 ?_
        refine Y_is1 i_265_51 rfl ?_
        refine Y_al0 i_265_52 ?_
        refine Y_gR i_265_53 ow_265 lf_10_55 (k_68 hG) (r_68_9 hG) ?_
        refine Y_il3 i_265_56 ?_
        refine Y_iaload (k := x3.toNatClampNeg) (v := (A 77 x3.toNatClampNeg)) i_265_57 (k_77 hG) (l_77 hG) o4 rfl rfl ?_
        refine Y_al0 i_265_58 ?_
        refine Y_gR i_265_59 ow_265 lf_10_73 (k_68 hG) (r_68_24 hG) ?_
        refine Y_il3 i_265_62 ?_
        refine Y_iaload (k := x3.toNatClampNeg) (v := (A 82 x3.toNatClampNeg)) i_265_63 (k_82 hG) (l_82 hG) o5 rfl rfl ?_
        refine Y_isub i_265_64 ?_
        refine Y_is2 i_265_65 rfl ?_
        refine Y_ii3 (v := 1) i_265_66 (by decide) rfl ?_
        refine Y_goto i_265_69 ?_
        exact h
      · replace h := h.2 e6
        refine Y_goto i_265_47 ?_
        refine Y_ii3 (v := 1) i_265_66 (by decide) rfl ?_
        refine Y_goto i_265_69 ?_
        exact h
  · replace h := h.2 e1
    refine Y_il1 i_265_72 ?_
    exact Y_iret i_265_73 rt_265 h
/- 266 Model.takeOffAll(I)V -/
theorem t_266_0 {d : Nat} {F A : Nat → Nat → Int32} {J : Nat → Nat → Int64} {G : pG} {Q : pR → pM → Prop} {SL p q : Nat} {x1 : Int32} (hG : Geo G SL p q) (h : X (d + 2) 266 2 [.ref 68, .int x1, .int 0] [] (F, A, J, G) Q) : X (d + 2) 266 0 [.ref 68, .int x1, .null] [] (F, A, J, G) Q := by
  refine Y_iconst (v := 0) i_266_0 (by decide) ?_
  refine Y_is2 i_266_1 rfl ?_
  exact h
theorem t_266_2 {d : Nat} {F A : Nat → Nat → Int32} {J : Nat → Nat → Int64} {G : pG} {Q : pR → pM → Prop} {SL p q : Nat} {x1 x2 : Int32} (hG : Geo G SL p q) (h : ((x2 < (A 72 0) → (((isO x1 x2) = true → X (d + 1) 230 0 [.ref 68, .int x2, .null, .null] [] (F, A, J, G) (KK (d + 2) 266 25 [.ref 68, .int x1, .int x2] [] Q)) ∧ ((isO x1 x2) = false → X (d + 2) 266 2 [.ref 68, .int x1, .int (x2 + 1)] [] (F, A, J, G) Q))) ∧ (¬ x2 < (A 72 0) → Q (.inl none) (F, A, J, G)))) : X (d + 2) 266 2 [.ref 68, .int x1, .int x2] [] (F, A, J, G) Q := by
  refine Y_il2 i_266_2 ?_
  refine Y_al0 i_266_3 ?_
  refine Y_gR i_266_4 ow_266 lf_10_42 (k_68 hG) (r_68_4 hG) ?_
  refine Y_iconst (v := 0) i_266_7 (by decide) ?_
  refine Y_iaload (k := 0) (v := (A 72 0)) i_266_8 (k_72 hG) (l_72 hG) (by decide) (by decide) rfl ?_
  refine Y_cge i_266_9 (fun e1 => ?_) (fun e1 => ?_)
  · replace h := h.1 e1
    refine Y_il1 i_266_12 ?_
    refine Y_il2 i_266_13 ?_
    refine Y_is_2 (L0 := [.int x1, .int x2]) i_266_14 ow_266 lm_10_395 rfl mx_179 rfl rfl hd_266 ?_
    refine c_179 hG (KKi ?_)
    refine Y_beq i_266_17 (fun e2 => ?_) (fun e2 => ?_)
    · replace h := h.1 e2
      refine Y_al0 i_266_20 ?_
      refine Y_il2 i_266_21 ?_
      exact Y_iv1 (L0 := [.ref 68, .int x2, .null, .null]) i_266_22 ow_266 lm_10_357 ((k_68 hG).trans ow_230.symm) rfl mx_230 rfl rfl hd_266 h
    · replace h := h.2 e2
      refine Y_ii2 (v := 1) i_266_25 (by decide) rfl ?_
      refine Y_goto i_266_28 ?_
      exact h
  · replace h := h.2 e1
    exact Y_vret i_266_31 rt_266 h
theorem k_266_25 {d : Nat} {F A : Nat → Nat → Int32} {J : Nat → Nat → Int64} {G : pG} {Q : pR → pM → Prop} {SL p q : Nat} {x1 x2 : Int32} (hG : Geo G SL p q) (h : X (d + 2) 266 2 [.ref 68, .int x1, .int (x2 + 1)] [] (F, A, J, G) Q) : KK (d + 2) 266 25 [.ref 68, .int x1, .int x2] [] Q (.inl none) (F, A, J, G) := by
  refine KKv ?_
  refine Y_ii2 (v := 1) i_266_25 (by decide) rfl ?_
  refine Y_goto i_266_28 ?_
  exact h
/- 267 Model.out(I)I -/
theorem t_267_0 {d : Nat} {F A : Nat → Nat → Int32} {J : Nat → Nat → Int64} {G : pG} {Q : pR → pM → Prop} {SL p q : Nat} {x1 : Int32} (hG : Geo G SL p q) (h : hB (A 72 0) = true ∧ (((inR x1 (A 72 0)) = true → hB ((wF F 68 3 0) 68 28) = true ∧ (((lvI (A 81) ((wF F 68 3 0) 68 28) x1) = (-1) → Q (.inl (some (.int 0))) ((wF (wF F 68 3 0) 68 3 1), A, J, G)) ∧ (¬ (lvI (A 81) ((wF F 68 3 0) 68 28) x1) = (-1) → X (d + 5) 207 0 [.ref 68, .ref 88, .int 0, .null] [] ((wF F 68 3 0), A, J, G) (KK (d + 6) 267 50 [.ref 68, .int x1, .int ((bitsI (A 81) ((wF F 68 3 0) 68 28)) &&& (((1 : Int32) <<< (x1 &&& 31)) ^^^ (-1))), .int ((bitsI (A 81) ((wF F 68 3 0) 68 28)) &&& (((1 : Int32) <<< (x1 &&& 31)) ^^^ (-1))), .null] [] Q)))) ∧ ((inR x1 (A 72 0)) = false → Q (.inl (some (.int 0))) ((wF (wF F 68 3 0) 68 3 1), A, J, G)))) : X (d + 6) 267 0 [.ref 68, .int x1, .null, .null, .null] [] (F, A, J, G) Q := by
  refine Y_al0 i_267_0 ?_
  refine Y_iconst (v := 0) i_267_1 (by decide) ?_
  refine Y_pI i_267_2 ow_267 lf_10_143 (k_68 hG) ?_
  refine Y_al0 i_267_5 ?_
  refine Y_il1 i_267_6 ?_
  have o1 := h.1
  replace h := h.2
  refine Y_iv1 (L0 := [.ref 68, .int x1]) i_267_7 ow_267 lm_10_333 ((k_68 hG).trans ow_180.symm) rfl mx_180 rfl rfl hd_267 ?_
  refine c_180 hG o1 (KKi ?_)
  refine Y_beq i_267_10 (fun e2 => ?_) (fun e2 => ?_)
  · replace h := h.1 e2
    refine Y_al0 i_267_13 ?_
    refine Y_il1 i_267_14 ?_
    have o3 := h.1
    replace h := h.2
    refine Y_iv1 (L0 := [.ref 68, .int x1, .null]) i_267_15 ow_267 lm_10_336 ((k_68 hG).trans ow_209.symm) rfl mx_209 rfl rfl hd_267 ?_
    refine c_209 hG o3 (KKi ?_)
    refine Y_iconst (v := (-1)) i_267_18 (by decide) ?_
    refine Y_cne i_267_19 (fun e4 => ?_) (fun e4 => ?_)
    · replace h := h.1 e4
      refine Y_al0 i_267_22 ?_
      refine Y_iconst (v := 1) i_267_23 (by decide) ?_
      refine Y_iv1 (L0 := [.ref 68, .int 1]) i_267_24 ow_267 lm_10_269 ((k_68 hG).trans ow_176.symm) rfl mx_176 rfl rfl hd_267 ?_
      refine Y_al0 i_176_0 ?_
      refine Y_il1 i_176_1 ?_
      refine Y_pI i_176_2 ow_176 lf_10_143 (k_68 hG) ?_
      refine Y_iconst (v := 0) i_176_5 (by decide) ?_
      refine Y_iret i_176_6 rt_176 (KKi ?_)
      exact Y_iret i_267_27 rt_267 h
    · replace h := h.2 e4
      refine Y_al0 i_267_28 ?_
      refine Y_iv0 (L0 := [.ref 68, .null, .null]) i_267_29 ow_267 lm_10_339 ((k_68 hG).trans ow_221.symm) rfl mx_221 rfl rfl hd_267 ?_
      refine c_221 hG o3 (KKi ?_)
      refine Y_iconst (v := 1) i_267_32 (by decide) ?_
      refine Y_il1 i_267_33 ?_
      refine Y_ishl i_267_34 ?_
      refine Y_iconst (v := (-1)) i_267_35 (by decide) ?_
      refine Y_ixor i_267_36 ?_
      refine Y_iand i_267_37 ?_
      refine Y_is2 i_267_38 rfl ?_
      refine Y_il2 i_267_39 ?_
      refine Y_is3 i_267_40 rfl ?_
      refine Y_al0 i_267_41 ?_
      refine Y_al0 i_267_42 ?_
      refine Y_gR i_267_43 ow_267 lf_10_94 (k_68 hG) (r_68_35 hG) ?_
      refine Y_iconst (v := 0) i_267_46 (by decide) ?_
      exact Y_iv2 (L0 := [.ref 68, .ref 88, .int 0, .null]) i_267_47 ow_267 lm_10_347 ((k_68 hG).trans ow_207.symm) rfl mx_207 rfl rfl hd_267 h
  · replace h := h.2 e2
    refine Y_al0 i_267_22 ?_
    refine Y_iconst (v := 1) i_267_23 (by decide) ?_
    refine Y_iv1 (L0 := [.ref 68, .int 1]) i_267_24 ow_267 lm_10_269 ((k_68 hG).trans ow_176.symm) rfl mx_176 rfl rfl hd_267 ?_
    refine Y_al0 i_176_0 ?_
    refine Y_il1 i_176_1 ?_
    refine Y_pI i_176_2 ow_176 lf_10_143 (k_68 hG) ?_
    refine Y_iconst (v := 0) i_176_5 (by decide) ?_
    refine Y_iret i_176_6 rt_176 (KKi ?_)
    exact Y_iret i_267_27 rt_267 h
theorem k_267_50 {d : Nat} {F A : Nat → Nat → Int32} {J : Nat → Nat → Int64} {G : pG} {Q : pR → pM → Prop} {SL p q : Nat} {x1 x2 x3 : Int32} (hG : Geo G SL p q) (h : X (d + 6) 267 53 [.ref 68, .int x1, .int x2, .int x3, .int 0] [] (F, A, J, G) Q) : KK (d + 6) 267 50 [.ref 68, .int x1, .int x2, .int x3, .null] [] Q (.inl none) (F, A, J, G) := by
  refine KKv ?_
  refine Y_iconst (v := 0) i_267_50 (by decide) ?_
  refine Y_is4 i_267_51 rfl ?_
  exact h
theorem t_267_53 {d : Nat} {F A : Nat → Nat → Int32} {J : Nat → Nat → Int64} {G : pG} {Q : pR → pM → Prop} {SL p q : Nat} {x1 x2 x3 x4 : Int32} (hG : Geo G SL p q) (h : ((x4 < ((1 : Int32) <<< ((A 72 0) &&& 31)) → (((x4 &&& (x2 ^^^ (-1))) = 0 → inB x4 1024 = true ∧ inB x3 1024 = true ∧ (((nI (pcn x4.toNatClampNeg)) < (nI (pcn x3.toNatClampNeg)) → X (d + 5) 266 0 [.ref 68, .int (x4 ||| ((1 : Int32) <<< (x1 &&& 31))), .null] [] (F, A, J, G) (KK (d + 6) 267 118 [.ref 68, .int x1, .int x2, .int x3, .int x4] [] Q)) ∧ (¬ (nI (pcn x4.toNatClampNeg)) < (nI (pcn x3.toNatClampNeg)) → (((nI (pcn x3.toNatClampNeg)) < (nI (pcn x4.toNatClampNeg)) → X (d + 6) 267 53 [.ref 68, .int x1, .int x2, .int x3, .int (x4 + 1)] [] (F, A, J, G) Q) ∧ (¬ (nI (pcn x3.toNatClampNeg)) < (nI (pcn x4.toNatClampNeg)) → ((x4 < x3 → X (d + 5) 266 0 [.ref 68, .int (x4 ||| ((1 : Int32) <<< (x1 &&& 31))), .null] [] (F, A, J, G) (KK (d + 6) 267 118 [.ref 68, .int x1, .int x2, .int x3, .int x4] [] Q)) ∧ (¬ x4 < x3 → X (d + 6) 267 53 [.ref 68, .int x1, .int x2, .int x3, .int (x4 + 1)] [] (F, A, J, G) Q))))))) ∧ (¬ (x4 &&& (x2 ^^^ (-1))) = 0 → X (d + 6) 267 53 [.ref 68, .int x1, .int x2, .int x3, .int (x4 + 1)] [] (F, A, J, G) Q))) ∧ (¬ x4 < ((1 : Int32) <<< ((A 72 0) &&& 31)) → Q (.inl (some (.int x3))) (F, A, J, G)))) : X (d + 6) 267 53 [.ref 68, .int x1, .int x2, .int x3, .int x4] [] (F, A, J, G) Q := by
  refine Y_il4 i_267_53 ?_
  refine Y_iconst (v := 1) i_267_55 (by decide) ?_
  refine Y_al0 i_267_56 ?_
  refine Y_gR i_267_57 ow_267 lf_10_42 (k_68 hG) (r_68_4 hG) ?_
  refine Y_iconst (v := 0) i_267_60 (by decide) ?_
  refine Y_iaload (k := 0) (v := (A 72 0)) i_267_61 (k_72 hG) (l_72 hG) (by decide) (by decide) rfl ?_
  refine Y_ishl i_267_62 ?_
  refine Y_cge i_267_63 (fun e1 => ?_) (fun e1 => ?_)
  · replace h := h.1 e1
    refine Y_il4 i_267_66 ?_
    refine Y_il2 i_267_68 ?_
    refine Y_iconst (v := (-1)) i_267_69 (by decide) ?_
    refine Y_ixor i_267_70 ?_
    refine Y_iand i_267_71 ?_
    refine Y_zne i_267_72 (fun e2 => ?_) (fun e2 => ?_)
    · replace h := h.1 e2
      refine Y_il4 i_267_75 ?_
      have o3 := h.1
      replace h := h.2
      refine Y_is_1 (L0 := [.int x4, .null, .null]) i_267_77 ow_267 lm_10_399 rfl mx_245 rfl rfl hd_267 ?_
      refine c_245 hG o3 (KKi ?_)
      refine Y_il3 i_267_80 ?_
      have o4 := h.1
      replace h := h.2
      refine Y_is_1 (L0 := [.int x3, .null, .null]) i_267_81 ow_267 lm_10_399 rfl mx_245 rfl rfl hd_267 ?_
      refine c_245 hG o4 (KKi ?_)
      refine Y_clt i_267_84 (fun e5 => ?_) (fun e5 => ?_)
      · replace h := h.1 e5
        refine Y_al0 i_267_108 ?_
        refine Y_il4 i_267_109 ?_
        refine Y_iconst (v := 1) i_267_111 (by decide) ?_
        refine Y_il1 i_267_112 ?_
        refine Y_ishl i_267_113 ?_
        refine Y_ior i_267_114 ?_
        exact Y_iv1 (L0 := [.ref 68, .int (x4 ||| ((1 : Int32) <<< (x1 &&& 31))), .null]) i_267_115 ow_267 lm_10_437 ((k_68 hG).trans ow_266.symm) rfl mx_266 rfl rfl hd_267 h
      · replace h := h.2 e5
        refine Y_il4 i_267_87 ?_
        refine Y_is_1 (L0 := [.int x4, .null, .null]) i_267_89 ow_267 lm_10_399 rfl mx_245 rfl rfl hd_267 ?_
        refine c_245 hG o3 (KKi ?_)
        refine Y_il3 i_267_92 ?_
        refine Y_is_1 (L0 := [.int x3, .null, .null]) i_267_93 ow_267 lm_10_399 rfl mx_245 rfl rfl hd_267 ?_
        refine c_245 hG o4 (KKi ?_)
        refine Y_cgt i_267_96 (fun e6 => ?_) (fun e6 => ?_)
        · replace h := h.1 e6
          refine Y_ii4 (v := 1) i_267_137 (by decide) rfl ?_
          refine Y_goto i_267_140 ?_
          exact h
        · replace h := h.2 e6
          refine Y_il4 i_267_99 ?_
          refine Y_il3 i_267_101 ?_
          refine Y_clt i_267_102 (fun e7 => ?_) (fun e7 => ?_)
          · replace h := h.1 e7
            refine Y_al0 i_267_108 ?_
            refine Y_il4 i_267_109 ?_
            refine Y_iconst (v := 1) i_267_111 (by decide) ?_
            refine Y_il1 i_267_112 ?_
            refine Y_ishl i_267_113 ?_
            refine Y_ior i_267_114 ?_
            exact Y_iv1 (L0 := [.ref 68, .int (x4 ||| ((1 : Int32) <<< (x1 &&& 31))), .null]) i_267_115 ow_267 lm_10_437 ((k_68 hG).trans ow_266.symm) rfl mx_266 rfl rfl hd_267 h
          · replace h := h.2 e7
            refine Y_goto i_267_105 ?_
            refine Y_ii4 (v := 1) i_267_137 (by decide) rfl ?_
            refine Y_goto i_267_140 ?_
            exact h
    · replace h := h.2 e2
      refine Y_ii4 (v := 1) i_267_137 (by decide) rfl ?_
      refine Y_goto i_267_140 ?_
      exact h
  · replace h := h.2 e1
    refine Y_il3 i_267_143 ?_
    exact Y_iret i_267_144 rt_267 h
theorem k_267_118 {d : Nat} {F A : Nat → Nat → Int32} {J : Nat → Nat → Int64} {G : pG} {Q : pR → pM → Prop} {SL p q : Nat} {x1 x2 x3 x4 : Int32} (hG : Geo G SL p q) (h : X (d + 5) 218 0 [.ref 68] [] (F, A, J, G) (KK (d + 6) 267 122 [.ref 68, .int x1, .int x2, .int x3, .int x4] [] Q)) : KK (d + 6) 267 118 [.ref 68, .int x1, .int x2, .int x3, .int x4] [] Q (.inl none) (F, A, J, G) := by
  refine KKv ?_
  refine Y_al0 i_267_118 ?_
  exact Y_iv0 (L0 := [.ref 68]) i_267_119 ow_267 lm_10_326 ((k_68 hG).trans ow_218.symm) rfl mx_218 rfl rfl hd_267 h
theorem k_267_122 {d : Nat} {F A : Nat → Nat → Int32} {J : Nat → Nat → Int64} {G : pG} {Q : pR → pM → Prop} {SL p q : Nat} {x1 x2 x3 x4 r : Int32} (hG : Geo G SL p q) (h : ((r = 0 → X (d + 5) 208 0 [.ref 68, .ref 88, .int 0, .null] [] (F, A, J, G) (KK (d + 6) 267 137 [.ref 68, .int x1, .int x2, .int x3, .int x4] [] Q)) ∧ (¬ r = 0 → X (d + 5) 208 0 [.ref 68, .ref 88, .int 0, .null] [] (F, A, J, G) (KK (d + 6) 267 137 [.ref 68, .int x1, .int x2, .int x4, .int x4] [] Q)))) : KK (d + 6) 267 122 [.ref 68, .int x1, .int x2, .int x3, .int x4] [] Q (.inl (some (.int r))) (F, A, J, G) := by
  refine KKi ?_
  refine Y_zeq i_267_122 (fun e1 => ?_) (fun e1 => ?_)
  · replace h := h.1 e1
    refine Y_al0 i_267_128 ?_
    refine Y_al0 i_267_129 ?_
    refine Y_gR i_267_130 ow_267 lf_10_94 (k_68 hG) (r_68_35 hG) ?_
    refine Y_iconst (v := 0) i_267_133 (by decide) ?_
    exact Y_iv2 (L0 := [.ref 68, .ref 88, .int 0, .null]) i_267_134 ow_267 lm_10_386 ((k_68 hG).trans ow_208.symm) rfl mx_208 rfl rfl hd_267 h
  · replace h := h.2 e1
    refine Y_il4 i_267_125 ?_
    refine Y_is3 i_267_127 rfl ?_
    refine Y_al0 i_267_128 ?_
    refine Y_al0 i_267_129 ?_
    refine Y_gR i_267_130 ow_267 lf_10_94 (k_68 hG) (r_68_35 hG) ?_
    refine Y_iconst (v := 0) i_267_133 (by decide) ?_
    exact Y_iv2 (L0 := [.ref 68, .ref 88, .int 0, .null]) i_267_134 ow_267 lm_10_386 ((k_68 hG).trans ow_208.symm) rfl mx_208 rfl rfl hd_267 h
theorem k_267_137 {d : Nat} {F A : Nat → Nat → Int32} {J : Nat → Nat → Int64} {G : pG} {Q : pR → pM → Prop} {SL p q : Nat} {x1 x2 x3 x4 : Int32} (hG : Geo G SL p q) (h : X (d + 6) 267 53 [.ref 68, .int x1, .int x2, .int x3, .int (x4 + 1)] [] (F, A, J, G) Q) : KK (d + 6) 267 137 [.ref 68, .int x1, .int x2, .int x3, .int x4] [] Q (.inl none) (F, A, J, G) := by
  refine KKv ?_
  refine Y_ii4 (v := 1) i_267_137 (by decide) rfl ?_
  refine Y_goto i_267_140 ?_
  exact h
/- 268 Model.relief()I -/
theorem t_268_0 {d : Nat} {F A : Nat → Nat → Int32} {J : Nat → Nat → Int64} {G : pG} {Q : pR → pM → Prop} {SL p q : Nat} (hG : Geo G SL p q) (h : X (d + 6) 207 0 [.ref 68, .ref 88, .int 0, .null] [] ((wF F 68 3 0), A, J, G) (KK (d + 7) 268 18 [.ref 68, .int (-1), .int (-1), .null, .null] [] Q)) : X (d + 7) 268 0 [.ref 68, .null, .null, .null, .null] [] (F, A, J, G) Q := by
  refine Y_al0 i_268_0 ?_
  refine Y_iconst (v := 0) i_268_1 (by decide) ?_
  refine Y_pI i_268_2 ow_268 lf_10_143 (k_68 hG) ?_
  refine Y_iconst (v := (-1)) i_268_5 (by decide) ?_
  refine Y_is1 i_268_6 rfl ?_
  refine Y_iconst (v := (-1)) i_268_7 (by decide) ?_
  refine Y_is2 i_268_8 rfl ?_
  refine Y_al0 i_268_9 ?_
  refine Y_al0 i_268_10 ?_
  refine Y_gR i_268_11 ow_268 lf_10_94 (k_68 hG) (r_68_35 hG) ?_
  refine Y_iconst (v := 0) i_268_14 (by decide) ?_
  exact Y_iv2 (L0 := [.ref 68, .ref 88, .int 0, .null]) i_268_15 ow_268 lm_10_347 ((k_68 hG).trans ow_207.symm) rfl mx_207 rfl rfl hd_268 h
theorem k_268_18 {d : Nat} {F A : Nat → Nat → Int32} {J : Nat → Nat → Int64} {G : pG} {Q : pR → pM → Prop} {SL p q : Nat} {x1 x2 : Int32} (hG : Geo G SL p q) (h : X (d + 7) 268 20 [.ref 68, .int x1, .int x2, .int 0, .null] [] (F, A, J, G) Q) : KK (d + 7) 268 18 [.ref 68, .int x1, .int x2, .null, .null] [] Q (.inl none) (F, A, J, G) := by
  refine KKv ?_
  refine Y_iconst (v := 0) i_268_18 (by decide) ?_
  refine Y_is3 i_268_19 rfl ?_
  exact h
theorem t_268_20 {d : Nat} {F A : Nat → Nat → Int32} {J : Nat → Nat → Int64} {G : pG} {Q : pR → pM → Prop} {SL p q : Nat} {x1 x2 x3 : Int32} {v4 : Value} (hG : Geo G SL p q) (h : ((x3 < (A 72 0) → hB (F 68 28) = true ∧ (((lvI (A 81) (F 68 28) x3) = (-1) → X (d + 7) 268 20 [.ref 68, .int x1, .int x2, .int (x3 + 1), v4] [] (F, A, J, G) Q) ∧ (¬ (lvI (A 81) (F 68 28) x3) = (-1) → X (d + 6) 230 0 [.ref 68, .int x3, .null, .null] [] (F, A, J, G) (KK (d + 7) 268 47 [.ref 68, .int x1, .int x2, .int x3, v4] [] Q)))) ∧ (¬ x3 < (A 72 0) → Q (.inl (some (.int x1))) (F, A, J, G)))) : X (d + 7) 268 20 [.ref 68, .int x1, .int x2, .int x3, v4] [] (F, A, J, G) Q := by
  refine Y_il3 i_268_20 ?_
  refine Y_al0 i_268_21 ?_
  refine Y_gR i_268_22 ow_268 lf_10_42 (k_68 hG) (r_68_4 hG) ?_
  refine Y_iconst (v := 0) i_268_25 (by decide) ?_
  refine Y_iaload (k := 0) (v := (A 72 0)) i_268_26 (k_72 hG) (l_72 hG) (by decide) (by decide) rfl ?_
  refine Y_cge i_268_27 (fun e1 => ?_) (fun e1 => ?_)
  · replace h := h.1 e1
    refine Y_al0 i_268_30 ?_
    refine Y_il3 i_268_31 ?_
    have o2 := h.1
    replace h := h.2
    refine Y_iv1 (L0 := [.ref 68, .int x3, .null]) i_268_32 ow_268 lm_10_336 ((k_68 hG).trans ow_209.symm) rfl mx_209 rfl rfl hd_268 ?_
    refine c_209 hG o2 (KKi ?_)
    refine Y_iconst (v := (-1)) i_268_35 (by decide) ?_
    refine Y_cne i_268_36 (fun e3 => ?_) (fun e3 => ?_)
    · replace h := h.1 e3
      refine Y_goto i_268_39 ?_
      refine Y_ii3 (v := 1) i_268_76 (by decide) rfl ?_
      refine Y_goto i_268_79 ?_
      exact h
    · replace h := h.2 e3
      refine Y_al0 i_268_42 ?_
      refine Y_il3 i_268_43 ?_
      exact Y_iv1 (L0 := [.ref 68, .int x3, .null, .null]) i_268_44 ow_268 lm_10_357 ((k_68 hG).trans ow_230.symm) rfl mx_230 rfl rfl hd_268 h
  · replace h := h.2 e1
    refine Y_il1 i_268_82 ?_
    exact Y_iret i_268_83 rt_268 h
theorem k_268_47 {d : Nat} {F A : Nat → Nat → Int32} {J : Nat → Nat → Int64} {G : pG} {Q : pR → pM → Prop} {SL p q : Nat} {x1 x2 x3 : Int32} {v4 : Value} (hG : Geo G SL p q) (h : X (d + 6) 219 0 [.ref 68, .null, .null] [] (F, A, J, G) (KK (d + 7) 268 51 [.ref 68, .int x1, .int x2, .int x3, v4] [] Q)) : KK (d + 7) 268 47 [.ref 68, .int x1, .int x2, .int x3, v4] [] Q (.inl none) (F, A, J, G) := by
  refine KKv ?_
  refine Y_al0 i_268_47 ?_
  exact Y_iv0 (L0 := [.ref 68, .null, .null]) i_268_48 ow_268 lm_10_389 ((k_68 hG).trans ow_219.symm) rfl mx_219 rfl rfl hd_268 h
theorem k_268_51 {d : Nat} {F A : Nat → Nat → Int32} {J : Nat → Nat → Int64} {G : pG} {Q : pR → pM → Prop} {SL p q : Nat} {x1 x2 x3 r : Int32} {v4 : Value} (hG : Geo G SL p q) (h : X (d + 6) 208 0 [.ref 68, .ref 88, .int 0, .null] [] (F, A, J, G) (KK (d + 7) 268 62 [.ref 68, .int x1, .int x2, .int x3, .int r] [] Q)) : KK (d + 7) 268 51 [.ref 68, .int x1, .int x2, .int x3, v4] [] Q (.inl (some (.int r))) (F, A, J, G) := by
  refine KKi ?_
  refine Y_is4 i_268_51 rfl ?_
  refine Y_al0 i_268_53 ?_
  refine Y_al0 i_268_54 ?_
  refine Y_gR i_268_55 ow_268 lf_10_94 (k_68 hG) (r_68_35 hG) ?_
  refine Y_iconst (v := 0) i_268_58 (by decide) ?_
  exact Y_iv2 (L0 := [.ref 68, .ref 88, .int 0, .null]) i_268_59 ow_268 lm_10_386 ((k_68 hG).trans ow_208.symm) rfl mx_208 rfl rfl hd_268 h
theorem k_268_62 {d : Nat} {F A : Nat → Nat → Int32} {J : Nat → Nat → Int64} {G : pG} {Q : pR → pM → Prop} {SL p q : Nat} {x1 x2 x3 x4 : Int32} (hG : Geo G SL p q) (h : ((x2 < x4 → X (d + 7) 268 20 [.ref 68, .int x3, .int x4, .int (x3 + 1), .int x4] [] (F, A, J, G) Q) ∧ (¬ x2 < x4 → X (d + 7) 268 20 [.ref 68, .int x1, .int x2, .int (x3 + 1), .int x4] [] (F, A, J, G) Q))) : KK (d + 7) 268 62 [.ref 68, .int x1, .int x2, .int x3, .int x4] [] Q (.inl none) (F, A, J, G) := by
  refine KKv ?_
  refine Y_il4 i_268_62 ?_
  refine Y_il2 i_268_64 ?_
  refine Y_cgt i_268_65 (fun e1 => ?_) (fun e1 => ?_)
  · replace h := h.1 e1
    refine Y_il3 i_268_71 ?_
    refine Y_is1 i_268_72 rfl ?_
    refine Y_il4 i_268_73 ?_
    refine Y_is2 i_268_75 rfl ?_
    refine Y_ii3 (v := 1) i_268_76 (by decide) rfl ?_
    refine Y_goto i_268_79 ?_
    exact h
  · replace h := h.2 e1
    refine Y_goto i_268_68 ?_
    refine Y_ii3 (v := 1) i_268_76 (by decide) rfl ?_
    refine Y_goto i_268_79 ?_
    exact h
/- 269 Model.oneWedge()I -/
theorem t_269_0 {d : Nat} {F A : Nat → Nat → Int32} {J : Nat → Nat → Int64} {G : pG} {Q : pR → pM → Prop} {SL p q : Nat} (hG : Geo G SL p q) (h : X (d + 5) 218 0 [.ref 68] [] ((wF F 68 3 0), A, J, G) (KK (d + 6) 269 9 [.ref 68, .null, .null, .null, .null, .null] [] Q)) : X (d + 6) 269 0 [.ref 68, .null, .null, .null, .null, .null] [] (F, A, J, G) Q := by
  refine Y_al0 i_269_0 ?_
  refine Y_iconst (v := 0) i_269_1 (by decide) ?_
  refine Y_pI i_269_2 ow_269 lf_10_143 (k_68 hG) ?_
  refine Y_al0 i_269_5 ?_
  exact Y_iv0 (L0 := [.ref 68]) i_269_6 ow_269 lm_10_326 ((k_68 hG).trans ow_218.symm) rfl mx_218 rfl rfl hd_269 h
theorem k_269_9 {d : Nat} {F A : Nat → Nat → Int32} {J : Nat → Nat → Int64} {G : pG} {Q : pR → pM → Prop} {SL p q : Nat} {r : Int32} (hG : Geo G SL p q) (h : ((r = 0 → X (d + 6) 269 18 [.ref 68, .int (-1), .int 0, .null, .null, .null] [] (F, A, J, G) Q) ∧ (¬ r = 0 → Q (.inl (some (.int (-1)))) (F, A, J, G)))) : KK (d + 6) 269 9 [.ref 68, .null, .null, .null, .null, .null] [] Q (.inl (some (.int r))) (F, A, J, G) := by
  refine KKi ?_
  refine Y_zeq i_269_9 (fun e1 => ?_) (fun e1 => ?_)
  · replace h := h.1 e1
    refine Y_iconst (v := (-1)) i_269_14 (by decide) ?_
    refine Y_is1 i_269_15 rfl ?_
    refine Y_iconst (v := 0) i_269_16 (by decide) ?_
    refine Y_is2 i_269_17 rfl ?_
    exact h
  · replace h := h.2 e1
    refine Y_iconst (v := (-1)) i_269_12 (by decide) ?_
    exact Y_iret i_269_13 rt_269 h
theorem t_269_18 {d : Nat} {F A : Nat → Nat → Int32} {J : Nat → Nat → Int64} {G : pG} {Q : pR → pM → Prop} {SL p q : Nat} {x1 x2 : Int32} {v3 v4 v5 : Value} (hG : Geo G SL p q) (h : ((x2 < (F 68 28) → ((x1 = (-1) → inB x2 10 = true ∧ inB (A 81 x2.toNatClampNeg) 10 = true ∧ (X (d + 6) 269 50 [.ref 68, .int x1, .int x2, .int (A 81 x2.toNatClampNeg), .int (A 83 (A 81 x2.toNatClampNeg).toNatClampNeg), .int (-9)] [] (F, A, J, G) Q)) ∧ (¬ x1 = (-1) → Q (.inl (some (.int x1))) (F, A, J, G)))) ∧ (¬ x2 < (F 68 28) → Q (.inl (some (.int x1))) (F, A, J, G)))) : X (d + 6) 269 18 [.ref 68, .int x1, .int x2, v3, v4, v5] [] (F, A, J, G) Q := by
  refine Y_il2 i_269_18 ?_
  refine Y_al0 i_269_19 ?_
  refine Y_gI (v := (F 68 28)) i_269_20 ow_269 lf_10_150 (by decide) (k_68 hG) rfl ?_
  refine Y_cge i_269_23 (fun e1 => ?_) (fun e1 => ?_)
  · replace h := h.1 e1
    refine Y_il1 i_269_26 ?_
    refine Y_iconst (v := (-1)) i_269_27 (by decide) ?_
    refine Y_cne i_269_28 (fun e2 => ?_) (fun e2 => ?_)
    · replace h := h.1 e2
      refine Y_al0 i_269_31 ?_
      refine Y_gR i_269_32 ow_269 lf_10_70 (k_68 hG) (r_68_23 hG) ?_
      refine Y_il2 i_269_35 ?_
      have o3 := h.1
      replace h := h.2
      refine Y_iaload (k := x2.toNatClampNeg) (v := (A 81 x2.toNatClampNeg)) i_269_36 (k_81 hG) (l_81 hG) o3 rfl rfl ?_
      refine Y_is3 i_269_37 rfl ?_
      refine Y_al0 i_269_38 ?_
      refine Y_gR i_269_39 ow_269 lf_10_76 (k_68 hG) (r_68_25 hG) ?_
      refine Y_il3 i_269_42 ?_
      have o4 := h.1
      replace h := h.2
      refine Y_iaload (k := (A 81 x2.toNatClampNeg).toNatClampNeg) (v := (A 83 (A 81 x2.toNatClampNeg).toNatClampNeg)) i_269_43 (k_83 hG) (l_83 hG) o4 rfl rfl ?_
      refine Y_is4 i_269_44 rfl ?_
      refine Y_bipush (v := (-9)) i_269_46 (by decide) ?_
      refine Y_is5 i_269_48 rfl ?_
      exact h
    · replace h := h.2 e2
      refine Y_il1 i_269_115 ?_
      exact Y_iret i_269_116 rt_269 h
  · replace h := h.2 e1
    refine Y_il1 i_269_115 ?_
    exact Y_iret i_269_116 rt_269 h
theorem t_269_50 {d : Nat} {F A : Nat → Nat → Int32} {J : Nat → Nat → Int64} {G : pG} {Q : pR → pM → Prop} {SL p q : Nat} {x1 x2 x3 x4 x5 : Int32} (hG : Geo G SL p q) (h : ((9 < x5 → inB x3 10 = true ∧ (X (d + 6) 269 18 [.ref 68, .int x1, .int (x2 + 1), .int x3, .int x4, .int x5] [] (F, (wF A 83 x3.toNatClampNeg x4), J, G) Q)) ∧ (¬ 9 < x5 → ((x1 = (-1) → inB x3 10 = true ∧ ((x5 = x4 → X (d + 6) 269 50 [.ref 68, .int x1, .int x2, .int x3, .int x4, .int (x5 + 1)] [] (F, (wF A 83 x3.toNatClampNeg x5), J, G) Q) ∧ (¬ x5 = x4 → X (d + 5) 218 0 [.ref 68] [] (F, (wF A 83 x3.toNatClampNeg x5), J, G) (KK (d + 6) 269 81 [.ref 68, .int x1, .int x2, .int x3, .int x4, .int x5] [] Q)))) ∧ (¬ x1 = (-1) → inB x3 10 = true ∧ (X (d + 6) 269 18 [.ref 68, .int x1, .int (x2 + 1), .int x3, .int x4, .int x5] [] (F, (wF A 83 x3.toNatClampNeg x4), J, G) Q)))))) : X (d + 6) 269 50 [.ref 68, .int x1, .int x2, .int x3, .int x4, .int x5] [] (F, A, J, G) Q := by
  refine Y_il5 i_269_50 ?_
  refine Y_bipush (v := 9) i_269_52 (by decide) ?_
  refine Y_cgt i_269_54 (fun e1 => ?_) (fun e1 => ?_)
  · replace h := h.1 e1
    refine Y_al0 i_269_101 ?_
    refine Y_gR i_269_102 ow_269 lf_10_76 (k_68 hG) (r_68_25 hG) ?_
    refine Y_il3 i_269_105 ?_
    refine Y_il4 i_269_106 ?_
    have o2 := h.1
    replace h := h.2
    refine Y_iast i_269_108 (k_83 hG) (l_83 hG) o2 rfl ?_
    refine Y_ii2 (v := 1) i_269_109 (by decide) rfl ?_
    refine Y_goto i_269_112 ?_
    exact h
  · replace h := h.2 e1
    refine Y_il1 i_269_57 ?_
    refine Y_iconst (v := (-1)) i_269_58 (by decide) ?_
    refine Y_cne i_269_59 (fun e3 => ?_) (fun e3 => ?_)
    · replace h := h.1 e3
      refine Y_al0 i_269_62 ?_
      refine Y_gR i_269_63 ow_269 lf_10_76 (k_68 hG) (r_68_25 hG) ?_
      refine Y_il3 i_269_66 ?_
      refine Y_il5 i_269_67 ?_
      have o4 := h.1
      replace h := h.2
      refine Y_iast i_269_69 (k_83 hG) (l_83 hG) o4 rfl ?_
      refine Y_il5 i_269_70 ?_
      refine Y_il4 i_269_72 ?_
      refine Y_ceq i_269_74 (fun e5 => ?_) (fun e5 => ?_)
      · replace h := h.1 e5
        refine Y_ii5 (v := 1) i_269_95 (by decide) rfl ?_
        refine Y_goto i_269_98 ?_
        exact h
      · replace h := h.2 e5
        refine Y_al0 i_269_77 ?_
        exact Y_iv0 (L0 := [.ref 68]) i_269_78 ow_269 lm_10_326 ((k_68 hG).trans ow_218.symm) rfl mx_218 rfl rfl hd_269 h
    · replace h := h.2 e3
      refine Y_al0 i_269_101 ?_
      refine Y_gR i_269_102 ow_269 lf_10_76 (k_68 hG) (r_68_25 hG) ?_
      refine Y_il3 i_269_105 ?_
      refine Y_il4 i_269_106 ?_
      have o6 := h.1
      replace h := h.2
      refine Y_iast i_269_108 (k_83 hG) (l_83 hG) o6 rfl ?_
      refine Y_ii2 (v := 1) i_269_109 (by decide) rfl ?_
      refine Y_goto i_269_112 ?_
      exact h
theorem k_269_81 {d : Nat} {F A : Nat → Nat → Int32} {J : Nat → Nat → Int64} {G : pG} {Q : pR → pM → Prop} {SL p q : Nat} {x1 x2 x3 x4 x5 r : Int32} (hG : Geo G SL p q) (h : ((r = 0 → X (d + 6) 269 50 [.ref 68, .int x1, .int x2, .int x3, .int x4, .int (x5 + 1)] [] (F, A, J, G) Q) ∧ (¬ r = 0 → X (d + 6) 269 50 [.ref 68, .int ((((100 : Int32) * x3) + x5) + 50), .int x2, .int x3, .int x4, .int (x5 + 1)] [] (F, A, J, G) Q))) : KK (d + 6) 269 81 [.ref 68, .int x1, .int x2, .int x3, .int x4, .int x5] [] Q (.inl (some (.int r))) (F, A, J, G) := by
  refine KKi ?_
  refine Y_zeq i_269_81 (fun e1 => ?_) (fun e1 => ?_)
  · replace h := h.1 e1
    refine Y_ii5 (v := 1) i_269_95 (by decide) rfl ?_
    refine Y_goto i_269_98 ?_
    exact h
  · replace h := h.2 e1
    refine Y_bipush (v := 100) i_269_84 (by decide) ?_
    refine Y_il3 i_269_86 ?_
    refine Y_imul i_269_87 ?_
    refine Y_il5 i_269_88 ?_
    refine Y_iadd i_269_90 ?_
    refine Y_bipush (v := 50) i_269_91 (by decide) ?_
    refine Y_iadd i_269_93 ?_
    refine Y_is1 i_269_94 rfl ?_
    refine Y_ii5 (v := 1) i_269_95 (by decide) rfl ?_
    refine Y_goto i_269_98 ?_
    exact h
/- 270 Model.swap()I -/
theorem t_270_0 {d : Nat} {F A : Nat → Nat → Int32} {J : Nat → Nat → Int64} {G : pG} {Q : pR → pM → Prop} {SL p q : Nat} (hG : Geo G SL p q) (h : X (d + 6) 219 0 [.ref 68, .null, .null] [] ((wF F 68 3 0), A, J, G) (KK (d + 7) 270 9 [.ref 68, .null, .null, .null, .null, .null] [] Q)) : X (d + 7) 270 0 [.ref 68, .null, .null, .null, .null, .null] [] (F, A, J, G) Q := by
  refine Y_al0 i_270_0 ?_
  refine Y_iconst (v := 0) i_270_1 (by decide) ?_
  refine Y_pI i_270_2 ow_270 lf_10_143 (k_68 hG) ?_
  refine Y_al0 i_270_5 ?_
  exact Y_iv0 (L0 := [.ref 68, .null, .null]) i_270_6 ow_270 lm_10_389 ((k_68 hG).trans ow_219.symm) rfl mx_219 rfl rfl hd_270 h
theorem k_270_9 {d : Nat} {F A : Nat → Nat → Int32} {J : Nat → Nat → Int64} {G : pG} {Q : pR → pM → Prop} {SL p q : Nat} {r : Int32} (hG : Geo G SL p q) (h : X (d + 7) 270 14 [.ref 68, .int r, .int (-1), .int 0, .null, .null] [] (F, A, J, G) Q) : KK (d + 7) 270 9 [.ref 68, .null, .null, .null, .null, .null] [] Q (.inl (some (.int r))) (F, A, J, G) := by
  refine KKi ?_
  refine Y_is1 i_270_9 rfl ?_
  refine Y_iconst (v := (-1)) i_270_10 (by decide) ?_
  refine Y_is2 i_270_11 rfl ?_
  refine Y_iconst (v := 0) i_270_12 (by decide) ?_
  refine Y_is3 i_270_13 rfl ?_
  exact h
theorem t_270_14 {d : Nat} {F A : Nat → Nat → Int32} {J : Nat → Nat → Int64} {G : pG} {Q : pR → pM → Prop} {SL p q : Nat} {x1 x2 x3 : Int32} {v4 v5 : Value} (hG : Geo G SL p q) (h : ((x3 < (F 68 28) → X (d + 7) 270 27 [.ref 68, .int x1, .int x2, .int x3, .int (x3 + 1), v5] [] (F, A, J, G) Q) ∧ (¬ x3 < (F 68 28) → Q (.inl (some (.int x2))) (F, A, J, G)))) : X (d + 7) 270 14 [.ref 68, .int x1, .int x2, .int x3, v4, v5] [] (F, A, J, G) Q := by
  refine Y_il3 i_270_14 ?_
  refine Y_al0 i_270_15 ?_
  refine Y_gI (v := (F 68 28)) i_270_16 ow_270 lf_10_150 (by decide) (k_68 hG) rfl ?_
  refine Y_cge i_270_19 (fun e1 => ?_) (fun e1 => ?_)
  · replace h := h.1 e1
    refine Y_il3 i_270_22 ?_
    refine Y_iconst (v := 1) i_270_23 (by decide) ?_
    refine Y_iadd i_270_24 ?_
    refine Y_is4 i_270_25 rfl ?_
    exact h
  · replace h := h.2 e1
    refine Y_il2 i_270_88 ?_
    exact Y_iret i_270_89 rt_270 h
theorem t_270_27 {d : Nat} {F A : Nat → Nat → Int32} {J : Nat → Nat → Int64} {G : pG} {Q : pR → pM → Prop} {SL p q : Nat} {x1 x2 x3 x4 : Int32} {v5 : Value} (hG : Geo G SL p q) (h : ((x4 < (F 68 28) → inB x3 10 = true ∧ inB x4 10 = true ∧ (X (d + 6) 219 0 [.ref 68, .null, .null] [] (F, (wF (wF A 81 x3.toNatClampNeg (A 81 x4.toNatClampNeg)) 81 x4.toNatClampNeg (A 81 x3.toNatClampNeg)), J, G) (KK (d + 7) 270 47 [.ref 68, .int x1, .int x2, .int x3, .int x4, v5] [] Q))) ∧ (¬ x4 < (F 68 28) → X (d + 7) 270 14 [.ref 68, .int x1, .int x2, .int (x3 + 1), .int x4, v5] [] (F, A, J, G) Q))) : X (d + 7) 270 27 [.ref 68, .int x1, .int x2, .int x3, .int x4, v5] [] (F, A, J, G) Q := by
  refine Y_il4 i_270_27 ?_
  refine Y_al0 i_270_29 ?_
  refine Y_gI (v := (F 68 28)) i_270_30 ow_270 lf_10_150 (by decide) (k_68 hG) rfl ?_
  refine Y_cge i_270_33 (fun e1 => ?_) (fun e1 => ?_)
  · replace h := h.1 e1
    refine Y_al0 i_270_36 ?_
    refine Y_il3 i_270_37 ?_
    refine Y_il4 i_270_38 ?_
    refine Y_iv2 (L0 := [.ref 68, .int x3, .int x4, .null]) i_270_40 ow_270 lm_10_363 ((k_68 hG).trans ow_232.symm) rfl mx_232 rfl rfl hd_270 ?_
    refine Y_al0 i_232_0 ?_
    refine Y_gR i_232_1 ow_232 lf_10_70 (k_68 hG) (r_68_23 hG) ?_
    refine Y_il1 i_232_4 ?_
    have o2 := h.1
    replace h := h.2
    refine Y_iaload (k := x3.toNatClampNeg) (v := (A 81 x3.toNatClampNeg)) i_232_5 (k_81 hG) (l_81 hG) o2 rfl rfl ?_
    refine Y_is3 i_232_6 rfl ?_
    refine Y_al0 i_232_7 ?_
    refine Y_gR i_232_8 ow_232 lf_10_70 (k_68 hG) (r_68_23 hG) ?_
    refine Y_il1 i_232_11 ?_
    refine Y_al0 i_232_12 ?_
    refine Y_gR i_232_13 ow_232 lf_10_70 (k_68 hG) (r_68_23 hG) ?_
    refine Y_il2 i_232_16 ?_
    have o3 := h.1
    replace h := h.2
    refine Y_iaload (k := x4.toNatClampNeg) (v := (A 81 x4.toNatClampNeg)) i_232_17 (k_81 hG) (l_81 hG) o3 rfl rfl ?_
    refine Y_iast i_232_18 (k_81 hG) (l_81 hG) o2 rfl ?_
    refine Y_al0 i_232_19 ?_
    refine Y_gR i_232_20 ow_232 lf_10_70 (k_68 hG) (r_68_23 hG) ?_
    refine Y_il2 i_232_23 ?_
    refine Y_il3 i_232_24 ?_
    refine Y_iast i_232_25 (k_81 hG) (l_81 hG) o3 rfl ?_
    refine Y_vret i_232_26 rt_232 (KKv ?_)
    refine Y_al0 i_270_43 ?_
    exact Y_iv0 (L0 := [.ref 68, .null, .null]) i_270_44 ow_270 lm_10_389 ((k_68 hG).trans ow_219.symm) rfl mx_219 rfl rfl hd_270 h
  · replace h := h.2 e1
    refine Y_ii3 (v := 1) i_270_82 (by decide) rfl ?_
    refine Y_goto i_270_85 ?_
    exact h
theorem k_270_47 {d : Nat} {F A : Nat → Nat → Int32} {J : Nat → Nat → Int64} {G : pG} {Q : pR → pM → Prop} {SL p q : Nat} {x1 x2 x3 x4 r : Int32} {v5 : Value} (hG : Geo G SL p q) (h : inB x3 10 = true ∧ inB x4 10 = true ∧ ((x1 < r → X (d + 7) 270 27 [.ref 68, .int r, .int (((10 : Int32) * x3) + x4), .int x3, .int (x4 + 1), .int r] [] (F, (wF (wF A 81 x3.toNatClampNeg (A 81 x4.toNatClampNeg)) 81 x4.toNatClampNeg (A 81 x3.toNatClampNeg)), J, G) Q) ∧ (¬ x1 < r → X (d + 7) 270 27 [.ref 68, .int x1, .int x2, .int x3, .int (x4 + 1), .int r] [] (F, (wF (wF A 81 x3.toNatClampNeg (A 81 x4.toNatClampNeg)) 81 x4.toNatClampNeg (A 81 x3.toNatClampNeg)), J, G) Q))) : KK (d + 7) 270 47 [.ref 68, .int x1, .int x2, .int x3, .int x4, v5] [] Q (.inl (some (.int r))) (F, A, J, G) := by
  refine KKi ?_
  refine Y_is5 i_270_47 rfl ?_
  refine Y_al0 i_270_49 ?_
  refine Y_il3 i_270_50 ?_
  refine Y_il4 i_270_51 ?_
  refine Y_iv2 (L0 := [.ref 68, .int x3, .int x4, .null]) i_270_53 ow_270 lm_10_363 ((k_68 hG).trans ow_232.symm) rfl mx_232 rfl rfl hd_270 ?_
  refine Y_al0 i_232_0 ?_
  refine Y_gR i_232_1 ow_232 lf_10_70 (k_68 hG) (r_68_23 hG) ?_
  refine Y_il1 i_232_4 ?_
  have o1 := h.1
  replace h := h.2
  refine Y_iaload (k := x3.toNatClampNeg) (v := (A 81 x3.toNatClampNeg)) i_232_5 (k_81 hG) (l_81 hG) o1 rfl rfl ?_
  refine Y_is3 i_232_6 rfl ?_
  refine Y_al0 i_232_7 ?_
  refine Y_gR i_232_8 ow_232 lf_10_70 (k_68 hG) (r_68_23 hG) ?_
  refine Y_il1 i_232_11 ?_
  refine Y_al0 i_232_12 ?_
  refine Y_gR i_232_13 ow_232 lf_10_70 (k_68 hG) (r_68_23 hG) ?_
  refine Y_il2 i_232_16 ?_
  have o2 := h.1
  replace h := h.2
  refine Y_iaload (k := x4.toNatClampNeg) (v := (A 81 x4.toNatClampNeg)) i_232_17 (k_81 hG) (l_81 hG) o2 rfl rfl ?_
  refine Y_iast i_232_18 (k_81 hG) (l_81 hG) o1 rfl ?_
  refine Y_al0 i_232_19 ?_
  refine Y_gR i_232_20 ow_232 lf_10_70 (k_68 hG) (r_68_23 hG) ?_
  refine Y_il2 i_232_23 ?_
  refine Y_il3 i_232_24 ?_
  refine Y_iast i_232_25 (k_81 hG) (l_81 hG) o2 rfl ?_
  refine Y_vret i_232_26 rt_232 (KKv ?_)
  refine Y_il5 i_270_56 ?_
  refine Y_il1 i_270_58 ?_
  refine Y_cgt i_270_59 (fun e3 => ?_) (fun e3 => ?_)
  · replace h := h.1 e3
    refine Y_bipush (v := 10) i_270_65 (by decide) ?_
    refine Y_il3 i_270_67 ?_
    refine Y_imul i_270_68 ?_
    refine Y_il4 i_270_69 ?_
    refine Y_iadd i_270_71 ?_
    refine Y_is2 i_270_72 rfl ?_
    refine Y_il5 i_270_73 ?_
    refine Y_is1 i_270_75 rfl ?_
    refine Y_ii4 (v := 1) i_270_76 (by decide) rfl ?_
    refine Y_goto i_270_79 ?_
    exact h
  · replace h := h.2 e3
    refine Y_goto i_270_62 ?_
    refine Y_ii4 (v := 1) i_270_76 (by decide) rfl ?_
    refine Y_goto i_270_79 ?_
    exact h
/- 271 Model.slack(I)I -/
theorem t_271_0 {d : Nat} {F A : Nat → Nat → Int32} {J : Nat → Nat → Int64} {G : pG} {Q : pR → pM → Prop} {SL p q : Nat} {x1 : Int32} (hG : Geo G SL p q) (h : hB ((wF F 68 3 0) 68 28) = true ∧ (((inR x1 ((wF F 68 3 0) 68 28)) = true → inB x1 10 = true ∧ inB (A 81 x1.toNatClampNeg) 10 = true ∧ inB (A 73 (A 81 x1.toNatClampNeg).toNatClampNeg) 4 = true ∧ Wrm A ∧ (X (d + 2) 213 0 [.ref 68, .int x1, .null, .null] [] ((wF F 68 3 0), A, J, G) (KK (d + 3) 271 23 [.ref 68, .int x1] [.int (carS (A 73 (A 81 x1.toNatClampNeg).toNatClampNeg) (A 75 (A 81 x1.toNatClampNeg).toNatClampNeg) ((wF F 68 3 0) 68 29) (bI (decide (x1 = (wF F 68 3 0) 68 28 - 1))))] Q))) ∧ ((inR x1 ((wF F 68 3 0) 68 28)) = false → Q (.inl (some (.int 0))) ((wF (wF F 68 3 0) 68 3 1), A, J, G)))) : X (d + 3) 271 0 [.ref 68, .int x1] [] (F, A, J, G) Q := by
  refine Y_al0 i_271_0 ?_
  refine Y_iconst (v := 0) i_271_1 (by decide) ?_
  refine Y_pI i_271_2 ow_271 lf_10_143 (k_68 hG) ?_
  refine Y_al0 i_271_5 ?_
  refine Y_il1 i_271_6 ?_
  have o1 := h.1
  replace h := h.2
  refine Y_iv1 (L0 := [.ref 68, .int x1]) i_271_7 ow_271 lm_10_342 ((k_68 hG).trans ow_181.symm) rfl mx_181 rfl rfl hd_271 ?_
  refine c_181 hG o1 (KKi ?_)
  refine Y_beq i_271_10 (fun e2 => ?_) (fun e2 => ?_)
  · replace h := h.1 e2
    refine Y_al0 i_271_13 ?_
    refine Y_il1 i_271_14 ?_
    have o3 := h.1
    replace h := h.2
    have o4 := h.1
    replace h := h.2
    have o5 := h.1
    replace h := h.2
    have o6 := h.1
    replace h := h.2
    refine Y_iv1 (L0 := [.ref 68, .int x1]) i_271_15 ow_271 lm_10_311 ((k_68 hG).trans ow_214.symm) rfl mx_214 rfl rfl hd_271 ?_
    refine c_214 hG o3 o4 o5 o6 (KKi ?_)
    refine Y_al0 i_271_18 ?_
    refine Y_il1 i_271_19 ?_
    exact Y_iv1 (L0 := [.ref 68, .int x1, .null, .null]) i_271_20 ow_271 lm_10_308 ((k_68 hG).trans ow_213.symm) rfl mx_213 rfl rfl hd_271 h
  · replace h := h.2 e2
    refine Y_al0 i_271_27 ?_
    refine Y_iconst (v := 1) i_271_28 (by decide) ?_
    refine Y_iv1 (L0 := [.ref 68, .int 1]) i_271_29 ow_271 lm_10_269 ((k_68 hG).trans ow_176.symm) rfl mx_176 rfl rfl hd_271 ?_
    refine Y_al0 i_176_0 ?_
    refine Y_il1 i_176_1 ?_
    refine Y_pI i_176_2 ow_176 lf_10_143 (k_68 hG) ?_
    refine Y_iconst (v := 0) i_176_5 (by decide) ?_
    refine Y_iret i_176_6 rt_176 (KKi ?_)
    exact Y_iret i_271_32 rt_271 h
theorem k_271_23 {d : Nat} {F A : Nat → Nat → Int32} {J : Nat → Nat → Int64} {G : pG} {Q : pR → pM → Prop} {SL p q : Nat} {x1 r s0 : Int32} (hG : Geo G SL p q) (h : Q (.inl (some (.int (s0 - r)))) (F, A, J, G)) : KK (d + 3) 271 23 [.ref 68, .int x1] [.int s0] Q (.inl (some (.int r))) (F, A, J, G) := by
  refine KKi ?_
  refine Y_isub i_271_23 ?_
  refine Y_goto i_271_24 ?_
  exact Y_iret i_271_32 rt_271 h
/- 272 Model.crooked()I -/
theorem t_272_0 {d : Nat} {F A : Nat → Nat → Int32} {J : Nat → Nat → Int64} {G : pG} {Q : pR → pM → Prop} {SL p q : Nat} (hG : Geo G SL p q) (h : X (d + 2) 272 9 [.ref 68, .int (-1), .int 0] [] ((wF F 68 3 0), A, J, G) Q) : X (d + 2) 272 0 [.ref 68, .null, .null] [] (F, A, J, G) Q := by
  refine Y_al0 i_272_0 ?_
  refine Y_iconst (v := 0) i_272_1 (by decide) ?_
  refine Y_pI i_272_2 ow_272 lf_10_143 (k_68 hG) ?_
  refine Y_iconst (v := (-1)) i_272_5 (by decide) ?_
  refine Y_is1 i_272_6 rfl ?_
  refine Y_iconst (v := 0) i_272_7 (by decide) ?_
  refine Y_is2 i_272_8 rfl ?_
  exact h
theorem t_272_9 {d : Nat} {F A : Nat → Nat → Int32} {J : Nat → Nat → Int64} {G : pG} {Q : pR → pM → Prop} {SL p q : Nat} {x1 x2 : Int32} (hG : Geo G SL p q) (h : ((x2 < (F 68 28) → ((x1 = (-1) → X (d + 2) 272 9 [.ref 68, .int x2, .int (x2 + 1)] [] (F, A, J, G) Q) ∧ (¬ x1 = (-1) → X (d + 1) 215 0 [.ref 68, .int x2, .null, .null] [] (F, A, J, G) (KK (d + 2) 272 27 [.ref 68, .int x1, .int x2] [] Q)))) ∧ (¬ x2 < (F 68 28) → Q (.inl (some (.int x1))) (F, A, J, G)))) : X (d + 2) 272 9 [.ref 68, .int x1, .int x2] [] (F, A, J, G) Q := by
  refine Y_il2 i_272_9 ?_
  refine Y_al0 i_272_10 ?_
  refine Y_gI (v := (F 68 28)) i_272_11 ow_272 lf_10_150 (by decide) (k_68 hG) rfl ?_
  refine Y_cge i_272_14 (fun e1 => ?_) (fun e1 => ?_)
  · replace h := h.1 e1
    refine Y_il1 i_272_17 ?_
    refine Y_iconst (v := (-1)) i_272_18 (by decide) ?_
    refine Y_ceq i_272_19 (fun e2 => ?_) (fun e2 => ?_)
    · replace h := h.1 e2
      refine Y_il2 i_272_41 ?_
      refine Y_is1 i_272_42 rfl ?_
      refine Y_ii2 (v := 1) i_272_43 (by decide) rfl ?_
      refine Y_goto i_272_46 ?_
      exact h
    · replace h := h.2 e2
      refine Y_al0 i_272_22 ?_
      refine Y_il2 i_272_23 ?_
      exact Y_iv1 (L0 := [.ref 68, .int x2, .null, .null]) i_272_24 ow_272 lm_10_314 ((k_68 hG).trans ow_215.symm) rfl mx_215 rfl rfl hd_272 h
  · replace h := h.2 e1
    refine Y_il1 i_272_49 ?_
    exact Y_iret i_272_50 rt_272 h
theorem k_272_27 {d : Nat} {F A : Nat → Nat → Int32} {J : Nat → Nat → Int64} {G : pG} {Q : pR → pM → Prop} {SL p q : Nat} {x1 x2 r : Int32} (hG : Geo G SL p q) (h : X (d + 1) 215 0 [.ref 68, .int x1, .null, .null] [] (F, A, J, G) (KK (d + 2) 272 35 [.ref 68, .int x1, .int x2] [.int (jabs r)] Q)) : KK (d + 2) 272 27 [.ref 68, .int x1, .int x2] [] Q (.inl (some (.int r))) (F, A, J, G) := by
  refine KKi ?_
  refine Y_abs i_272_27 ow_272 lm_10_317 rfl ?_
  refine Y_al0 i_272_30 ?_
  refine Y_il1 i_272_31 ?_
  exact Y_iv1 (L0 := [.ref 68, .int x1, .null, .null]) i_272_32 ow_272 lm_10_314 ((k_68 hG).trans ow_215.symm) rfl mx_215 rfl rfl hd_272 h
theorem k_272_35 {d : Nat} {F A : Nat → Nat → Int32} {J : Nat → Nat → Int64} {G : pG} {Q : pR → pM → Prop} {SL p q : Nat} {x1 x2 r s0 : Int32} (hG : Geo G SL p q) (h : (((jabs r) < s0 → X (d + 2) 272 9 [.ref 68, .int x2, .int (x2 + 1)] [] (F, A, J, G) Q) ∧ (¬ (jabs r) < s0 → X (d + 2) 272 9 [.ref 68, .int x1, .int (x2 + 1)] [] (F, A, J, G) Q))) : KK (d + 2) 272 35 [.ref 68, .int x1, .int x2] [.int s0] Q (.inl (some (.int r))) (F, A, J, G) := by
  refine KKi ?_
  refine Y_abs i_272_35 ow_272 lm_10_317 rfl ?_
  refine Y_cle i_272_38 (fun e1 => ?_) (fun e1 => ?_)
  · replace h := h.1 e1
    refine Y_il2 i_272_41 ?_
    refine Y_is1 i_272_42 rfl ?_
    refine Y_ii2 (v := 1) i_272_43 (by decide) rfl ?_
    refine Y_goto i_272_46 ?_
    exact h
  · replace h := h.2 e1
    refine Y_ii2 (v := 1) i_272_43 (by decide) rfl ?_
    refine Y_goto i_272_46 ?_
    exact h
/- 273 Model.see(II)I -/
theorem t_273_0 {d : Nat} {F A : Nat → Nat → Int32} {J : Nat → Nat → Int64} {G : pG} {Q : pR → pM → Prop} {SL p q : Nat} {x1 x2 : Int32} (hG : Geo G SL p q) (h : (((F 68 32) = 8 → Q (.inl (some (.int (-1)))) ((wF F 68 3 0), (wF A 79 2 ((A 79 2) + 1)), J, G)) ∧ (¬ (F 68 32) = 8 → hB ((wF F 68 3 0) 68 28) = true ∧ (((inR x1 ((wF F 68 3 0) 68 28)) = true → (((inL x2.toInt64 (-99) 99) = true → inB (F 68 32) 8 = true ∧ (Q (.inl (some (.int ((F 68 32) + 1)))) ((wF (wF F 68 3 0) 68 32 ((F 68 32) + 1)), (wF (wF A 94 (F 68 32).toNatClampNeg x1) 95 (F 68 32).toNatClampNeg x2), J, G))) ∧ ((inL x2.toInt64 (-99) 99) = false → Q (.inl (some (.int (-1)))) ((wF F 68 3 0), (wF A 79 2 ((A 79 2) + 1)), J, G)))) ∧ ((inR x1 ((wF F 68 3 0) 68 28)) = false → Q (.inl (some (.int (-1)))) ((wF F 68 3 0), (wF A 79 2 ((A 79 2) + 1)), J, G)))))) : X (d + 2) 273 0 [.ref 68, .int x1, .int x2] [] (F, A, J, G) Q := by
  refine Y_al0 i_273_0 ?_
  refine Y_iconst (v := 0) i_273_1 (by decide) ?_
  refine Y_pI i_273_2 ow_273 lf_10_143 (k_68 hG) ?_
  refine Y_al0 i_273_5 ?_
  refine Y_gI (v := (F 68 32)) i_273_6 ow_273 lf_10_288 (by decide) (k_68 hG) (by simp [wF, wJ, va_up, cpR, bF, bA]) ?_
  refine Y_bipush (v := 8) i_273_9 (by decide) ?_
  refine Y_ceq i_273_11 (fun e1 => ?_) (fun e1 => ?_)
  · replace h := h.1 e1
    refine Y_al0 i_273_36 ?_
    refine Y_iconst (v := 2) i_273_37 (by decide) ?_
    refine Y_iv1 (L0 := [.ref 68, .int 2]) i_273_38 ow_273 lm_10_351 ((k_68 hG).trans ow_226.symm) rfl mx_226 rfl rfl hd_273 ?_
    refine Y_al0 i_226_0 ?_
    refine Y_gR i_226_1 ow_226 lf_10_60 (k_68 hG) (r_68_11 hG) ?_
    refine Y_il1 i_226_4 ?_
    refine Y_dup2 i_226_5 rfl rfl ?_
    refine Y_iaload (k := 2) (v := (A 79 2)) i_226_6 (k_79 hG) (l_79 hG) (by decide) (by decide) rfl ?_
    refine Y_iconst (v := 1) i_226_7 (by decide) ?_
    refine Y_iadd i_226_8 ?_
    refine Y_iast (k := 2) i_226_9 (k_79 hG) (l_79 hG) (by decide) (by decide) ?_
    refine Y_iconst (v := (-1)) i_226_10 (by decide) ?_
    refine Y_iret i_226_11 rt_226 (KKi ?_)
    exact Y_iret i_273_41 rt_273 h
  · replace h := h.2 e1
    refine Y_al0 i_273_14 ?_
    refine Y_il1 i_273_15 ?_
    have o2 := h.1
    replace h := h.2
    refine Y_iv1 (L0 := [.ref 68, .int x1]) i_273_16 ow_273 lm_10_342 ((k_68 hG).trans ow_181.symm) rfl mx_181 rfl rfl hd_273 ?_
    refine c_181 hG o2 (KKi ?_)
    refine Y_beq i_273_19 (fun e3 => ?_) (fun e3 => ?_)
    · replace h := h.1 e3
      refine Y_il2 i_273_22 ?_
      refine Y_i2l i_273_23 ?_
      refine Y_ldcL i_273_24 ow_273 lj_10_440 ?_
      refine Y_ldcL i_273_27 ow_273 lj_10_427 ?_
      refine Y_is_3 (L0 := [.long x2.toInt64, .null, .long (-99), .null, .long 99, .null]) i_273_30 ow_273 lm_10_146 rfl mx_178 rfl rfl hd_273 ?_
      refine c_178 hG (KKi ?_)
      refine Y_bne i_273_33 (fun e4 => ?_) (fun e4 => ?_)
      · replace h := h.1 e4
        refine Y_al0 i_273_42 ?_
        refine Y_gR i_273_43 ow_273 lf_10_113 (k_68 hG) (r_68_43 hG) ?_
        refine Y_al0 i_273_46 ?_
        refine Y_gI (v := (F 68 32)) i_273_47 ow_273 lf_10_288 (by decide) (k_68 hG) (by simp [wF, wJ, va_up, cpR, bF, bA]) ?_
        refine Y_il1 i_273_50 ?_
        have o5 := h.1
        replace h := h.2
        refine Y_iast i_273_51 (k_94 hG) (l_94 hG) o5 rfl ?_
        refine Y_al0 i_273_52 ?_
        refine Y_gR i_273_53 ow_273 lf_10_116 (k_68 hG) (r_68_44 hG) ?_
        refine Y_al0 i_273_56 ?_
        refine Y_gI (v := (F 68 32)) i_273_57 ow_273 lf_10_288 (by decide) (k_68 hG) (by simp [wF, wJ, va_up, cpR, bF, bA]) ?_
        refine Y_il2 i_273_60 ?_
        refine Y_iast i_273_61 (k_95 hG) (l_95 hG) o5 rfl ?_
        refine Y_al0 i_273_62 ?_
        refine Y_dup i_273_63 rfl ?_
        refine Y_gI (v := (F 68 32)) i_273_64 ow_273 lf_10_288 (by decide) (k_68 hG) (by simp [wF, wJ, va_up, cpR, bF, bA]) ?_
        refine Y_iconst (v := 1) i_273_67 (by decide) ?_
        refine Y_iadd i_273_68 ?_
        refine Y_pI i_273_69 ow_273 lf_10_288 (k_68 hG) ?_
        refine Y_al0 i_273_72 ?_
        refine Y_gI (v := ((F 68 32) + 1)) i_273_73 ow_273 lf_10_288 (by decide) (k_68 hG) (by simp [wF, wJ, va_up, cpR, bF, bA]) ?_
        exact Y_iret i_273_76 rt_273 h
      · replace h := h.2 e4
        refine Y_al0 i_273_36 ?_
        refine Y_iconst (v := 2) i_273_37 (by decide) ?_
        refine Y_iv1 (L0 := [.ref 68, .int 2]) i_273_38 ow_273 lm_10_351 ((k_68 hG).trans ow_226.symm) rfl mx_226 rfl rfl hd_273 ?_
        refine Y_al0 i_226_0 ?_
        refine Y_gR i_226_1 ow_226 lf_10_60 (k_68 hG) (r_68_11 hG) ?_
        refine Y_il1 i_226_4 ?_
        refine Y_dup2 i_226_5 rfl rfl ?_
        refine Y_iaload (k := 2) (v := (A 79 2)) i_226_6 (k_79 hG) (l_79 hG) (by decide) (by decide) rfl ?_
        refine Y_iconst (v := 1) i_226_7 (by decide) ?_
        refine Y_iadd i_226_8 ?_
        refine Y_iast (k := 2) i_226_9 (k_79 hG) (l_79 hG) (by decide) (by decide) ?_
        refine Y_iconst (v := (-1)) i_226_10 (by decide) ?_
        refine Y_iret i_226_11 rt_226 (KKi ?_)
        exact Y_iret i_273_41 rt_273 h
    · replace h := h.2 e3
      refine Y_al0 i_273_36 ?_
      refine Y_iconst (v := 2) i_273_37 (by decide) ?_
      refine Y_iv1 (L0 := [.ref 68, .int 2]) i_273_38 ow_273 lm_10_351 ((k_68 hG).trans ow_226.symm) rfl mx_226 rfl rfl hd_273 ?_
      refine Y_al0 i_226_0 ?_
      refine Y_gR i_226_1 ow_226 lf_10_60 (k_68 hG) (r_68_11 hG) ?_
      refine Y_il1 i_226_4 ?_
      refine Y_dup2 i_226_5 rfl rfl ?_
      refine Y_iaload (k := 2) (v := (A 79 2)) i_226_6 (k_79 hG) (l_79 hG) (by decide) (by decide) rfl ?_
      refine Y_iconst (v := 1) i_226_7 (by decide) ?_
      refine Y_iadd i_226_8 ?_
      refine Y_iast (k := 2) i_226_9 (k_79 hG) (l_79 hG) (by decide) (by decide) ?_
      refine Y_iconst (v := (-1)) i_226_10 (by decide) ?_
      refine Y_iret i_226_11 rt_226 (KKi ?_)
      exact Y_iret i_273_41 rt_273 h
/- 274 Model.isAsSeen()Z -/
theorem t_274_0 {d : Nat} {F A : Nat → Nat → Int32} {J : Nat → Nat → Int64} {G : pG} {Q : pR → pM → Prop} {SL p q : Nat} (hG : Geo G SL p q) (h : X (d + 2) 274 2 [.ref 68, .int 0] [] (F, A, J, G) Q) : X (d + 2) 274 0 [.ref 68, .null] [] (F, A, J, G) Q := by
  refine Y_iconst (v := 0) i_274_0 (by decide) ?_
  refine Y_is1 i_274_1 rfl ?_
  exact h
theorem t_274_2 {d : Nat} {F A : Nat → Nat → Int32} {J : Nat → Nat → Int64} {G : pG} {Q : pR → pM → Prop} {SL p q : Nat} {x1 : Int32} (hG : Geo G SL p q) (h : ((x1 < (F 68 32) → inB x1 8 = true ∧ hB (F 68 28) = true ∧ (((inR (A 94 x1.toNatClampNeg) (F 68 28)) = true → X (d + 1) 215 0 [.ref 68, .int (A 94 x1.toNatClampNeg), .null, .null] [] (F, A, J, G) (KK (d + 2) 274 33 [.ref 68, .int x1] [] Q)) ∧ ((inR (A 94 x1.toNatClampNeg) (F 68 28)) = false → Q (.inl (some (.int 0))) (F, A, J, G)))) ∧ (¬ x1 < (F 68 32) → Q (.inl (some (.int 1))) (F, A, J, G)))) : X (d + 2) 274 2 [.ref 68, .int x1] [] (F, A, J, G) Q := by
  refine Y_il1 i_274_2 ?_
  refine Y_al0 i_274_3 ?_
  refine Y_gI (v := (F 68 32)) i_274_4 ow_274 lf_10_288 (by decide) (k_68 hG) rfl ?_
  refine Y_cge i_274_7 (fun e1 => ?_) (fun e1 => ?_)
  · replace h := h.1 e1
    refine Y_al0 i_274_10 ?_
    refine Y_al0 i_274_11 ?_
    refine Y_gR i_274_12 ow_274 lf_10_113 (k_68 hG) (r_68_43 hG) ?_
    refine Y_il1 i_274_15 ?_
    have o2 := h.1
    replace h := h.2
    refine Y_iaload (k := x1.toNatClampNeg) (v := (A 94 x1.toNatClampNeg)) i_274_16 (k_94 hG) (l_94 hG) o2 rfl rfl ?_
    have o3 := h.1
    replace h := h.2
    refine Y_iv1 (L0 := [.ref 68, .int (A 94 x1.toNatClampNeg)]) i_274_17 ow_274 lm_10_342 ((k_68 hG).trans ow_181.symm) rfl mx_181 rfl rfl hd_274 ?_
    refine c_181 hG o3 (KKi ?_)
    refine Y_beq i_274_20 (fun e4 => ?_) (fun e4 => ?_)
    · replace h := h.1 e4
      refine Y_al0 i_274_23 ?_
      refine Y_al0 i_274_24 ?_
      refine Y_gR i_274_25 ow_274 lf_10_113 (k_68 hG) (r_68_43 hG) ?_
      refine Y_il1 i_274_28 ?_
      refine Y_iaload (k := x1.toNatClampNeg) (v := (A 94 x1.toNatClampNeg)) i_274_29 (k_94 hG) (l_94 hG) o2 rfl rfl ?_
      exact Y_iv1 (L0 := [.ref 68, .int (A 94 x1.toNatClampNeg), .null, .null]) i_274_30 ow_274 lm_10_314 ((k_68 hG).trans ow_215.symm) rfl mx_215 rfl rfl hd_274 h
    · replace h := h.2 e4
      refine Y_iconst (v := 0) i_274_42 (by decide) ?_
      exact Y_bret i_274_43 rt_274 (by decide) h
  · replace h := h.2 e1
    refine Y_iconst (v := 1) i_274_50 (by decide) ?_
    exact Y_bret i_274_51 rt_274 (by decide) h
theorem k_274_33 {d : Nat} {F A : Nat → Nat → Int32} {J : Nat → Nat → Int64} {G : pG} {Q : pR → pM → Prop} {SL p q : Nat} {x1 r : Int32} (hG : Geo G SL p q) (h : inB x1 8 = true ∧ ((r = (A 95 x1.toNatClampNeg) → X (d + 2) 274 2 [.ref 68, .int (x1 + 1)] [] (F, A, J, G) Q) ∧ (¬ r = (A 95 x1.toNatClampNeg) → Q (.inl (some (.int 0))) (F, A, J, G)))) : KK (d + 2) 274 33 [.ref 68, .int x1] [] Q (.inl (some (.int r))) (F, A, J, G) := by
  refine KKi ?_
  refine Y_al0 i_274_33 ?_
  refine Y_gR i_274_34 ow_274 lf_10_116 (k_68 hG) (r_68_44 hG) ?_
  refine Y_il1 i_274_37 ?_
  have o1 := h.1
  replace h := h.2
  refine Y_iaload (k := x1.toNatClampNeg) (v := (A 95 x1.toNatClampNeg)) i_274_38 (k_95 hG) (l_95 hG) o1 rfl rfl ?_
  refine Y_ceq i_274_39 (fun e2 => ?_) (fun e2 => ?_)
  · replace h := h.1 e2
    refine Y_ii1 (v := 1) i_274_44 (by decide) rfl ?_
    refine Y_goto i_274_47 ?_
    exact h
  · replace h := h.2 e2
    refine Y_iconst (v := 0) i_274_42 (by decide) ?_
    exact Y_bret i_274_43 rt_274 (by decide) h
/- 275 Model.tellFits()V -/
theorem t_275_0 {d : Nat} {F A : Nat → Nat → Int32} {J : Nat → Nat → Int64} {G : pG} {Q : pR → pM → Prop} {SL p q : Nat} (hG : Geo G SL p q) (h : X (d + 3) 275 7 [.ref 68, .int 0, .null, .null, .null] [] ((wF F 68 47 0), A, J, G) Q) : X (d + 3) 275 0 [.ref 68, .null, .null, .null, .null] [] (F, A, J, G) Q := by
  refine Y_al0 i_275_0 ?_
  refine Y_iconst (v := 0) i_275_1 (by decide) ?_
  refine Y_pI i_275_2 ow_275 lf_10_442 (k_68 hG) ?_
  refine Y_iconst (v := 0) i_275_5 (by decide) ?_
  refine Y_is1 i_275_6 rfl ?_
  exact h
theorem t_275_7 {d : Nat} {F A : Nat → Nat → Int32} {J : Nat → Nat → Int64} {G : pG} {Q : pR → pM → Prop} {SL p q : Nat} {x1 : Int32} {v2 v3 v4 : Value} (hG : Geo G SL p q) (h : ((x1 < (F 68 28) → inB x1 10 = true ∧ inB (A 81 x1.toNatClampNeg) 10 = true ∧ (X (d + 3) 275 33 [.ref 68, .int x1, .int (A 81 x1.toNatClampNeg), .int (A 84 (A 81 x1.toNatClampNeg).toNatClampNeg), .int (-9)] [] (F, A, J, G) Q)) ∧ (¬ x1 < (F 68 28) → Q (.inl none) (F, A, J, G)))) : X (d + 3) 275 7 [.ref 68, .int x1, v2, v3, v4] [] (F, A, J, G) Q := by
  refine Y_il1 i_275_7 ?_
  refine Y_al0 i_275_8 ?_
  refine Y_gI (v := (F 68 28)) i_275_9 ow_275 lf_10_150 (by decide) (k_68 hG) rfl ?_
  refine Y_cge i_275_12 (fun e1 => ?_) (fun e1 => ?_)
  · replace h := h.1 e1
    refine Y_al0 i_275_15 ?_
    refine Y_gR i_275_16 ow_275 lf_10_70 (k_68 hG) (r_68_23 hG) ?_
    refine Y_il1 i_275_19 ?_
    have o2 := h.1
    replace h := h.2
    refine Y_iaload (k := x1.toNatClampNeg) (v := (A 81 x1.toNatClampNeg)) i_275_20 (k_81 hG) (l_81 hG) o2 rfl rfl ?_
    refine Y_is2 i_275_21 rfl ?_
    refine Y_al0 i_275_22 ?_
    refine Y_gR i_275_23 ow_275 lf_10_79 (k_68 hG) (r_68_26 hG) ?_
    refine Y_il2 i_275_26 ?_
    have o3 := h.1
    replace h := h.2
    refine Y_iaload (k := (A 81 x1.toNatClampNeg).toNatClampNeg) (v := (A 84 (A 81 x1.toNatClampNeg).toNatClampNeg)) i_275_27 (k_84 hG) (l_84 hG) o3 rfl rfl ?_
    refine Y_is3 i_275_28 rfl ?_
    refine Y_bipush (v := (-9)) i_275_29 (by decide) ?_
    refine Y_is4 i_275_31 rfl ?_
    exact h
  · replace h := h.2 e1
    exact Y_vret i_275_114 rt_275 h
theorem t_275_33 {d : Nat} {F A : Nat → Nat → Int32} {J : Nat → Nat → Int64} {G : pG} {Q : pR → pM → Prop} {SL p q : Nat} {x1 x2 x3 x4 : Int32} (hG : Geo G SL p q) (h : ((9 < x4 → inB x2 10 = true ∧ (X (d + 3) 275 7 [.ref 68, .int (x1 + 1), .int x2, .int x3, .int x4] [] (F, (wF A 84 x2.toNatClampNeg x3), J, G) Q)) ∧ (¬ 9 < x4 → inB x2 10 = true ∧ ((x4 = x3 → X (d + 3) 275 33 [.ref 68, .int x1, .int x2, .int x3, .int (x4 + 1)] [] (F, (wF A 84 x2.toNatClampNeg x4), J, G) Q) ∧ (¬ x4 = x3 → X (d + 2) 274 0 [.ref 68, .null] [] (F, (wF A 84 x2.toNatClampNeg x4), J, G) (KK (d + 3) 275 58 [.ref 68, .int x1, .int x2, .int x3, .int x4] [] Q)))))) : X (d + 3) 275 33 [.ref 68, .int x1, .int x2, .int x3, .int x4] [] (F, A, J, G) Q := by
  refine Y_il4 i_275_33 ?_
  refine Y_bipush (v := 9) i_275_35 (by decide) ?_
  refine Y_cgt i_275_37 (fun e1 => ?_) (fun e1 => ?_)
  · replace h := h.1 e1
    refine Y_al0 i_275_101 ?_
    refine Y_gR i_275_102 ow_275 lf_10_79 (k_68 hG) (r_68_26 hG) ?_
    refine Y_il2 i_275_105 ?_
    refine Y_il3 i_275_106 ?_
    have o2 := h.1
    replace h := h.2
    refine Y_iast i_275_107 (k_84 hG) (l_84 hG) o2 rfl ?_
    refine Y_ii1 (v := 1) i_275_108 (by decide) rfl ?_
    refine Y_goto i_275_111 ?_
    exact h
  · replace h := h.2 e1
    refine Y_al0 i_275_40 ?_
    refine Y_gR i_275_41 ow_275 lf_10_79 (k_68 hG) (r_68_26 hG) ?_
    refine Y_il2 i_275_44 ?_
    refine Y_il4 i_275_45 ?_
    have o3 := h.1
    replace h := h.2
    refine Y_iast i_275_47 (k_84 hG) (l_84 hG) o3 rfl ?_
    refine Y_il4 i_275_48 ?_
    refine Y_il3 i_275_50 ?_
    refine Y_ceq i_275_51 (fun e4 => ?_) (fun e4 => ?_)
    · replace h := h.1 e4
      refine Y_ii4 (v := 1) i_275_95 (by decide) rfl ?_
      refine Y_goto i_275_98 ?_
      exact h
    · replace h := h.2 e4
      refine Y_al0 i_275_54 ?_
      exact Y_iv0 (L0 := [.ref 68, .null]) i_275_55 ow_275 lm_10_445 ((k_68 hG).trans ow_274.symm) rfl mx_274 rfl rfl hd_275 h
theorem k_275_58 {d : Nat} {F A : Nat → Nat → Int32} {J : Nat → Nat → Int64} {G : pG} {Q : pR → pM → Prop} {SL p q : Nat} {x1 x2 x3 x4 r : Int32} (hG : Geo G SL p q) (h : ((r = 0 → X (d + 3) 275 33 [.ref 68, .int x1, .int x2, .int x3, .int (x4 + 1)] [] (F, A, J, G) Q) ∧ (¬ r = 0 → inB (F 68 47) 200 = true ∧ (X (d + 3) 275 33 [.ref 68, .int x1, .int x2, .int x3, .int (x4 + 1)] [] ((wF F 68 47 ((F 68 47) + 1)), (wF (wF A 96 (F 68 47).toNatClampNeg x2) 97 (F 68 47).toNatClampNeg x4), J, G) Q)))) : KK (d + 3) 275 58 [.ref 68, .int x1, .int x2, .int x3, .int x4] [] Q (.inl (some (.int r))) (F, A, J, G) := by
  refine KKi ?_
  refine Y_zne i_275_58 (fun e1 => ?_) (fun e1 => ?_)
  · replace h := h.1 e1
    refine Y_goto i_275_61 ?_
    refine Y_ii4 (v := 1) i_275_95 (by decide) rfl ?_
    refine Y_goto i_275_98 ?_
    exact h
  · replace h := h.2 e1
    refine Y_al0 i_275_64 ?_
    refine Y_gR i_275_65 ow_275 lf_10_119 (k_68 hG) (r_68_45 hG) ?_
    refine Y_al0 i_275_68 ?_
    refine Y_gI (v := (F 68 47)) i_275_69 ow_275 lf_10_442 (by decide) (k_68 hG) rfl ?_
    refine Y_il2 i_275_72 ?_
    have o2 := h.1
    replace h := h.2
    refine Y_iast i_275_73 (k_96 hG) (l_96 hG) o2 rfl ?_
    refine Y_al0 i_275_74 ?_
    refine Y_gR i_275_75 ow_275 lf_10_122 (k_68 hG) (r_68_46 hG) ?_
    refine Y_al0 i_275_78 ?_
    refine Y_gI (v := (F 68 47)) i_275_79 ow_275 lf_10_442 (by decide) (k_68 hG) rfl ?_
    refine Y_il4 i_275_82 ?_
    refine Y_iast i_275_84 (k_97 hG) (l_97 hG) o2 rfl ?_
    refine Y_al0 i_275_85 ?_
    refine Y_dup i_275_86 rfl ?_
    refine Y_gI (v := (F 68 47)) i_275_87 ow_275 lf_10_442 (by decide) (k_68 hG) rfl ?_
    refine Y_iconst (v := 1) i_275_90 (by decide) ?_
    refine Y_iadd i_275_91 ?_
    refine Y_pI i_275_92 ow_275 lf_10_442 (k_68 hG) ?_
    refine Y_ii4 (v := 1) i_275_95 (by decide) rfl ?_
    refine Y_goto i_275_98 ?_
    exact h
/- 276 Model.which(I)I -/
theorem t_276_0 {d : Nat} {F A : Nat → Nat → Int32} {J : Nat → Nat → Int64} {G : pG} {Q : pR → pM → Prop} {SL p q : Nat} {x1 : Int32} (hG : Geo G SL p q) (h : (((inL x1.toInt64 0 2) = true → ((x1 = 2 → X (d + 3) 274 0 [.ref 68, .null] [] ((wF F 68 3 0), A, J, G) (KK (d + 4) 276 32 [.ref 68, .int x1] [] Q)) ∧ (¬ x1 = 2 → X (d + 3) 275 0 [.ref 68, .null, .null, .null, .null] [] ((wF F 68 3 0), A, J, G) (KK (d + 4) 276 45 [.ref 68, .int x1] [] Q)))) ∧ ((inL x1.toInt64 0 2) = false → Q (.inl (some (.int 0))) ((wF (wF F 68 3 0) 68 3 1), A, J, G)))) : X (d + 4) 276 0 [.ref 68, .int x1] [] (F, A, J, G) Q := by
  refine Y_al0 i_276_0 ?_
  refine Y_iconst (v := 0) i_276_1 (by decide) ?_
  refine Y_pI i_276_2 ow_276 lf_10_143 (k_68 hG) ?_
  refine Y_il1 i_276_5 ?_
  refine Y_i2l i_276_6 ?_
  refine Y_lconst (v := 0) i_276_7 (by decide) ?_
  refine Y_ldcL i_276_8 ow_276 lj_10_448 ?_
  refine Y_is_3 (L0 := [.long x1.toInt64, .null, .long 0, .null, .long 2, .null]) i_276_11 ow_276 lm_10_146 rfl mx_178 rfl rfl hd_276 ?_
  refine c_178 hG (KKi ?_)
  refine Y_bne i_276_14 (fun e1 => ?_) (fun e1 => ?_)
  · replace h := h.1 e1
    refine Y_il1 i_276_23 ?_
    refine Y_iconst (v := 2) i_276_24 (by decide) ?_
    refine Y_cne i_276_25 (fun e2 => ?_) (fun e2 => ?_)
    · replace h := h.1 e2
      refine Y_al0 i_276_28 ?_
      exact Y_iv0 (L0 := [.ref 68, .null]) i_276_29 ow_276 lm_10_445 ((k_68 hG).trans ow_274.symm) rfl mx_274 rfl rfl hd_276 h
    · replace h := h.2 e2
      refine Y_al0 i_276_41 ?_
      exact Y_iv0 (L0 := [.ref 68, .null, .null, .null, .null]) i_276_42 ow_276 lm_10_450 ((k_68 hG).trans ow_275.symm) rfl mx_275 rfl rfl hd_276 h
  · replace h := h.2 e1
    refine Y_al0 i_276_17 ?_
    refine Y_iconst (v := 1) i_276_18 (by decide) ?_
    refine Y_iv1 (L0 := [.ref 68, .int 1]) i_276_19 ow_276 lm_10_269 ((k_68 hG).trans ow_176.symm) rfl mx_176 rfl rfl hd_276 ?_
    refine Y_al0 i_176_0 ?_
    refine Y_il1 i_176_1 ?_
    refine Y_pI i_176_2 ow_176 lf_10_143 (k_68 hG) ?_
    refine Y_iconst (v := 0) i_176_5 (by decide) ?_
    refine Y_iret i_176_6 rt_176 (KKi ?_)
    exact Y_iret i_276_22 rt_276 h
theorem k_276_32 {d : Nat} {F A : Nat → Nat → Int32} {J : Nat → Nat → Int64} {G : pG} {Q : pR → pM → Prop} {SL p q : Nat} {x1 r : Int32} (hG : Geo G SL p q) (h : ((r = 0 → Q (.inl (some (.int 0))) (F, A, J, G)) ∧ (¬ r = 0 → Q (.inl (some (.int 1))) (F, A, J, G)))) : KK (d + 4) 276 32 [.ref 68, .int x1] [] Q (.inl (some (.int r))) (F, A, J, G) := by
  refine KKi ?_
  refine Y_zeq i_276_32 (fun e1 => ?_) (fun e1 => ?_)
  · replace h := h.1 e1
    refine Y_iconst (v := 0) i_276_39 (by decide) ?_
    exact Y_iret i_276_40 rt_276 h
  · replace h := h.2 e1
    refine Y_iconst (v := 1) i_276_35 (by decide) ?_
    refine Y_goto i_276_36 ?_
    exact Y_iret i_276_40 rt_276 h
theorem k_276_45 {d : Nat} {F A : Nat → Nat → Int32} {J : Nat → Nat → Int64} {G : pG} {Q : pR → pM → Prop} {SL p q : Nat} {x1 : Int32} (hG : Geo G SL p q) (h : ((x1 = 0 → Q (.inl (some (.int (F 68 47)))) (F, A, J, G)) ∧ (¬ x1 = 0 → (((F 68 47) = 0 → Q (.inl (some (.int (-1)))) (F, A, J, G)) ∧ (¬ (F 68 47) = 0 → Q (.inl (some (.int ((((100 : Int32) * (A 96 0)) + (A 97 0)) + 50)))) (F, A, J, G)))))) : KK (d + 4) 276 45 [.ref 68, .int x1] [] Q (.inl none) (F, A, J, G) := by
  refine KKv ?_
  refine Y_il1 i_276_45 ?_
  refine Y_zne i_276_46 (fun e1 => ?_) (fun e1 => ?_)
  · replace h := h.1 e1
    refine Y_al0 i_276_49 ?_
    refine Y_gI (v := (F 68 47)) i_276_50 ow_276 lf_10_442 (by decide) (k_68 hG) rfl ?_
    refine Y_goto i_276_53 ?_
    exact Y_iret i_276_86 rt_276 h
  · replace h := h.2 e1
    refine Y_al0 i_276_56 ?_
    refine Y_gI (v := (F 68 47)) i_276_57 ow_276 lf_10_442 (by decide) (k_68 hG) rfl ?_
    refine Y_zne i_276_60 (fun e2 => ?_) (fun e2 => ?_)
    · replace h := h.1 e2
      refine Y_iconst (v := (-1)) i_276_63 (by decide) ?_
      refine Y_goto i_276_64 ?_
      exact Y_iret i_276_86 rt_276 h
    · replace h := h.2 e2
      refine Y_bipush (v := 100) i_276_67 (by decide) ?_
      refine Y_al0 i_276_69 ?_
      refine Y_gR i_276_70 ow_276 lf_10_119 (k_68 hG) (r_68_45 hG) ?_
      refine Y_iconst (v := 0) i_276_73 (by decide) ?_
      refine Y_iaload (k := 0) (v := (A 96 0)) i_276_74 (k_96 hG) (l_96 hG) (by decide) (by decide) rfl ?_
      refine Y_imul i_276_75 ?_
      refine Y_al0 i_276_76 ?_
      refine Y_gR i_276_77 ow_276 lf_10_122 (k_68 hG) (r_68_46 hG) ?_
      refine Y_iconst (v := 0) i_276_80 (by decide) ?_
      refine Y_iaload (k := 0) (v := (A 97 0)) i_276_81 (k_97 hG) (l_97 hG) (by decide) (by decide) rfl ?_
      refine Y_iadd i_276_82 ?_
      refine Y_bipush (v := 50) i_276_83 (by decide) ?_
      refine Y_iadd i_276_85 ?_
      exact Y_iret i_276_86 rt_276 h
/- 277 Model.unlike(I)I -/
theorem t_277_0 {d : Nat} {F A : Nat → Nat → Int32} {J : Nat → Nat → Int64} {G : pG} {Q : pR → pM → Prop} {SL p q : Nat} {x1 : Int32} (hG : Geo G SL p q) (h : X (d + 2) 277 4 [.ref 68, .int x1, .int 0, .int 0, .null, .null, .null, .null] [] (F, A, J, G) Q) : X (d + 2) 277 0 [.ref 68, .int x1, .null, .null, .null, .null, .null, .null] [] (F, A, J, G) Q := by
  refine Y_iconst (v := 0) i_277_0 (by decide) ?_
  refine Y_is2 i_277_1 rfl ?_
  refine Y_iconst (v := 0) i_277_2 (by decide) ?_
  refine Y_is3 i_277_3 rfl ?_
  exact h
theorem t_277_4 {d : Nat} {F A : Nat → Nat → Int32} {J : Nat → Nat → Int64} {G : pG} {Q : pR → pM → Prop} {SL p q : Nat} {x1 x2 x3 : Int32} {v4 v5 v6 v7 : Value} (hG : Geo G SL p q) (h : ((x3 < (F 68 47) → inB x3 200 = true ∧ inB (A 96 x3.toNatClampNeg) 10 = true ∧ (X (d + 1) 215 0 [.ref 68, .int x1, .null, .null] [] (F, (wF A 84 (A 96 x3.toNatClampNeg).toNatClampNeg (A 97 x3.toNatClampNeg)), J, G) (KK (d + 2) 277 52 [.ref 68, .int x1, .int x2, .int x3, .int (A 96 x3.toNatClampNeg), .int (A 84 (A 96 x3.toNatClampNeg).toNatClampNeg), v6, v7] [.int x3, .ref 98] Q))) ∧ (¬ x3 < (F 68 47) → Q (.inl (some (.int x2))) (F, A, J, G)))) : X (d + 2) 277 4 [.ref 68, .int x1, .int x2, .int x3, v4, v5, v6, v7] [] (F, A, J, G) Q := by
  refine Y_il3 i_277_4 ?_
  refine Y_al0 i_277_5 ?_
  refine Y_gI (v := (F 68 47)) i_277_6 ow_277 lf_10_442 (by decide) (k_68 hG) rfl ?_
  refine Y_cge i_277_9 (fun e1 => ?_) (fun e1 => ?_)
  · replace h := h.1 e1
    refine Y_al0 i_277_12 ?_
    refine Y_gR i_277_13 ow_277 lf_10_119 (k_68 hG) (r_68_45 hG) ?_
    refine Y_il3 i_277_16 ?_
    have o2 := h.1
    replace h := h.2
    refine Y_iaload (k := x3.toNatClampNeg) (v := (A 96 x3.toNatClampNeg)) i_277_17 (k_96 hG) (l_96 hG) o2 rfl rfl ?_
    refine Y_is4 i_277_18 rfl ?_
    refine Y_al0 i_277_20 ?_
    refine Y_gR i_277_21 ow_277 lf_10_79 (k_68 hG) (r_68_26 hG) ?_
    refine Y_il4 i_277_24 ?_
    have o3 := h.1
    replace h := h.2
    refine Y_iaload (k := (A 96 x3.toNatClampNeg).toNatClampNeg) (v := (A 84 (A 96 x3.toNatClampNeg).toNatClampNeg)) i_277_26 (k_84 hG) (l_84 hG) o3 rfl rfl ?_
    refine Y_is5 i_277_27 rfl ?_
    refine Y_al0 i_277_29 ?_
    refine Y_gR i_277_30 ow_277 lf_10_79 (k_68 hG) (r_68_26 hG) ?_
    refine Y_il4 i_277_33 ?_
    refine Y_al0 i_277_35 ?_
    refine Y_gR i_277_36 ow_277 lf_10_122 (k_68 hG) (r_68_46 hG) ?_
    refine Y_il3 i_277_39 ?_
    refine Y_iaload (k := x3.toNatClampNeg) (v := (A 97 x3.toNatClampNeg)) i_277_40 (k_97 hG) (l_97 hG) o2 rfl rfl ?_
    refine Y_iast i_277_41 (k_84 hG) (l_84 hG) o3 rfl ?_
    refine Y_al0 i_277_42 ?_
    refine Y_gR i_277_43 ow_277 lf_10_125 (k_68 hG) (r_68_48 hG) ?_
    refine Y_il3 i_277_46 ?_
    refine Y_al0 i_277_47 ?_
    refine Y_il1 i_277_48 ?_
    exact Y_iv1 (L0 := [.ref 68, .int x1, .null, .null]) i_277_49 ow_277 lm_10_314 ((k_68 hG).trans ow_215.symm) rfl mx_215 rfl rfl hd_277 h
  · replace h := h.2 e1
    refine Y_il2 i_277_127 ?_
    exact Y_iret i_277_128 rt_277 h
theorem k_277_52 {d : Nat} {F A : Nat → Nat → Int32} {J : Nat → Nat → Int64} {G : pG} {Q : pR → pM → Prop} {SL p q : Nat} {x1 x2 x3 x4 x5 r s0 : Int32} {v6 v7 : Value} (hG : Geo G SL p q) (h : inB s0 200 = true ∧ inB x4 10 = true ∧ (X (d + 2) 277 68 [.ref 68, .int x1, .int x2, .int x3, .int x4, .int x5, .int 1, .int 0] [] (F, (wF (wF A 98 s0.toNatClampNeg r) 84 x4.toNatClampNeg x5), J, G) Q)) : KK (d + 2) 277 52 [.ref 68, .int x1, .int x2, .int x3, .int x4, .int x5, v6, v7] [.int s0, .ref 98] Q (.inl (some (.int r))) (F, A, J, G) := by
  refine KKi ?_
  have o1 := h.1
  replace h := h.2
  refine Y_iast i_277_52 (k_98 hG) (l_98 hG) o1 rfl ?_
  refine Y_al0 i_277_53 ?_
  refine Y_gR i_277_54 ow_277 lf_10_79 (k_68 hG) (r_68_26 hG) ?_
  refine Y_il4 i_277_57 ?_
  refine Y_il5 i_277_59 ?_
  have o2 := h.1
  replace h := h.2
  refine Y_iast i_277_61 (k_84 hG) (l_84 hG) o2 rfl ?_
  refine Y_iconst (v := 1) i_277_62 (by decide) ?_
  refine Y_is6 i_277_63 rfl ?_
  refine Y_iconst (v := 0) i_277_65 (by decide) ?_
  refine Y_is7 i_277_66 rfl ?_
  exact h
theorem t_277_68 {d : Nat} {F A : Nat → Nat → Int32} {J : Nat → Nat → Int64} {G : pG} {Q : pR → pM → Prop} {SL p q : Nat} {x1 x2 x3 x4 x5 x6 x7 : Int32} (hG : Geo G SL p q) (h : ((x7 < x3 → ((x6 = 0 → ((x6 = 0 → X (d + 2) 277 4 [.ref 68, .int x1, .int (x2 + 0), .int (x3 + 1), .int x4, .int x5, .int x6, .int x7] [] (F, A, J, G) Q) ∧ (¬ x6 = 0 → X (d + 2) 277 4 [.ref 68, .int x1, .int (x2 + 1), .int (x3 + 1), .int x4, .int x5, .int x6, .int x7] [] (F, A, J, G) Q))) ∧ (¬ x6 = 0 → inB x7 200 = true ∧ inB x3 200 = true ∧ (((A 98 x7.toNatClampNeg) = (A 98 x3.toNatClampNeg) → X (d + 2) 277 68 [.ref 68, .int x1, .int x2, .int x3, .int x4, .int x5, .int 0, .int (x7 + 1)] [] (F, A, J, G) Q) ∧ (¬ (A 98 x7.toNatClampNeg) = (A 98 x3.toNatClampNeg) → X (d + 2) 277 68 [.ref 68, .int x1, .int x2, .int x3, .int x4, .int x5, .int 1, .int (x7 + 1)] [] (F, A, J, G) Q))))) ∧ (¬ x7 < x3 → ((x6 = 0 → X (d + 2) 277 4 [.ref 68, .int x1, .int (x2 + 0), .int (x3 + 1), .int x4, .int x5, .int x6, .int x7] [] (F, A, J, G) Q) ∧ (¬ x6 = 0 → X (d + 2) 277 4 [.ref 68, .int x1, .int (x2 + 1), .int (x3 + 1), .int x4, .int x5, .int x6, .int x7] [] (F, A, J, G) Q))))) : X (d + 2) 277 68 [.ref 68, .int x1, .int x2, .int x3, .int x4, .int x5, .int x6, .int x7] [] (F, A, J, G) Q := by
  refine Y_il7 i_277_68 ?_
  refine Y_il3 i_277_70 ?_
  refine Y_cge i_277_71 (fun e1 => ?_) (fun e1 => ?_)
  · replace h := h.1 e1
    refine Y_il6 i_277_74 ?_
    refine Y_zeq i_277_76 (fun e2 => ?_) (fun e2 => ?_)
    · replace h := h.1 e2
      refine Y_il2 i_277_108 ?_
      refine Y_il6 i_277_109 ?_
      refine Y_zeq i_277_111 (fun e3 => ?_) (fun e3 => ?_)
      · replace h := h.1 e3
        refine Y_iconst (v := 0) i_277_118 (by decide) ?_
        refine Y_iadd i_277_119 ?_
        refine Y_is2 i_277_120 rfl ?_
        refine Y_ii3 (v := 1) i_277_121 (by decide) rfl ?_
        refine Y_goto i_277_124 ?_
        exact h
      · replace h := h.2 e3
        refine Y_iconst (v := 1) i_277_114 (by decide) ?_
        refine Y_goto i_277_115 ?_
        refine Y_iadd i_277_119 ?_
        refine Y_is2 i_277_120 rfl ?_
        refine Y_ii3 (v := 1) i_277_121 (by decide) rfl ?_
        refine Y_goto i_277_124 ?_
        exact h
    · replace h := h.2 e2
      refine Y_al0 i_277_79 ?_
      refine Y_gR i_277_80 ow_277 lf_10_125 (k_68 hG) (r_68_48 hG) ?_
      refine Y_il7 i_277_83 ?_
      have o4 := h.1
      replace h := h.2
      refine Y_iaload (k := x7.toNatClampNeg) (v := (A 98 x7.toNatClampNeg)) i_277_85 (k_98 hG) (l_98 hG) o4 rfl rfl ?_
      refine Y_al0 i_277_86 ?_
      refine Y_gR i_277_87 ow_277 lf_10_125 (k_68 hG) (r_68_48 hG) ?_
      refine Y_il3 i_277_90 ?_
      have o5 := h.1
      replace h := h.2
      refine Y_iaload (k := x3.toNatClampNeg) (v := (A 98 x3.toNatClampNeg)) i_277_91 (k_98 hG) (l_98 hG) o5 rfl rfl ?_
      refine Y_ceq i_277_92 (fun e6 => ?_) (fun e6 => ?_)
      · replace h := h.1 e6
        refine Y_iconst (v := 0) i_277_99 (by decide) ?_
        refine Y_is6 i_277_100 rfl ?_
        refine Y_ii7 (v := 1) i_277_102 (by decide) rfl ?_
        refine Y_goto i_277_105 ?_
        exact h
      · replace h := h.2 e6
        refine Y_iconst (v := 1) i_277_95 (by decide) ?_
        refine Y_goto i_277_96 ?_
        refine Y_is6 i_277_100 rfl ?_
        refine Y_ii7 (v := 1) i_277_102 (by decide) rfl ?_
        refine Y_goto i_277_105 ?_
        exact h
  · replace h := h.2 e1
    refine Y_il2 i_277_108 ?_
    refine Y_il6 i_277_109 ?_
    refine Y_zeq i_277_111 (fun e7 => ?_) (fun e7 => ?_)
    · replace h := h.1 e7
      refine Y_iconst (v := 0) i_277_118 (by decide) ?_
      refine Y_iadd i_277_119 ?_
      refine Y_is2 i_277_120 rfl ?_
      refine Y_ii3 (v := 1) i_277_121 (by decide) rfl ?_
      refine Y_goto i_277_124 ?_
      exact h
    · replace h := h.2 e7
      refine Y_iconst (v := 1) i_277_114 (by decide) ?_
      refine Y_goto i_277_115 ?_
      refine Y_iadd i_277_119 ?_
      refine Y_is2 i_277_120 rfl ?_
      refine Y_ii3 (v := 1) i_277_121 (by decide) rfl ?_
      refine Y_goto i_277_124 ?_
      exact h
/- 278 Model.look()I -/
theorem t_278_0 {d : Nat} {F A : Nat → Nat → Int32} {J : Nat → Nat → Int64} {G : pG} {Q : pR → pM → Prop} {SL p q : Nat} (hG : Geo G SL p q) (h : X (d + 3) 275 0 [.ref 68, .null, .null, .null, .null] [] ((wF F 68 3 0), A, J, G) (KK (d + 4) 278 9 [.ref 68, .null, .null, .null, .null] [] Q)) : X (d + 4) 278 0 [.ref 68, .null, .null, .null, .null] [] (F, A, J, G) Q := by
  refine Y_al0 i_278_0 ?_
  refine Y_iconst (v := 0) i_278_1 (by decide) ?_
  refine Y_pI i_278_2 ow_278 lf_10_143 (k_68 hG) ?_
  refine Y_al0 i_278_5 ?_
  exact Y_iv0 (L0 := [.ref 68, .null, .null, .null, .null]) i_278_6 ow_278 lm_10_450 ((k_68 hG).trans ow_275.symm) rfl mx_275 rfl rfl hd_278 h
theorem k_278_9 {d : Nat} {F A : Nat → Nat → Int32} {J : Nat → Nat → Int64} {G : pG} {Q : pR → pM → Prop} {SL p q : Nat} (hG : Geo G SL p q) (h : X (d + 4) 278 15 [.ref 68, .int (-1), .int 0, .int 0, .null] [] (F, A, J, G) Q) : KK (d + 4) 278 9 [.ref 68, .null, .null, .null, .null] [] Q (.inl none) (F, A, J, G) := by
  refine KKv ?_
  refine Y_iconst (v := (-1)) i_278_9 (by decide) ?_
  refine Y_is1 i_278_10 rfl ?_
  refine Y_iconst (v := 0) i_278_11 (by decide) ?_
  refine Y_is2 i_278_12 rfl ?_
  refine Y_iconst (v := 0) i_278_13 (by decide) ?_
  refine Y_is3 i_278_14 rfl ?_
  exact h
theorem t_278_15 {d : Nat} {F A : Nat → Nat → Int32} {J : Nat → Nat → Int64} {G : pG} {Q : pR → pM → Prop} {SL p q : Nat} {x1 x2 x3 : Int32} {v4 : Value} (hG : Geo G SL p q) (h : ((x3 < (F 68 28) → X (d + 3) 277 0 [.ref 68, .int x3, .null, .null, .null, .null, .null, .null] [] (F, A, J, G) (KK (d + 4) 278 28 [.ref 68, .int x1, .int x2, .int x3, v4] [] Q)) ∧ (¬ x3 < (F 68 28) → Q (.inl (some (.int x1))) (F, A, J, G)))) : X (d + 4) 278 15 [.ref 68, .int x1, .int x2, .int x3, v4] [] (F, A, J, G) Q := by
  refine Y_il3 i_278_15 ?_
  refine Y_al0 i_278_16 ?_
  refine Y_gI (v := (F 68 28)) i_278_17 ow_278 lf_10_150 (by decide) (k_68 hG) rfl ?_
  refine Y_cge i_278_20 (fun e1 => ?_) (fun e1 => ?_)
  · replace h := h.1 e1
    refine Y_al0 i_278_23 ?_
    refine Y_il3 i_278_24 ?_
    exact Y_iv1 (L0 := [.ref 68, .int x3, .null, .null, .null, .null, .null, .null]) i_278_25 ow_278 lm_10_453 ((k_68 hG).trans ow_277.symm) rfl mx_277 rfl rfl hd_278 h
  · replace h := h.2 e1
    refine Y_il1 i_278_50 ?_
    exact Y_iret i_278_51 rt_278 h
theorem k_278_28 {d : Nat} {F A : Nat → Nat → Int32} {J : Nat → Nat → Int64} {G : pG} {Q : pR → pM → Prop} {SL p q : Nat} {x1 x2 x3 r : Int32} {v4 : Value} (hG : Geo G SL p q) (h : ((x2 < r → X (d + 4) 278 15 [.ref 68, .int x3, .int r, .int (x3 + 1), .int r] [] (F, A, J, G) Q) ∧ (¬ x2 < r → X (d + 4) 278 15 [.ref 68, .int x1, .int x2, .int (x3 + 1), .int r] [] (F, A, J, G) Q))) : KK (d + 4) 278 28 [.ref 68, .int x1, .int x2, .int x3, v4] [] Q (.inl (some (.int r))) (F, A, J, G) := by
  refine KKi ?_
  refine Y_is4 i_278_28 rfl ?_
  refine Y_il4 i_278_30 ?_
  refine Y_il2 i_278_32 ?_
  refine Y_cgt i_278_33 (fun e1 => ?_) (fun e1 => ?_)
  · replace h := h.1 e1
    refine Y_il3 i_278_39 ?_
    refine Y_is1 i_278_40 rfl ?_
    refine Y_il4 i_278_41 ?_
    refine Y_is2 i_278_43 rfl ?_
    refine Y_ii3 (v := 1) i_278_44 (by decide) rfl ?_
    refine Y_goto i_278_47 ?_
    exact h
  · replace h := h.2 e1
    refine Y_goto i_278_36 ?_
    refine Y_ii3 (v := 1) i_278_44 (by decide) rfl ?_
    refine Y_goto i_278_47 ?_
    exact h
/- 279 Model.forget()V -/
theorem t_279_0 {d : Nat} {F A : Nat → Nat → Int32} {J : Nat → Nat → Int64} {G : pG} {Q : pR → pM → Prop} {SL p q : Nat} (hG : Geo G SL p q) (h : Q (.inl none) ((wF (wF F 68 3 0) 68 32 0), A, J, G)) : X d 279 0 [.ref 68] [] (F, A, J, G) Q := by
  refine Y_al0 i_279_0 ?_
  refine Y_iconst (v := 0) i_279_1 (by decide) ?_
  refine Y_pI i_279_2 ow_279 lf_10_143 (k_68 hG) ?_
  refine Y_al0 i_279_5 ?_
  refine Y_iconst (v := 0) i_279_6 (by decide) ?_
  refine Y_pI i_279_7 ow_279 lf_10_288 (k_68 hG) ?_
  exact Y_vret i_279_10 rt_279 h
/- 280 Model.gain(III)I -/
theorem t_280_0 {d : Nat} {F A : Nat → Nat → Int32} {J : Nat → Nat → Int64} {G : pG} {Q : pR → pM → Prop} {SL p q : Nat} {x1 x2 x3 : Int32} (hG : Geo G SL p q) (h : inB ((F 68 28) - 1) 10 = true ∧ inB (A 81 0) 10 = true ∧ inB (A 81 ((F 68 28) - 1).toNatClampNeg) 10 = true ∧ (X (d + 5) 218 0 [.ref 68] [] (F, (wF (wF A 82 (A 81 0).toNatClampNeg ((A 82 (A 81 0).toNatClampNeg) + x2)) 82 (A 81 ((F 68 28) - 1).toNatClampNeg).toNatClampNeg (((wF A 82 (A 81 0).toNatClampNeg ((A 82 (A 81 0).toNatClampNeg) + x2)) 82 (A 81 ((F 68 28) - 1).toNatClampNeg).toNatClampNeg) + x3)), J, G) (KK (d + 6) 280 47 [.ref 68, .int x1, .int x2, .int x3, .int (A 81 0), .int (A 81 ((F 68 28) - 1).toNatClampNeg), .null] [] Q))) : X (d + 6) 280 0 [.ref 68, .int x1, .int x2, .int x3, .null, .null, .null] [] (F, A, J, G) Q := by
  refine Y_al0 i_280_0 ?_
  refine Y_gR i_280_1 ow_280 lf_10_70 (k_68 hG) (r_68_23 hG) ?_
  refine Y_iconst (v := 0) i_280_4 (by decide) ?_
  refine Y_iaload (k := 0) (v := (A 81 0)) i_280_5 (k_81 hG) (l_81 hG) (by decide) (by decide) rfl ?_
  refine Y_is4 i_280_6 rfl ?_
  refine Y_al0 i_280_8 ?_
  refine Y_gR i_280_9 ow_280 lf_10_70 (k_68 hG) (r_68_23 hG) ?_
  refine Y_al0 i_280_12 ?_
  refine Y_gI (v := (F 68 28)) i_280_13 ow_280 lf_10_150 (by decide) (k_68 hG) rfl ?_
  refine Y_iconst (v := 1) i_280_16 (by decide) ?_
  refine Y_isub i_280_17 ?_
  have o1 := h.1
  replace h := h.2
  refine Y_iaload (k := ((F 68 28) - 1).toNatClampNeg) (v := (A 81 ((F 68 28) - 1).toNatClampNeg)) i_280_18 (k_81 hG) (l_81 hG) o1 rfl rfl ?_
  refine Y_is5 i_280_19 rfl ?_
  refine Y_al0 i_280_21 ?_
  refine Y_gR i_280_22 ow_280 lf_10_73 (k_68 hG) (r_68_24 hG) ?_
  refine Y_il4 i_280_25 ?_
  refine Y_dup2 i_280_27 rfl rfl ?_
  have o2 := h.1
  replace h := h.2
  refine Y_iaload (k := (A 81 0).toNatClampNeg) (v := (A 82 (A 81 0).toNatClampNeg)) i_280_28 (k_82 hG) (l_82 hG) o2 rfl rfl ?_
  refine Y_il2 i_280_29 ?_
  refine Y_iadd i_280_30 ?_
  refine Y_iast i_280_31 (k_82 hG) (l_82 hG) o2 rfl ?_
  refine Y_al0 i_280_32 ?_
  refine Y_gR i_280_33 ow_280 lf_10_73 (k_68 hG) (r_68_24 hG) ?_
  refine Y_il5 i_280_36 ?_
  refine Y_dup2 i_280_38 rfl rfl ?_
  have o3 := h.1
  replace h := h.2
  refine Y_iaload (k := (A 81 ((F 68 28) - 1).toNatClampNeg).toNatClampNeg) (v := ((wF A 82 (A 81 0).toNatClampNeg ((A 82 (A 81 0).toNatClampNeg) + x2)) 82 (A 81 ((F 68 28) - 1).toNatClampNeg).toNatClampNeg)) i_280_39 (k_82 hG) (l_82 hG) o3 rfl rfl ?_
  refine Y_il3 i_280_40 ?_
  refine Y_iadd i_280_41 ?_
  refine Y_iast i_280_42 (k_82 hG) (l_82 hG) o3 rfl ?_
  refine Y_al0 i_280_43 ?_
  exact Y_iv0 (L0 := [.ref 68]) i_280_44 ow_280 lm_10_326 ((k_68 hG).trans ow_218.symm) rfl mx_218 rfl rfl hd_280 h
theorem k_280_47 {d : Nat} {F A : Nat → Nat → Int32} {J : Nat → Nat → Int64} {G : pG} {Q : pR → pM → Prop} {SL p q : Nat} {x1 x2 x3 x4 x5 r : Int32} (hG : Geo G SL p q) (h : inB x4 10 = true ∧ inB x5 10 = true ∧ ((r = 0 → Q (.inl (some (.int (x1 - 20)))) (F, (wF (wF A 82 x4.toNatClampNeg ((A 82 x4.toNatClampNeg) - x2)) 82 x5.toNatClampNeg (((wF A 82 x4.toNatClampNeg ((A 82 x4.toNatClampNeg) - x2)) 82 x5.toNatClampNeg) - x3)), J, G)) ∧ (¬ r = 0 → Q (.inl (some (.int x1))) (F, (wF (wF A 82 x4.toNatClampNeg ((A 82 x4.toNatClampNeg) - x2)) 82 x5.toNatClampNeg (((wF A 82 x4.toNatClampNeg ((A 82 x4.toNatClampNeg) - x2)) 82 x5.toNatClampNeg) - x3)), J, G)))) : KK (d + 6) 280 47 [.ref 68, .int x1, .int x2, .int x3, .int x4, .int x5, .null] [] Q (.inl (some (.int r))) (F, A, J, G) := by
  refine KKi ?_
  refine Y_is6 i_280_47 rfl ?_
  refine Y_al0 i_280_49 ?_
  refine Y_gR i_280_50 ow_280 lf_10_73 (k_68 hG) (r_68_24 hG) ?_
  refine Y_il4 i_280_53 ?_
  refine Y_dup2 i_280_55 rfl rfl ?_
  have o1 := h.1
  replace h := h.2
  refine Y_iaload (k := x4.toNatClampNeg) (v := (A 82 x4.toNatClampNeg)) i_280_56 (k_82 hG) (l_82 hG) o1 rfl rfl ?_
  refine Y_il2 i_280_57 ?_
  refine Y_isub i_280_58 ?_
  refine Y_iast i_280_59 (k_82 hG) (l_82 hG) o1 rfl ?_
  refine Y_al0 i_280_60 ?_
  refine Y_gR i_280_61 ow_280 lf_10_73 (k_68 hG) (r_68_24 hG) ?_
  refine Y_il5 i_280_64 ?_
  refine Y_dup2 i_280_66 rfl rfl ?_
  have o2 := h.1
  replace h := h.2
  refine Y_iaload (k := x5.toNatClampNeg) (v := ((wF A 82 x4.toNatClampNeg ((A 82 x4.toNatClampNeg) - x2)) 82 x5.toNatClampNeg)) i_280_67 (k_82 hG) (l_82 hG) o2 rfl rfl ?_
  refine Y_il3 i_280_68 ?_
  refine Y_isub i_280_69 ?_
  refine Y_iast i_280_70 (k_82 hG) (l_82 hG) o2 rfl ?_
  refine Y_il6 i_280_71 ?_
  refine Y_zeq i_280_73 (fun e3 => ?_) (fun e3 => ?_)
  · replace h := h.1 e3
    refine Y_il1 i_280_80 ?_
    refine Y_bipush (v := 20) i_280_81 (by decide) ?_
    refine Y_isub i_280_83 ?_
    exact Y_iret i_280_84 rt_280 h
  · replace h := h.2 e3
    refine Y_il1 i_280_76 ?_
    refine Y_goto i_280_77 ?_
    exact Y_iret i_280_84 rt_280 h
/- 281 Model.rests(II)Z -/
theorem t_281_0 {d : Nat} {F A : Nat → Nat → Int32} {J : Nat → Nat → Int64} {G : pG} {Q : pR → pM → Prop} {SL p q : Nat} {x1 x2 : Int32} (hG : Geo G SL p q) (h : X (d + 7) 281 2 [.ref 68, .int x1, .int x2, .int 0] [] (F, A, J, G) Q) : X (d + 7) 281 0 [.ref 68, .int x1, .int x2, .null] [] (F, A, J, G) Q := by
  refine Y_iconst (v := 0) i_281_0 (by decide) ?_
  refine Y_is3 i_281_1 rfl ?_
  exact h
theorem t_281_2 {d : Nat} {F A : Nat → Nat → Int32} {J : Nat → Nat → Int64} {G : pG} {Q : pR → pM → Prop} {SL p q : Nat} {x1 x2 x3 : Int32} (hG : Geo G SL p q) (h : ((x3 < 10 → X (d + 6) 280 0 [.ref 68, .int x3, .int x3, .int x2, .null, .null, .null] [] (F, A, J, G) (KK (d + 7) 281 15 [.ref 68, .int x1, .int x2, .int x3] [] Q)) ∧ (¬ x3 < 10 → Q (.inl (some (.int 1))) (F, A, J, G)))) : X (d + 7) 281 2 [.ref 68, .int x1, .int x2, .int x3] [] (F, A, J, G) Q := by
  refine Y_il3 i_281_2 ?_
  refine Y_bipush (v := 10) i_281_3 (by decide) ?_
  refine Y_cge i_281_5 (fun e1 => ?_) (fun e1 => ?_)
  · replace h := h.1 e1
    refine Y_al0 i_281_8 ?_
    refine Y_il3 i_281_9 ?_
    refine Y_il3 i_281_10 ?_
    refine Y_il2 i_281_11 ?_
    exact Y_iv3 (L0 := [.ref 68, .int x3, .int x3, .int x2, .null, .null, .null]) i_281_12 ow_281 lm_10_456 ((k_68 hG).trans ow_280.symm) rfl mx_280 rfl rfl hd_281 h
  · replace h := h.2 e1
    refine Y_iconst (v := 1) i_281_50 (by decide) ?_
    exact Y_bret i_281_51 rt_281 (by decide) h
theorem k_281_15 {d : Nat} {F A : Nat → Nat → Int32} {J : Nat → Nat → Int64} {G : pG} {Q : pR → pM → Prop} {SL p q : Nat} {x1 x2 x3 r : Int32} (hG : Geo G SL p q) (h : X (d + 6) 280 0 [.ref 68, .int x1, .int x1, .int x2, .null, .null, .null] [] (F, A, J, G) (KK (d + 7) 281 22 [.ref 68, .int x1, .int x2, .int x3] [.int r] Q)) : KK (d + 7) 281 15 [.ref 68, .int x1, .int x2, .int x3] [] Q (.inl (some (.int r))) (F, A, J, G) := by
  refine KKi ?_
  refine Y_al0 i_281_15 ?_
  refine Y_il1 i_281_16 ?_
  refine Y_il1 i_281_17 ?_
  refine Y_il2 i_281_18 ?_
  exact Y_iv3 (L0 := [.ref 68, .int x1, .int x1, .int x2, .null, .null, .null]) i_281_19 ow_281 lm_10_456 ((k_68 hG).trans ow_280.symm) rfl mx_280 rfl rfl hd_281 h
theorem k_281_22 {d : Nat} {F A : Nat → Nat → Int32} {J : Nat → Nat → Int64} {G : pG} {Q : pR → pM → Prop} {SL p q : Nat} {x1 x2 x3 r s0 : Int32} (hG : Geo G SL p q) (h : ((r < s0 → Q (.inl (some (.int 0))) (F, A, J, G)) ∧ (¬ r < s0 → X (d + 6) 280 0 [.ref 68, .int x3, .int x1, .int x3, .null, .null, .null] [] (F, A, J, G) (KK (d + 7) 281 32 [.ref 68, .int x1, .int x2, .int x3] [] Q)))) : KK (d + 7) 281 22 [.ref 68, .int x1, .int x2, .int x3] [.int s0] Q (.inl (some (.int r))) (F, A, J, G) := by
  refine KKi ?_
  refine Y_cgt i_281_22 (fun e1 => ?_) (fun e1 => ?_)
  · replace h := h.1 e1
    refine Y_iconst (v := 0) i_281_42 (by decide) ?_
    exact Y_bret i_281_43 rt_281 (by decide) h
  · replace h := h.2 e1
    refine Y_al0 i_281_25 ?_
    refine Y_il3 i_281_26 ?_
    refine Y_il1 i_281_27 ?_
    refine Y_il3 i_281_28 ?_
    exact Y_iv3 (L0 := [.ref 68, .int x3, .int x1, .int x3, .null, .null, .null]) i_281_29 ow_281 lm_10_456 ((k_68 hG).trans ow_280.symm) rfl mx_280 rfl rfl hd_281 h
theorem k_281_32 {d : Nat} {F A : Nat → Nat → Int32} {J : Nat → Nat → Int64} {G : pG} {Q : pR → pM → Prop} {SL p q : Nat} {x1 x2 x3 r : Int32} (hG : Geo G SL p q) (h : X (d + 6) 280 0 [.ref 68, .int x2, .int x1, .int x2, .null, .null, .null] [] (F, A, J, G) (KK (d + 7) 281 39 [.ref 68, .int x1, .int x2, .int x3] [.int r] Q)) : KK (d + 7) 281 32 [.ref 68, .int x1, .int x2, .int x3] [] Q (.inl (some (.int r))) (F, A, J, G) := by
  refine KKi ?_
  refine Y_al0 i_281_32 ?_
  refine Y_il2 i_281_33 ?_
  refine Y_il1 i_281_34 ?_
  refine Y_il2 i_281_35 ?_
  exact Y_iv3 (L0 := [.ref 68, .int x2, .int x1, .int x2, .null, .null, .null]) i_281_36 ow_281 lm_10_456 ((k_68 hG).trans ow_280.symm) rfl mx_280 rfl rfl hd_281 h
theorem k_281_39 {d : Nat} {F A : Nat → Nat → Int32} {J : Nat → Nat → Int64} {G : pG} {Q : pR → pM → Prop} {SL p q : Nat} {x1 x2 x3 r s0 : Int32} (hG : Geo G SL p q) (h : ((r < s0 → Q (.inl (some (.int 0))) (F, A, J, G)) ∧ (¬ r < s0 → X (d + 7) 281 2 [.ref 68, .int x1, .int x2, .int (x3 + 1)] [] (F, A, J, G) Q))) : KK (d + 7) 281 39 [.ref 68, .int x1, .int x2, .int x3] [.int s0] Q (.inl (some (.int r))) (F, A, J, G) := by
  refine KKi ?_
  refine Y_cle i_281_39 (fun e1 => ?_) (fun e1 => ?_)
  · replace h := h.1 e1
    refine Y_iconst (v := 0) i_281_42 (by decide) ?_
    exact Y_bret i_281_43 rt_281 (by decide) h
  · replace h := h.2 e1
    refine Y_ii3 (v := 1) i_281_44 (by decide) rfl ?_
    refine Y_goto i_281_47 ?_
    exact h
/- 282 Model.game(I)I -/
theorem t_282_0 {d : Nat} {F A : Nat → Nat → Int32} {J : Nat → Nat → Int64} {G : pG} {Q : pR → pM → Prop} {SL p q : Nat} {x1 : Int32} (hG : Geo G SL p q) (h : ((x1 < 0 → Q (.inl (some (.int 0))) ((wF (wF F 68 3 0) 68 3 1), A, J, G)) ∧ (¬ x1 < 0 → ((1 < x1 → Q (.inl (some (.int 0))) ((wF (wF F 68 3 0) 68 3 1), A, J, G)) ∧ (¬ 1 < x1 → X (d + 8) 282 27 [.ref 68, .int x1, .int 0, .int (-1), .int 0] [] ((wF F 68 3 0), A, J, G) Q))))) : X (d + 8) 282 0 [.ref 68, .int x1, .null, .null, .null] [] (F, A, J, G) Q := by
  refine Y_al0 i_282_0 ?_
  refine Y_iconst (v := 0) i_282_1 (by decide) ?_
  refine Y_pI i_282_2 ow_282 lf_10_143 (k_68 hG) ?_
  refine Y_il1 i_282_5 ?_
  refine Y_zlt i_282_6 (fun e1 => ?_) (fun e1 => ?_)
  · replace h := h.1 e1
    refine Y_al0 i_282_14 ?_
    refine Y_iconst (v := 1) i_282_15 (by decide) ?_
    refine Y_iv1 (L0 := [.ref 68, .int 1]) i_282_16 ow_282 lm_10_269 ((k_68 hG).trans ow_176.symm) rfl mx_176 rfl rfl hd_282 ?_
    refine Y_al0 i_176_0 ?_
    refine Y_il1 i_176_1 ?_
    refine Y_pI i_176_2 ow_176 lf_10_143 (k_68 hG) ?_
    refine Y_iconst (v := 0) i_176_5 (by decide) ?_
    refine Y_iret i_176_6 rt_176 (KKi ?_)
    exact Y_iret i_282_19 rt_282 h
  · replace h := h.2 e1
    refine Y_il1 i_282_9 ?_
    refine Y_iconst (v := 1) i_282_10 (by decide) ?_
    refine Y_cle i_282_11 (fun e2 => ?_) (fun e2 => ?_)
    · replace h := h.1 e2
      refine Y_al0 i_282_14 ?_
      refine Y_iconst (v := 1) i_282_15 (by decide) ?_
      refine Y_iv1 (L0 := [.ref 68, .int 1]) i_282_16 ow_282 lm_10_269 ((k_68 hG).trans ow_176.symm) rfl mx_176 rfl rfl hd_282 ?_
      refine Y_al0 i_176_0 ?_
      refine Y_il1 i_176_1 ?_
      refine Y_pI i_176_2 ow_176 lf_10_143 (k_68 hG) ?_
      refine Y_iconst (v := 0) i_176_5 (by decide) ?_
      refine Y_iret i_176_6 rt_176 (KKi ?_)
      exact Y_iret i_282_19 rt_282 h
    · replace h := h.2 e2
      refine Y_iconst (v := 0) i_282_20 (by decide) ?_
      refine Y_is2 i_282_21 rfl ?_
      refine Y_iconst (v := (-1)) i_282_22 (by decide) ?_
      refine Y_is3 i_282_23 rfl ?_
      refine Y_iconst (v := 0) i_282_24 (by decide) ?_
      refine Y_is4 i_282_25 rfl ?_
      exact h
theorem t_282_27 {d : Nat} {F A : Nat → Nat → Int32} {J : Nat → Nat → Int64} {G : pG} {Q : pR → pM → Prop} {SL p q : Nat} {x1 x2 x3 x4 : Int32} (hG : Geo G SL p q) (h : ((x4 < 100 → ((1 < (F 68 28) → X (d + 7) 281 0 [.ref 68, .int (x4 / 10), .int (jrem x4 10), .null] [] (F, A, J, G) (KK (d + 8) 282 56 [.ref 68, .int x1, .int x2, .int x3, .int x4] [] Q)) ∧ (¬ 1 < (F 68 28) → ((x1 = 0 → Q (.inl (some (.int x2))) (F, A, J, G)) ∧ (¬ x1 = 0 → Q (.inl (some (.int x3))) (F, A, J, G)))))) ∧ (¬ x4 < 100 → ((x1 = 0 → Q (.inl (some (.int x2))) (F, A, J, G)) ∧ (¬ x1 = 0 → Q (.inl (some (.int x3))) (F, A, J, G)))))) : X (d + 8) 282 27 [.ref 68, .int x1, .int x2, .int x3, .int x4] [] (F, A, J, G) Q := by
  refine Y_il4 i_282_27 ?_
  refine Y_bipush (v := 100) i_282_29 (by decide) ?_
  refine Y_cge i_282_31 (fun e1 => ?_) (fun e1 => ?_)
  · replace h := h.1 e1
    refine Y_al0 i_282_34 ?_
    refine Y_gI (v := (F 68 28)) i_282_35 ow_282 lf_10_150 (by decide) (k_68 hG) rfl ?_
    refine Y_iconst (v := 1) i_282_38 (by decide) ?_
    refine Y_cle i_282_39 (fun e2 => ?_) (fun e2 => ?_)
    · replace h := h.1 e2
      refine Y_al0 i_282_42 ?_
      refine Y_il4 i_282_43 ?_
      refine Y_bipush (v := 10) i_282_45 (by decide) ?_
      refine Y_idiv i_282_47 (by decide) ?_
      refine Y_il4 i_282_48 ?_
      refine Y_bipush (v := 10) i_282_50 (by decide) ?_
      refine Y_irem i_282_52 (by decide) ?_
      exact Y_iv2 (L0 := [.ref 68, .int (x4 / 10), .int (jrem x4 10), .null]) i_282_53 ow_282 lm_10_459 ((k_68 hG).trans ow_281.symm) rfl mx_281 rfl rfl hd_282 h
    · replace h := h.2 e2
      refine Y_il1 i_282_83 ?_
      refine Y_zne i_282_84 (fun e3 => ?_) (fun e3 => ?_)
      · replace h := h.1 e3
        refine Y_il2 i_282_87 ?_
        refine Y_goto i_282_88 ?_
        exact Y_iret i_282_92 rt_282 h
      · replace h := h.2 e3
        refine Y_il3 i_282_91 ?_
        exact Y_iret i_282_92 rt_282 h
  · replace h := h.2 e1
    refine Y_il1 i_282_83 ?_
    refine Y_zne i_282_84 (fun e4 => ?_) (fun e4 => ?_)
    · replace h := h.1 e4
      refine Y_il2 i_282_87 ?_
      refine Y_goto i_282_88 ?_
      exact Y_iret i_282_92 rt_282 h
    · replace h := h.2 e4
      refine Y_il3 i_282_91 ?_
      exact Y_iret i_282_92 rt_282 h
theorem k_282_56 {d : Nat} {F A : Nat → Nat → Int32} {J : Nat → Nat → Int64} {G : pG} {Q : pR → pM → Prop} {SL p q : Nat} {x1 x2 x3 x4 r : Int32} (hG : Geo G SL p q) (h : ((r = 0 → X (d + 8) 282 27 [.ref 68, .int x1, .int x2, .int x3, .int (x4 + 1)] [] (F, A, J, G) Q) ∧ (¬ r = 0 → ((x3 = (-1) → X (d + 8) 282 27 [.ref 68, .int x1, .int (x2 + 1), .int x4, .int (x4 + 1)] [] (F, A, J, G) Q) ∧ (¬ x3 = (-1) → X (d + 8) 282 27 [.ref 68, .int x1, .int (x2 + 1), .int x3, .int (x4 + 1)] [] (F, A, J, G) Q))))) : KK (d + 8) 282 56 [.ref 68, .int x1, .int x2, .int x3, .int x4] [] Q (.inl (some (.int r))) (F, A, J, G) := by
  refine KKi ?_
  refine Y_zne i_282_56 (fun e1 => ?_) (fun e1 => ?_)
  · replace h := h.1 e1
    refine Y_goto i_282_59 ?_
    refine Y_ii4 (v := 1) i_282_77 (by decide) rfl ?_
    refine Y_goto i_282_80 ?_
    exact h
  · replace h := h.2 e1
    refine Y_ii2 (v := 1) i_282_62 (by decide) rfl ?_
    refine Y_il3 i_282_65 ?_
    refine Y_iconst (v := (-1)) i_282_66 (by decide) ?_
    refine Y_cne i_282_67 (fun e2 => ?_) (fun e2 => ?_)
    · replace h := h.1 e2
      refine Y_il4 i_282_70 ?_
      refine Y_goto i_282_72 ?_
      refine Y_is3 i_282_76 rfl ?_
      refine Y_ii4 (v := 1) i_282_77 (by decide) rfl ?_
      refine Y_goto i_282_80 ?_
      exact h
    · replace h := h.2 e2
      refine Y_il3 i_282_75 ?_
      refine Y_is3 i_282_76 rfl ?_
      refine Y_ii4 (v := 1) i_282_77 (by decide) rfl ?_
      refine Y_goto i_282_80 ?_
      exact h
/- 283 Model.drawOf(I)I -/
theorem t_283_0 {d : Nat} {F A : Nat → Nat → Int32} {J : Nat → Nat → Int64} {G : pG} {Q : pR → pM → Prop} {SL p q : Nat} {x1 : Int32} (hG : Geo G SL p q) (h : ¬ x1 = 0 ∧ (Q (.inl (some (.int (jrem (((((F 68 49) * 1103515245) + 12345) >>> (16 &&& 31)) &&& 32767) x1)))) ((wF F 68 49 (((F 68 49) * 1103515245) + 12345)), A, J, G))) : X d 283 0 [.ref 68, .int x1] [] (F, A, J, G) Q := by
  refine Y_al0 i_283_0 ?_
  refine Y_al0 i_283_1 ?_
  refine Y_gI (v := (F 68 49)) i_283_2 ow_283 lf_10_462 (by decide) (k_68 hG) rfl ?_
  refine Y_ldcIw i_283_5 ow_283 li_10_465 ?_
  refine Y_imul i_283_8 ?_
  refine Y_sipush (v := 12345) i_283_9 (by decide) ?_
  refine Y_iadd i_283_12 ?_
  refine Y_pI i_283_13 ow_283 lf_10_462 (k_68 hG) ?_
  refine Y_al0 i_283_16 ?_
  refine Y_gI (v := (((F 68 49) * 1103515245) + 12345)) i_283_17 ow_283 lf_10_462 (by decide) (k_68 hG) (by simp [wF, wJ, va_up, cpR, bF, bA]) ?_
  refine Y_bipush (v := 16) i_283_20 (by decide) ?_
  refine Y_ishr i_283_22 ?_
  refine Y_sipush (v := 32767) i_283_23 (by decide) ?_
  refine Y_iand i_283_26 ?_
  refine Y_il1 i_283_27 ?_
  have o1 := h.1
  replace h := h.2
  refine Y_irem i_283_28 o1 ?_
  exact Y_iret i_283_29 rt_283 h
end Tr14h
