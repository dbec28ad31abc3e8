section LeafB
/- 82 Tower.carriesOf(IZ)I -/
theorem t_82_0 {d : Nat} {F A : Nat → Nat → Int32} {J : Nat → Nat → Int64} {G : pG} {Q : pR → pM → Prop} {SL p q : Nat} {t : Nat} {x1 x2 : Int32} (hG : Geo G SL p q) (ht : Tw t) (h : inB x1 10 = true ∧ (((A 13 x1.toNatClampNeg) = 2 → ((x2 = 0 → Q (.inl (some (.int (jmax 0 (((A 15 x1.toNatClampNeg) / 2) - ((F t 2) * (wormK (A 13 x1.toNatClampNeg)))))))) (F, A, J, G)) ∧ (¬ x2 = 0 → Q (.inl (some (.int (jmax 0 ((A 15 x1.toNatClampNeg) - ((F t 2) * (wormK (A 13 x1.toNatClampNeg)))))))) (F, A, J, G)))) ∧ (¬ (A 13 x1.toNatClampNeg) = 2 → Q (.inl (some (.int (jmax 0 ((A 15 x1.toNatClampNeg) - ((F t 2) * (wormK (A 13 x1.toNatClampNeg)))))))) (F, A, J, G)))) : X (d + 1) 82 0 [.ref t, .int x1, .int x2, .null] [] (F, A, J, G) Q := by
  refine Y_al0 i_82_0 ?_
  refine Y_gR i_82_1 ow_82 lf_6_33 (kT0 hG ht) (rT0 hG ht) ?_
  refine Y_gR i_82_4 ow_82 lf_6_59 (k_12 hG) (r_12_5 hG) ?_
  refine Y_il1 i_82_7 ?_
  have o1 := h.1
  replace h := h.2
  refine Y_iaload (k := x1.toNatClampNeg) (v := (A 15 x1.toNatClampNeg)) i_82_8 (k_15 hG) (l_15 hG) o1 rfl rfl ?_
  refine Y_is3 i_82_9 rfl ?_
  refine Y_al0 i_82_10 ?_
  refine Y_gR i_82_11 ow_82 lf_6_33 (kT0 hG ht) (rT0 hG ht) ?_
  refine Y_gR i_82_14 ow_82 lf_6_62 (k_12 hG) (r_12_3 hG) ?_
  refine Y_il1 i_82_17 ?_
  refine Y_iaload (k := x1.toNatClampNeg) (v := (A 13 x1.toNatClampNeg)) i_82_18 (k_13 hG) (l_13 hG) o1 rfl rfl ?_
  refine Y_iconst (v := 2) i_82_19 (by decide) ?_
  refine Y_cne i_82_20 (fun e2 => ?_) (fun e2 => ?_)
  · replace h := h.1 e2
    refine Y_il2 i_82_23 ?_
    refine Y_zne i_82_24 (fun e3 => ?_) (fun e3 => ?_)
    · replace h := h.1 e3
      refine Y_il3 i_82_27 ?_
      refine Y_iconst (v := 2) i_82_28 (by decide) ?_
      refine Y_idiv i_82_29 (by decide) ?_
      refine Y_is3 i_82_30 rfl ?_
      refine Y_iconst (v := 0) i_82_31 (by decide) ?_
      refine Y_il3 i_82_32 ?_
      refine Y_al0 i_82_33 ?_
      refine Y_gI (v := (F t 2)) i_82_34 ow_82 lf_6_41 (by decide) (kT0 hG ht) rfl ?_
      refine Y_al0 i_82_37 ?_
      refine Y_gR i_82_38 ow_82 lf_6_33 (kT0 hG ht) (rT0 hG ht) ?_
      refine Y_il1 i_82_41 ?_
      refine Y_iv1 (L0 := [.ref 12, .int x1]) i_82_42 ow_82 lm_6_65 ((k_12 hG).trans ow_101.symm) rfl mx_101 rfl rfl hd_82 ?_
      refine c_101 hG o1 (KKi ?_)
      refine Y_imul i_82_45 ?_
      refine Y_isub i_82_46 ?_
      refine Y_max i_82_47 ow_82 lm_6_69 rfl ?_
      exact Y_iret i_82_50 rt_82 h
    · replace h := h.2 e3
      refine Y_iconst (v := 0) i_82_31 (by decide) ?_
      refine Y_il3 i_82_32 ?_
      refine Y_al0 i_82_33 ?_
      refine Y_gI (v := (F t 2)) i_82_34 ow_82 lf_6_41 (by decide) (kT0 hG ht) rfl ?_
      refine Y_al0 i_82_37 ?_
      refine Y_gR i_82_38 ow_82 lf_6_33 (kT0 hG ht) (rT0 hG ht) ?_
      refine Y_il1 i_82_41 ?_
      refine Y_iv1 (L0 := [.ref 12, .int x1]) i_82_42 ow_82 lm_6_65 ((k_12 hG).trans ow_101.symm) rfl mx_101 rfl rfl hd_82 ?_
      refine c_101 hG o1 (KKi ?_)
      refine Y_imul i_82_45 ?_
      refine Y_isub i_82_46 ?_
      refine Y_max i_82_47 ow_82 lm_6_69 rfl ?_
      exact Y_iret i_82_50 rt_82 h
  · replace h := h.2 e2
    refine Y_iconst (v := 0) i_82_31 (by decide) ?_
    refine Y_il3 i_82_32 ?_
    refine Y_al0 i_82_33 ?_
    refine Y_gI (v := (F t 2)) i_82_34 ow_82 lf_6_41 (by decide) (kT0 hG ht) rfl ?_
    refine Y_al0 i_82_37 ?_
    refine Y_gR i_82_38 ow_82 lf_6_33 (kT0 hG ht) (rT0 hG ht) ?_
    refine Y_il1 i_82_41 ?_
    refine Y_iv1 (L0 := [.ref 12, .int x1]) i_82_42 ow_82 lm_6_65 ((k_12 hG).trans ow_101.symm) rfl mx_101 rfl rfl hd_82 ?_
    refine c_101 hG o1 (KKi ?_)
    refine Y_imul i_82_45 ?_
    refine Y_isub i_82_46 ?_
    refine Y_max i_82_47 ow_82 lm_6_69 rfl ?_
    exact Y_iret i_82_50 rt_82 h
/- 83 Tower.leanOf(I)I -/
theorem t_83_0 {d : Nat} {F A : Nat → Nat → Int32} {J : Nat → Nat → Int64} {G : pG} {Q : pR → pM → Prop} {SL p q : Nat} {t : Nat} {x1 : Int32} (hG : Geo G SL p q) (ht : Tw t) (h : inB x1 10 = true ∧ (Q (.inl (some (.int ((ltm (A 13 x1.toNatClampNeg)) * ((A (t + 4) x1.toNatClampNeg) + (A (t + 3) x1.toNatClampNeg)))))) (F, A, J, G))) : X (d + 1) 83 0 [.ref t, .int x1] [] (F, A, J, G) Q := by
  refine Y_al0 i_83_0 ?_
  refine Y_gR i_83_1 ow_83 lf_6_33 (kT0 hG ht) (rT0 hG ht) ?_
  refine Y_il1 i_83_4 ?_
  have o1 := h.1
  replace h := h.2
  refine Y_iv1 (L0 := [.ref 12, .int x1]) i_83_5 ow_83 lm_6_75 ((k_12 hG).trans ow_102.symm) rfl mx_102 rfl rfl hd_83 ?_
  refine c_102 hG o1 (KKi ?_)
  refine Y_al0 i_83_8 ?_
  refine Y_gR i_83_9 ow_83 lf_6_21 (kT0 hG ht) (rT7 hG ht) ?_
  refine Y_il1 i_83_12 ?_
  refine Y_iaload (k := x1.toNatClampNeg) (v := (A (t + 4) x1.toNatClampNeg)) i_83_13 (kT4 hG ht) (lT4 hG ht) o1 rfl rfl ?_
  refine Y_al0 i_83_14 ?_
  refine Y_gR i_83_15 ow_83 lf_6_18 (kT0 hG ht) (rT6 hG ht) ?_
  refine Y_il1 i_83_18 ?_
  refine Y_iaload (k := x1.toNatClampNeg) (v := (A (t + 3) x1.toNatClampNeg)) i_83_19 (kT3 hG ht) (lT3 hG ht) o1 rfl rfl ?_
  refine Y_iadd i_83_20 ?_
  refine Y_imul i_83_21 ?_
  exact Y_iret i_83_22 rt_83 h
/- 180 Model.isTable(I)Z -/
theorem t_180_0 {d : Nat} {F A : Nat → Nat → Int32} {J : Nat → Nat → Int64} {G : pG} {Q : pR → pM → Prop} {SL p q : Nat} {x1 : Int32} (hG : Geo G SL p q) (h : Q (.inl (some (.int (bI (inL x1.toInt64 0 (((A 72 0) - 1).toInt64)))))) (F, A, J, G)) : X (d + 1) 180 0 [.ref 68, .int x1] [] (F, A, J, G) Q := by
  refine Y_il1 i_180_0 ?_
  refine Y_i2l i_180_1 ?_
  refine Y_lconst (v := 0) i_180_2 (by decide) ?_
  refine Y_al0 i_180_3 ?_
  refine Y_gR i_180_4 ow_180 lf_10_42 (k_68 hG) (r_68_4 hG) ?_
  refine Y_iconst (v := 0) i_180_7 (by decide) ?_
  refine Y_iaload (k := 0) (v := (A 72 0)) i_180_8 (k_72 hG) (l_72 hG) (by decide) (by decide) rfl ?_
  refine Y_iconst (v := 1) i_180_9 (by decide) ?_
  refine Y_isub i_180_10 ?_
  refine Y_i2l i_180_11 ?_
  refine Y_is_3 (L0 := [.long x1.toInt64, .null, .long 0, .null, .long (((A 72 0) - 1).toInt64), .null]) i_180_12 ow_180 lm_10_146 rfl mx_178 rfl rfl hd_180 ?_
  refine c_178 hG (KKi ?_)
  exact Y_bret i_180_15 rt_180 (bI_01 _) h
/- 181 Model.isLevel(I)Z -/
theorem t_181_0 {d : Nat} {F A : Nat → Nat → Int32} {J : Nat → Nat → Int64} {G : pG} {Q : pR → pM → Prop} {SL p q : Nat} {x1 : Int32} (hG : Geo G SL p q) (h : Q (.inl (some (.int (bI (inL x1.toInt64 0 (((F 68 28) - 1).toInt64)))))) (F, A, J, G)) : X (d + 1) 181 0 [.ref 68, .int x1] [] (F, A, J, G) Q := by
  refine Y_il1 i_181_0 ?_
  refine Y_i2l i_181_1 ?_
  refine Y_lconst (v := 0) i_181_2 (by decide) ?_
  refine Y_al0 i_181_3 ?_
  refine Y_gI (v := (F 68 28)) i_181_4 ow_181 lf_10_150 (by decide) (k_68 hG) rfl ?_
  refine Y_iconst (v := 1) i_181_7 (by decide) ?_
  refine Y_isub i_181_8 ?_
  refine Y_i2l i_181_9 ?_
  refine Y_is_3 (L0 := [.long x1.toInt64, .null, .long 0, .null, .long (((F 68 28) - 1).toInt64), .null]) i_181_10 ow_181 lm_10_146 rfl mx_178 rfl rfl hd_181 ?_
  refine c_178 hG (KKi ?_)
  exact Y_bret i_181_13 rt_181 (bI_01 _) h
/- 191 Model.isMarked(I)Z -/
theorem t_191_0 {d : Nat} {F A : Nat → Nat → Int32} {J : Nat → Nat → Int64} {G : pG} {Q : pR → pM → Prop} {SL p q : Nat} {x1 : Int32} (hG : Geo G SL p q) (h : (((F 68 20) = 0 → (((F 68 16) = 3 → inB (F 68 18) 600 = true ∧ (((A 80 (F 68 18).toNatClampNeg) = x1 → Q (.inl (some (.int 1))) (F, A, J, G)) ∧ (¬ (A 80 (F 68 18).toNatClampNeg) = x1 → Q (.inl (some (.int 0))) (F, A, J, G)))) ∧ (¬ (F 68 16) = 3 → Q (.inl (some (.int 0))) (F, A, J, G)))) ∧ (¬ (F 68 20) = 0 → Q (.inl (some (.int 0))) (F, A, J, G)))) : X d 191 0 [.ref 68, .int x1] [] (F, A, J, G) Q := by
  refine Y_al0 i_191_0 ?_
  refine Y_gI (v := (F 68 20)) i_191_1 ow_191 lf_10_195 (by decide) (k_68 hG) rfl ?_
  refine Y_zne i_191_4 (fun e1 => ?_) (fun e1 => ?_)
  · replace h := h.1 e1
    refine Y_al0 i_191_7 ?_
    refine Y_gI (v := (F 68 16)) i_191_8 ow_191 lf_10_169 (by decide) (k_68 hG) rfl ?_
    refine Y_iconst (v := 3) i_191_11 (by decide) ?_
    refine Y_cne i_191_12 (fun e2 => ?_) (fun e2 => ?_)
    · replace h := h.1 e2
      refine Y_al0 i_191_15 ?_
      refine Y_gR i_191_16 ow_191 lf_10_63 (k_68 hG) (r_68_12 hG) ?_
      refine Y_al0 i_191_19 ?_
      refine Y_gI (v := (F 68 18)) i_191_20 ow_191 lf_10_166 (by decide) (k_68 hG) rfl ?_
      have o3 := h.1
      replace h := h.2
      refine Y_iaload (k := (F 68 18).toNatClampNeg) (v := (A 80 (F 68 18).toNatClampNeg)) i_191_23 (k_80 hG) (l_80 hG) o3 rfl rfl ?_
      refine Y_il1 i_191_24 ?_
      refine Y_cne i_191_25 (fun e4 => ?_) (fun e4 => ?_)
      · replace h := h.1 e4
        refine Y_iconst (v := 1) i_191_28 (by decide) ?_
        refine Y_goto i_191_29 ?_
        exact Y_bret i_191_33 rt_191 (by decide) h
      · replace h := h.2 e4
        refine Y_iconst (v := 0) i_191_32 (by decide) ?_
        exact Y_bret i_191_33 rt_191 (by decide) h
    · replace h := h.2 e2
      refine Y_iconst (v := 0) i_191_32 (by decide) ?_
      exact Y_bret i_191_33 rt_191 (by decide) h
  · replace h := h.2 e1
    refine Y_iconst (v := 0) i_191_32 (by decide) ?_
    exact Y_bret i_191_33 rt_191 (by decide) h
/- 211 Model.carries(IZ)I -/
theorem t_211_0 {d : Nat} {F A : Nat → Nat → Int32} {J : Nat → Nat → Int64} {G : pG} {Q : pR → pM → Prop} {SL p q : Nat} {x1 x2 : Int32} (hG : Geo G SL p q) (h : inB x1 20 = true ∧ (((A 73 x1.toNatClampNeg) = 2 → ((x2 = 0 → inB (A 73 x1.toNatClampNeg) 4 = true ∧ (Q (.inl (some (.int (jmax 0 (((A 75 x1.toNatClampNeg) / 2) - ((A 71 (A 73 x1.toNatClampNeg).toNatClampNeg) * (F 68 29))))))) (F, A, J, G))) ∧ (¬ x2 = 0 → inB (A 73 x1.toNatClampNeg) 4 = true ∧ (Q (.inl (some (.int (jmax 0 ((A 75 x1.toNatClampNeg) - ((A 71 (A 73 x1.toNatClampNeg).toNatClampNeg) * (F 68 29))))))) (F, A, J, G))))) ∧ (¬ (A 73 x1.toNatClampNeg) = 2 → inB (A 73 x1.toNatClampNeg) 4 = true ∧ (Q (.inl (some (.int (jmax 0 ((A 75 x1.toNatClampNeg) - ((A 71 (A 73 x1.toNatClampNeg).toNatClampNeg) * (F 68 29))))))) (F, A, J, G))))) : X (d + 1) 211 0 [.ref 68, .int x1, .int x2, .null] [] (F, A, J, G) Q := by
  refine Y_al0 i_211_0 ?_
  refine Y_gR i_211_1 ow_211 lf_10_45 (k_68 hG) (r_68_5 hG) ?_
  refine Y_il1 i_211_4 ?_
  have o1 := h.1
  replace h := h.2
  refine Y_iaload (k := x1.toNatClampNeg) (v := (A 73 x1.toNatClampNeg)) i_211_5 (k_73 hG) (l_73 hG) o1 rfl rfl ?_
  refine Y_iconst (v := 2) i_211_6 (by decide) ?_
  refine Y_cne i_211_7 (fun e2 => ?_) (fun e2 => ?_)
  · replace h := h.1 e2
    refine Y_il2 i_211_10 ?_
    refine Y_zne i_211_11 (fun e3 => ?_) (fun e3 => ?_)
    · replace h := h.1 e3
      refine Y_al0 i_211_14 ?_
      refine Y_gR i_211_15 ow_211 lf_10_49 (k_68 hG) (r_68_7 hG) ?_
      refine Y_il1 i_211_18 ?_
      refine Y_iaload (k := x1.toNatClampNeg) (v := (A 75 x1.toNatClampNeg)) i_211_19 (k_75 hG) (l_75 hG) o1 rfl rfl ?_
      refine Y_iconst (v := 2) i_211_20 (by decide) ?_
      refine Y_idiv i_211_21 (by decide) ?_
      refine Y_goto i_211_22 ?_
      refine Y_is3 i_211_31 rfl ?_
      refine Y_iconst (v := 0) i_211_32 (by decide) ?_
      refine Y_il3 i_211_33 ?_
      refine Y_al0 i_211_34 ?_
      refine Y_il1 i_211_35 ?_
      refine Y_iv1 (L0 := [.ref 68, .int x1]) i_211_36 ow_211 lm_10_295 ((k_68 hG).trans ow_210.symm) rfl mx_210 rfl rfl hd_211 ?_
      refine Y_al0 i_210_0 ?_
      refine Y_gR i_210_1 ow_210 lf_10_38 (k_68 hG) (r_68_2 hG) ?_
      refine Y_al0 i_210_4 ?_
      refine Y_gR i_210_5 ow_210 lf_10_45 (k_68 hG) (r_68_5 hG) ?_
      refine Y_il1 i_210_8 ?_
      refine Y_iaload (k := x1.toNatClampNeg) (v := (A 73 x1.toNatClampNeg)) i_210_9 (k_73 hG) (l_73 hG) o1 rfl rfl ?_
      have o4 := h.1
      replace h := h.2
      refine Y_iaload (k := (A 73 x1.toNatClampNeg).toNatClampNeg) (v := (A 71 (A 73 x1.toNatClampNeg).toNatClampNeg)) i_210_10 (k_71 hG) (l_71 hG) o4 rfl rfl ?_
      refine Y_al0 i_210_11 ?_
      refine Y_gI (v := (F 68 29)) i_210_12 ow_210 lf_10_282 (by decide) (k_68 hG) rfl ?_
      refine Y_imul i_210_15 ?_
      refine Y_iret i_210_16 rt_210 (KKi ?_)
      refine Y_isub i_211_39 ?_
      refine Y_max i_211_40 ow_211 lm_10_298 rfl ?_
      exact Y_iret i_211_43 rt_211 h
    · replace h := h.2 e3
      refine Y_al0 i_211_25 ?_
      refine Y_gR i_211_26 ow_211 lf_10_49 (k_68 hG) (r_68_7 hG) ?_
      refine Y_il1 i_211_29 ?_
      refine Y_iaload (k := x1.toNatClampNeg) (v := (A 75 x1.toNatClampNeg)) i_211_30 (k_75 hG) (l_75 hG) o1 rfl rfl ?_
      refine Y_is3 i_211_31 rfl ?_
      refine Y_iconst (v := 0) i_211_32 (by decide) ?_
      refine Y_il3 i_211_33 ?_
      refine Y_al0 i_211_34 ?_
      refine Y_il1 i_211_35 ?_
      refine Y_iv1 (L0 := [.ref 68, .int x1]) i_211_36 ow_211 lm_10_295 ((k_68 hG).trans ow_210.symm) rfl mx_210 rfl rfl hd_211 ?_
      refine Y_al0 i_210_0 ?_
      refine Y_gR i_210_1 ow_210 lf_10_38 (k_68 hG) (r_68_2 hG) ?_
      refine Y_al0 i_210_4 ?_
      refine Y_gR i_210_5 ow_210 lf_10_45 (k_68 hG) (r_68_5 hG) ?_
      refine Y_il1 i_210_8 ?_
      refine Y_iaload (k := x1.toNatClampNeg) (v := (A 73 x1.toNatClampNeg)) i_210_9 (k_73 hG) (l_73 hG) o1 rfl rfl ?_
      have o5 := h.1
      replace h := h.2
      refine Y_iaload (k := (A 73 x1.toNatClampNeg).toNatClampNeg) (v := (A 71 (A 73 x1.toNatClampNeg).toNatClampNeg)) i_210_10 (k_71 hG) (l_71 hG) o5 rfl rfl ?_
      refine Y_al0 i_210_11 ?_
      refine Y_gI (v := (F 68 29)) i_210_12 ow_210 lf_10_282 (by decide) (k_68 hG) rfl ?_
      refine Y_imul i_210_15 ?_
      refine Y_iret i_210_16 rt_210 (KKi ?_)
      refine Y_isub i_211_39 ?_
      refine Y_max i_211_40 ow_211 lm_10_298 rfl ?_
      exact Y_iret i_211_43 rt_211 h
  · replace h := h.2 e2
    refine Y_al0 i_211_25 ?_
    refine Y_gR i_211_26 ow_211 lf_10_49 (k_68 hG) (r_68_7 hG) ?_
    refine Y_il1 i_211_29 ?_
    refine Y_iaload (k := x1.toNatClampNeg) (v := (A 75 x1.toNatClampNeg)) i_211_30 (k_75 hG) (l_75 hG) o1 rfl rfl ?_
    refine Y_is3 i_211_31 rfl ?_
    refine Y_iconst (v := 0) i_211_32 (by decide) ?_
    refine Y_il3 i_211_33 ?_
    refine Y_al0 i_211_34 ?_
    refine Y_il1 i_211_35 ?_
    refine Y_iv1 (L0 := [.ref 68, .int x1]) i_211_36 ow_211 lm_10_295 ((k_68 hG).trans ow_210.symm) rfl mx_210 rfl rfl hd_211 ?_
    refine Y_al0 i_210_0 ?_
    refine Y_gR i_210_1 ow_210 lf_10_38 (k_68 hG) (r_68_2 hG) ?_
    refine Y_al0 i_210_4 ?_
    refine Y_gR i_210_5 ow_210 lf_10_45 (k_68 hG) (r_68_5 hG) ?_
    refine Y_il1 i_210_8 ?_
    refine Y_iaload (k := x1.toNatClampNeg) (v := (A 73 x1.toNatClampNeg)) i_210_9 (k_73 hG) (l_73 hG) o1 rfl rfl ?_
    have o6 := h.1
    replace h := h.2
    refine Y_iaload (k := (A 73 x1.toNatClampNeg).toNatClampNeg) (v := (A 71 (A 73 x1.toNatClampNeg).toNatClampNeg)) i_210_10 (k_71 hG) (l_71 hG) o6 rfl rfl ?_
    refine Y_al0 i_210_11 ?_
    refine Y_gI (v := (F 68 29)) i_210_12 ow_210 lf_10_282 (by decide) (k_68 hG) rfl ?_
    refine Y_imul i_210_15 ?_
    refine Y_iret i_210_16 rt_210 (KKi ?_)
    refine Y_isub i_211_39 ?_
    refine Y_max i_211_40 ow_211 lm_10_298 rfl ?_
    exact Y_iret i_211_43 rt_211 h
end LeafB
