section Tr14e
/- 156 TableTower.slack(I)I -/
theorem t_156_0 {d : Nat} {F A : Nat → Nat → Int32} {J : Nat → Nat → Int64} {G : pG} {Q : pR → pM → Prop} {SL p q : Nat} {x1 : Int32} (hG : Geo G SL p q) (h : ((x1 < 0 → Q (.inr 101) (F, A, J, gThr G)) ∧ (¬ x1 < 0 → ((x1 < (F 27 1) → X (d + 2) 84 0 [.ref 27, .null, .null, .null] [] (F, A, J, G) (KK (d + 3) 156 15 [.ref 0, .int x1] [] Q)) ∧ (¬ x1 < (F 27 1) → Q (.inr 101) (F, A, J, gThr G)))))) : X (d + 3) 156 0 [.ref 0, .int x1] [] (F, A, J, G) Q := by
  refine Y_al0 i_156_0 ?_
  refine Y_il1 i_156_1 ?_
  refine Y_iv1 (L0 := [.ref 0, .int x1]) i_156_2 ow_156 lm_9_192 ((k_0 hG).trans ow_173.symm) rfl mx_173 rfl rfl hd_156 ?_
  refine Y_il1 i_173_0 ?_
  refine Y_zlt i_173_1 (fun e1 => ?_) (fun e1 => ?_)
  · replace h := h.1 e1
    exact Y_thr i_173_18 ow_173 lc_9_157 (by decide +kernel) rfl (KKe h)
  · replace h := h.2 e1
    refine Y_il1 i_173_4 ?_
    refine Y_al0 i_173_5 ?_
    refine Y_gR i_173_6 ow_173 lf_9_48 (k_0 hG) (r_0_7 hG) ?_
    refine Y_gR i_173_9 ow_173 lf_9_57 (k_21 hG) (r_21_0 hG) ?_
    refine Y_gI (v := (F 27 1)) i_173_12 ow_173 lf_9_114 (by decide) (k_27 hG) rfl ?_
    refine Y_clt i_173_15 (fun e2 => ?_) (fun e2 => ?_)
    · replace h := h.1 e2
      refine Y_vret i_173_29 rt_173 (KKv ?_)
      refine Y_al0 i_156_5 ?_
      refine Y_gR i_156_6 ow_156 lf_9_48 (k_0 hG) (r_0_7 hG) ?_
      refine Y_gR i_156_9 ow_156 lf_9_57 (k_21 hG) (r_21_0 hG) ?_
      exact Y_iv0 (L0 := [.ref 27, .null, .null, .null]) i_156_12 ow_156 lm_9_195 ((k_27 hG).trans ow_84.symm) rfl mx_84 rfl rfl hd_156 h
    · replace h := h.2 e2
      exact Y_thr i_173_18 ow_173 lc_9_157 (by decide +kernel) rfl (KKe h)
theorem k_156_15 {d : Nat} {F A : Nat → Nat → Int32} {J : Nat → Nat → Int64} {G : pG} {Q : pR → pM → Prop} {SL p q : Nat} {x1 : Int32} (hG : Geo G SL p q) (h : inB x1 10 = true ∧ (Q (.inl (some (.int ((A 33 x1.toNatClampNeg) - (A 32 x1.toNatClampNeg))))) (F, A, J, G))) : KK (d + 3) 156 15 [.ref 0, .int x1] [] Q (.inl none) (F, A, J, G) := by
  refine KKv ?_
  refine Y_al0 i_156_15 ?_
  refine Y_gR i_156_16 ow_156 lf_9_48 (k_0 hG) (r_0_7 hG) ?_
  refine Y_gR i_156_19 ow_156 lf_9_57 (k_21 hG) (r_21_0 hG) ?_
  refine Y_il1 i_156_22 ?_
  refine Y_iv1 (L0 := [.ref 27, .int x1]) i_156_23 ow_156 lm_9_312 ((k_27 hG).trans ow_85.symm) rfl mx_85 rfl rfl hd_156 ?_
  refine Y_al0 i_85_0 ?_
  refine Y_gR i_85_1 ow_85 lf_6_27 (k_27 hG) (r_27_9 hG) ?_
  refine Y_il1 i_85_4 ?_
  have o1 := h.1
  replace h := h.2
  refine Y_iaload (k := x1.toNatClampNeg) (v := (A 33 x1.toNatClampNeg)) i_85_5 (k_33 hG) (l_33 hG) o1 rfl rfl ?_
  refine Y_al0 i_85_6 ?_
  refine Y_gR i_85_7 ow_85 lf_6_24 (k_27 hG) (r_27_8 hG) ?_
  refine Y_il1 i_85_10 ?_
  refine Y_iaload (k := x1.toNatClampNeg) (v := (A 32 x1.toNatClampNeg)) i_85_11 (k_32 hG) (l_32 hG) o1 rfl rfl ?_
  refine Y_isub i_85_12 ?_
  refine Y_iret i_85_13 rt_85 (KKi ?_)
  exact Y_iret i_156_26 rt_156 h
/- 157 TableTower.broken(I)I -/
theorem t_157_0 {d : Nat} {F A : Nat → Nat → Int32} {J : Nat → Nat → Int64} {G : pG} {Q : pR → pM → Prop} {SL p q : Nat} {x1 : Int32} (hG : Geo G SL p q) (h : ((x1 < 0 → Q (.inr 100) (F, A, J, gThr G)) ∧ (¬ x1 < 0 → ((99 < x1 → Q (.inr 100) (F, A, J, gThr G)) ∧ (¬ 99 < x1 → X (d + 4) 111 0 [.ref 49, .int x1] [] (F, A, J, G) (KK (d + 5) 157 29 [.ref 0, .int x1] [] Q)))))) : X (d + 5) 157 0 [.ref 0, .int x1] [] (F, A, J, G) Q := by
  refine Y_il1 i_157_0 ?_
  refine Y_zlt i_157_1 (fun e1 => ?_) (fun e1 => ?_)
  · replace h := h.1 e1
    exact Y_thr i_157_10 ow_157 lc_9_88 (by decide +kernel) rfl h
  · replace h := h.2 e1
    refine Y_il1 i_157_4 ?_
    refine Y_bipush (v := 99) i_157_5 (by decide) ?_
    refine Y_cle i_157_7 (fun e2 => ?_) (fun e2 => ?_)
    · replace h := h.1 e2
      exact Y_thr i_157_10 ow_157 lc_9_88 (by decide +kernel) rfl h
    · replace h := h.2 e2
      refine Y_al0 i_157_21 ?_
      refine Y_gR i_157_22 ow_157 lf_9_64 (k_0 hG) (r_0_9 hG) ?_
      refine Y_il1 i_157_25 ?_
      exact Y_iv1 (L0 := [.ref 49, .int x1]) i_157_26 ow_157 lm_9_315 ((k_49 hG).trans ow_111.symm) rfl mx_111 rfl rfl hd_157 h
theorem k_157_29 {d : Nat} {F A : Nat → Nat → Int32} {J : Nat → Nat → Int64} {G : pG} {Q : pR → pM → Prop} {SL p q : Nat} {x1 r : Int32} (hG : Geo G SL p q) (h : Q (.inl (some (.int r))) (F, A, J, G)) : KK (d + 5) 157 29 [.ref 0, .int x1] [] Q (.inl (some (.int r))) (F, A, J, G) := by
  refine KKi ?_
  exact Y_iret i_157_29 rt_157 h
/- 158 TableTower.crooked()I -/
theorem t_158_0 {d : Nat} {F A : Nat → Nat → Int32} {J : Nat → Nat → Int64} {G : pG} {Q : pR → pM → Prop} {SL p q : Nat} (hG : Geo G SL p q) (h : X (d + 3) 95 0 [.ref 27, .null, .null] [] (F, A, J, G) (KK (d + 4) 158 10 [.ref 0] [] Q)) : X (d + 4) 158 0 [.ref 0] [] (F, A, J, G) Q := by
  refine Y_al0 i_158_0 ?_
  refine Y_gR i_158_1 ow_158 lf_9_48 (k_0 hG) (r_0_7 hG) ?_
  refine Y_gR i_158_4 ow_158 lf_9_57 (k_21 hG) (r_21_0 hG) ?_
  exact Y_iv0 (L0 := [.ref 27, .null, .null]) i_158_7 ow_158 lm_9_318 ((k_27 hG).trans ow_95.symm) rfl mx_95 rfl rfl hd_158 h
theorem k_158_10 {d : Nat} {F A : Nat → Nat → Int32} {J : Nat → Nat → Int64} {G : pG} {Q : pR → pM → Prop} {SL p q : Nat} {r : Int32} (hG : Geo G SL p q) (h : Q (.inl (some (.int r))) (F, A, J, G)) : KK (d + 4) 158 10 [.ref 0] [] Q (.inl (some (.int r))) (F, A, J, G) := by
  refine KKi ?_
  exact Y_iret i_158_10 rt_158 h
/- 159 TableTower.top(I)I -/
theorem t_159_0 {d : Nat} {F A : Nat → Nat → Int32} {J : Nat → Nat → Int64} {G : pG} {Q : pR → pM → Prop} {SL p q : Nat} {x1 : Int32} (hG : Geo G SL p q) (h : ((x1 < 0 → Q (.inr 100) (F, A, J, gThr G)) ∧ (¬ x1 < 0 → ((999 < x1 → Q (.inr 100) (F, A, J, gThr G)) ∧ (¬ 999 < x1 → X (d + 4) 113 0 [.ref 49, .int x1] [] (F, A, J, G) (KK (d + 5) 159 30 [.ref 0, .int x1] [] Q)))))) : X (d + 5) 159 0 [.ref 0, .int x1] [] (F, A, J, G) Q := by
  refine Y_il1 i_159_0 ?_
  refine Y_zlt i_159_1 (fun e1 => ?_) (fun e1 => ?_)
  · replace h := h.1 e1
    exact Y_thr i_159_11 ow_159 lc_9_88 (by decide +kernel) rfl h
  · replace h := h.2 e1
    refine Y_il1 i_159_4 ?_
    refine Y_sipush (v := 999) i_159_5 (by decide) ?_
    refine Y_cle i_159_8 (fun e2 => ?_) (fun e2 => ?_)
    · replace h := h.1 e2
      exact Y_thr i_159_11 ow_159 lc_9_88 (by decide +kernel) rfl h
    · replace h := h.2 e2
      refine Y_al0 i_159_22 ?_
      refine Y_gR i_159_23 ow_159 lf_9_64 (k_0 hG) (r_0_9 hG) ?_
      refine Y_il1 i_159_26 ?_
      exact Y_iv1 (L0 := [.ref 49, .int x1]) i_159_27 ow_159 lm_9_323 ((k_49 hG).trans ow_113.symm) rfl mx_113 rfl rfl hd_159 h
theorem k_159_30 {d : Nat} {F A : Nat → Nat → Int32} {J : Nat → Nat → Int64} {G : pG} {Q : pR → pM → Prop} {SL p q : Nat} {x1 r : Int32} (hG : Geo G SL p q) (h : Q (.inl (some (.int r))) (F, A, J, G)) : KK (d + 5) 159 30 [.ref 0, .int x1] [] Q (.inl (some (.int r))) (F, A, J, G) := by
  refine KKi ?_
  exact Y_iret i_159_30 rt_159 h
/- 160 TableTower.relief()I -/
theorem t_160_0 {d : Nat} {F A : Nat → Nat → Int32} {J : Nat → Nat → Int64} {G : pG} {Q : pR → pM → Prop} {SL p q : Nat} (hG : Geo G SL p q) (h : X (d + 6) 106 0 [.ref 49, .null, .null, .null, .null] [] (F, A, J, G) (KK (d + 7) 160 7 [.ref 0] [] Q)) : X (d + 7) 160 0 [.ref 0] [] (F, A, J, G) Q := by
  refine Y_al0 i_160_0 ?_
  refine Y_gR i_160_1 ow_160 lf_9_64 (k_0 hG) (r_0_9 hG) ?_
  exact Y_iv0 (L0 := [.ref 49, .null, .null, .null, .null]) i_160_4 ow_160 lm_9_326 ((k_49 hG).trans ow_106.symm) rfl mx_106 rfl rfl hd_160 h
theorem k_160_7 {d : Nat} {F A : Nat → Nat → Int32} {J : Nat → Nat → Int64} {G : pG} {Q : pR → pM → Prop} {SL p q : Nat} {r : Int32} (hG : Geo G SL p q) (h : Q (.inl (some (.int r))) (F, A, J, G)) : KK (d + 7) 160 7 [.ref 0] [] Q (.inl (some (.int r))) (F, A, J, G) := by
  refine KKi ?_
  exact Y_iret i_160_7 rt_160 h
/- 161 TableTower.hungriest()I -/
theorem t_161_0 {d : Nat} {F A : Nat → Nat → Int32} {J : Nat → Nat → Int64} {G : pG} {Q : pR → pM → Prop} {SL p q : Nat} (hG : Geo G SL p q) (h : X (d + 1) 94 0 [.ref 27, .null, .null, .null, .null, .null] [] (F, A, J, G) (KK (d + 2) 161 10 [.ref 0] [] Q)) : X (d + 2) 161 0 [.ref 0] [] (F, A, J, G) Q := by
  refine Y_al0 i_161_0 ?_
  refine Y_gR i_161_1 ow_161 lf_9_48 (k_0 hG) (r_0_7 hG) ?_
  refine Y_gR i_161_4 ow_161 lf_9_57 (k_21 hG) (r_21_0 hG) ?_
  exact Y_iv0 (L0 := [.ref 27, .null, .null, .null, .null, .null]) i_161_7 ow_161 lm_9_329 ((k_27 hG).trans ow_94.symm) rfl mx_94 rfl rfl hd_161 h
theorem k_161_10 {d : Nat} {F A : Nat → Nat → Int32} {J : Nat → Nat → Int64} {G : pG} {Q : pR → pM → Prop} {SL p q : Nat} {r : Int32} (hG : Geo G SL p q) (h : Q (.inl (some (.int r))) (F, A, J, G)) : KK (d + 2) 161 10 [.ref 0] [] Q (.inl (some (.int r))) (F, A, J, G) := by
  refine KKi ?_
  exact Y_iret i_161_10 rt_161 h
/- 162 TableTower.see(II)I -/
theorem t_162_0 {d : Nat} {F A : Nat → Nat → Int32} {J : Nat → Nat → Int64} {G : pG} {Q : pR → pM → Prop} {SL p q : Nat} {x1 x2 : Int32} (hG : Geo G SL p q) (h : ((x1 < 0 → (((F 21 2) < 8 → Q (.inl (some (.int (-1)))) (F, (wF A 26 2 ((A 26 2) + 1)), J, G)) ∧ (¬ (F 21 2) < 8 → Q (.inl (some (.int (-1)))) (F, (wF A 26 2 ((A 26 2) + 1)), J, G)))) ∧ (¬ x1 < 0 → ((x1 < (F 27 1) → (((F 21 2) < 8 → ((x2 < (-99) → Q (.inl (some (.int (-1)))) (F, (wF A 26 2 ((A 26 2) + 1)), J, G)) ∧ (¬ x2 < (-99) → ((99 < x2 → Q (.inl (some (.int (-1)))) (F, (wF A 26 2 ((A 26 2) + 1)), J, G)) ∧ (¬ 99 < x2 → inB (F 21 2) 8 = true ∧ (Q (.inl (some (.int ((F 21 2) + 1)))) ((wF F 21 2 ((F 21 2) + 1)), (wF (wF A 24 (F 21 2).toNatClampNeg x1) 25 (F 21 2).toNatClampNeg x2), J, G))))))) ∧ (¬ (F 21 2) < 8 → Q (.inl (some (.int (-1)))) (F, (wF A 26 2 ((A 26 2) + 1)), J, G)))) ∧ (¬ x1 < (F 27 1) → (((F 21 2) < 8 → Q (.inl (some (.int (-1)))) (F, (wF A 26 2 ((A 26 2) + 1)), J, G)) ∧ (¬ (F 21 2) < 8 → Q (.inl (some (.int (-1)))) (F, (wF A 26 2 ((A 26 2) + 1)), J, G)))))))) : X (d + 2) 162 0 [.ref 0, .int x1, .int x2] [] (F, A, J, G) Q := by
  refine Y_al0 i_162_0 ?_
  refine Y_gR i_162_1 ow_162 lf_9_48 (k_0 hG) (r_0_7 hG) ?_
  refine Y_il1 i_162_4 ?_
  refine Y_il2 i_162_5 ?_
  refine Y_iv2 (L0 := [.ref 21, .int x1, .int x2, .null]) i_162_6 ow_162 lm_9_332 ((k_21 hG).trans ow_72.symm) rfl mx_72 rfl rfl hd_162 ?_
  refine Y_il1 i_72_0 ?_
  refine Y_zlt i_72_1 (fun e1 => ?_) (fun e1 => ?_)
  · replace h := h.1 e1
    refine Y_iconst (v := 1) i_72_15 (by decide) ?_
    refine Y_goto i_72_16 ?_
    refine Y_is3 i_72_20 rfl ?_
    refine Y_al0 i_72_21 ?_
    refine Y_gI (v := (F 21 2)) i_72_22 ow_72 lf_5_48 (by decide) (k_21 hG) rfl ?_
    refine Y_bipush (v := 8) i_72_25 (by decide) ?_
    refine Y_cge i_72_27 (fun e2 => ?_) (fun e2 => ?_)
    · replace h := h.1 e2
      refine Y_il3 i_72_30 ?_
      refine Y_zT i_72_31 (by decide) ?_
      refine Y_al0 i_72_46 ?_
      refine Y_iconst (v := 2) i_72_47 (by decide) ?_
      refine Y_iv1 (L0 := [.ref 21, .int 2]) i_72_48 ow_72 lm_5_71 ((k_21 hG).trans ow_63.symm) rfl mx_63 rfl rfl hd_72 ?_
      refine Y_al0 i_63_0 ?_
      refine Y_gR i_63_1 ow_63 lf_5_25 (k_21 hG) (r_21_5 hG) ?_
      refine Y_il1 i_63_4 ?_
      refine Y_dup2 i_63_5 rfl rfl ?_
      refine Y_iaload (k := 2) (v := (A 26 2)) i_63_6 (k_26 hG) (l_26 hG) (by decide) (by decide) rfl ?_
      refine Y_iconst (v := 1) i_63_7 (by decide) ?_
      refine Y_iadd i_63_8 ?_
      refine Y_iast (k := 2) i_63_9 (k_26 hG) (l_26 hG) (by decide) (by decide) ?_
      refine Y_iconst (v := (-1)) i_63_10 (by decide) ?_
      refine Y_iret i_63_11 rt_63 (KKi ?_)
      refine Y_iret i_72_51 rt_72 (KKi ?_)
      exact Y_iret i_162_9 rt_162 h
    · replace h := h.2 e2
      refine Y_al0 i_72_46 ?_
      refine Y_iconst (v := 2) i_72_47 (by decide) ?_
      refine Y_iv1 (L0 := [.ref 21, .int 2]) i_72_48 ow_72 lm_5_71 ((k_21 hG).trans ow_63.symm) rfl mx_63 rfl rfl hd_72 ?_
      refine Y_al0 i_63_0 ?_
      refine Y_gR i_63_1 ow_63 lf_5_25 (k_21 hG) (r_21_5 hG) ?_
      refine Y_il1 i_63_4 ?_
      refine Y_dup2 i_63_5 rfl rfl ?_
      refine Y_iaload (k := 2) (v := (A 26 2)) i_63_6 (k_26 hG) (l_26 hG) (by decide) (by decide) rfl ?_
      refine Y_iconst (v := 1) i_63_7 (by decide) ?_
      refine Y_iadd i_63_8 ?_
      refine Y_iast (k := 2) i_63_9 (k_26 hG) (l_26 hG) (by decide) (by decide) ?_
      refine Y_iconst (v := (-1)) i_63_10 (by decide) ?_
      refine Y_iret i_63_11 rt_63 (KKi ?_)
      refine Y_iret i_72_51 rt_72 (KKi ?_)
      exact Y_iret i_162_9 rt_162 h
  · replace h := h.2 e1
    refine Y_il1 i_72_4 ?_
    refine Y_al0 i_72_5 ?_
    refine Y_gR i_72_6 ow_72 lf_5_33 (k_21 hG) (r_21_0 hG) ?_
    refine Y_gI (v := (F 27 1)) i_72_9 ow_72 lf_5_68 (by decide) (k_27 hG) rfl ?_
    refine Y_clt i_72_12 (fun e3 => ?_) (fun e3 => ?_)
    · replace h := h.1 e3
      refine Y_iconst (v := 0) i_72_19 (by decide) ?_
      refine Y_is3 i_72_20 rfl ?_
      refine Y_al0 i_72_21 ?_
      refine Y_gI (v := (F 21 2)) i_72_22 ow_72 lf_5_48 (by decide) (k_21 hG) rfl ?_
      refine Y_bipush (v := 8) i_72_25 (by decide) ?_
      refine Y_cge i_72_27 (fun e4 => ?_) (fun e4 => ?_)
      · replace h := h.1 e4
        refine Y_il3 i_72_30 ?_
        refine Y_zF i_72_31 (by decide) ?_
        refine Y_il2 i_72_34 ?_
        refine Y_bipush (v := (-99)) i_72_35 (by decide) ?_
        refine Y_clt i_72_37 (fun e5 => ?_) (fun e5 => ?_)
        · replace h := h.1 e5
          refine Y_al0 i_72_46 ?_
          refine Y_iconst (v := 2) i_72_47 (by decide) ?_
          refine Y_iv1 (L0 := [.ref 21, .int 2]) i_72_48 ow_72 lm_5_71 ((k_21 hG).trans ow_63.symm) rfl mx_63 rfl rfl hd_72 ?_
          refine Y_al0 i_63_0 ?_
          refine Y_gR i_63_1 ow_63 lf_5_25 (k_21 hG) (r_21_5 hG) ?_
          refine Y_il1 i_63_4 ?_
          refine Y_dup2 i_63_5 rfl rfl ?_
          refine Y_iaload (k := 2) (v := (A 26 2)) i_63_6 (k_26 hG) (l_26 hG) (by decide) (by decide) rfl ?_
          refine Y_iconst (v := 1) i_63_7 (by decide) ?_
          refine Y_iadd i_63_8 ?_
          refine Y_iast (k := 2) i_63_9 (k_26 hG) (l_26 hG) (by decide) (by decide) ?_
          refine Y_iconst (v := (-1)) i_63_10 (by decide) ?_
          refine Y_iret i_63_11 rt_63 (KKi ?_)
          refine Y_iret i_72_51 rt_72 (KKi ?_)
          exact Y_iret i_162_9 rt_162 h
        · replace h := h.2 e5
          refine Y_il2 i_72_40 ?_
          refine Y_bipush (v := 99) i_72_41 (by decide) ?_
          refine Y_cle i_72_43 (fun e6 => ?_) (fun e6 => ?_)
          · replace h := h.1 e6
            refine Y_al0 i_72_46 ?_
            refine Y_iconst (v := 2) i_72_47 (by decide) ?_
            refine Y_iv1 (L0 := [.ref 21, .int 2]) i_72_48 ow_72 lm_5_71 ((k_21 hG).trans ow_63.symm) rfl mx_63 rfl rfl hd_72 ?_
            refine Y_al0 i_63_0 ?_
            refine Y_gR i_63_1 ow_63 lf_5_25 (k_21 hG) (r_21_5 hG) ?_
            refine Y_il1 i_63_4 ?_
            refine Y_dup2 i_63_5 rfl rfl ?_
            refine Y_iaload (k := 2) (v := (A 26 2)) i_63_6 (k_26 hG) (l_26 hG) (by decide) (by decide) rfl ?_
            refine Y_iconst (v := 1) i_63_7 (by decide) ?_
            refine Y_iadd i_63_8 ?_
            refine Y_iast (k := 2) i_63_9 (k_26 hG) (l_26 hG) (by decide) (by decide) ?_
            refine Y_iconst (v := (-1)) i_63_10 (by decide) ?_
            refine Y_iret i_63_11 rt_63 (KKi ?_)
            refine Y_iret i_72_51 rt_72 (KKi ?_)
            exact Y_iret i_162_9 rt_162 h
          · replace h := h.2 e6
            refine Y_al0 i_72_52 ?_
            refine Y_gR i_72_53 ow_72 lf_5_18 (k_21 hG) (r_21_3 hG) ?_
            refine Y_al0 i_72_56 ?_
            refine Y_gI (v := (F 21 2)) i_72_57 ow_72 lf_5_48 (by decide) (k_21 hG) rfl ?_
            refine Y_il1 i_72_60 ?_
            have o7 := h.1
            replace h := h.2
            refine Y_iast i_72_61 (k_24 hG) (l_24 hG) o7 rfl ?_
            refine Y_al0 i_72_62 ?_
            refine Y_gR i_72_63 ow_72 lf_5_22 (k_21 hG) (r_21_4 hG) ?_
            refine Y_al0 i_72_66 ?_
            refine Y_gI (v := (F 21 2)) i_72_67 ow_72 lf_5_48 (by decide) (k_21 hG) rfl ?_
            refine Y_il2 i_72_70 ?_
            refine Y_iast i_72_71 (k_25 hG) (l_25 hG) o7 rfl ?_
            refine Y_al0 i_72_72 ?_
            refine Y_dup i_72_73 rfl ?_
            refine Y_gI (v := (F 21 2)) i_72_74 ow_72 lf_5_48 (by decide) (k_21 hG) rfl ?_
            refine Y_iconst (v := 1) i_72_77 (by decide) ?_
            refine Y_iadd i_72_78 ?_
            refine Y_pI i_72_79 ow_72 lf_5_48 (k_21 hG) ?_
            refine Y_al0 i_72_82 ?_
            refine Y_gI (v := ((F 21 2) + 1)) i_72_83 ow_72 lf_5_48 (by decide) (k_21 hG) (by simp [wF, wJ, va_up, cpR, bF, bA]) ?_
            refine Y_iret i_72_86 rt_72 (KKi ?_)
            exact Y_iret i_162_9 rt_162 h
      · replace h := h.2 e4
        refine Y_al0 i_72_46 ?_
        refine Y_iconst (v := 2) i_72_47 (by decide) ?_
        refine Y_iv1 (L0 := [.ref 21, .int 2]) i_72_48 ow_72 lm_5_71 ((k_21 hG).trans ow_63.symm) rfl mx_63 rfl rfl hd_72 ?_
        refine Y_al0 i_63_0 ?_
        refine Y_gR i_63_1 ow_63 lf_5_25 (k_21 hG) (r_21_5 hG) ?_
        refine Y_il1 i_63_4 ?_
        refine Y_dup2 i_63_5 rfl rfl ?_
        refine Y_iaload (k := 2) (v := (A 26 2)) i_63_6 (k_26 hG) (l_26 hG) (by decide) (by decide) rfl ?_
        refine Y_iconst (v := 1) i_63_7 (by decide) ?_
        refine Y_iadd i_63_8 ?_
        refine Y_iast (k := 2) i_63_9 (k_26 hG) (l_26 hG) (by decide) (by decide) ?_
        refine Y_iconst (v := (-1)) i_63_10 (by decide) ?_
        refine Y_iret i_63_11 rt_63 (KKi ?_)
        refine Y_iret i_72_51 rt_72 (KKi ?_)
        exact Y_iret i_162_9 rt_162 h
    · replace h := h.2 e3
      refine Y_iconst (v := 1) i_72_15 (by decide) ?_
      refine Y_goto i_72_16 ?_
      refine Y_is3 i_72_20 rfl ?_
      refine Y_al0 i_72_21 ?_
      refine Y_gI (v := (F 21 2)) i_72_22 ow_72 lf_5_48 (by decide) (k_21 hG) rfl ?_
      refine Y_bipush (v := 8) i_72_25 (by decide) ?_
      refine Y_cge i_72_27 (fun e8 => ?_) (fun e8 => ?_)
      · replace h := h.1 e8
        refine Y_il3 i_72_30 ?_
        refine Y_zT i_72_31 (by decide) ?_
        refine Y_al0 i_72_46 ?_
        refine Y_iconst (v := 2) i_72_47 (by decide) ?_
        refine Y_iv1 (L0 := [.ref 21, .int 2]) i_72_48 ow_72 lm_5_71 ((k_21 hG).trans ow_63.symm) rfl mx_63 rfl rfl hd_72 ?_
        refine Y_al0 i_63_0 ?_
        refine Y_gR i_63_1 ow_63 lf_5_25 (k_21 hG) (r_21_5 hG) ?_
        refine Y_il1 i_63_4 ?_
        refine Y_dup2 i_63_5 rfl rfl ?_
        refine Y_iaload (k := 2) (v := (A 26 2)) i_63_6 (k_26 hG) (l_26 hG) (by decide) (by decide) rfl ?_
        refine Y_iconst (v := 1) i_63_7 (by decide) ?_
        refine Y_iadd i_63_8 ?_
        refine Y_iast (k := 2) i_63_9 (k_26 hG) (l_26 hG) (by decide) (by decide) ?_
        refine Y_iconst (v := (-1)) i_63_10 (by decide) ?_
        refine Y_iret i_63_11 rt_63 (KKi ?_)
        refine Y_iret i_72_51 rt_72 (KKi ?_)
        exact Y_iret i_162_9 rt_162 h
      · replace h := h.2 e8
        refine Y_al0 i_72_46 ?_
        refine Y_iconst (v := 2) i_72_47 (by decide) ?_
        refine Y_iv1 (L0 := [.ref 21, .int 2]) i_72_48 ow_72 lm_5_71 ((k_21 hG).trans ow_63.symm) rfl mx_63 rfl rfl hd_72 ?_
        refine Y_al0 i_63_0 ?_
        refine Y_gR i_63_1 ow_63 lf_5_25 (k_21 hG) (r_21_5 hG) ?_
        refine Y_il1 i_63_4 ?_
        refine Y_dup2 i_63_5 rfl rfl ?_
        refine Y_iaload (k := 2) (v := (A 26 2)) i_63_6 (k_26 hG) (l_26 hG) (by decide) (by decide) rfl ?_
        refine Y_iconst (v := 1) i_63_7 (by decide) ?_
        refine Y_iadd i_63_8 ?_
        refine Y_iast (k := 2) i_63_9 (k_26 hG) (l_26 hG) (by decide) (by decide) ?_
        refine Y_iconst (v := (-1)) i_63_10 (by decide) ?_
        refine Y_iret i_63_11 rt_63 (KKi ?_)
        refine Y_iret i_72_51 rt_72 (KKi ?_)
        exact Y_iret i_162_9 rt_162 h
/- 163 TableTower.which(I)I -/
theorem t_163_0 {d : Nat} {F A : Nat → Nat → Int32} {J : Nat → Nat → Int64} {G : pG} {Q : pR → pM → Prop} {SL p q : Nat} {x1 : Int32} (hG : Geo G SL p q) (h : ((x1 = 0 → X (d + 3) 9 0 [.ref 66, .null, .null, .null, .null] [] (F, A, J, G) (KK (d + 4) 163 35 [.ref 0, .int x1] [] Q)) ∧ (x1 = 1 → X (d + 3) 10 0 [.ref 66, .null, .null, .null] [] (F, A, J, G) (KK (d + 4) 163 43 [.ref 0, .int x1] [] Q)) ∧ (x1 = 2 → X (d + 3) 8 0 [.ref 66] [] (F, A, J, G) (KK (d + 4) 163 51 [.ref 0, .int x1] [] Q)) ∧ (((x1 : Int32).toInt < 0 ∨ 2 < (x1 : Int32).toInt) → Q (.inr 101) (F, A, J, gThr G)))) : X (d + 4) 163 0 [.ref 0, .int x1] [] (F, A, J, G) Q := by
  refine Y_il1 i_163_0 ?_
  by_cases f0 : x1 = 0
  · replace h := h.1 f0
    refine Y_sw (t := 28) f0 i_163_1 (fun _ => rfl) rfl (fun _ => rfl) (fun _ => rfl) ?_
    refine Y_al0 i_163_28 ?_
    refine Y_gR i_163_29 ow_163 lf_9_80 (k_0 hG) (r_0_11 hG) ?_
    exact Y_iv0 (L0 := [.ref 66, .null, .null, .null, .null]) i_163_32 ow_163 lm_9_335 ((k_66 hG).trans ow_9.symm) rfl mx_9 rfl rfl hd_163 h
  by_cases f1 : x1 = 1
  · replace h := h.2.1 f1
    refine Y_sw (t := 36) f1 i_163_1 (fun _ => rfl) rfl (fun _ => rfl) (fun _ => rfl) ?_
    refine Y_al0 i_163_36 ?_
    refine Y_gR i_163_37 ow_163 lf_9_80 (k_0 hG) (r_0_11 hG) ?_
    exact Y_iv0 (L0 := [.ref 66, .null, .null, .null]) i_163_40 ow_163 lm_9_338 ((k_66 hG).trans ow_10.symm) rfl mx_10 rfl rfl hd_163 h
  by_cases f2 : x1 = 2
  · replace h := h.2.2.1 f2
    refine Y_sw (t := 44) f2 i_163_1 (fun _ => rfl) rfl (fun _ => rfl) (fun _ => rfl) ?_
    refine Y_al0 i_163_44 ?_
    refine Y_gR i_163_45 ow_163 lf_9_80 (k_0 hG) (r_0_11 hG) ?_
    exact Y_iv0 (L0 := [.ref 66]) i_163_48 ow_163 lm_9_341 ((k_66 hG).trans ow_8.symm) rfl mx_8 rfl rfl hd_163 h
  have eD : (x1 : Int32).toInt < 0 ∨ 2 < (x1 : Int32).toInt := by
    have q := ts_out (x := x1) (lo := 0) (n := 3) (by
      intro j hj
      have : j = 0 ∨ j = 1 ∨ j = 2 := by omega
      rcases this with rfl | rfl | rfl
      · exact ne_toInt f0 (by decide)
      · exact ne_toInt f1 (by decide)
      · exact ne_toInt f2 (by decide)
      )
    omega
  replace h := h.2.2.2 eD
  refine Y_tsD (t := 60) eD i_163_1 (by decide) ?_
  exact Y_thr i_163_60 ow_163 lc_9_157 (by decide +kernel) rfl h
theorem k_163_35 {d : Nat} {F A : Nat → Nat → Int32} {J : Nat → Nat → Int64} {G : pG} {Q : pR → pM → Prop} {SL p q : Nat} {x1 r : Int32} (hG : Geo G SL p q) (h : Q (.inl (some (.int r))) (F, A, J, G)) : KK (d + 4) 163 35 [.ref 0, .int x1] [] Q (.inl (some (.int r))) (F, A, J, G) := by
  refine KKi ?_
  exact Y_iret i_163_35 rt_163 h
theorem k_163_43 {d : Nat} {F A : Nat → Nat → Int32} {J : Nat → Nat → Int64} {G : pG} {Q : pR → pM → Prop} {SL p q : Nat} {x1 r : Int32} (hG : Geo G SL p q) (h : Q (.inl (some (.int r))) (F, A, J, G)) : KK (d + 4) 163 43 [.ref 0, .int x1] [] Q (.inl (some (.int r))) (F, A, J, G) := by
  refine KKi ?_
  exact Y_iret i_163_43 rt_163 h
theorem k_163_51 {d : Nat} {F A : Nat → Nat → Int32} {J : Nat → Nat → Int64} {G : pG} {Q : pR → pM → Prop} {SL p q : Nat} {x1 r : Int32} (hG : Geo G SL p q) (h : ((r = 0 → Q (.inl (some (.int 0))) (F, A, J, G)) ∧ (¬ r = 0 → Q (.inl (some (.int 1))) (F, A, J, G)))) : KK (d + 4) 163 51 [.ref 0, .int x1] [] Q (.inl (some (.int r))) (F, A, J, G) := by
  refine KKi ?_
  refine Y_zeq i_163_51 (fun e1 => ?_) (fun e1 => ?_)
  · replace h := h.1 e1
    refine Y_iconst (v := 0) i_163_58 (by decide) ?_
    exact Y_iret i_163_59 rt_163 h
  · replace h := h.2 e1
    refine Y_iconst (v := 1) i_163_54 (by decide) ?_
    refine Y_goto i_163_55 ?_
    exact Y_iret i_163_59 rt_163 h
/- 164 TableTower.look()I -/
theorem t_164_0 {d : Nat} {F A : Nat → Nat → Int32} {J : Nat → Nat → Int64} {G : pG} {Q : pR → pM → Prop} {SL p q : Nat} (hG : Geo G SL p q) (h : X (d + 4) 11 0 [.ref 66, .null, .null, .null, .null] [] (F, A, J, G) (KK (d + 5) 164 7 [.ref 0] [] Q)) : X (d + 5) 164 0 [.ref 0] [] (F, A, J, G) Q := by
  refine Y_al0 i_164_0 ?_
  refine Y_gR i_164_1 ow_164 lf_9_80 (k_0 hG) (r_0_11 hG) ?_
  exact Y_iv0 (L0 := [.ref 66, .null, .null, .null, .null]) i_164_4 ow_164 lm_9_346 ((k_66 hG).trans ow_11.symm) rfl mx_11 rfl rfl hd_164 h
theorem k_164_7 {d : Nat} {F A : Nat → Nat → Int32} {J : Nat → Nat → Int64} {G : pG} {Q : pR → pM → Prop} {SL p q : Nat} {r : Int32} (hG : Geo G SL p q) (h : Q (.inl (some (.int r))) (F, A, J, G)) : KK (d + 5) 164 7 [.ref 0] [] Q (.inl (some (.int r))) (F, A, J, G) := by
  refine KKi ?_
  exact Y_iret i_164_7 rt_164 h
/- 165 TableTower.forget()V -/
theorem t_165_0 {d : Nat} {F A : Nat → Nat → Int32} {J : Nat → Nat → Int64} {G : pG} {Q : pR → pM → Prop} {SL p q : Nat} (hG : Geo G SL p q) (h : Q (.inl none) ((wF F 21 2 0), A, J, G)) : X d 165 0 [.ref 0] [] (F, A, J, G) Q := by
  refine Y_al0 i_165_0 ?_
  refine Y_gR i_165_1 ow_165 lf_9_48 (k_0 hG) (r_0_7 hG) ?_
  refine Y_iconst (v := 0) i_165_4 (by decide) ?_
  refine Y_pI i_165_5 ow_165 lf_9_150 (k_21 hG) ?_
  exact Y_vret i_165_8 rt_165 h
/- 166 TableTower.game(I)I -/
theorem t_166_0 {d : Nat} {F A : Nat → Nat → Int32} {J : Nat → Nat → Int64} {G : pG} {Q : pR → pM → Prop} {SL p q : Nat} {x1 : Int32} (hG : Geo G SL p q) (h : ((x1 = 0 → X (d + 6) 118 0 [.ref 49, .null, .null] [] (F, A, J, G) (KK (d + 7) 166 27 [.ref 0, .int x1] [] Q)) ∧ (¬ x1 = 0 → ((x1 = 1 → X (d + 6) 118 0 [.ref 49, .null, .null] [] (F, A, J, G) (KK (d + 7) 166 27 [.ref 0, .int x1] [] Q)) ∧ (¬ x1 = 1 → Q (.inr 101) (F, A, J, gThr G)))))) : X (d + 7) 166 0 [.ref 0, .int x1] [] (F, A, J, G) Q := by
  refine Y_il1 i_166_0 ?_
  refine Y_zeq i_166_1 (fun e1 => ?_) (fun e1 => ?_)
  · replace h := h.1 e1
    refine Y_al0 i_166_20 ?_
    refine Y_gR i_166_21 ow_166 lf_9_64 (k_0 hG) (r_0_9 hG) ?_
    exact Y_iv0 (L0 := [.ref 49, .null, .null]) i_166_24 ow_166 lm_9_351 ((k_49 hG).trans ow_118.symm) rfl mx_118 rfl rfl hd_166 h
  · replace h := h.2 e1
    refine Y_il1 i_166_4 ?_
    refine Y_iconst (v := 1) i_166_5 (by decide) ?_
    refine Y_ceq i_166_6 (fun e2 => ?_) (fun e2 => ?_)
    · replace h := h.1 e2
      refine Y_al0 i_166_20 ?_
      refine Y_gR i_166_21 ow_166 lf_9_64 (k_0 hG) (r_0_9 hG) ?_
      exact Y_iv0 (L0 := [.ref 49, .null, .null]) i_166_24 ow_166 lm_9_351 ((k_49 hG).trans ow_118.symm) rfl mx_118 rfl rfl hd_166 h
    · replace h := h.2 e2
      exact Y_thr i_166_9 ow_166 lc_9_157 (by decide +kernel) rfl h
theorem k_166_27 {d : Nat} {F A : Nat → Nat → Int32} {J : Nat → Nat → Int64} {G : pG} {Q : pR → pM → Prop} {SL p q : Nat} {x1 : Int32} (hG : Geo G SL p q) (h : ((x1 = 0 → Q (.inl (some (.int (F 49 3)))) (F, A, J, G)) ∧ (¬ x1 = 0 → Q (.inl (some (.int (F 49 4)))) (F, A, J, G)))) : KK (d + 7) 166 27 [.ref 0, .int x1] [] Q (.inl none) (F, A, J, G) := by
  refine KKv ?_
  refine Y_il1 i_166_27 ?_
  refine Y_zne i_166_28 (fun e1 => ?_) (fun e1 => ?_)
  · replace h := h.1 e1
    refine Y_al0 i_166_31 ?_
    refine Y_gR i_166_32 ow_166 lf_9_64 (k_0 hG) (r_0_9 hG) ?_
    refine Y_gI (v := (F 49 3)) i_166_35 ow_166 lf_9_354 (by decide) (k_49 hG) rfl ?_
    refine Y_goto i_166_38 ?_
    exact Y_iret i_166_48 rt_166 h
  · replace h := h.2 e1
    refine Y_al0 i_166_41 ?_
    refine Y_gR i_166_42 ow_166 lf_9_64 (k_0 hG) (r_0_9 hG) ?_
    refine Y_gI (v := (F 49 4)) i_166_45 ow_166 lf_9_357 (by decide) (k_49 hG) rfl ?_
    exact Y_iret i_166_48 rt_166 h
/- 167 TableTower.decades(III)I -/
theorem t_167_0 {d : Nat} {F A : Nat → Nat → Int32} {J : Nat → Nat → Int64} {G : pG} {Q : pR → pM → Prop} {SL p q : Nat} {x1 x2 x3 : Int32} (hG : Geo G SL p q) (h : ((x3 < 0 → Q (.inr 101) (F, A, J, gThr G)) ∧ (¬ x3 < 0 → ((2 < x3 → Q (.inr 101) (F, A, J, gThr G)) ∧ (¬ 2 < x3 → ((x2 < 0 → Q (.inr 100) (F, A, J, gThr G)) ∧ (¬ x2 < 0 → ((40 < x2 → Q (.inr 100) (F, A, J, gThr G)) ∧ (¬ 40 < x2 → X (d + 5) 122 0 [.ref 49, .int x1, .int x2, .null] [] (F, A, J, G) (KK (d + 6) 167 50 [.ref 0, .int x1, .int x2, .int x3] [] Q)))))))))) : X (d + 6) 167 0 [.ref 0, .int x1, .int x2, .int x3] [] (F, A, J, G) Q := by
  refine Y_il3 i_167_0 ?_
  refine Y_zlt i_167_1 (fun e1 => ?_) (fun e1 => ?_)
  · replace h := h.1 e1
    exact Y_thr i_167_9 ow_167 lc_9_157 (by decide +kernel) rfl h
  · replace h := h.2 e1
    refine Y_il3 i_167_4 ?_
    refine Y_iconst (v := 2) i_167_5 (by decide) ?_
    refine Y_cle i_167_6 (fun e2 => ?_) (fun e2 => ?_)
    · replace h := h.1 e2
      exact Y_thr i_167_9 ow_167 lc_9_157 (by decide +kernel) rfl h
    · replace h := h.2 e2
      refine Y_il2 i_167_20 ?_
      refine Y_zlt i_167_21 (fun e3 => ?_) (fun e3 => ?_)
      · replace h := h.1 e3
        exact Y_thr i_167_30 ow_167 lc_9_88 (by decide +kernel) rfl h
      · replace h := h.2 e3
        refine Y_il2 i_167_24 ?_
        refine Y_bipush (v := 40) i_167_25 (by decide) ?_
        refine Y_cle i_167_27 (fun e4 => ?_) (fun e4 => ?_)
        · replace h := h.1 e4
          exact Y_thr i_167_30 ow_167 lc_9_88 (by decide +kernel) rfl h
        · replace h := h.2 e4
          refine Y_al0 i_167_41 ?_
          refine Y_gR i_167_42 ow_167 lf_9_64 (k_0 hG) (r_0_9 hG) ?_
          refine Y_il1 i_167_45 ?_
          refine Y_il2 i_167_46 ?_
          exact Y_iv2 (L0 := [.ref 49, .int x1, .int x2, .null]) i_167_47 ow_167 lm_9_364 ((k_49 hG).trans ow_122.symm) rfl mx_122 rfl rfl hd_167 h
theorem k_167_50 {d : Nat} {F A : Nat → Nat → Int32} {J : Nat → Nat → Int64} {G : pG} {Q : pR → pM → Prop} {SL p q : Nat} {x1 x2 x3 : Int32} (hG : Geo G SL p q) (h : ((x3 = 0 → Q (.inl (some (.int (F 49 5)))) (F, A, J, G)) ∧ (¬ x3 = 0 → ((x3 = 1 → Q (.inl (some (.int (F 49 6)))) (F, A, J, G)) ∧ (¬ x3 = 1 → Q (.inl (some (.int (F 49 7)))) (F, A, J, G)))))) : KK (d + 6) 167 50 [.ref 0, .int x1, .int x2, .int x3] [] Q (.inl none) (F, A, J, G) := by
  refine KKv ?_
  refine Y_il3 i_167_50 ?_
  refine Y_zne i_167_51 (fun e1 => ?_) (fun e1 => ?_)
  · replace h := h.1 e1
    refine Y_al0 i_167_54 ?_
    refine Y_gR i_167_55 ow_167 lf_9_64 (k_0 hG) (r_0_9 hG) ?_
    refine Y_gI (v := (F 49 5)) i_167_58 ow_167 lf_9_368 (by decide) (k_49 hG) rfl ?_
    exact Y_iret i_167_61 rt_167 h
  · replace h := h.2 e1
    refine Y_il3 i_167_62 ?_
    refine Y_iconst (v := 1) i_167_63 (by decide) ?_
    refine Y_cne i_167_64 (fun e2 => ?_) (fun e2 => ?_)
    · replace h := h.1 e2
      refine Y_al0 i_167_67 ?_
      refine Y_gR i_167_68 ow_167 lf_9_64 (k_0 hG) (r_0_9 hG) ?_
      refine Y_gI (v := (F 49 6)) i_167_71 ow_167 lf_9_371 (by decide) (k_49 hG) rfl ?_
      refine Y_goto i_167_74 ?_
      exact Y_iret i_167_84 rt_167 h
    · replace h := h.2 e2
      refine Y_al0 i_167_77 ?_
      refine Y_gR i_167_78 ow_167 lf_9_64 (k_0 hG) (r_0_9 hG) ?_
      refine Y_gI (v := (F 49 7)) i_167_81 ow_167 lf_9_374 (by decide) (k_49 hG) rfl ?_
      exact Y_iret i_167_84 rt_167 h
/- 168 TableTower.image()V -/
theorem t_168_0 {d : Nat} {F A : Nat → Nat → Int32} {J : Nat → Nat → Int64} {G : pG} {Q : pR → pM → Prop} {SL p q : Nat} (hG : Geo G SL p q) (h : (¬ (0 : Int32) < 0 ∧ ¬ (0 : Int32) < 0 ∧ ¬ ((F 22 0) * 14) < 0 ∧ (0 : Int32).toNatClampNeg + ((F 22 0) * 14).toNatClampNeg ≤ 560 ∧ (0 : Int32).toNatClampNeg + ((F 22 0) * 14).toNatClampNeg ≤ 560) ∧ (Q (.inl none) ((wF (wF (wF (wF (bF F 41 27) 36 0 (F 22 0)) 35 2 (F 21 2)) 35 6 1) 0 3 1), (cpR (cpR (cpR (cpR (bA A 41 27) 37 23 0 0 ((F 22 0) * 14).toNatClampNeg) 38 24 0 0 8) 39 25 0 0 8) 40 26 0 0 3), J, G))) : X (d + 2) 168 0 [.ref 0] [] (F, A, J, G) Q := by
  refine Y_al0 i_168_0 ?_
  refine Y_gR i_168_1 ow_168 lf_9_52 (k_0 hG) (r_0_8 hG) ?_
  refine Y_al0 i_168_4 ?_
  refine Y_gR i_168_5 ow_168 lf_9_48 (k_0 hG) (r_0_7 hG) ?_
  refine Y_iv1 (L0 := [.ref 35, .ref 21]) i_168_8 ow_168 lm_9_377 ((k_35 hG).trans ow_62.symm) rfl mx_62 rfl rfl hd_168 ?_
  refine Y_al0 i_62_0 ?_
  refine Y_gR i_62_1 ow_62 lf_5_33 (k_35 hG) (r_35_0 hG) ?_
  refine Y_al1 i_62_4 ?_
  refine Y_gR i_62_5 ow_62 lf_5_33 (k_21 hG) (r_21_0 hG) ?_
  refine Y_iv1 (L0 := [.ref 41, .ref 27]) i_62_8 ow_62 lm_5_51 ((k_41 hG).trans ow_76.symm) rfl mx_76 rfl rfl hd_62 ?_
  refine c_76_41_27 hG tw_41 (KKv ?_)
  refine Y_al0 i_62_11 ?_
  refine Y_gR i_62_12 ow_62 lf_5_12 (k_35 hG) (r_35_1 hG) ?_
  refine Y_al1 i_62_15 ?_
  refine Y_gR i_62_16 ow_62 lf_5_12 (k_21 hG) (r_21_1 hG) ?_
  refine Y_iv1 (L0 := [.ref 36, .ref 22]) i_62_19 ow_62 lm_5_55 ((k_36 hG).trans ow_1.symm) rfl mx_1 rfl rfl hd_62 ?_
  refine Y_al0 i_1_0 ?_
  refine Y_al1 i_1_1 ?_
  refine Y_gI (v := (F 22 0)) i_1_2 ow_1 lf_0_15 (by decide) (k_22 hG) (by simp [wF, wJ, va_up, cpR, bF, bA]) ?_
  refine Y_pI i_1_5 ow_1 lf_0_15 (k_36 hG) ?_
  refine Y_al1 i_1_8 ?_
  refine Y_gR i_1_9 ow_1 lf_0_11 (k_22 hG) (r_22_1 hG) ?_
  refine Y_iconst (v := 0) i_1_12 (by decide) ?_
  refine Y_al0 i_1_13 ?_
  refine Y_gR i_1_14 ow_1 lf_0_11 (k_36 hG) (r_36_1 hG) ?_
  refine Y_iconst (v := 0) i_1_17 (by decide) ?_
  refine Y_al0 i_1_18 ?_
  refine Y_gI (v := (F 22 0)) i_1_19 ow_1 lf_0_15 (by decide) (k_36 hG) (by simp [wF, wJ, va_up, cpR, bF, bA]) ?_
  refine Y_bipush (v := 14) i_1_22 (by decide) ?_
  refine Y_imul i_1_24 ?_
  have o1 := h.1
  replace h := h.2
  refine Y_acp (ksp := 0) (kdp := 0) (kn := ((F 22 0) * 14).toNatClampNeg) i_1_25 ow_1 lm_0_19 rfl (k_37 hG) (k_23 hG) (l_37 hG) (l_23 hG) o1 (by decide) (by decide) rfl ?_
  refine Y_vret i_1_28 rt_1 (KKv ?_)
  refine Y_al0 i_62_22 ?_
  refine Y_al1 i_62_23 ?_
  refine Y_gI (v := (F 21 2)) i_62_24 ow_62 lf_5_48 (by decide) (k_21 hG) (by simp [wF, wJ, va_up, cpR, bF, bA]) ?_
  refine Y_pI i_62_27 ow_62 lf_5_48 (k_35 hG) ?_
  refine Y_al1 i_62_30 ?_
  refine Y_gR i_62_31 ow_62 lf_5_18 (k_21 hG) (r_21_3 hG) ?_
  refine Y_iconst (v := 0) i_62_34 (by decide) ?_
  refine Y_al0 i_62_35 ?_
  refine Y_gR i_62_36 ow_62 lf_5_18 (k_35 hG) (r_35_3 hG) ?_
  refine Y_iconst (v := 0) i_62_39 (by decide) ?_
  refine Y_bipush (v := 8) i_62_40 (by decide) ?_
  refine Y_acp (ksp := 0) (kdp := 0) (kn := 8) i_62_42 ow_62 lm_5_58 rfl (k_38 hG) (k_24 hG) (l_38 hG) (l_24 hG) (by decide) (by decide) (by decide) (by decide) ?_
  refine Y_al1 i_62_45 ?_
  refine Y_gR i_62_46 ow_62 lf_5_22 (k_21 hG) (r_21_4 hG) ?_
  refine Y_iconst (v := 0) i_62_49 (by decide) ?_
  refine Y_al0 i_62_50 ?_
  refine Y_gR i_62_51 ow_62 lf_5_22 (k_35 hG) (r_35_4 hG) ?_
  refine Y_iconst (v := 0) i_62_54 (by decide) ?_
  refine Y_bipush (v := 8) i_62_55 (by decide) ?_
  refine Y_acp (ksp := 0) (kdp := 0) (kn := 8) i_62_57 ow_62 lm_5_58 rfl (k_39 hG) (k_25 hG) (l_39 hG) (l_25 hG) (by decide) (by decide) (by decide) (by decide) ?_
  refine Y_al1 i_62_60 ?_
  refine Y_gR i_62_61 ow_62 lf_5_25 (k_21 hG) (r_21_5 hG) ?_
  refine Y_iconst (v := 0) i_62_64 (by decide) ?_
  refine Y_al0 i_62_65 ?_
  refine Y_gR i_62_66 ow_62 lf_5_25 (k_35 hG) (r_35_5 hG) ?_
  refine Y_iconst (v := 0) i_62_69 (by decide) ?_
  refine Y_iconst (v := 3) i_62_70 (by decide) ?_
  refine Y_acp (ksp := 0) (kdp := 0) (kn := 3) i_62_71 ow_62 lm_5_58 rfl (k_40 hG) (k_26 hG) (l_40 hG) (l_26 hG) (by decide) (by decide) (by decide) (by decide) ?_
  refine Y_al0 i_62_74 ?_
  refine Y_iconst (v := 1) i_62_75 (by decide) ?_
  refine Y_pB i_62_76 ow_62 lf_5_37 (k_35 hG) (by decide) ?_
  refine Y_vret i_62_79 rt_62 (KKv ?_)
  refine Y_al0 i_168_11 ?_
  refine Y_iconst (v := 1) i_168_12 (by decide) ?_
  refine Y_pB i_168_13 ow_168 lf_9_20 (k_0 hG) (by decide) ?_
  exact Y_vret i_168_16 rt_168 h
/- 169 TableTower.restore()Z -/
theorem t_169_0 {d : Nat} {F A : Nat → Nat → Int32} {J : Nat → Nat → Int64} {G : pG} {Q : pR → pM → Prop} {SL p q : Nat} (hG : Geo G SL p q) (h : (((F 0 3) = 0 → Q (.inl (some (.int 0))) (F, A, J, G)) ∧ (¬ (F 0 3) = 0 → (¬ (0 : Int32) < 0 ∧ ¬ (0 : Int32) < 0 ∧ ¬ ((F 36 0) * 14) < 0 ∧ (0 : Int32).toNatClampNeg + ((F 36 0) * 14).toNatClampNeg ≤ 560 ∧ (0 : Int32).toNatClampNeg + ((F 36 0) * 14).toNatClampNeg ≤ 560) ∧ (Q (.inl (some (.int 1))) ((wF (wF (wF (bF F 27 41) 22 0 (F 36 0)) 21 2 (F 35 2)) 21 6 1), (cpR (cpR (cpR (cpR (bA A 27 41) 23 37 0 0 ((F 36 0) * 14).toNatClampNeg) 24 38 0 0 8) 25 39 0 0 8) 26 40 0 0 3), J, G))))) : X (d + 2) 169 0 [.ref 0] [] (F, A, J, G) Q := by
  refine Y_al0 i_169_0 ?_
  refine Y_gI (v := (F 0 3)) i_169_1 ow_169 lf_9_20 (by decide) (k_0 hG) rfl ?_
  refine Y_zne i_169_4 (fun e1 => ?_) (fun e1 => ?_)
  · replace h := h.1 e1
    refine Y_iconst (v := 0) i_169_7 (by decide) ?_
    exact Y_bret i_169_8 rt_169 (by decide) h
  · replace h := h.2 e1
    refine Y_al0 i_169_9 ?_
    refine Y_gR i_169_10 ow_169 lf_9_48 (k_0 hG) (r_0_7 hG) ?_
    refine Y_al0 i_169_13 ?_
    refine Y_gR i_169_14 ow_169 lf_9_52 (k_0 hG) (r_0_8 hG) ?_
    refine Y_iv1 (L0 := [.ref 21, .ref 35]) i_169_17 ow_169 lm_9_377 ((k_21 hG).trans ow_62.symm) rfl mx_62 rfl rfl hd_169 ?_
    refine Y_al0 i_62_0 ?_
    refine Y_gR i_62_1 ow_62 lf_5_33 (k_21 hG) (r_21_0 hG) ?_
    refine Y_al1 i_62_4 ?_
    refine Y_gR i_62_5 ow_62 lf_5_33 (k_35 hG) (r_35_0 hG) ?_
    refine Y_iv1 (L0 := [.ref 27, .ref 41]) i_62_8 ow_62 lm_5_51 ((k_27 hG).trans ow_76.symm) rfl mx_76 rfl rfl hd_62 ?_
    refine c_76_27_41 hG tw_27 (KKv ?_)
    refine Y_al0 i_62_11 ?_
    refine Y_gR i_62_12 ow_62 lf_5_12 (k_21 hG) (r_21_1 hG) ?_
    refine Y_al1 i_62_15 ?_
    refine Y_gR i_62_16 ow_62 lf_5_12 (k_35 hG) (r_35_1 hG) ?_
    refine Y_iv1 (L0 := [.ref 22, .ref 36]) i_62_19 ow_62 lm_5_55 ((k_22 hG).trans ow_1.symm) rfl mx_1 rfl rfl hd_62 ?_
    refine Y_al0 i_1_0 ?_
    refine Y_al1 i_1_1 ?_
    refine Y_gI (v := (F 36 0)) i_1_2 ow_1 lf_0_15 (by decide) (k_36 hG) (by simp [wF, wJ, va_up, cpR, bF, bA]) ?_
    refine Y_pI i_1_5 ow_1 lf_0_15 (k_22 hG) ?_
    refine Y_al1 i_1_8 ?_
    refine Y_gR i_1_9 ow_1 lf_0_11 (k_36 hG) (r_36_1 hG) ?_
    refine Y_iconst (v := 0) i_1_12 (by decide) ?_
    refine Y_al0 i_1_13 ?_
    refine Y_gR i_1_14 ow_1 lf_0_11 (k_22 hG) (r_22_1 hG) ?_
    refine Y_iconst (v := 0) i_1_17 (by decide) ?_
    refine Y_al0 i_1_18 ?_
    refine Y_gI (v := (F 36 0)) i_1_19 ow_1 lf_0_15 (by decide) (k_22 hG) (by simp [wF, wJ, va_up, cpR, bF, bA]) ?_
    refine Y_bipush (v := 14) i_1_22 (by decide) ?_
    refine Y_imul i_1_24 ?_
    have o2 := h.1
    replace h := h.2
    refine Y_acp (ksp := 0) (kdp := 0) (kn := ((F 36 0) * 14).toNatClampNeg) i_1_25 ow_1 lm_0_19 rfl (k_23 hG) (k_37 hG) (l_23 hG) (l_37 hG) o2 (by decide) (by decide) rfl ?_
    refine Y_vret i_1_28 rt_1 (KKv ?_)
    refine Y_al0 i_62_22 ?_
    refine Y_al1 i_62_23 ?_
    refine Y_gI (v := (F 35 2)) i_62_24 ow_62 lf_5_48 (by decide) (k_35 hG) (by simp [wF, wJ, va_up, cpR, bF, bA]) ?_
    refine Y_pI i_62_27 ow_62 lf_5_48 (k_21 hG) ?_
    refine Y_al1 i_62_30 ?_
    refine Y_gR i_62_31 ow_62 lf_5_18 (k_35 hG) (r_35_3 hG) ?_
    refine Y_iconst (v := 0) i_62_34 (by decide) ?_
    refine Y_al0 i_62_35 ?_
    refine Y_gR i_62_36 ow_62 lf_5_18 (k_21 hG) (r_21_3 hG) ?_
    refine Y_iconst (v := 0) i_62_39 (by decide) ?_
    refine Y_bipush (v := 8) i_62_40 (by decide) ?_
    refine Y_acp (ksp := 0) (kdp := 0) (kn := 8) i_62_42 ow_62 lm_5_58 rfl (k_24 hG) (k_38 hG) (l_24 hG) (l_38 hG) (by decide) (by decide) (by decide) (by decide) ?_
    refine Y_al1 i_62_45 ?_
    refine Y_gR i_62_46 ow_62 lf_5_22 (k_35 hG) (r_35_4 hG) ?_
    refine Y_iconst (v := 0) i_62_49 (by decide) ?_
    refine Y_al0 i_62_50 ?_
    refine Y_gR i_62_51 ow_62 lf_5_22 (k_21 hG) (r_21_4 hG) ?_
    refine Y_iconst (v := 0) i_62_54 (by decide) ?_
    refine Y_bipush (v := 8) i_62_55 (by decide) ?_
    refine Y_acp (ksp := 0) (kdp := 0) (kn := 8) i_62_57 ow_62 lm_5_58 rfl (k_25 hG) (k_39 hG) (l_25 hG) (l_39 hG) (by decide) (by decide) (by decide) (by decide) ?_
    refine Y_al1 i_62_60 ?_
    refine Y_gR i_62_61 ow_62 lf_5_25 (k_35 hG) (r_35_5 hG) ?_
    refine Y_iconst (v := 0) i_62_64 (by decide) ?_
    refine Y_al0 i_62_65 ?_
    refine Y_gR i_62_66 ow_62 lf_5_25 (k_21 hG) (r_21_5 hG) ?_
    refine Y_iconst (v := 0) i_62_69 (by decide) ?_
    refine Y_iconst (v := 3) i_62_70 (by decide) ?_
    refine Y_acp (ksp := 0) (kdp := 0) (kn := 3) i_62_71 ow_62 lm_5_58 rfl (k_26 hG) (k_40 hG) (l_26 hG) (l_40 hG) (by decide) (by decide) (by decide) (by decide) ?_
    refine Y_al0 i_62_74 ?_
    refine Y_iconst (v := 1) i_62_75 (by decide) ?_
    refine Y_pB i_62_76 ow_62 lf_5_37 (k_21 hG) (by decide) ?_
    refine Y_vret i_62_79 rt_62 (KKv ?_)
    refine Y_iconst (v := 1) i_169_20 (by decide) ?_
    exact Y_bret i_169_21 rt_169 (by decide) h
/- 170 TableTower.feedOne(I)V -/
theorem t_170_0 {d : Nat} {F A : Nat → Nat → Int32} {J : Nat → Nat → Int64} {G : pG} {Q : pR → pM → Prop} {SL p q : Nat} {x1 : Int32} (hG : Geo G SL p q) (h : X d 170 3 [.ref 0, .int x1, .int 24] [] (F, A, J, G) Q) : X d 170 0 [.ref 0, .int x1, .null] [] (F, A, J, G) Q := by
  refine Y_bipush (v := 24) i_170_0 (by decide) ?_
  refine Y_is2 i_170_2 rfl ?_
  exact h
theorem t_170_3 {d : Nat} {F A : Nat → Nat → Int32} {J : Nat → Nat → Int64} {G : pG} {Q : pR → pM → Prop} {SL p q : Nat} {x1 x2 : Int32} (hG : Geo G SL p q) (h : ((x2 < 0 → Q (.inl none) (F, A, J, G)) ∧ (¬ x2 < 0 → inB (F 0 1) 600 = true ∧ (X d 170 3 [.ref 0, .int x1, .int (x2 + (-8))] [] ((wF F 0 1 ((F 0 1) + 1)), (wF A 1 (F 0 1).toNatClampNeg (jbyte ((jushr x1 x2).toInt8.toInt32))), J, G) Q)))) : X d 170 3 [.ref 0, .int x1, .int x2] [] (F, A, J, G) Q := by
  refine Y_il2 i_170_3 ?_
  refine Y_zlt i_170_4 (fun e1 => ?_) (fun e1 => ?_)
  · replace h := h.1 e1
    exact Y_vret i_170_36 rt_170 h
  · replace h := h.2 e1
    refine Y_al0 i_170_7 ?_
    refine Y_gR i_170_8 ow_170 lf_9_9 (k_0 hG) (r_0_0 hG) ?_
    refine Y_al0 i_170_11 ?_
    refine Y_gI (v := (F 0 1)) i_170_12 ow_170 lf_9_13 (by decide) (k_0 hG) rfl ?_
    refine Y_il1 i_170_15 ?_
    refine Y_il2 i_170_16 ?_
    refine Y_iushr i_170_17 ?_
    refine Y_i2b i_170_18 ?_
    have o2 := h.1
    replace h := h.2
    refine Y_bast i_170_19 (k_1 hG) (l_1 hG) o2 rfl ?_
    refine Y_al0 i_170_20 ?_
    refine Y_dup i_170_21 rfl ?_
    refine Y_gI (v := (F 0 1)) i_170_22 ow_170 lf_9_13 (by decide) (k_0 hG) rfl ?_
    refine Y_iconst (v := 1) i_170_25 (by decide) ?_
    refine Y_iadd i_170_26 ?_
    refine Y_pI i_170_27 ow_170 lf_9_13 (k_0 hG) ?_
    refine Y_ii2 (v := (-8)) i_170_30 (by decide) rfl ?_
    refine Y_goto i_170_33 ?_
    exact h
/- 171 TableTower.needTable(I)V -/
theorem t_171_0 {d : Nat} {F A : Nat → Nat → Int32} {J : Nat → Nat → Int64} {G : pG} {Q : pR → pM → Prop} {SL p q : Nat} {x1 : Int32} (hG : Geo G SL p q) (h : ((x1 < 0 → Q (.inr 101) (F, A, J, gThr G)) ∧ (¬ x1 < 0 → ((x1 < (F 12 0) → Q (.inl none) (F, A, J, G)) ∧ (¬ x1 < (F 12 0) → Q (.inr 101) (F, A, J, gThr G)))))) : X d 171 0 [.ref 0, .int x1] [] (F, A, J, G) Q := by
  refine Y_il1 i_171_0 ?_
  refine Y_zlt i_171_1 (fun e1 => ?_) (fun e1 => ?_)
  · replace h := h.1 e1
    exact Y_thr i_171_15 ow_171 lc_9_157 (by decide +kernel) rfl h
  · replace h := h.2 e1
    refine Y_il1 i_171_4 ?_
    refine Y_al0 i_171_5 ?_
    refine Y_gR i_171_6 ow_171 lf_9_40 (k_0 hG) (r_0_6 hG) ?_
    refine Y_gI (v := (F 12 0)) i_171_9 ow_171 lf_9_111 (by decide) (k_12 hG) rfl ?_
    refine Y_clt i_171_12 (fun e2 => ?_) (fun e2 => ?_)
    · replace h := h.1 e2
      exact Y_vret i_171_26 rt_171 h
    · replace h := h.2 e2
      exact Y_thr i_171_15 ow_171 lc_9_157 (by decide +kernel) rfl h
/- 172 TableTower.needTableInTower(I)V -/
theorem t_172_0 {d : Nat} {F A : Nat → Nat → Int32} {J : Nat → Nat → Int64} {G : pG} {Q : pR → pM → Prop} {SL p q : Nat} {x1 : Int32} (hG : Geo G SL p q) (h : hB (F 27 1) = true ∧ (((lvI (A 28) (F 27 1) x1) = (-1) → Q (.inr 101) (F, A, J, gThr G)) ∧ (¬ (lvI (A 28) (F 27 1) x1) = (-1) → Q (.inl none) (F, A, J, G)))) : X (d + 1) 172 0 [.ref 0, .int x1] [] (F, A, J, G) Q := by
  refine Y_al0 i_172_0 ?_
  refine Y_gR i_172_1 ow_172 lf_9_48 (k_0 hG) (r_0_7 hG) ?_
  refine Y_gR i_172_4 ow_172 lf_9_57 (k_21 hG) (r_21_0 hG) ?_
  refine Y_il1 i_172_7 ?_
  have o1 := h.1
  replace h := h.2
  refine Y_iv1 (L0 := [.ref 27, .int x1, .null]) i_172_8 ow_172 lm_9_187 ((k_27 hG).trans ow_77.symm) rfl mx_77 rfl rfl hd_172 ?_
  refine c_77 hG tw_27 o1 (KKi' (v' := (lvI (A 28) (F 27 1) x1)) (by simp [wF, wJ, va_up, cpR, bF, bA]) ?_)
  refine Y_iconst (v := (-1)) i_172_11 (by decide) ?_
  refine Y_cne i_172_12 (fun e2 => ?_) (fun e2 => ?_)
  · replace h := h.1 e2
    exact Y_thr i_172_15 ow_172 lc_9_157 (by decide +kernel) rfl h
  · replace h := h.2 e2
    exact Y_vret i_172_26 rt_172 h
/- 173 TableTower.needLevel(I)V -/
theorem t_173_0 {d : Nat} {F A : Nat → Nat → Int32} {J : Nat → Nat → Int64} {G : pG} {Q : pR → pM → Prop} {SL p q : Nat} {x1 : Int32} (hG : Geo G SL p q) (h : ((x1 < 0 → Q (.inr 101) (F, A, J, gThr G)) ∧ (¬ x1 < 0 → ((x1 < (F 27 1) → Q (.inl none) (F, A, J, G)) ∧ (¬ x1 < (F 27 1) → Q (.inr 101) (F, A, J, gThr G)))))) : X d 173 0 [.ref 0, .int x1] [] (F, A, J, G) Q := by
  refine Y_il1 i_173_0 ?_
  refine Y_zlt i_173_1 (fun e1 => ?_) (fun e1 => ?_)
  · replace h := h.1 e1
    exact Y_thr i_173_18 ow_173 lc_9_157 (by decide +kernel) rfl h
  · replace h := h.2 e1
    refine Y_il1 i_173_4 ?_
    refine Y_al0 i_173_5 ?_
    refine Y_gR i_173_6 ow_173 lf_9_48 (k_0 hG) (r_0_7 hG) ?_
    refine Y_gR i_173_9 ow_173 lf_9_57 (k_21 hG) (r_21_0 hG) ?_
    refine Y_gI (v := (F 27 1)) i_173_12 ow_173 lf_9_114 (by decide) (k_27 hG) rfl ?_
    refine Y_clt i_173_15 (fun e2 => ?_) (fun e2 => ?_)
    · replace h := h.1 e2
      exact Y_vret i_173_29 rt_173 h
    · replace h := h.2 e2
      exact Y_thr i_173_18 ow_173 lc_9_157 (by decide +kernel) rfl h
end Tr14e
