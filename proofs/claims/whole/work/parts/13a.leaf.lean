section Leaf
theorem Y_lsD_101 {d : Nat} {L st : List Value} {M : pM} {Q : pR → pM → Prop} {x : Int32} {pc' : Nat} (e0 : ¬ x = 0) (e1 : ¬ x = 1) (h : At 101 6 (.lookupswitch 30 #[(0, 26), (1, 28)]) pc') (hX : X d 101 36 L st M Q) : X d 101 6 L (.int x :: st) M Q := by
  have e0' : ¬ (0 : Int) = x.toInt := fun q => e0 (Int32.toInt_inj.mp q.symm)
  have e1' : ¬ (1 : Int) = x.toInt := fun q => e1 (Int32.toInt_inj.mp q.symm)
  have e0'' : ¬ x.toInt = (0 : Int) := fun q => e0' q.symm
  have e1'' : ¬ x.toInt = (1 : Int) := fun q => e1' q.symm
  rw [X_j (q := (36, st)) h.1 rfl rfl rfl (by simp [jOp, Op.lookupswitch.offset, e0', e1', e0'', e1'', tgt])]; exact hX
/- 101 Town.wormAYear(I)I -/
theorem t_101_0 {d : Nat} {F A : Nat → Nat → Int32} {J : Nat → Nat → Int64} {G : pG} {Q : pR → pM → Prop} {SL p q : Nat} {x1 : Int32} (hG : Geo G SL p q) (h : inB x1 10 = true ∧ (((A 13 x1.toNatClampNeg) = 0 → Q (.inl (some (.int 3))) (F, A, J, G)) ∧ ((A 13 x1.toNatClampNeg) = 1 → Q (.inl (some (.int 1))) (F, A, J, G)) ∧ (¬ (A 13 x1.toNatClampNeg) = 0 ∧ ¬ (A 13 x1.toNatClampNeg) = 1 → Q (.inl (some (.int 2))) (F, A, J, G)))) : X d 101 0 [.ref 12, .int x1] [] (F, A, J, G) Q := by
  refine Y_al0 i_101_0 ?_
  refine Y_gR i_101_1 ow_101 lf_7_9 (k_12 hG) (r_12_3 hG) ?_
  refine Y_il1 i_101_4 ?_
  have o1 := h.1
  replace h := h.2
  refine Y_iaload (k := x1.toNatClampNeg) (v := (A 13 x1.toNatClampNeg)) i_101_5 (k_13 hG) (l_13 hG) o1 rfl rfl ?_
  by_cases f0 : (A 13 x1.toNatClampNeg) = 0
  · replace h := h.1 f0
    refine Y_sw (t := 32) f0 i_101_6 (fun _ => rfl) rfl (fun _ => rfl) (fun _ => rfl) ?_
    refine Y_iconst (v := 3) i_101_32 (by decide) ?_
    exact Y_iret i_101_33 rt_101 h
  by_cases f1 : (A 13 x1.toNatClampNeg) = 1
  · replace h := h.2.1 f1
    refine Y_sw (t := 34) f1 i_101_6 (fun _ => rfl) rfl (fun _ => rfl) (fun _ => rfl) ?_
    refine Y_iconst (v := 1) i_101_34 (by decide) ?_
    exact Y_iret i_101_35 rt_101 h
  replace h := h.2.2 ⟨f0, f1⟩
  refine Y_lsD_101 f0 f1 i_101_6 ?_
  refine Y_iconst (v := 2) i_101_36 (by decide) ?_
  exact Y_iret i_101_37 rt_101 h
/- 102 Town.leanTimes(I)I -/
theorem t_102_0 {d : Nat} {F A : Nat → Nat → Int32} {J : Nat → Nat → Int64} {G : pG} {Q : pR → pM → Prop} {SL p q : Nat} {x1 : Int32} (hG : Geo G SL p q) (h : inB x1 10 = true ∧ (((A 13 x1.toNatClampNeg) = 3 → Q (.inl (some (.int 2))) (F, A, J, G)) ∧ (¬ (A 13 x1.toNatClampNeg) = 3 → Q (.inl (some (.int 1))) (F, A, J, G)))) : X d 102 0 [.ref 12, .int x1] [] (F, A, J, G) Q := by
  refine Y_al0 i_102_0 ?_
  refine Y_gR i_102_1 ow_102 lf_7_9 (k_12 hG) (r_12_3 hG) ?_
  refine Y_il1 i_102_4 ?_
  have o1 := h.1
  replace h := h.2
  refine Y_iaload (k := x1.toNatClampNeg) (v := (A 13 x1.toNatClampNeg)) i_102_5 (k_13 hG) (l_13 hG) o1 rfl rfl ?_
  refine Y_iconst (v := 3) i_102_6 (by decide) ?_
  refine Y_cne i_102_7 (fun e2 => ?_) (fun e2 => ?_)
  · replace h := h.1 e2
    refine Y_iconst (v := 2) i_102_10 (by decide) ?_
    refine Y_goto i_102_11 ?_
    exact Y_iret i_102_15 rt_102 h
  · replace h := h.2 e2
    refine Y_iconst (v := 1) i_102_14 (by decide) ?_
    exact Y_iret i_102_15 rt_102 h
/- 103 Town.withinLimit(I)Z -/
theorem t_103_0 {d : Nat} {F A : Nat → Nat → Int32} {J : Nat → Nat → Int64} {G : pG} {Q : pR → pM → Prop} {SL p q : Nat} {x1 : Int32} (hG : Geo G SL p q) (h : (((F 12 1) < (jabs x1) → Q (.inl (some (.int 0))) (F, A, J, G)) ∧ (¬ (F 12 1) < (jabs x1) → Q (.inl (some (.int 1))) (F, A, J, G)))) : X d 103 0 [.ref 12, .int x1] [] (F, A, J, G) Q := by
  refine Y_il1 i_103_0 ?_
  refine Y_abs i_103_1 ow_103 lm_7_60 rfl ?_
  refine Y_al0 i_103_4 ?_
  refine Y_gI (v := (F 12 1)) i_103_5 ow_103 lf_7_41 (by decide) (k_12 hG) rfl ?_
  refine Y_cgt i_103_8 (fun e1 => ?_) (fun e1 => ?_)
  · replace h := h.1 e1
    refine Y_iconst (v := 0) i_103_15 (by decide) ?_
    exact Y_bret i_103_16 rt_103 (by decide) h
  · replace h := h.2 e1
    refine Y_iconst (v := 1) i_103_11 (by decide) ?_
    refine Y_goto i_103_12 ?_
    exact Y_bret i_103_16 rt_103 (by decide) h
/- 58 Rule.valueOf(I)I -/
theorem t_58_0 {d : Nat} {F A : Nat → Nat → Int32} {J : Nat → Nat → Int64} {G : pG} {Q : pR → pM → Prop} {SL p q : Nat} {x1 : Int32} (hG : Geo G SL p q) (h : ((x1 = (-5) → Q (.inl (some (.int (F 18 6)))) (F, A, J, G)) ∧ (x1 = (-4) → Q (.inl (some (.int (F 18 5)))) (F, A, J, G)) ∧ (x1 = (-3) → Q (.inl (some (.int (F 18 4)))) (F, A, J, G)) ∧ (x1 = (-2) → Q (.inl (some (.int (F 18 3)))) (F, A, J, G)) ∧ (x1 = (-1) → Q (.inl (some (.int (F 18 2)))) (F, A, J, G)) ∧ (((x1 : Int32).toInt < -5 ∨ -1 < (x1 : Int32).toInt) → Q (.inl (some (.int (F 18 7)))) (F, A, J, G)))) : X d 58 0 [.ref 18, .int x1] [] (F, A, J, G) Q := by
  refine Y_il1 i_58_0 ?_
  by_cases f0 : x1 = (-5)
  · replace h := h.1 f0
    refine Y_sw (t := 56) f0 i_58_1 (fun _ => rfl) rfl (fun _ => rfl) (fun _ => rfl) ?_
    refine Y_al0 i_58_56 ?_
    refine Y_gI (v := (F 18 6)) i_58_57 ow_58 lf_4_59 (by decide) (k_18 hG) rfl ?_
    exact Y_iret i_58_60 rt_58 h
  by_cases f1 : x1 = (-4)
  · replace h := h.2.1 f1
    refine Y_sw (t := 51) f1 i_58_1 (fun _ => rfl) rfl (fun _ => rfl) (fun _ => rfl) ?_
    refine Y_al0 i_58_51 ?_
    refine Y_gI (v := (F 18 5)) i_58_52 ow_58 lf_4_56 (by decide) (k_18 hG) rfl ?_
    exact Y_iret i_58_55 rt_58 h
  by_cases f2 : x1 = (-3)
  · replace h := h.2.2.1 f2
    refine Y_sw (t := 46) f2 i_58_1 (fun _ => rfl) rfl (fun _ => rfl) (fun _ => rfl) ?_
    refine Y_al0 i_58_46 ?_
    refine Y_gI (v := (F 18 4)) i_58_47 ow_58 lf_4_53 (by decide) (k_18 hG) rfl ?_
    exact Y_iret i_58_50 rt_58 h
  by_cases f3 : x1 = (-2)
  · replace h := h.2.2.2.1 f3
    refine Y_sw (t := 41) f3 i_58_1 (fun _ => rfl) rfl (fun _ => rfl) (fun _ => rfl) ?_
    refine Y_al0 i_58_41 ?_
    refine Y_gI (v := (F 18 3)) i_58_42 ow_58 lf_4_50 (by decide) (k_18 hG) rfl ?_
    exact Y_iret i_58_45 rt_58 h
  by_cases f4 : x1 = (-1)
  · replace h := h.2.2.2.2.1 f4
    refine Y_sw (t := 36) f4 i_58_1 (fun _ => rfl) rfl (fun _ => rfl) (fun _ => rfl) ?_
    refine Y_al0 i_58_36 ?_
    refine Y_gI (v := (F 18 2)) i_58_37 ow_58 lf_4_47 (by decide) (k_18 hG) rfl ?_
    exact Y_iret i_58_40 rt_58 h
  have eD : (x1 : Int32).toInt < -5 ∨ -1 < (x1 : Int32).toInt := by
    have q := ts_out (x := x1) (lo := -5) (n := 5) (by
      intro j hj
      have : j = 0 ∨ j = 1 ∨ j = 2 ∨ j = 3 ∨ j = 4 := by omega
      rcases this with rfl | rfl | rfl | rfl | rfl
      · exact ne_toInt f0 (by decide)
      · exact ne_toInt f1 (by decide)
      · exact ne_toInt f2 (by decide)
      · exact ne_toInt f3 (by decide)
      · exact ne_toInt f4 (by decide)
      )
    omega
  replace h := h.2.2.2.2.2 eD
  refine Y_tsD (t := 61) eD i_58_1 (by decide) ?_
  refine Y_al0 i_58_61 ?_
  refine Y_gI (v := (F 18 7)) i_58_62 ow_58 lf_4_62 (by decide) (k_18 hG) rfl ?_
  exact Y_iret i_58_65 rt_58 h
/- 59 Rule.result(III)I -/
theorem t_59_0 {d : Nat} {F A : Nat → Nat → Int32} {J : Nat → Nat → Int64} {G : pG} {Q : pR → pM → Prop} {SL p q : Nat} {x0 x1 x2 : Int32} (hG : Geo G SL p q) (h : ((x0 = (-14) → ((x1 = 0 → Q (.inl (some (.int 0))) (F, A, J, G)) ∧ (¬ x1 = 0 → ((x2 = 0 → Q (.inl (some (.int 0))) (F, A, J, G)) ∧ (¬ x2 = 0 → Q (.inl (some (.int 1))) (F, A, J, G)))))) ∧ (x0 = (-13) → ((x1 = x2 → Q (.inl (some (.int 1))) (F, A, J, G)) ∧ (¬ x1 = x2 → Q (.inl (some (.int 0))) (F, A, J, G)))) ∧ (x0 = (-12) → ((x1 < x2 → Q (.inl (some (.int 1))) (F, A, J, G)) ∧ (¬ x1 < x2 → Q (.inl (some (.int 0))) (F, A, J, G)))) ∧ (x0 = (-11) → ((x2 = 0 → Q (.inl (some (.int 0))) (F, A, J, G)) ∧ (¬ x2 = 0 → Q (.inl (some (.int (x1 / x2)))) (F, A, J, G)))) ∧ (x0 = (-10) → Q (.inl (some (.int (x1 * x2)))) (F, A, J, G)) ∧ (x0 = (-9) → Q (.inl (some (.int (x1 - x2)))) (F, A, J, G)) ∧ (x0 = (-8) → Q (.inl (some (.int (x1 + x2)))) (F, A, J, G)) ∧ (((x0 : Int32).toInt < -14 ∨ -8 < (x0 : Int32).toInt) → ((x1 = 0 → ((x2 = 0 → Q (.inl (some (.int 0))) (F, A, J, G)) ∧ (¬ x2 = 0 → Q (.inl (some (.int 1))) (F, A, J, G)))) ∧ (¬ x1 = 0 → Q (.inl (some (.int 1))) (F, A, J, G)))))) : X d 59 0 [.int x0, .int x1, .int x2] [] (F, A, J, G) Q := by
  refine Y_il0 i_59_0 ?_
  by_cases f0 : x0 = (-14)
  · replace h := h.1 f0
    refine Y_sw (t := 90) f0 i_59_1 (fun _ => rfl) rfl (fun _ => rfl) (fun _ => rfl) ?_
    refine Y_il1 i_59_90 ?_
    refine Y_zeq i_59_91 (fun e1 => ?_) (fun e1 => ?_)
    · replace h := h.1 e1
      refine Y_iconst (v := 0) i_59_102 (by decide) ?_
      exact Y_iret i_59_103 rt_59 h
    · replace h := h.2 e1
      refine Y_il2 i_59_94 ?_
      refine Y_zeq i_59_95 (fun e2 => ?_) (fun e2 => ?_)
      · replace h := h.1 e2
        refine Y_iconst (v := 0) i_59_102 (by decide) ?_
        exact Y_iret i_59_103 rt_59 h
      · replace h := h.2 e2
        refine Y_iconst (v := 1) i_59_98 (by decide) ?_
        refine Y_goto i_59_99 ?_
        exact Y_iret i_59_103 rt_59 h
  by_cases f1 : x0 = (-13)
  · replace h := h.2.1 f1
    refine Y_sw (t := 79) f1 i_59_1 (fun _ => rfl) rfl (fun _ => rfl) (fun _ => rfl) ?_
    refine Y_il1 i_59_79 ?_
    refine Y_il2 i_59_80 ?_
    refine Y_cne i_59_81 (fun e3 => ?_) (fun e3 => ?_)
    · replace h := h.1 e3
      refine Y_iconst (v := 1) i_59_84 (by decide) ?_
      refine Y_goto i_59_85 ?_
      exact Y_iret i_59_89 rt_59 h
    · replace h := h.2 e3
      refine Y_iconst (v := 0) i_59_88 (by decide) ?_
      exact Y_iret i_59_89 rt_59 h
  by_cases f2 : x0 = (-12)
  · replace h := h.2.2.1 f2
    refine Y_sw (t := 68) f2 i_59_1 (fun _ => rfl) rfl (fun _ => rfl) (fun _ => rfl) ?_
    refine Y_il1 i_59_68 ?_
    refine Y_il2 i_59_69 ?_
    refine Y_cge i_59_70 (fun e4 => ?_) (fun e4 => ?_)
    · replace h := h.1 e4
      refine Y_iconst (v := 1) i_59_73 (by decide) ?_
      refine Y_goto i_59_74 ?_
      exact Y_iret i_59_78 rt_59 h
    · replace h := h.2 e4
      refine Y_iconst (v := 0) i_59_77 (by decide) ?_
      exact Y_iret i_59_78 rt_59 h
  by_cases f3 : x0 = (-11)
  · replace h := h.2.2.2.1 f3
    refine Y_sw (t := 56) f3 i_59_1 (fun _ => rfl) rfl (fun _ => rfl) (fun _ => rfl) ?_
    refine Y_il2 i_59_56 ?_
    refine Y_zne i_59_57 (fun e5 => ?_) (fun e5 => ?_)
    · replace h := h.1 e5
      refine Y_iconst (v := 0) i_59_60 (by decide) ?_
      refine Y_goto i_59_61 ?_
      exact Y_iret i_59_67 rt_59 h
    · replace h := h.2 e5
      refine Y_il1 i_59_64 ?_
      refine Y_il2 i_59_65 ?_
      refine Y_idiv i_59_66 e5 ?_
      exact Y_iret i_59_67 rt_59 h
  by_cases f4 : x0 = (-10)
  · replace h := h.2.2.2.2.1 f4
    refine Y_sw (t := 52) f4 i_59_1 (fun _ => rfl) rfl (fun _ => rfl) (fun _ => rfl) ?_
    refine Y_il1 i_59_52 ?_
    refine Y_il2 i_59_53 ?_
    refine Y_imul i_59_54 ?_
    exact Y_iret i_59_55 rt_59 h
  by_cases f5 : x0 = (-9)
  · replace h := h.2.2.2.2.2.1 f5
    refine Y_sw (t := 48) f5 i_59_1 (fun _ => rfl) rfl (fun _ => rfl) (fun _ => rfl) ?_
    refine Y_il1 i_59_48 ?_
    refine Y_il2 i_59_49 ?_
    refine Y_isub i_59_50 ?_
    exact Y_iret i_59_51 rt_59 h
  by_cases f6 : x0 = (-8)
  · replace h := h.2.2.2.2.2.2.1 f6
    refine Y_sw (t := 44) f6 i_59_1 (fun _ => rfl) rfl (fun _ => rfl) (fun _ => rfl) ?_
    refine Y_il1 i_59_44 ?_
    refine Y_il2 i_59_45 ?_
    refine Y_iadd i_59_46 ?_
    exact Y_iret i_59_47 rt_59 h
  have eD : (x0 : Int32).toInt < -14 ∨ -8 < (x0 : Int32).toInt := by
    have q := ts_out (x := x0) (lo := -14) (n := 7) (by
      intro j hj
      have : j = 0 ∨ j = 1 ∨ j = 2 ∨ j = 3 ∨ j = 4 ∨ j = 5 ∨ j = 6 := by omega
      rcases this with rfl | rfl | rfl | rfl | rfl | rfl | rfl
      · exact ne_toInt f0 (by decide)
      · exact ne_toInt f1 (by decide)
      · exact ne_toInt f2 (by decide)
      · exact ne_toInt f3 (by decide)
      · exact ne_toInt f4 (by decide)
      · exact ne_toInt f5 (by decide)
      · exact ne_toInt f6 (by decide)
      )
    omega
  replace h := h.2.2.2.2.2.2.2 eD
  refine Y_tsD (t := 104) eD i_59_1 (by decide) ?_
  refine Y_il1 i_59_104 ?_
  refine Y_zne i_59_105 (fun e6 => ?_) (fun e6 => ?_)
  · replace h := h.1 e6
    refine Y_il2 i_59_108 ?_
    refine Y_zeq i_59_109 (fun e7 => ?_) (fun e7 => ?_)
    · replace h := h.1 e7
      refine Y_iconst (v := 0) i_59_116 (by decide) ?_
      exact Y_iret i_59_117 rt_59 h
    · replace h := h.2 e7
      refine Y_iconst (v := 1) i_59_112 (by decide) ?_
      refine Y_goto i_59_113 ?_
      exact Y_iret i_59_117 rt_59 h
  · replace h := h.2 e6
    refine Y_iconst (v := 1) i_59_112 (by decide) ?_
    refine Y_goto i_59_113 ?_
    exact Y_iret i_59_117 rt_59 h
/- 77 Tower.levelOf(I)I -/
theorem t_77_0 {d : Nat} {F A : Nat → Nat → Int32} {J : Nat → Nat → Int64} {G : pG} {Q : pR → pM → Prop} {SL p q : Nat} {t : Nat} {x1 : Int32} (hG : Geo G SL p q) (ht : Tw t) (h : X d 77 2 [.ref t, .int x1, .int 0] [] (F, A, J, G) Q) : X d 77 0 [.ref t, .int x1, .null] [] (F, A, J, G) Q := by
  refine Y_iconst (v := 0) i_77_0 (by decide) ?_
  refine Y_is2 i_77_1 rfl ?_
  exact h
theorem t_77_2 {d : Nat} {F A : Nat → Nat → Int32} {J : Nat → Nat → Int64} {G : pG} {Q : pR → pM → Prop} {SL p q : Nat} {t : Nat} {x1 x2 : Int32} (hG : Geo G SL p q) (ht : Tw t) (h : ((x2 < (F t 1) → inB x2 10 = true ∧ (((A (t + 1) x2.toNatClampNeg) = x1 → Q (.inl (some (.int x2))) (F, A, J, G)) ∧ (¬ (A (t + 1) x2.toNatClampNeg) = x1 → X d 77 2 [.ref t, .int x1, .int (x2 + 1)] [] (F, A, J, G) Q))) ∧ (¬ x2 < (F t 1) → Q (.inl (some (.int (-1)))) (F, A, J, G)))) : X d 77 2 [.ref t, .int x1, .int x2] [] (F, A, J, G) Q := by
  refine Y_il2 i_77_2 ?_
  refine Y_al0 i_77_3 ?_
  refine Y_gI (v := (F t 1)) i_77_4 ow_77 lf_6_37 (by decide) (kT0 hG ht) rfl ?_
  refine Y_cge i_77_7 (fun e1 => ?_) (fun e1 => ?_)
  · replace h := h.1 e1
    refine Y_al0 i_77_10 ?_
    refine Y_gR i_77_11 ow_77 lf_6_9 (kT0 hG ht) (rT4 hG ht) ?_
    refine Y_il2 i_77_14 ?_
    have o2 := h.1
    replace h := h.2
    refine Y_iaload (k := x2.toNatClampNeg) (v := (A (t + 1) x2.toNatClampNeg)) i_77_15 (kT1 hG ht) (lT1 hG ht) o2 rfl rfl ?_
    refine Y_il1 i_77_16 ?_
    refine Y_cne i_77_17 (fun e3 => ?_) (fun e3 => ?_)
    · replace h := h.1 e3
      refine Y_il2 i_77_20 ?_
      exact Y_iret i_77_21 rt_77 h
    · replace h := h.2 e3
      refine Y_ii2 (v := 1) i_77_22 (by decide) rfl ?_
      refine Y_goto i_77_25 ?_
      exact h
  · replace h := h.2 e1
    refine Y_iconst (v := (-1)) i_77_28 (by decide) ?_
    exact Y_iret i_77_29 rt_77 h
/- 78 Tower.inIt()I -/
theorem t_78_0 {d : Nat} {F A : Nat → Nat → Int32} {J : Nat → Nat → Int64} {G : pG} {Q : pR → pM → Prop} {SL p q : Nat} {t : Nat} (hG : Geo G SL p q) (ht : Tw t) (h : X d 78 4 [.ref t, .int 0, .int 0] [] (F, A, J, G) Q) : X d 78 0 [.ref t, .null, .null] [] (F, A, J, G) Q := by
  refine Y_iconst (v := 0) i_78_0 (by decide) ?_
  refine Y_is1 i_78_1 rfl ?_
  refine Y_iconst (v := 0) i_78_2 (by decide) ?_
  refine Y_is2 i_78_3 rfl ?_
  exact h
theorem t_78_4 {d : Nat} {F A : Nat → Nat → Int32} {J : Nat → Nat → Int64} {G : pG} {Q : pR → pM → Prop} {SL p q : Nat} {t : Nat} {x1 x2 : Int32} (hG : Geo G SL p q) (ht : Tw t) (h : ((x2 < (F t 1) → inB x2 10 = true ∧ (X d 78 4 [.ref t, .int (x1 ||| (1 <<< ((A (t + 1) x2.toNatClampNeg) &&& 31))), .int (x2 + 1)] [] (F, A, J, G) Q)) ∧ (¬ x2 < (F t 1) → Q (.inl (some (.int x1))) (F, A, J, G)))) : X d 78 4 [.ref t, .int x1, .int x2] [] (F, A, J, G) Q := by
  refine Y_il2 i_78_4 ?_
  refine Y_al0 i_78_5 ?_
  refine Y_gI (v := (F t 1)) i_78_6 ow_78 lf_6_37 (by decide) (kT0 hG ht) rfl ?_
  refine Y_cge i_78_9 (fun e1 => ?_) (fun e1 => ?_)
  · replace h := h.1 e1
    refine Y_il1 i_78_12 ?_
    refine Y_iconst (v := 1) i_78_13 (by decide) ?_
    refine Y_al0 i_78_14 ?_
    refine Y_gR i_78_15 ow_78 lf_6_9 (kT0 hG ht) (rT4 hG ht) ?_
    refine Y_il2 i_78_18 ?_
    have o2 := h.1
    replace h := h.2
    refine Y_iaload (k := x2.toNatClampNeg) (v := (A (t + 1) x2.toNatClampNeg)) i_78_19 (kT1 hG ht) (lT1 hG ht) o2 rfl rfl ?_
    refine Y_ishl i_78_20 ?_
    refine Y_ior i_78_21 ?_
    refine Y_is1 i_78_22 rfl ?_
    refine Y_ii2 (v := 1) i_78_23 (by decide) rfl ?_
    refine Y_goto i_78_26 ?_
    exact h
  · replace h := h.2 e1
    refine Y_il1 i_78_29 ?_
    exact Y_iret i_78_30 rt_78 h
/- 289 Integer.bitCount(I)I -/
theorem t_289_0 {d : Nat} {F A : Nat → Nat → Int32} {J : Nat → Nat → Int64} {G : pG} {Q : pR → pM → Prop} {SL p q : Nat} {x0 : Int32} (hG : Geo G SL p q) (h : Q (.inl (some (.int ((((((((x0 - ((jushr x0 1) &&& 1431655765)) &&& 858993459) + ((jushr (x0 - ((jushr x0 1) &&& 1431655765)) 2) &&& 858993459)) + (jushr (((x0 - ((jushr x0 1) &&& 1431655765)) &&& 858993459) + ((jushr (x0 - ((jushr x0 1) &&& 1431655765)) 2) &&& 858993459)) 4)) &&& 252645135) + (jushr (((((x0 - ((jushr x0 1) &&& 1431655765)) &&& 858993459) + ((jushr (x0 - ((jushr x0 1) &&& 1431655765)) 2) &&& 858993459)) + (jushr (((x0 - ((jushr x0 1) &&& 1431655765)) &&& 858993459) + ((jushr (x0 - ((jushr x0 1) &&& 1431655765)) 2) &&& 858993459)) 4)) &&& 252645135) 8)) + (jushr ((((((x0 - ((jushr x0 1) &&& 1431655765)) &&& 858993459) + ((jushr (x0 - ((jushr x0 1) &&& 1431655765)) 2) &&& 858993459)) + (jushr (((x0 - ((jushr x0 1) &&& 1431655765)) &&& 858993459) + ((jushr (x0 - ((jushr x0 1) &&& 1431655765)) 2) &&& 858993459)) 4)) &&& 252645135) + (jushr (((((x0 - ((jushr x0 1) &&& 1431655765)) &&& 858993459) + ((jushr (x0 - ((jushr x0 1) &&& 1431655765)) 2) &&& 858993459)) + (jushr (((x0 - ((jushr x0 1) &&& 1431655765)) &&& 858993459) + ((jushr (x0 - ((jushr x0 1) &&& 1431655765)) 2) &&& 858993459)) 4)) &&& 252645135) 8)) 16)) &&& 63)))) (F, A, J, G)) : X d 289 0 [.int x0] [] (F, A, J, G) Q := by
  refine Y_il0 i_289_0 ?_
  refine Y_il0 i_289_1 ?_
  refine Y_iconst (v := 1) i_289_2 (by decide) ?_
  refine Y_iushr i_289_3 ?_
  refine Y_ldcIw i_289_4 ow_289 li_26_265 ?_
  refine Y_iand i_289_7 ?_
  refine Y_isub i_289_8 ?_
  refine Y_is0 i_289_9 ?_
  refine Y_il0 i_289_10 ?_
  refine Y_ldcIw i_289_11 ow_289 li_26_266 ?_
  refine Y_iand i_289_14 ?_
  refine Y_il0 i_289_15 ?_
  refine Y_iconst (v := 2) i_289_16 (by decide) ?_
  refine Y_iushr i_289_17 ?_
  refine Y_ldcIw i_289_18 ow_289 li_26_266 ?_
  refine Y_iand i_289_21 ?_
  refine Y_iadd i_289_22 ?_
  refine Y_is0 i_289_23 ?_
  refine Y_il0 i_289_24 ?_
  refine Y_il0 i_289_25 ?_
  refine Y_iconst (v := 4) i_289_26 (by decide) ?_
  refine Y_iushr i_289_27 ?_
  refine Y_iadd i_289_28 ?_
  refine Y_ldcIw i_289_29 ow_289 li_26_267 ?_
  refine Y_iand i_289_32 ?_
  refine Y_is0 i_289_33 ?_
  refine Y_il0 i_289_34 ?_
  refine Y_il0 i_289_35 ?_
  refine Y_bipush (v := 8) i_289_36 (by decide) ?_
  refine Y_iushr i_289_38 ?_
  refine Y_iadd i_289_39 ?_
  refine Y_is0 i_289_40 ?_
  refine Y_il0 i_289_41 ?_
  refine Y_il0 i_289_42 ?_
  refine Y_bipush (v := 16) i_289_43 (by decide) ?_
  refine Y_iushr i_289_45 ?_
  refine Y_iadd i_289_46 ?_
  refine Y_is0 i_289_47 ?_
  refine Y_il0 i_289_48 ?_
  refine Y_bipush (v := 63) i_289_49 (by decide) ?_
  refine Y_iand i_289_51 ?_
  exact Y_iret i_289_52 rt_289 h
/- 50 Reader.isLetter(B)Z -/
theorem t_50_0 {d : Nat} {F A : Nat → Nat → Int32} {J : Nat → Nat → Int64} {G : pG} {Q : pR → pM → Prop} {SL p q : Nat} {x0 : Int32} (hG : Geo G SL p q) (h : ((x0 < 97 → Q (.inl (some (.int 0))) (F, A, J, G)) ∧ (¬ x0 < 97 → ((122 < x0 → Q (.inl (some (.int 0))) (F, A, J, G)) ∧ (¬ 122 < x0 → Q (.inl (some (.int 1))) (F, A, J, G)))))) : X d 50 0 [.int x0] [] (F, A, J, G) Q := by
  refine Y_il0 i_50_0 ?_
  refine Y_bipush (v := 97) i_50_1 (by decide) ?_
  refine Y_clt i_50_3 (fun e1 => ?_) (fun e1 => ?_)
  · replace h := h.1 e1
    refine Y_iconst (v := 0) i_50_16 (by decide) ?_
    exact Y_bret i_50_17 rt_50 (by decide) h
  · replace h := h.2 e1
    refine Y_il0 i_50_6 ?_
    refine Y_bipush (v := 122) i_50_7 (by decide) ?_
    refine Y_cgt i_50_9 (fun e2 => ?_) (fun e2 => ?_)
    · replace h := h.1 e2
      refine Y_iconst (v := 0) i_50_16 (by decide) ?_
      exact Y_bret i_50_17 rt_50 (by decide) h
    · replace h := h.2 e2
      refine Y_iconst (v := 1) i_50_12 (by decide) ?_
      refine Y_goto i_50_13 ?_
      exact Y_bret i_50_17 rt_50 (by decide) h
/- 51 Reader.isDigit(B)Z -/
theorem t_51_0 {d : Nat} {F A : Nat → Nat → Int32} {J : Nat → Nat → Int64} {G : pG} {Q : pR → pM → Prop} {SL p q : Nat} {x0 : Int32} (hG : Geo G SL p q) (h : ((x0 < 48 → Q (.inl (some (.int 0))) (F, A, J, G)) ∧ (¬ x0 < 48 → ((57 < x0 → Q (.inl (some (.int 0))) (F, A, J, G)) ∧ (¬ 57 < x0 → Q (.inl (some (.int 1))) (F, A, J, G)))))) : X d 51 0 [.int x0] [] (F, A, J, G) Q := by
  refine Y_il0 i_51_0 ?_
  refine Y_bipush (v := 48) i_51_1 (by decide) ?_
  refine Y_clt i_51_3 (fun e1 => ?_) (fun e1 => ?_)
  · replace h := h.1 e1
    refine Y_iconst (v := 0) i_51_16 (by decide) ?_
    exact Y_bret i_51_17 rt_51 (by decide) h
  · replace h := h.2 e1
    refine Y_il0 i_51_6 ?_
    refine Y_bipush (v := 57) i_51_7 (by decide) ?_
    refine Y_cgt i_51_9 (fun e2 => ?_) (fun e2 => ?_)
    · replace h := h.1 e2
      refine Y_iconst (v := 0) i_51_16 (by decide) ?_
      exact Y_bret i_51_17 rt_51 (by decide) h
    · replace h := h.2 e2
      refine Y_iconst (v := 1) i_51_12 (by decide) ?_
      refine Y_goto i_51_13 ?_
      exact Y_bret i_51_17 rt_51 (by decide) h
/- 178 Model.isIn(JJJ)Z -/
theorem t_178_0 {d : Nat} {F A : Nat → Nat → Int32} {J : Nat → Nat → Int64} {G : pG} {Q : pR → pM → Prop} {SL p q : Nat} {y0 y2 y4 : Int64} (hG : Geo G SL p q) (h : ((y0 < y2 → Q (.inl (some (.int 0))) (F, A, J, G)) ∧ (¬ y0 < y2 → ((y4 < y0 → Q (.inl (some (.int 0))) (F, A, J, G)) ∧ (¬ y4 < y0 → Q (.inl (some (.int 1))) (F, A, J, G)))))) : X d 178 0 [.long y0, .null, .long y2, .null, .long y4, .null] [] (F, A, J, G) Q := by
  refine Y_ll0 i_178_0 ?_
  refine Y_ll2 i_178_1 ?_
  refine Y_lcmp i_178_2 ?_
  refine Y_wlt i_178_3 (fun e1 => ?_) (fun e1 => ?_)
  · replace h := h.1 e1
    refine Y_iconst (v := 0) i_178_17 (by decide) ?_
    exact Y_bret i_178_18 rt_178 (by decide) h
  · replace h := h.2 e1
    refine Y_ll0 i_178_6 ?_
    refine Y_ll4 i_178_7 ?_
    refine Y_lcmp i_178_9 ?_
    refine Y_wgt i_178_10 (fun e2 => ?_) (fun e2 => ?_)
    · replace h := h.1 e2
      refine Y_iconst (v := 0) i_178_17 (by decide) ?_
      exact Y_bret i_178_18 rt_178 (by decide) h
    · replace h := h.2 e2
      refine Y_iconst (v := 1) i_178_13 (by decide) ?_
      refine Y_goto i_178_14 ?_
      exact Y_bret i_178_18 rt_178 (by decide) h
/- 179 Model.isOf(II)Z -/
theorem t_179_0 {d : Nat} {F A : Nat → Nat → Int32} {J : Nat → Nat → Int64} {G : pG} {Q : pR → pM → Prop} {SL p q : Nat} {x0 x1 : Int32} (hG : Geo G SL p q) (h : ((((x0 >>> (x1 &&& 31)) &&& 1) = 1 → Q (.inl (some (.int 1))) (F, A, J, G)) ∧ (¬ ((x0 >>> (x1 &&& 31)) &&& 1) = 1 → Q (.inl (some (.int 0))) (F, A, J, G)))) : X d 179 0 [.int x0, .int x1] [] (F, A, J, G) Q := by
  refine Y_il0 i_179_0 ?_
  refine Y_il1 i_179_1 ?_
  refine Y_ishr i_179_2 ?_
  refine Y_iconst (v := 1) i_179_3 (by decide) ?_
  refine Y_iand i_179_4 ?_
  refine Y_iconst (v := 1) i_179_5 (by decide) ?_
  refine Y_cne i_179_6 (fun e1 => ?_) (fun e1 => ?_)
  · replace h := h.1 e1
    refine Y_iconst (v := 1) i_179_9 (by decide) ?_
    refine Y_goto i_179_10 ?_
    exact Y_bret i_179_14 rt_179 (by decide) h
  · replace h := h.2 e1
    refine Y_iconst (v := 0) i_179_13 (by decide) ?_
    exact Y_bret i_179_14 rt_179 (by decide) h
/- 184 Model.isLetter(I)Z -/
theorem t_184_0 {d : Nat} {F A : Nat → Nat → Int32} {J : Nat → Nat → Int64} {G : pG} {Q : pR → pM → Prop} {SL p q : Nat} {x0 : Int32} (hG : Geo G SL p q) (h : ((x0 < 97 → Q (.inl (some (.int 0))) (F, A, J, G)) ∧ (¬ x0 < 97 → ((122 < x0 → Q (.inl (some (.int 0))) (F, A, J, G)) ∧ (¬ 122 < x0 → Q (.inl (some (.int 1))) (F, A, J, G)))))) : X d 184 0 [.int x0] [] (F, A, J, G) Q := by
  refine Y_il0 i_184_0 ?_
  refine Y_bipush (v := 97) i_184_1 (by decide) ?_
  refine Y_clt i_184_3 (fun e1 => ?_) (fun e1 => ?_)
  · replace h := h.1 e1
    refine Y_iconst (v := 0) i_184_16 (by decide) ?_
    exact Y_bret i_184_17 rt_184 (by decide) h
  · replace h := h.2 e1
    refine Y_il0 i_184_6 ?_
    refine Y_bipush (v := 122) i_184_7 (by decide) ?_
    refine Y_cgt i_184_9 (fun e2 => ?_) (fun e2 => ?_)
    · replace h := h.1 e2
      refine Y_iconst (v := 0) i_184_16 (by decide) ?_
      exact Y_bret i_184_17 rt_184 (by decide) h
    · replace h := h.2 e2
      refine Y_iconst (v := 1) i_184_12 (by decide) ?_
      refine Y_goto i_184_13 ?_
      exact Y_bret i_184_17 rt_184 (by decide) h
/- 185 Model.isDigit(I)Z -/
theorem t_185_0 {d : Nat} {F A : Nat → Nat → Int32} {J : Nat → Nat → Int64} {G : pG} {Q : pR → pM → Prop} {SL p q : Nat} {x0 : Int32} (hG : Geo G SL p q) (h : ((x0 < 48 → Q (.inl (some (.int 0))) (F, A, J, G)) ∧ (¬ x0 < 48 → ((57 < x0 → Q (.inl (some (.int 0))) (F, A, J, G)) ∧ (¬ 57 < x0 → Q (.inl (some (.int 1))) (F, A, J, G)))))) : X d 185 0 [.int x0] [] (F, A, J, G) Q := by
  refine Y_il0 i_185_0 ?_
  refine Y_bipush (v := 48) i_185_1 (by decide) ?_
  refine Y_clt i_185_3 (fun e1 => ?_) (fun e1 => ?_)
  · replace h := h.1 e1
    refine Y_iconst (v := 0) i_185_16 (by decide) ?_
    exact Y_bret i_185_17 rt_185 (by decide) h
  · replace h := h.2 e1
    refine Y_il0 i_185_6 ?_
    refine Y_bipush (v := 57) i_185_7 (by decide) ?_
    refine Y_cgt i_185_9 (fun e2 => ?_) (fun e2 => ?_)
    · replace h := h.1 e2
      refine Y_iconst (v := 0) i_185_16 (by decide) ?_
      exact Y_bret i_185_17 rt_185 (by decide) h
    · replace h := h.2 e2
      refine Y_iconst (v := 1) i_185_12 (by decide) ?_
      refine Y_goto i_185_13 ?_
      exact Y_bret i_185_17 rt_185 (by decide) h
/- 186 Model.isMark(I)Z -/
theorem t_186_0 {d : Nat} {F A : Nat → Nat → Int32} {J : Nat → Nat → Int64} {G : pG} {Q : pR → pM → Prop} {SL p q : Nat} {x0 : Int32} (hG : Geo G SL p q) (h : ((x0 = 59 → Q (.inl (some (.int 1))) (F, A, J, G)) ∧ (¬ x0 = 59 → ((x0 = 40 → Q (.inl (some (.int 1))) (F, A, J, G)) ∧ (¬ x0 = 40 → ((x0 = 41 → Q (.inl (some (.int 1))) (F, A, J, G)) ∧ (¬ x0 = 41 → ((x0 = 43 → Q (.inl (some (.int 1))) (F, A, J, G)) ∧ (¬ x0 = 43 → ((x0 = 45 → Q (.inl (some (.int 1))) (F, A, J, G)) ∧ (¬ x0 = 45 → ((x0 = 42 → Q (.inl (some (.int 1))) (F, A, J, G)) ∧ (¬ x0 = 42 → ((x0 = 47 → Q (.inl (some (.int 1))) (F, A, J, G)) ∧ (¬ x0 = 47 → ((x0 = 60 → Q (.inl (some (.int 1))) (F, A, J, G)) ∧ (¬ x0 = 60 → ((x0 = 61 → Q (.inl (some (.int 1))) (F, A, J, G)) ∧ (¬ x0 = 61 → Q (.inl (some (.int 0))) (F, A, J, G)))))))))))))))))))) : X d 186 0 [.int x0] [] (F, A, J, G) Q := by
  refine Y_il0 i_186_0 ?_
  refine Y_bipush (v := 59) i_186_1 (by decide) ?_
  refine Y_ceq i_186_3 (fun e1 => ?_) (fun e1 => ?_)
  · replace h := h.1 e1
    refine Y_iconst (v := 1) i_186_54 (by decide) ?_
    refine Y_goto i_186_55 ?_
    exact Y_bret i_186_59 rt_186 (by decide) h
  · replace h := h.2 e1
    refine Y_il0 i_186_6 ?_
    refine Y_bipush (v := 40) i_186_7 (by decide) ?_
    refine Y_ceq i_186_9 (fun e2 => ?_) (fun e2 => ?_)
    · replace h := h.1 e2
      refine Y_iconst (v := 1) i_186_54 (by decide) ?_
      refine Y_goto i_186_55 ?_
      exact Y_bret i_186_59 rt_186 (by decide) h
    · replace h := h.2 e2
      refine Y_il0 i_186_12 ?_
      refine Y_bipush (v := 41) i_186_13 (by decide) ?_
      refine Y_ceq i_186_15 (fun e3 => ?_) (fun e3 => ?_)
      · replace h := h.1 e3
        refine Y_iconst (v := 1) i_186_54 (by decide) ?_
        refine Y_goto i_186_55 ?_
        exact Y_bret i_186_59 rt_186 (by decide) h
      · replace h := h.2 e3
        refine Y_il0 i_186_18 ?_
        refine Y_bipush (v := 43) i_186_19 (by decide) ?_
        refine Y_ceq i_186_21 (fun e4 => ?_) (fun e4 => ?_)
        · replace h := h.1 e4
          refine Y_iconst (v := 1) i_186_54 (by decide) ?_
          refine Y_goto i_186_55 ?_
          exact Y_bret i_186_59 rt_186 (by decide) h
        · replace h := h.2 e4
          refine Y_il0 i_186_24 ?_
          refine Y_bipush (v := 45) i_186_25 (by decide) ?_
          refine Y_ceq i_186_27 (fun e5 => ?_) (fun e5 => ?_)
          · replace h := h.1 e5
            refine Y_iconst (v := 1) i_186_54 (by decide) ?_
            refine Y_goto i_186_55 ?_
            exact Y_bret i_186_59 rt_186 (by decide) h
          · replace h := h.2 e5
            refine Y_il0 i_186_30 ?_
            refine Y_bipush (v := 42) i_186_31 (by decide) ?_
            refine Y_ceq i_186_33 (fun e6 => ?_) (fun e6 => ?_)
            · replace h := h.1 e6
              refine Y_iconst (v := 1) i_186_54 (by decide) ?_
              refine Y_goto i_186_55 ?_
              exact Y_bret i_186_59 rt_186 (by decide) h
            · replace h := h.2 e6
              refine Y_il0 i_186_36 ?_
              refine Y_bipush (v := 47) i_186_37 (by decide) ?_
              refine Y_ceq i_186_39 (fun e7 => ?_) (fun e7 => ?_)
              · replace h := h.1 e7
                refine Y_iconst (v := 1) i_186_54 (by decide) ?_
                refine Y_goto i_186_55 ?_
                exact Y_bret i_186_59 rt_186 (by decide) h
              · replace h := h.2 e7
                refine Y_il0 i_186_42 ?_
                refine Y_bipush (v := 60) i_186_43 (by decide) ?_
                refine Y_ceq i_186_45 (fun e8 => ?_) (fun e8 => ?_)
                · replace h := h.1 e8
                  refine Y_iconst (v := 1) i_186_54 (by decide) ?_
                  refine Y_goto i_186_55 ?_
                  exact Y_bret i_186_59 rt_186 (by decide) h
                · replace h := h.2 e8
                  refine Y_il0 i_186_48 ?_
                  refine Y_bipush (v := 61) i_186_49 (by decide) ?_
                  refine Y_cne i_186_51 (fun e9 => ?_) (fun e9 => ?_)
                  · replace h := h.1 e9
                    refine Y_iconst (v := 1) i_186_54 (by decide) ?_
                    refine Y_goto i_186_55 ?_
                    exact Y_bret i_186_59 rt_186 (by decide) h
                  · replace h := h.2 e9
                    refine Y_iconst (v := 0) i_186_58 (by decide) ?_
                    exact Y_bret i_186_59 rt_186 (by decide) h
/- 183 Model.byteAt(I)I -/
theorem t_183_0 {d : Nat} {F A : Nat → Nat → Int32} {J : Nat → Nat → Int64} {G : pG} {Q : pR → pM → Prop} {SL p q : Nat} {x1 : Int32} (hG : Geo G SL p q) (h : ((x1 < (F 68 15) → inB x1 600 = true ∧ (Q (.inl (some (.int (A 80 x1.toNatClampNeg)))) (F, A, J, G))) ∧ (¬ x1 < (F 68 15) → Q (.inl (some (.int (-1)))) (F, A, J, G)))) : X d 183 0 [.ref 68, .int x1] [] (F, A, J, G) Q := by
  refine Y_il1 i_183_0 ?_
  refine Y_al0 i_183_1 ?_
  refine Y_gI (v := (F 68 15)) i_183_2 ow_183 lf_10_156 (by decide) (k_68 hG) rfl ?_
  refine Y_cge i_183_5 (fun e1 => ?_) (fun e1 => ?_)
  · replace h := h.1 e1
    refine Y_al0 i_183_8 ?_
    refine Y_gR i_183_9 ow_183 lf_10_63 (k_68 hG) (r_68_12 hG) ?_
    refine Y_il1 i_183_12 ?_
    have o2 := h.1
    replace h := h.2
    refine Y_iaload (k := x1.toNatClampNeg) (v := (A 80 x1.toNatClampNeg)) i_183_13 (k_80 hG) (l_80 hG) o2 rfl rfl ?_
    refine Y_goto i_183_14 ?_
    exact Y_iret i_183_18 rt_183 h
  · replace h := h.2 e1
    refine Y_iconst (v := (-1)) i_183_17 (by decide) ?_
    exact Y_iret i_183_18 rt_183 h
/- 210 Model.worm(I)I -/
theorem t_210_0 {d : Nat} {F A : Nat → Nat → Int32} {J : Nat → Nat → Int64} {G : pG} {Q : pR → pM → Prop} {SL p q : Nat} {x1 : Int32} (hG : Geo G SL p q) (h : inB x1 20 = true ∧ inB (A 73 x1.toNatClampNeg) 4 = true ∧ (Q (.inl (some (.int ((A 71 (A 73 x1.toNatClampNeg).toNatClampNeg) * (F 68 29))))) (F, A, J, G))) : X d 210 0 [.ref 68, .int x1] [] (F, A, J, G) Q := by
  refine Y_al0 i_210_0 ?_
  refine Y_gR i_210_1 ow_210 lf_10_38 (k_68 hG) (r_68_2 hG) ?_
  refine Y_al0 i_210_4 ?_
  refine Y_gR i_210_5 ow_210 lf_10_45 (k_68 hG) (r_68_5 hG) ?_
  refine Y_il1 i_210_8 ?_
  have o1 := h.1
  replace h := h.2
  refine Y_iaload (k := x1.toNatClampNeg) (v := (A 73 x1.toNatClampNeg)) i_210_9 (k_73 hG) (l_73 hG) o1 rfl rfl ?_
  have o2 := h.1
  replace h := h.2
  refine Y_iaload (k := (A 73 x1.toNatClampNeg).toNatClampNeg) (v := (A 71 (A 73 x1.toNatClampNeg).toNatClampNeg)) i_210_10 (k_71 hG) (l_71 hG) o2 rfl rfl ?_
  refine Y_al0 i_210_11 ?_
  refine Y_gI (v := (F 68 29)) i_210_12 ow_210 lf_10_282 (by decide) (k_68 hG) rfl ?_
  refine Y_imul i_210_15 ?_
  exact Y_iret i_210_16 rt_210 h
/- 236 Model.reckon(III)I -/
theorem t_236_0 {d : Nat} {F A : Nat → Nat → Int32} {J : Nat → Nat → Int64} {G : pG} {Q : pR → pM → Prop} {SL p q : Nat} {x0 x1 x2 : Int32} (hG : Geo G SL p q) (h : ((x0 = (-26) → ((x1 = 0 → Q (.inl (some (.int 0))) (F, A, J, G)) ∧ (¬ x1 = 0 → ((x2 = 0 → Q (.inl (some (.int 0))) (F, A, J, G)) ∧ (¬ x2 = 0 → Q (.inl (some (.int 1))) (F, A, J, G)))))) ∧ (x0 = (-25) → ((x1 = x2 → Q (.inl (some (.int 1))) (F, A, J, G)) ∧ (¬ x1 = x2 → Q (.inl (some (.int 0))) (F, A, J, G)))) ∧ (x0 = (-24) → ((x1 < x2 → Q (.inl (some (.int 1))) (F, A, J, G)) ∧ (¬ x1 < x2 → Q (.inl (some (.int 0))) (F, A, J, G)))) ∧ (x0 = (-23) → ((x2 = 0 → Q (.inl (some (.int 0))) (F, A, J, G)) ∧ (¬ x2 = 0 → Q (.inl (some (.int (x1 / x2)))) (F, A, J, G)))) ∧ (x0 = (-22) → Q (.inl (some (.int (x1 * x2)))) (F, A, J, G)) ∧ (x0 = (-21) → Q (.inl (some (.int (x1 - x2)))) (F, A, J, G)) ∧ (x0 = (-20) → Q (.inl (some (.int (x1 + x2)))) (F, A, J, G)) ∧ (((x0 : Int32).toInt < -26 ∨ -20 < (x0 : Int32).toInt) → ((x1 = 0 → ((x2 = 0 → Q (.inl (some (.int 0))) (F, A, J, G)) ∧ (¬ x2 = 0 → Q (.inl (some (.int 1))) (F, A, J, G)))) ∧ (¬ x1 = 0 → Q (.inl (some (.int 1))) (F, A, J, G)))))) : X d 236 0 [.int x0, .int x1, .int x2] [] (F, A, J, G) Q := by
  refine Y_il0 i_236_0 ?_
  by_cases f0 : x0 = (-26)
  · replace h := h.1 f0
    refine Y_sw (t := 90) f0 i_236_1 (fun _ => rfl) rfl (fun _ => rfl) (fun _ => rfl) ?_
    refine Y_il1 i_236_90 ?_
    refine Y_zeq i_236_91 (fun e1 => ?_) (fun e1 => ?_)
    · replace h := h.1 e1
      refine Y_iconst (v := 0) i_236_102 (by decide) ?_
      exact Y_iret i_236_103 rt_236 h
    · replace h := h.2 e1
      refine Y_il2 i_236_94 ?_
      refine Y_zeq i_236_95 (fun e2 => ?_) (fun e2 => ?_)
      · replace h := h.1 e2
        refine Y_iconst (v := 0) i_236_102 (by decide) ?_
        exact Y_iret i_236_103 rt_236 h
      · replace h := h.2 e2
        refine Y_iconst (v := 1) i_236_98 (by decide) ?_
        refine Y_goto i_236_99 ?_
        exact Y_iret i_236_103 rt_236 h
  by_cases f1 : x0 = (-25)
  · replace h := h.2.1 f1
    refine Y_sw (t := 79) f1 i_236_1 (fun _ => rfl) rfl (fun _ => rfl) (fun _ => rfl) ?_
    refine Y_il1 i_236_79 ?_
    refine Y_il2 i_236_80 ?_
    refine Y_cne i_236_81 (fun e3 => ?_) (fun e3 => ?_)
    · replace h := h.1 e3
      refine Y_iconst (v := 1) i_236_84 (by decide) ?_
      refine Y_goto i_236_85 ?_
      exact Y_iret i_236_89 rt_236 h
    · replace h := h.2 e3
      refine Y_iconst (v := 0) i_236_88 (by decide) ?_
      exact Y_iret i_236_89 rt_236 h
  by_cases f2 : x0 = (-24)
  · replace h := h.2.2.1 f2
    refine Y_sw (t := 68) f2 i_236_1 (fun _ => rfl) rfl (fun _ => rfl) (fun _ => rfl) ?_
    refine Y_il1 i_236_68 ?_
    refine Y_il2 i_236_69 ?_
    refine Y_cge i_236_70 (fun e4 => ?_) (fun e4 => ?_)
    · replace h := h.1 e4
      refine Y_iconst (v := 1) i_236_73 (by decide) ?_
      refine Y_goto i_236_74 ?_
      exact Y_iret i_236_78 rt_236 h
    · replace h := h.2 e4
      refine Y_iconst (v := 0) i_236_77 (by decide) ?_
      exact Y_iret i_236_78 rt_236 h
  by_cases f3 : x0 = (-23)
  · replace h := h.2.2.2.1 f3
    refine Y_sw (t := 56) f3 i_236_1 (fun _ => rfl) rfl (fun _ => rfl) (fun _ => rfl) ?_
    refine Y_il2 i_236_56 ?_
    refine Y_zne i_236_57 (fun e5 => ?_) (fun e5 => ?_)
    · replace h := h.1 e5
      refine Y_iconst (v := 0) i_236_60 (by decide) ?_
      refine Y_goto i_236_61 ?_
      exact Y_iret i_236_67 rt_236 h
    · replace h := h.2 e5
      refine Y_il1 i_236_64 ?_
      refine Y_il2 i_236_65 ?_
      refine Y_idiv i_236_66 e5 ?_
      exact Y_iret i_236_67 rt_236 h
  by_cases f4 : x0 = (-22)
  · replace h := h.2.2.2.2.1 f4
    refine Y_sw (t := 52) f4 i_236_1 (fun _ => rfl) rfl (fun _ => rfl) (fun _ => rfl) ?_
    refine Y_il1 i_236_52 ?_
    refine Y_il2 i_236_53 ?_
    refine Y_imul i_236_54 ?_
    exact Y_iret i_236_55 rt_236 h
  by_cases f5 : x0 = (-21)
  · replace h := h.2.2.2.2.2.1 f5
    refine Y_sw (t := 48) f5 i_236_1 (fun _ => rfl) rfl (fun _ => rfl) (fun _ => rfl) ?_
    refine Y_il1 i_236_48 ?_
    refine Y_il2 i_236_49 ?_
    refine Y_isub i_236_50 ?_
    exact Y_iret i_236_51 rt_236 h
  by_cases f6 : x0 = (-20)
  · replace h := h.2.2.2.2.2.2.1 f6
    refine Y_sw (t := 44) f6 i_236_1 (fun _ => rfl) rfl (fun _ => rfl) (fun _ => rfl) ?_
    refine Y_il1 i_236_44 ?_
    refine Y_il2 i_236_45 ?_
    refine Y_iadd i_236_46 ?_
    exact Y_iret i_236_47 rt_236 h
  have eD : (x0 : Int32).toInt < -26 ∨ -20 < (x0 : Int32).toInt := by
    have q := ts_out (x := x0) (lo := -26) (n := 7) (by
      intro j hj
      have : j = 0 ∨ j = 1 ∨ j = 2 ∨ j = 3 ∨ j = 4 ∨ j = 5 ∨ j = 6 := by omega
      rcases this with rfl | rfl | rfl | rfl | rfl | rfl | rfl
      · exact ne_toInt f0 (by decide)
      · exact ne_toInt f1 (by decide)
      · exact ne_toInt f2 (by decide)
      · exact ne_toInt f3 (by decide)
      · exact ne_toInt f4 (by decide)
      · exact ne_toInt f5 (by decide)
      · exact ne_toInt f6 (by decide)
      )
    omega
  replace h := h.2.2.2.2.2.2.2 eD
  refine Y_tsD (t := 104) eD i_236_1 (by decide) ?_
  refine Y_il1 i_236_104 ?_
  refine Y_zne i_236_105 (fun e6 => ?_) (fun e6 => ?_)
  · replace h := h.1 e6
    refine Y_il2 i_236_108 ?_
    refine Y_zeq i_236_109 (fun e7 => ?_) (fun e7 => ?_)
    · replace h := h.1 e7
      refine Y_iconst (v := 0) i_236_116 (by decide) ?_
      exact Y_iret i_236_117 rt_236 h
    · replace h := h.2 e7
      refine Y_iconst (v := 1) i_236_112 (by decide) ?_
      refine Y_goto i_236_113 ?_
      exact Y_iret i_236_117 rt_236 h
  · replace h := h.2 e6
    refine Y_iconst (v := 1) i_236_112 (by decide) ?_
    refine Y_goto i_236_113 ?_
    exact Y_iret i_236_117 rt_236 h
/- 209 Model.levelOf(I)I -/
theorem t_209_0 {d : Nat} {F A : Nat → Nat → Int32} {J : Nat → Nat → Int64} {G : pG} {Q : pR → pM → Prop} {SL p q : Nat} {x1 : Int32} (hG : Geo G SL p q) (h : X d 209 2 [.ref 68, .int x1, .int 0] [] (F, A, J, G) Q) : X d 209 0 [.ref 68, .int x1, .null] [] (F, A, J, G) Q := by
  refine Y_iconst (v := 0) i_209_0 (by decide) ?_
  refine Y_is2 i_209_1 rfl ?_
  exact h
theorem t_209_2 {d : Nat} {F A : Nat → Nat → Int32} {J : Nat → Nat → Int64} {G : pG} {Q : pR → pM → Prop} {SL p q : Nat} {x1 x2 : Int32} (hG : Geo G SL p q) (h : ((x2 < (F 68 28) → inB x2 10 = true ∧ (((A 81 x2.toNatClampNeg) = x1 → Q (.inl (some (.int x2))) (F, A, J, G)) ∧ (¬ (A 81 x2.toNatClampNeg) = x1 → X d 209 2 [.ref 68, .int x1, .int (x2 + 1)] [] (F, A, J, G) Q))) ∧ (¬ x2 < (F 68 28) → Q (.inl (some (.int (-1)))) (F, A, J, G)))) : X d 209 2 [.ref 68, .int x1, .int x2] [] (F, A, J, G) Q := by
  refine Y_il2 i_209_2 ?_
  refine Y_al0 i_209_3 ?_
  refine Y_gI (v := (F 68 28)) i_209_4 ow_209 lf_10_150 (by decide) (k_68 hG) rfl ?_
  refine Y_cge i_209_7 (fun e1 => ?_) (fun e1 => ?_)
  · replace h := h.1 e1
    refine Y_al0 i_209_10 ?_
    refine Y_gR i_209_11 ow_209 lf_10_70 (k_68 hG) (r_68_23 hG) ?_
    refine Y_il2 i_209_14 ?_
    have o2 := h.1
    replace h := h.2
    refine Y_iaload (k := x2.toNatClampNeg) (v := (A 81 x2.toNatClampNeg)) i_209_15 (k_81 hG) (l_81 hG) o2 rfl rfl ?_
    refine Y_il1 i_209_16 ?_
    refine Y_cne i_209_17 (fun e3 => ?_) (fun e3 => ?_)
    · replace h := h.1 e3
      refine Y_il2 i_209_20 ?_
      exact Y_iret i_209_21 rt_209 h
    · replace h := h.2 e3
      refine Y_ii2 (v := 1) i_209_22 (by decide) rfl ?_
      refine Y_goto i_209_25 ?_
      exact h
  · replace h := h.2 e1
    refine Y_iconst (v := (-1)) i_209_28 (by decide) ?_
    exact Y_iret i_209_29 rt_209 h
/- 221 Model.inTower()I -/
theorem t_221_0 {d : Nat} {F A : Nat → Nat → Int32} {J : Nat → Nat → Int64} {G : pG} {Q : pR → pM → Prop} {SL p q : Nat} (hG : Geo G SL p q) (h : X d 221 4 [.ref 68, .int 0, .int 0] [] (F, A, J, G) Q) : X d 221 0 [.ref 68, .null, .null] [] (F, A, J, G) Q := by
  refine Y_iconst (v := 0) i_221_0 (by decide) ?_
  refine Y_is1 i_221_1 rfl ?_
  refine Y_iconst (v := 0) i_221_2 (by decide) ?_
  refine Y_is2 i_221_3 rfl ?_
  exact h
theorem t_221_4 {d : Nat} {F A : Nat → Nat → Int32} {J : Nat → Nat → Int64} {G : pG} {Q : pR → pM → Prop} {SL p q : Nat} {x1 x2 : Int32} (hG : Geo G SL p q) (h : ((x2 < (F 68 28) → inB x2 10 = true ∧ (X d 221 4 [.ref 68, .int (x1 ||| (1 <<< ((A 81 x2.toNatClampNeg) &&& 31))), .int (x2 + 1)] [] (F, A, J, G) Q)) ∧ (¬ x2 < (F 68 28) → Q (.inl (some (.int x1))) (F, A, J, G)))) : X d 221 4 [.ref 68, .int x1, .int x2] [] (F, A, J, G) Q := by
  refine Y_il2 i_221_4 ?_
  refine Y_al0 i_221_5 ?_
  refine Y_gI (v := (F 68 28)) i_221_6 ow_221 lf_10_150 (by decide) (k_68 hG) rfl ?_
  refine Y_cge i_221_9 (fun e1 => ?_) (fun e1 => ?_)
  · replace h := h.1 e1
    refine Y_il1 i_221_12 ?_
    refine Y_iconst (v := 1) i_221_13 (by decide) ?_
    refine Y_al0 i_221_14 ?_
    refine Y_gR i_221_15 ow_221 lf_10_70 (k_68 hG) (r_68_23 hG) ?_
    refine Y_il2 i_221_18 ?_
    have o2 := h.1
    replace h := h.2
    refine Y_iaload (k := x2.toNatClampNeg) (v := (A 81 x2.toNatClampNeg)) i_221_19 (k_81 hG) (l_81 hG) o2 rfl rfl ?_
    refine Y_ishl i_221_20 ?_
    refine Y_ior i_221_21 ?_
    refine Y_is1 i_221_22 rfl ?_
    refine Y_ii2 (v := 1) i_221_23 (by decide) rfl ?_
    refine Y_goto i_221_26 ?_
    exact h
  · replace h := h.2 e1
    refine Y_il1 i_221_29 ?_
    exact Y_iret i_221_30 rt_221 h
/- 245 Model.bitsOf(I)I -/
theorem t_245_0 {d : Nat} {F A : Nat → Nat → Int32} {J : Nat → Nat → Int64} {G : pG} {Q : pR → pM → Prop} {SL p q : Nat} {x0 : Int32} (hG : Geo G SL p q) (h : X d 245 4 [.int x0, .int 0, .int x0] [] (F, A, J, G) Q) : X d 245 0 [.int x0, .null, .null] [] (F, A, J, G) Q := by
  refine Y_iconst (v := 0) i_245_0 (by decide) ?_
  refine Y_is1 i_245_1 rfl ?_
  refine Y_il0 i_245_2 ?_
  refine Y_is2 i_245_3 rfl ?_
  exact h
theorem t_245_4 {d : Nat} {F A : Nat → Nat → Int32} {J : Nat → Nat → Int64} {G : pG} {Q : pR → pM → Prop} {SL p q : Nat} {x0 x1 x2 : Int32} (hG : Geo G SL p q) (h : ((x2 = 0 → Q (.inl (some (.int x1))) (F, A, J, G)) ∧ (¬ x2 = 0 → X d 245 4 [.int x0, .int (x1 + 1), .int (x2 &&& (x2 - 1))] [] (F, A, J, G) Q))) : X d 245 4 [.int x0, .int x1, .int x2] [] (F, A, J, G) Q := by
  refine Y_il2 i_245_4 ?_
  refine Y_zeq i_245_5 (fun e1 => ?_) (fun e1 => ?_)
  · replace h := h.1 e1
    refine Y_il1 i_245_20 ?_
    exact Y_iret i_245_21 rt_245 h
  · replace h := h.2 e1
    refine Y_ii1 (v := 1) i_245_8 (by decide) rfl ?_
    refine Y_il2 i_245_11 ?_
    refine Y_il2 i_245_12 ?_
    refine Y_iconst (v := 1) i_245_13 (by decide) ?_
    refine Y_isub i_245_14 ?_
    refine Y_iand i_245_15 ?_
    refine Y_is2 i_245_16 rfl ?_
    refine Y_goto i_245_17 ?_
    exact h
/- 212 Model.turns(I)I -/
theorem t_212_0 {d : Nat} {F A : Nat → Nat → Int32} {J : Nat → Nat → Int64} {G : pG} {Q : pR → pM → Prop} {SL p q : Nat} {x1 : Int32} (hG : Geo G SL p q) (h : inB x1 20 = true ∧ (((A 73 x1.toNatClampNeg) = 3 → inB x1 10 = true ∧ (Q (.inl (some (.int (2 * ((A 84 x1.toNatClampNeg) + (A 83 x1.toNatClampNeg)))))) (F, A, J, G))) ∧ (¬ (A 73 x1.toNatClampNeg) = 3 → inB x1 10 = true ∧ (Q (.inl (some (.int ((A 84 x1.toNatClampNeg) + (A 83 x1.toNatClampNeg))))) (F, A, J, G))))) : X d 212 0 [.ref 68, .int x1] [] (F, A, J, G) Q := by
  refine Y_al0 i_212_0 ?_
  refine Y_gR i_212_1 ow_212 lf_10_45 (k_68 hG) (r_68_5 hG) ?_
  refine Y_il1 i_212_4 ?_
  have o1 := h.1
  replace h := h.2
  refine Y_iaload (k := x1.toNatClampNeg) (v := (A 73 x1.toNatClampNeg)) i_212_5 (k_73 hG) (l_73 hG) o1 rfl rfl ?_
  refine Y_iconst (v := 3) i_212_6 (by decide) ?_
  refine Y_cne i_212_7 (fun e2 => ?_) (fun e2 => ?_)
  · replace h := h.1 e2
    refine Y_iconst (v := 2) i_212_10 (by decide) ?_
    refine Y_al0 i_212_11 ?_
    refine Y_gR i_212_12 ow_212 lf_10_79 (k_68 hG) (r_68_26 hG) ?_
    refine Y_il1 i_212_15 ?_
    have o3 := h.1
    replace h := h.2
    refine Y_iaload (k := x1.toNatClampNeg) (v := (A 84 x1.toNatClampNeg)) i_212_16 (k_84 hG) (l_84 hG) o3 rfl rfl ?_
    refine Y_al0 i_212_17 ?_
    refine Y_gR i_212_18 ow_212 lf_10_76 (k_68 hG) (r_68_25 hG) ?_
    refine Y_il1 i_212_21 ?_
    refine Y_iaload (k := x1.toNatClampNeg) (v := (A 83 x1.toNatClampNeg)) i_212_22 (k_83 hG) (l_83 hG) o3 rfl rfl ?_
    refine Y_iadd i_212_23 ?_
    refine Y_imul i_212_24 ?_
    refine Y_goto i_212_25 ?_
    exact Y_iret i_212_41 rt_212 h
  · replace h := h.2 e2
    refine Y_al0 i_212_28 ?_
    refine Y_gR i_212_29 ow_212 lf_10_79 (k_68 hG) (r_68_26 hG) ?_
    refine Y_il1 i_212_32 ?_
    have o4 := h.1
    replace h := h.2
    refine Y_iaload (k := x1.toNatClampNeg) (v := (A 84 x1.toNatClampNeg)) i_212_33 (k_84 hG) (l_84 hG) o4 rfl rfl ?_
    refine Y_al0 i_212_34 ?_
    refine Y_gR i_212_35 ow_212 lf_10_76 (k_68 hG) (r_68_25 hG) ?_
    refine Y_il1 i_212_38 ?_
    refine Y_iaload (k := x1.toNatClampNeg) (v := (A 83 x1.toNatClampNeg)) i_212_39 (k_83 hG) (l_83 hG) o4 rfl rfl ?_
    refine Y_iadd i_212_40 ?_
    exact Y_iret i_212_41 rt_212 h
end Leaf
