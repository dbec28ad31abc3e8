section Tr24c
theorem Y_ls6 {d mid pc pc' : Nat} {L st : List Value} {M : pM} {Q : pR → pM → Prop} {a0 a1 a2 a3 a4 a5 : Value} {b c : Value} {x : Int64} (h : At mid pc (.lstore 6) pc') (hg : isLg a5 = false) (hX : X d mid pc' (a0 :: a1 :: a2 :: a3 :: a4 :: a5 :: .long x :: .null :: L) st M Q) : X d mid pc (a0 :: a1 :: a2 :: a3 :: a4 :: a5 :: b :: c :: L) (.long x :: st) M Q := Y_t h rfl rfl (show (stLL (a0 :: a1 :: a2 :: a3 :: a4 :: a5 :: b :: c :: L) 6 (.long x)).map (fun L => (L, st)) = some (a0 :: a1 :: a2 :: a3 :: a4 :: a5 :: .long x :: .null :: L, st) from by simp [stLL, isL1, hg]) hX
theorem t_312_23 {d : Nat} {F A : Nat → Nat → Int32} {J : Nat → Nat → Int64} {G : pG} {Q : pR → pM → Prop} {SL p q : Nat} {x4 : Int32} {v5 v6 : Value} (hG : Geo G SL p q) (h : ((((nI SL) - 6) < x4 → Q (.inl (some (.int 1))) (F, A, J, G)) ∧ (¬ ((nI SL) - 6) < x4 → inB x4 SL = true ∧ ((((A 2000 x4.toNatClampNeg) &&& 63) = 0 → X (d + 9) 312 232 [.ref 2000, .ref 0, .ref 68, .ref 104, .int x4, v5, v6, .null] [] (F, A, J, G) Q) ∧ (((A 2000 x4.toNatClampNeg) &&& 63) = 1 → X (d + 9) 312 305 [.ref 2000, .ref 0, .ref 68, .ref 104, .int x4, v5, v6, .null] [] (F, A, J, G) Q) ∧ (((A 2000 x4.toNatClampNeg) &&& 63) = 2 → X (d + 9) 312 361 [.ref 2000, .ref 0, .ref 68, .ref 104, .int x4, v5, v6, .null] [] (F, A, J, G) Q) ∧ (((A 2000 x4.toNatClampNeg) &&& 63) = 3 → X (d + 9) 312 374 [.ref 2000, .ref 0, .ref 68, .ref 104, .int x4, v5, v6, .null] [] (F, A, J, G) Q) ∧ (((A 2000 x4.toNatClampNeg) &&& 63) = 4 → X (d + 9) 312 430 [.ref 2000, .ref 0, .ref 68, .ref 104, .int x4, v5, v6, .null] [] (F, A, J, G) Q) ∧ (((A 2000 x4.toNatClampNeg) &&& 63) = 5 → X (d + 9) 312 498 [.ref 2000, .ref 0, .ref 68, .ref 104, .int x4, v5, v6, .null] [] (F, A, J, G) Q) ∧ (((A 2000 x4.toNatClampNeg) &&& 63) = 6 → X (d + 9) 312 566 [.ref 2000, .ref 0, .ref 68, .ref 104, .int x4, v5, v6, .null] [] (F, A, J, G) Q) ∧ (((A 2000 x4.toNatClampNeg) &&& 63) = 7 → X (d + 9) 312 579 [.ref 2000, .ref 0, .ref 68, .ref 104, .int x4, v5, v6, .null] [] (F, A, J, G) Q) ∧ (((A 2000 x4.toNatClampNeg) &&& 63) = 8 → X (d + 9) 312 647 [.ref 2000, .ref 0, .ref 68, .ref 104, .int x4, v5, v6, .null] [] (F, A, J, G) Q) ∧ (((A 2000 x4.toNatClampNeg) &&& 63) = 9 → X (d + 9) 312 703 [.ref 2000, .ref 0, .ref 68, .ref 104, .int x4, v5, v6, .null] [] (F, A, J, G) Q) ∧ (((A 2000 x4.toNatClampNeg) &&& 63) = 10 → X (d + 9) 312 778 [.ref 2000, .ref 0, .ref 68, .ref 104, .int x4, v5, v6, .null] [] (F, A, J, G) Q) ∧ (((A 2000 x4.toNatClampNeg) &&& 63) = 11 → X (d + 9) 312 846 [.ref 2000, .ref 0, .ref 68, .ref 104, .int x4, v5, v6, .null] [] (F, A, J, G) Q) ∧ (((A 2000 x4.toNatClampNeg) &&& 63) = 12 → X (d + 9) 312 914 [.ref 2000, .ref 0, .ref 68, .ref 104, .int x4, v5, v6, .null] [] (F, A, J, G) Q) ∧ (((A 2000 x4.toNatClampNeg) &&& 63) = 13 → X (d + 9) 312 927 [.ref 2000, .ref 0, .ref 68, .ref 104, .int x4, v5, v6, .null] [] (F, A, J, G) Q) ∧ (((A 2000 x4.toNatClampNeg) &&& 63) = 14 → X (d + 9) 312 952 [.ref 2000, .ref 0, .ref 68, .ref 104, .int x4, v5, v6, .null] [] (F, A, J, G) Q) ∧ (((A 2000 x4.toNatClampNeg) &&& 63) = 15 → X (d + 9) 312 965 [.ref 2000, .ref 0, .ref 68, .ref 104, .int x4, v5, v6, .null] [] (F, A, J, G) Q) ∧ (((A 2000 x4.toNatClampNeg) &&& 63) = 16 → X (d + 9) 312 978 [.ref 2000, .ref 0, .ref 68, .ref 104, .int x4, v5, v6, .null] [] (F, A, J, G) Q) ∧ (((A 2000 x4.toNatClampNeg) &&& 63) = 17 → X (d + 9) 312 1041 [.ref 2000, .ref 0, .ref 68, .ref 104, .int x4, v5, v6, .null] [] (F, A, J, G) Q) ∧ (((A 2000 x4.toNatClampNeg) &&& 63) = 18 → X (d + 9) 312 1097 [.ref 2000, .ref 0, .ref 68, .ref 104, .int x4, v5, v6, .null] [] (F, A, J, G) Q) ∧ (((A 2000 x4.toNatClampNeg) &&& 63) = 19 → X (d + 9) 312 1153 [.ref 2000, .ref 0, .ref 68, .ref 104, .int x4, v5, v6, .null] [] (F, A, J, G) Q) ∧ (((A 2000 x4.toNatClampNeg) &&& 63) = 20 → X (d + 9) 312 1167 [.ref 2000, .ref 0, .ref 68, .ref 104, .int x4, v5, v6, .null] [] (F, A, J, G) Q) ∧ (((A 2000 x4.toNatClampNeg) &&& 63) = 21 → X (d + 9) 312 1180 [.ref 2000, .ref 0, .ref 68, .ref 104, .int x4, v5, v6, .null] [] (F, A, J, G) Q) ∧ (((A 2000 x4.toNatClampNeg) &&& 63) = 22 → X (d + 9) 312 1193 [.ref 2000, .ref 0, .ref 68, .ref 104, .int x4, v5, v6, .null] [] (F, A, J, G) Q) ∧ (((A 2000 x4.toNatClampNeg) &&& 63) = 23 → X (d + 9) 312 1206 [.ref 2000, .ref 0, .ref 68, .ref 104, .int x4, v5, v6, .null] [] (F, A, J, G) Q) ∧ (((A 2000 x4.toNatClampNeg) &&& 63) = 24 → X (d + 9) 312 1281 [.ref 2000, .ref 0, .ref 68, .ref 104, .int x4, v5, v6, .null] [] (F, A, J, G) Q) ∧ (((A 2000 x4.toNatClampNeg) &&& 63) = 25 → X (d + 9) 312 1349 [.ref 2000, .ref 0, .ref 68, .ref 104, .int x4, v5, v6, .null] [] (F, A, J, G) Q) ∧ (((A 2000 x4.toNatClampNeg) &&& 63) = 26 → X (d + 9) 312 1362 [.ref 2000, .ref 0, .ref 68, .ref 104, .int x4, v5, v6, .null] [] (F, A, J, G) Q) ∧ (((A 2000 x4.toNatClampNeg) &&& 63) = 27 → X (d + 9) 312 1418 [.ref 2000, .ref 0, .ref 68, .ref 104, .int x4, v5, v6, .null] [] (F, A, J, G) Q) ∧ (((A 2000 x4.toNatClampNeg) &&& 63) = 28 → X (d + 9) 312 1431 [.ref 2000, .ref 0, .ref 68, .ref 104, .int x4, v5, v6, .null] [] (F, A, J, G) Q) ∧ (((A 2000 x4.toNatClampNeg) &&& 63) = 29 → X (d + 9) 312 1498 [.ref 2000, .ref 0, .ref 68, .ref 104, .int x4, v5, v6, .null] [] (F, A, J, G) Q) ∧ (((A 2000 x4.toNatClampNeg) &&& 63) = 30 → X (d + 9) 312 1511 [.ref 2000, .ref 0, .ref 68, .ref 104, .int x4, v5, v6, .null] [] (F, A, J, G) Q) ∧ (((A 2000 x4.toNatClampNeg) &&& 63) = 31 → X (d + 9) 312 1567 [.ref 2000, .ref 0, .ref 68, .ref 104, .int x4, v5, v6, .null] [] (F, A, J, G) Q) ∧ (((A 2000 x4.toNatClampNeg) &&& 63) = 32 → X (d + 9) 312 1623 [.ref 2000, .ref 0, .ref 68, .ref 104, .int x4, v5, v6, .null] [] (F, A, J, G) Q) ∧ (((A 2000 x4.toNatClampNeg) &&& 63) = 33 → X (d + 9) 312 1636 [.ref 2000, .ref 0, .ref 68, .ref 104, .int x4, v5, v6, .null] [] (F, A, J, G) Q) ∧ (((A 2000 x4.toNatClampNeg) &&& 63) = 34 → X (d + 9) 312 1692 [.ref 2000, .ref 0, .ref 68, .ref 104, .int x4, v5, v6, .null] [] (F, A, J, G) Q) ∧ (((A 2000 x4.toNatClampNeg) &&& 63) = 35 → X (d + 9) 312 1705 [.ref 2000, .ref 0, .ref 68, .ref 104, .int x4, v5, v6, .null] [] (F, A, J, G) Q) ∧ (((A 2000 x4.toNatClampNeg) &&& 63) = 36 → X (d + 9) 312 1718 [.ref 2000, .ref 0, .ref 68, .ref 104, .int x4, v5, v6, .null] [] (F, A, J, G) Q) ∧ (((A 2000 x4.toNatClampNeg) &&& 63) = 37 → X (d + 9) 312 1755 [.ref 2000, .ref 0, .ref 68, .ref 104, .int x4, v5, v6, .null] [] (F, A, J, G) Q) ∧ (((A 2000 x4.toNatClampNeg) &&& 63) = 38 → X (d + 9) 312 1811 [.ref 2000, .ref 0, .ref 68, .ref 104, .int x4, v5, v6, .null] [] (F, A, J, G) Q) ∧ (((A 2000 x4.toNatClampNeg) &&& 63) = 39 → X (d + 9) 312 1824 [.ref 2000, .ref 0, .ref 68, .ref 104, .int x4, v5, v6, .null] [] (F, A, J, G) Q) ∧ (((A 2000 x4.toNatClampNeg) &&& 63) = 40 → X (d + 9) 312 1835 [.ref 2000, .ref 0, .ref 68, .ref 104, .int x4, v5, v6, .null] [] (F, A, J, G) Q) ∧ (((A 2000 x4.toNatClampNeg) &&& 63) = 41 → X (d + 9) 312 1891 [.ref 2000, .ref 0, .ref 68, .ref 104, .int x4, v5, v6, .null] [] (F, A, J, G) Q) ∧ (((A 2000 x4.toNatClampNeg) &&& 63) = 42 → X (d + 9) 312 1971 [.ref 2000, .ref 0, .ref 68, .ref 104, .int x4, v5, v6, .null] [] (F, A, J, G) Q) ∧ (((A 2000 x4.toNatClampNeg) &&& 63) = 43 → X (d + 9) 312 1982 [.ref 2000, .ref 0, .ref 68, .ref 104, .int x4, v5, v6, .null] [] (F, A, J, G) Q) ∧ (((((A 2000 x4.toNatClampNeg) &&& 63) : Int32).toInt < 0 ∨ 43 < (((A 2000 x4.toNatClampNeg) &&& 63) : Int32).toInt) → X (d + 9) 312 1995 [.ref 2000, .ref 0, .ref 68, .ref 104, .int x4, v5, v6, .null] [] (F, A, J, G) Q))))) : X (d + 9) 312 23 [.ref 2000, .ref 0, .ref 68, .ref 104, .int x4, v5, v6, .null] [] (F, A, J, G) Q := by
  refine Y_il4 i_312_23 ?_
  refine Y_al0 i_312_25 ?_
  refine Y_alen (v := nI SL) i_312_26 (Or.inr (Or.inr (Or.inr (Or.inr (k_scr hG))))) (l_scr hG) rfl ?_
  refine Y_bipush (v := 6) i_312_27 (by decide) ?_
  refine Y_isub i_312_29 ?_
  refine Y_cgt i_312_30 (fun e1 => ?_) (fun e1 => ?_)
  · replace h := h.1 e1
    refine Y_iconst (v := 1) i_312_2001 (by decide) ?_
    exact Y_bret i_312_2002 rt_312 (by decide) h
  · replace h := h.2 e1
    refine Y_al0 i_312_33 ?_
    refine Y_il4 i_312_34 ?_
    have o2 := h.1
    replace h := h.2
    refine Y_ialoadS (k := x4.toNatClampNeg) (v := (A 2000 x4.toNatClampNeg)) i_312_36 (k_scr hG) (l_scr hG) o2 rfl rfl ?_
    refine Y_bipush (v := 63) i_312_37 (by decide) ?_
    refine Y_iand i_312_39 ?_
    by_cases f0 : ((A 2000 x4.toNatClampNeg) &&& 63) = 0
    · replace h := h.1 f0
      refine Y_sw (t := 232) f0 i_312_40 (fun _ => rfl) rfl (fun _ => rfl) (fun _ => rfl) ?_
      exact h
    by_cases f1 : ((A 2000 x4.toNatClampNeg) &&& 63) = 1
    · replace h := h.2.1 f1
      refine Y_sw (t := 305) f1 i_312_40 (fun _ => rfl) rfl (fun _ => rfl) (fun _ => rfl) ?_
      exact h
    by_cases f2 : ((A 2000 x4.toNatClampNeg) &&& 63) = 2
    · replace h := h.2.2.1 f2
      refine Y_sw (t := 361) f2 i_312_40 (fun _ => rfl) rfl (fun _ => rfl) (fun _ => rfl) ?_
      exact h
    by_cases f3 : ((A 2000 x4.toNatClampNeg) &&& 63) = 3
    · replace h := h.2.2.2.1 f3
      refine Y_sw (t := 374) f3 i_312_40 (fun _ => rfl) rfl (fun _ => rfl) (fun _ => rfl) ?_
      exact h
    by_cases f4 : ((A 2000 x4.toNatClampNeg) &&& 63) = 4
    · replace h := h.2.2.2.2.1 f4
      refine Y_sw (t := 430) f4 i_312_40 (fun _ => rfl) rfl (fun _ => rfl) (fun _ => rfl) ?_
      exact h
    by_cases f5 : ((A 2000 x4.toNatClampNeg) &&& 63) = 5
    · replace h := h.2.2.2.2.2.1 f5
      refine Y_sw (t := 498) f5 i_312_40 (fun _ => rfl) rfl (fun _ => rfl) (fun _ => rfl) ?_
      exact h
    by_cases f6 : ((A 2000 x4.toNatClampNeg) &&& 63) = 6
    · replace h := h.2.2.2.2.2.2.1 f6
      refine Y_sw (t := 566) f6 i_312_40 (fun _ => rfl) rfl (fun _ => rfl) (fun _ => rfl) ?_
      exact h
    by_cases f7 : ((A 2000 x4.toNatClampNeg) &&& 63) = 7
    · replace h := h.2.2.2.2.2.2.2.1 f7
      refine Y_sw (t := 579) f7 i_312_40 (fun _ => rfl) rfl (fun _ => rfl) (fun _ => rfl) ?_
      exact h
    by_cases f8 : ((A 2000 x4.toNatClampNeg) &&& 63) = 8
    · replace h := h.2.2.2.2.2.2.2.2.1 f8
      refine Y_sw (t := 647) f8 i_312_40 (fun _ => rfl) rfl (fun _ => rfl) (fun _ => rfl) ?_
      exact h
    by_cases f9 : ((A 2000 x4.toNatClampNeg) &&& 63) = 9
    · replace h := h.2.2.2.2.2.2.2.2.2.1 f9
      refine Y_sw (t := 703) f9 i_312_40 (fun _ => rfl) rfl (fun _ => rfl) (fun _ => rfl) ?_
      exact h
    by_cases f10 : ((A 2000 x4.toNatClampNeg) &&& 63) = 10
    · replace h := h.2.2.2.2.2.2.2.2.2.2.1 f10
      refine Y_sw (t := 778) f10 i_312_40 (fun _ => rfl) rfl (fun _ => rfl) (fun _ => rfl) ?_
      exact h
    by_cases f11 : ((A 2000 x4.toNatClampNeg) &&& 63) = 11
    · replace h := h.2.2.2.2.2.2.2.2.2.2.2.1 f11
      refine Y_sw (t := 846) f11 i_312_40 (fun _ => rfl) rfl (fun _ => rfl) (fun _ => rfl) ?_
      exact h
    by_cases f12 : ((A 2000 x4.toNatClampNeg) &&& 63) = 12
    · replace h := h.2.2.2.2.2.2.2.2.2.2.2.2.1 f12
      refine Y_sw (t := 914) f12 i_312_40 (fun _ => rfl) rfl (fun _ => rfl) (fun _ => rfl) ?_
      exact h
    by_cases f13 : ((A 2000 x4.toNatClampNeg) &&& 63) = 13
    · replace h := h.2.2.2.2.2.2.2.2.2.2.2.2.2.1 f13
      refine Y_sw (t := 927) f13 i_312_40 (fun _ => rfl) rfl (fun _ => rfl) (fun _ => rfl) ?_
      exact h
    by_cases f14 : ((A 2000 x4.toNatClampNeg) &&& 63) = 14
    · replace h := h.2.2.2.2.2.2.2.2.2.2.2.2.2.2.1 f14
      refine Y_sw (t := 952) f14 i_312_40 (fun _ => rfl) rfl (fun _ => rfl) (fun _ => rfl) ?_
      exact h
    by_cases f15 : ((A 2000 x4.toNatClampNeg) &&& 63) = 15
    · replace h := h.2.2.2.2.2.2.2.2.2.2.2.2.2.2.2.1 f15
      refine Y_sw (t := 965) f15 i_312_40 (fun _ => rfl) rfl (fun _ => rfl) (fun _ => rfl) ?_
      exact h
    by_cases f16 : ((A 2000 x4.toNatClampNeg) &&& 63) = 16
    · replace h := h.2.2.2.2.2.2.2.2.2.2.2.2.2.2.2.2.1 f16
      refine Y_sw (t := 978) f16 i_312_40 (fun _ => rfl) rfl (fun _ => rfl) (fun _ => rfl) ?_
      exact h
    by_cases f17 : ((A 2000 x4.toNatClampNeg) &&& 63) = 17
    · replace h := h.2.2.2.2.2.2.2.2.2.2.2.2.2.2.2.2.2.1 f17
      refine Y_sw (t := 1041) f17 i_312_40 (fun _ => rfl) rfl (fun _ => rfl) (fun _ => rfl) ?_
      exact h
    by_cases f18 : ((A 2000 x4.toNatClampNeg) &&& 63) = 18
    · replace h := h.2.2.2.2.2.2.2.2.2.2.2.2.2.2.2.2.2.2.1 f18
      refine Y_sw (t := 1097) f18 i_312_40 (fun _ => rfl) rfl (fun _ => rfl) (fun _ => rfl) ?_
      exact h
    by_cases f19 : ((A 2000 x4.toNatClampNeg) &&& 63) = 19
    · replace h := h.2.2.2.2.2.2.2.2.2.2.2.2.2.2.2.2.2.2.2.1 f19
      refine Y_sw (t := 1153) f19 i_312_40 (fun _ => rfl) rfl (fun _ => rfl) (fun _ => rfl) ?_
      exact h
    by_cases f20 : ((A 2000 x4.toNatClampNeg) &&& 63) = 20
    · replace h := h.2.2.2.2.2.2.2.2.2.2.2.2.2.2.2.2.2.2.2.2.1 f20
      refine Y_sw (t := 1167) f20 i_312_40 (fun _ => rfl) rfl (fun _ => rfl) (fun _ => rfl) ?_
      exact h
    by_cases f21 : ((A 2000 x4.toNatClampNeg) &&& 63) = 21
    · replace h := h.2.2.2.2.2.2.2.2.2.2.2.2.2.2.2.2.2.2.2.2.2.1 f21
      refine Y_sw (t := 1180) f21 i_312_40 (fun _ => rfl) rfl (fun _ => rfl) (fun _ => rfl) ?_
      exact h
    by_cases f22 : ((A 2000 x4.toNatClampNeg) &&& 63) = 22
    · replace h := h.2.2.2.2.2.2.2.2.2.2.2.2.2.2.2.2.2.2.2.2.2.2.1 f22
      refine Y_sw (t := 1193) f22 i_312_40 (fun _ => rfl) rfl (fun _ => rfl) (fun _ => rfl) ?_
      exact h
    by_cases f23 : ((A 2000 x4.toNatClampNeg) &&& 63) = 23
    · replace h := h.2.2.2.2.2.2.2.2.2.2.2.2.2.2.2.2.2.2.2.2.2.2.2.1 f23
      refine Y_sw (t := 1206) f23 i_312_40 (fun _ => rfl) rfl (fun _ => rfl) (fun _ => rfl) ?_
      exact h
    by_cases f24 : ((A 2000 x4.toNatClampNeg) &&& 63) = 24
    · replace h := h.2.2.2.2.2.2.2.2.2.2.2.2.2.2.2.2.2.2.2.2.2.2.2.2.1 f24
      refine Y_sw (t := 1281) f24 i_312_40 (fun _ => rfl) rfl (fun _ => rfl) (fun _ => rfl) ?_
      exact h
    by_cases f25 : ((A 2000 x4.toNatClampNeg) &&& 63) = 25
    · replace h := h.2.2.2.2.2.2.2.2.2.2.2.2.2.2.2.2.2.2.2.2.2.2.2.2.2.1 f25
      refine Y_sw (t := 1349) f25 i_312_40 (fun _ => rfl) rfl (fun _ => rfl) (fun _ => rfl) ?_
      exact h
    by_cases f26 : ((A 2000 x4.toNatClampNeg) &&& 63) = 26
    · replace h := h.2.2.2.2.2.2.2.2.2.2.2.2.2.2.2.2.2.2.2.2.2.2.2.2.2.2.1 f26
      refine Y_sw (t := 1362) f26 i_312_40 (fun _ => rfl) rfl (fun _ => rfl) (fun _ => rfl) ?_
      exact h
    by_cases f27 : ((A 2000 x4.toNatClampNeg) &&& 63) = 27
    · replace h := h.2.2.2.2.2.2.2.2.2.2.2.2.2.2.2.2.2.2.2.2.2.2.2.2.2.2.2.1 f27
      refine Y_sw (t := 1418) f27 i_312_40 (fun _ => rfl) rfl (fun _ => rfl) (fun _ => rfl) ?_
      exact h
    by_cases f28 : ((A 2000 x4.toNatClampNeg) &&& 63) = 28
    · replace h := h.2.2.2.2.2.2.2.2.2.2.2.2.2.2.2.2.2.2.2.2.2.2.2.2.2.2.2.2.1 f28
      refine Y_sw (t := 1431) f28 i_312_40 (fun _ => rfl) rfl (fun _ => rfl) (fun _ => rfl) ?_
      exact h
    by_cases f29 : ((A 2000 x4.toNatClampNeg) &&& 63) = 29
    · replace h := h.2.2.2.2.2.2.2.2.2.2.2.2.2.2.2.2.2.2.2.2.2.2.2.2.2.2.2.2.2.1 f29
      refine Y_sw (t := 1498) f29 i_312_40 (fun _ => rfl) rfl (fun _ => rfl) (fun _ => rfl) ?_
      exact h
    by_cases f30 : ((A 2000 x4.toNatClampNeg) &&& 63) = 30
    · replace h := h.2.2.2.2.2.2.2.2.2.2.2.2.2.2.2.2.2.2.2.2.2.2.2.2.2.2.2.2.2.2.1 f30
      refine Y_sw (t := 1511) f30 i_312_40 (fun _ => rfl) rfl (fun _ => rfl) (fun _ => rfl) ?_
      exact h
    by_cases f31 : ((A 2000 x4.toNatClampNeg) &&& 63) = 31
    · replace h := h.2.2.2.2.2.2.2.2.2.2.2.2.2.2.2.2.2.2.2.2.2.2.2.2.2.2.2.2.2.2.2.1 f31
      refine Y_sw (t := 1567) f31 i_312_40 (fun _ => rfl) rfl (fun _ => rfl) (fun _ => rfl) ?_
      exact h
    by_cases f32 : ((A 2000 x4.toNatClampNeg) &&& 63) = 32
    · replace h := h.2.2.2.2.2.2.2.2.2.2.2.2.2.2.2.2.2.2.2.2.2.2.2.2.2.2.2.2.2.2.2.2.1 f32
      refine Y_sw (t := 1623) f32 i_312_40 (fun _ => rfl) rfl (fun _ => rfl) (fun _ => rfl) ?_
      exact h
    by_cases f33 : ((A 2000 x4.toNatClampNeg) &&& 63) = 33
    · replace h := h.2.2.2.2.2.2.2.2.2.2.2.2.2.2.2.2.2.2.2.2.2.2.2.2.2.2.2.2.2.2.2.2.2.1 f33
      refine Y_sw (t := 1636) f33 i_312_40 (fun _ => rfl) rfl (fun _ => rfl) (fun _ => rfl) ?_
      exact h
    by_cases f34 : ((A 2000 x4.toNatClampNeg) &&& 63) = 34
    · replace h := h.2.2.2.2.2.2.2.2.2.2.2.2.2.2.2.2.2.2.2.2.2.2.2.2.2.2.2.2.2.2.2.2.2.2.1 f34
      refine Y_sw (t := 1692) f34 i_312_40 (fun _ => rfl) rfl (fun _ => rfl) (fun _ => rfl) ?_
      exact h
    by_cases f35 : ((A 2000 x4.toNatClampNeg) &&& 63) = 35
    · replace h := h.2.2.2.2.2.2.2.2.2.2.2.2.2.2.2.2.2.2.2.2.2.2.2.2.2.2.2.2.2.2.2.2.2.2.2.1 f35
      refine Y_sw (t := 1705) f35 i_312_40 (fun _ => rfl) rfl (fun _ => rfl) (fun _ => rfl) ?_
      exact h
    by_cases f36 : ((A 2000 x4.toNatClampNeg) &&& 63) = 36
    · replace h := h.2.2.2.2.2.2.2.2.2.2.2.2.2.2.2.2.2.2.2.2.2.2.2.2.2.2.2.2.2.2.2.2.2.2.2.2.1 f36
      refine Y_sw (t := 1718) f36 i_312_40 (fun _ => rfl) rfl (fun _ => rfl) (fun _ => rfl) ?_
      exact h
    by_cases f37 : ((A 2000 x4.toNatClampNeg) &&& 63) = 37
    · replace h := h.2.2.2.2.2.2.2.2.2.2.2.2.2.2.2.2.2.2.2.2.2.2.2.2.2.2.2.2.2.2.2.2.2.2.2.2.2.1 f37
      refine Y_sw (t := 1755) f37 i_312_40 (fun _ => rfl) rfl (fun _ => rfl) (fun _ => rfl) ?_
      exact h
    by_cases f38 : ((A 2000 x4.toNatClampNeg) &&& 63) = 38
    · replace h := h.2.2.2.2.2.2.2.2.2.2.2.2.2.2.2.2.2.2.2.2.2.2.2.2.2.2.2.2.2.2.2.2.2.2.2.2.2.2.1 f38
      refine Y_sw (t := 1811) f38 i_312_40 (fun _ => rfl) rfl (fun _ => rfl) (fun _ => rfl) ?_
      exact h
    by_cases f39 : ((A 2000 x4.toNatClampNeg) &&& 63) = 39
    · replace h := h.2.2.2.2.2.2.2.2.2.2.2.2.2.2.2.2.2.2.2.2.2.2.2.2.2.2.2.2.2.2.2.2.2.2.2.2.2.2.2.1 f39
      refine Y_sw (t := 1824) f39 i_312_40 (fun _ => rfl) rfl (fun _ => rfl) (fun _ => rfl) ?_
      exact h
    by_cases f40 : ((A 2000 x4.toNatClampNeg) &&& 63) = 40
    · replace h := h.2.2.2.2.2.2.2.2.2.2.2.2.2.2.2.2.2.2.2.2.2.2.2.2.2.2.2.2.2.2.2.2.2.2.2.2.2.2.2.2.1 f40
      refine Y_sw (t := 1835) f40 i_312_40 (fun _ => rfl) rfl (fun _ => rfl) (fun _ => rfl) ?_
      exact h
    by_cases f41 : ((A 2000 x4.toNatClampNeg) &&& 63) = 41
    · replace h := h.2.2.2.2.2.2.2.2.2.2.2.2.2.2.2.2.2.2.2.2.2.2.2.2.2.2.2.2.2.2.2.2.2.2.2.2.2.2.2.2.2.1 f41
      refine Y_sw (t := 1891) f41 i_312_40 (fun _ => rfl) rfl (fun _ => rfl) (fun _ => rfl) ?_
      exact h
    by_cases f42 : ((A 2000 x4.toNatClampNeg) &&& 63) = 42
    · replace h := h.2.2.2.2.2.2.2.2.2.2.2.2.2.2.2.2.2.2.2.2.2.2.2.2.2.2.2.2.2.2.2.2.2.2.2.2.2.2.2.2.2.2.1 f42
      refine Y_sw (t := 1971) f42 i_312_40 (fun _ => rfl) rfl (fun _ => rfl) (fun _ => rfl) ?_
      exact h
    by_cases f43 : ((A 2000 x4.toNatClampNeg) &&& 63) = 43
    · replace h := h.2.2.2.2.2.2.2.2.2.2.2.2.2.2.2.2.2.2.2.2.2.2.2.2.2.2.2.2.2.2.2.2.2.2.2.2.2.2.2.2.2.2.2.1 f43
      refine Y_sw (t := 1982) f43 i_312_40 (fun _ => rfl) rfl (fun _ => rfl) (fun _ => rfl) ?_
      exact h
    have eD : (((A 2000 x4.toNatClampNeg) &&& 63) : Int32).toInt < 0 ∨ 43 < (((A 2000 x4.toNatClampNeg) &&& 63) : Int32).toInt := by
      have q := ts_out (x := ((A 2000 x4.toNatClampNeg) &&& 63)) (lo := 0) (n := 44) (by
        intro j hj
        have : j = 0 ∨ j = 1 ∨ j = 2 ∨ j = 3 ∨ j = 4 ∨ j = 5 ∨ j = 6 ∨ j = 7 ∨ j = 8 ∨ j = 9 ∨ j = 10 ∨ j = 11 ∨ j = 12 ∨ j = 13 ∨ j = 14 ∨ j = 15 ∨ j = 16 ∨ j = 17 ∨ j = 18 ∨ j = 19 ∨ j = 20 ∨ j = 21 ∨ j = 22 ∨ j = 23 ∨ j = 24 ∨ j = 25 ∨ j = 26 ∨ j = 27 ∨ j = 28 ∨ j = 29 ∨ j = 30 ∨ j = 31 ∨ j = 32 ∨ j = 33 ∨ j = 34 ∨ j = 35 ∨ j = 36 ∨ j = 37 ∨ j = 38 ∨ j = 39 ∨ j = 40 ∨ j = 41 ∨ j = 42 ∨ j = 43 := by omega
        rcases this with rfl | rfl | rfl | rfl | rfl | rfl | rfl | rfl | rfl | rfl | rfl | rfl | rfl | rfl | rfl | rfl | rfl | rfl | rfl | rfl | rfl | rfl | rfl | rfl | rfl | rfl | rfl | rfl | rfl | rfl | rfl | rfl | rfl | rfl | rfl | rfl | rfl | rfl | rfl | rfl | rfl | rfl | rfl | rfl
        · exact ne_toInt f0 (by decide)
        · exact ne_toInt f1 (by decide)
        · exact ne_toInt f2 (by decide)
        · exact ne_toInt f3 (by decide)
        · exact ne_toInt f4 (by decide)
        · exact ne_toInt f5 (by decide)
        · exact ne_toInt f6 (by decide)
        · exact ne_toInt f7 (by decide)
        · exact ne_toInt f8 (by decide)
        · exact ne_toInt f9 (by decide)
        · exact ne_toInt f10 (by decide)
        · exact ne_toInt f11 (by decide)
        · exact ne_toInt f12 (by decide)
        · exact ne_toInt f13 (by decide)
        · exact ne_toInt f14 (by decide)
        · exact ne_toInt f15 (by decide)
        · exact ne_toInt f16 (by decide)
        · exact ne_toInt f17 (by decide)
        · exact ne_toInt f18 (by decide)
        · exact ne_toInt f19 (by decide)
        · exact ne_toInt f20 (by decide)
        · exact ne_toInt f21 (by decide)
        · exact ne_toInt f22 (by decide)
        · exact ne_toInt f23 (by decide)
        · exact ne_toInt f24 (by decide)
        · exact ne_toInt f25 (by decide)
        · exact ne_toInt f26 (by decide)
        · exact ne_toInt f27 (by decide)
        · exact ne_toInt f28 (by decide)
        · exact ne_toInt f29 (by decide)
        · exact ne_toInt f30 (by decide)
        · exact ne_toInt f31 (by decide)
        · exact ne_toInt f32 (by decide)
        · exact ne_toInt f33 (by decide)
        · exact ne_toInt f34 (by decide)
        · exact ne_toInt f35 (by decide)
        · exact ne_toInt f36 (by decide)
        · exact ne_toInt f37 (by decide)
        · exact ne_toInt f38 (by decide)
        · exact ne_toInt f39 (by decide)
        · exact ne_toInt f40 (by decide)
        · exact ne_toInt f41 (by decide)
        · exact ne_toInt f42 (by decide)
        · exact ne_toInt f43 (by decide)
        )
      omega
    replace h := h.2.2.2.2.2.2.2.2.2.2.2.2.2.2.2.2.2.2.2.2.2.2.2.2.2.2.2.2.2.2.2.2.2.2.2.2.2.2.2.2.2.2.2.2 eD
    refine Y_tsD (t := 1995) eD i_312_40 (by decide) ?_
    exact h
theorem t_312_232 {d : Nat} {F A : Nat → Nat → Int32} {J : Nat → Nat → Int64} {G : pG} {Q : pR → pM → Prop} {SL p q : Nat} {x4 : Int32} {v5 v6 : Value} (hG : Geo G SL p q) (h : inB (x4 + 1) SL = true ∧ inB (x4 + 2) SL = true ∧ inB (x4 + 3) SL = true ∧ inB (x4 + 4) SL = true ∧ inB (x4 + 5) SL = true ∧ (X (d + 8) 126 0 [.ref 0, .int (A 2000 (x4 + 1).toNatClampNeg), .int (A 2000 (x4 + 2).toNatClampNeg), .int (A 2000 (x4 + 3).toNatClampNeg), .int (A 2000 (x4 + 4).toNatClampNeg), .int (A 2000 (x4 + 5).toNatClampNeg)] [] (F, A, J, G) (KK (d + 9) 312 266 [.ref 2000, .ref 0, .ref 68, .ref 104, .int x4, v5, v6, .null] [] Q))) : X (d + 9) 312 232 [.ref 2000, .ref 0, .ref 68, .ref 104, .int x4, v5, v6, .null] [] (F, A, J, G) Q := by
  refine Y_al1 i_312_232 ?_
  refine Y_al0 i_312_233 ?_
  refine Y_il4 i_312_234 ?_
  refine Y_iconst (v := 1) i_312_236 (by decide) ?_
  refine Y_iadd i_312_237 ?_
  have o1 := h.1
  replace h := h.2
  refine Y_ialoadS (k := (x4 + 1).toNatClampNeg) (v := (A 2000 (x4 + 1).toNatClampNeg)) i_312_238 (k_scr hG) (l_scr hG) o1 rfl rfl ?_
  refine Y_al0 i_312_239 ?_
  refine Y_il4 i_312_240 ?_
  refine Y_iconst (v := 2) i_312_242 (by decide) ?_
  refine Y_iadd i_312_243 ?_
  have o2 := h.1
  replace h := h.2
  refine Y_ialoadS (k := (x4 + 2).toNatClampNeg) (v := (A 2000 (x4 + 2).toNatClampNeg)) i_312_244 (k_scr hG) (l_scr hG) o2 rfl rfl ?_
  refine Y_al0 i_312_245 ?_
  refine Y_il4 i_312_246 ?_
  refine Y_iconst (v := 3) i_312_248 (by decide) ?_
  refine Y_iadd i_312_249 ?_
  have o3 := h.1
  replace h := h.2
  refine Y_ialoadS (k := (x4 + 3).toNatClampNeg) (v := (A 2000 (x4 + 3).toNatClampNeg)) i_312_250 (k_scr hG) (l_scr hG) o3 rfl rfl ?_
  refine Y_al0 i_312_251 ?_
  refine Y_il4 i_312_252 ?_
  refine Y_iconst (v := 4) i_312_254 (by decide) ?_
  refine Y_iadd i_312_255 ?_
  have o4 := h.1
  replace h := h.2
  refine Y_ialoadS (k := (x4 + 4).toNatClampNeg) (v := (A 2000 (x4 + 4).toNatClampNeg)) i_312_256 (k_scr hG) (l_scr hG) o4 rfl rfl ?_
  refine Y_al0 i_312_257 ?_
  refine Y_il4 i_312_258 ?_
  refine Y_iconst (v := 5) i_312_260 (by decide) ?_
  refine Y_iadd i_312_261 ?_
  have o5 := h.1
  replace h := h.2
  refine Y_ialoadS (k := (x4 + 5).toNatClampNeg) (v := (A 2000 (x4 + 5).toNatClampNeg)) i_312_262 (k_scr hG) (l_scr hG) o5 rfl rfl ?_
  exact Y_iv5 (L0 := [.ref 0, .int (A 2000 (x4 + 1).toNatClampNeg), .int (A 2000 (x4 + 2).toNatClampNeg), .int (A 2000 (x4 + 3).toNatClampNeg), .int (A 2000 (x4 + 4).toNatClampNeg), .int (A 2000 (x4 + 5).toNatClampNeg)]) i_312_263 ow_312 lm_11_89 ((k_0 hG).trans ow_126.symm) rfl mx_126 rfl rfl hd_312 h
theorem k_312_266 {d : Nat} {F A : Nat → Nat → Int32} {J : Nat → Nat → Int64} {G : pG} {Q : pR → pM → Prop} {SL p q : Nat} {x4 r : Int32} {v5 v6 : Value} (hG : Geo G SL p q) (h : inB (x4 + 1) SL = true ∧ inB (x4 + 2) SL = true ∧ inB (x4 + 3) SL = true ∧ inB (x4 + 4) SL = true ∧ inB (x4 + 5) SL = true ∧ (X (d + 8) 182 0 [.ref 68, .int (A 2000 (x4 + 1).toNatClampNeg), .int (A 2000 (x4 + 2).toNatClampNeg), .int (A 2000 (x4 + 3).toNatClampNeg), .int (A 2000 (x4 + 4).toNatClampNeg), .int (A 2000 (x4 + 5).toNatClampNeg), .null, .null] [] (F, A, J, G) (KK (d + 9) 312 300 [.ref 2000, .ref 0, .ref 68, .ref 104, .int x4, v5, v6, .null] [.int r] Q))) : KK (d + 9) 312 266 [.ref 2000, .ref 0, .ref 68, .ref 104, .int x4, v5, v6, .null] [] Q (.inl (some (.int r))) (F, A, J, G) := by
  refine KKi ?_
  refine Y_al2 i_312_266 ?_
  refine Y_al0 i_312_267 ?_
  refine Y_il4 i_312_268 ?_
  refine Y_iconst (v := 1) i_312_270 (by decide) ?_
  refine Y_iadd i_312_271 ?_
  have o1 := h.1
  replace h := h.2
  refine Y_ialoadS (k := (x4 + 1).toNatClampNeg) (v := (A 2000 (x4 + 1).toNatClampNeg)) i_312_272 (k_scr hG) (l_scr hG) o1 rfl rfl ?_
  refine Y_al0 i_312_273 ?_
  refine Y_il4 i_312_274 ?_
  refine Y_iconst (v := 2) i_312_276 (by decide) ?_
  refine Y_iadd i_312_277 ?_
  have o2 := h.1
  replace h := h.2
  refine Y_ialoadS (k := (x4 + 2).toNatClampNeg) (v := (A 2000 (x4 + 2).toNatClampNeg)) i_312_278 (k_scr hG) (l_scr hG) o2 rfl rfl ?_
  refine Y_al0 i_312_279 ?_
  refine Y_il4 i_312_280 ?_
  refine Y_iconst (v := 3) i_312_282 (by decide) ?_
  refine Y_iadd i_312_283 ?_
  have o3 := h.1
  replace h := h.2
  refine Y_ialoadS (k := (x4 + 3).toNatClampNeg) (v := (A 2000 (x4 + 3).toNatClampNeg)) i_312_284 (k_scr hG) (l_scr hG) o3 rfl rfl ?_
  refine Y_al0 i_312_285 ?_
  refine Y_il4 i_312_286 ?_
  refine Y_iconst (v := 4) i_312_288 (by decide) ?_
  refine Y_iadd i_312_289 ?_
  have o4 := h.1
  replace h := h.2
  refine Y_ialoadS (k := (x4 + 4).toNatClampNeg) (v := (A 2000 (x4 + 4).toNatClampNeg)) i_312_290 (k_scr hG) (l_scr hG) o4 rfl rfl ?_
  refine Y_al0 i_312_291 ?_
  refine Y_il4 i_312_292 ?_
  refine Y_iconst (v := 5) i_312_294 (by decide) ?_
  refine Y_iadd i_312_295 ?_
  have o5 := h.1
  replace h := h.2
  refine Y_ialoadS (k := (x4 + 5).toNatClampNeg) (v := (A 2000 (x4 + 5).toNatClampNeg)) i_312_296 (k_scr hG) (l_scr hG) o5 rfl rfl ?_
  exact Y_iv5 (L0 := [.ref 68, .int (A 2000 (x4 + 1).toNatClampNeg), .int (A 2000 (x4 + 2).toNatClampNeg), .int (A 2000 (x4 + 3).toNatClampNeg), .int (A 2000 (x4 + 4).toNatClampNeg), .int (A 2000 (x4 + 5).toNatClampNeg), .null, .null]) i_312_297 ow_312 lm_11_93 ((k_68 hG).trans ow_182.symm) rfl mx_182 rfl rfl hd_312 h
theorem k_312_300 {d : Nat} {F A : Nat → Nat → Int32} {J : Nat → Nat → Int64} {G : pG} {Q : pR → pM → Prop} {SL p q : Nat} {x4 r s0 : Int32} {v5 v6 : Value} (hG : Geo G SL p q) (h : ((s0 = r → X (d + 9) 312 1995 [.ref 2000, .ref 0, .ref 68, .ref 104, .int x4, v5, v6, .null] [] (F, A, J, G) Q) ∧ (¬ s0 = r → Q (.inl (some (.int 0))) (F, A, J, G)))) : KK (d + 9) 312 300 [.ref 2000, .ref 0, .ref 68, .ref 104, .int x4, v5, v6, .null] [.int s0] Q (.inl (some (.int r))) (F, A, J, G) := by
  refine KKi ?_
  refine Y_ceq i_312_300 (fun e1 => ?_) (fun e1 => ?_)
  · replace h := h.1 e1
    exact h
  · replace h := h.2 e1
    refine Y_iconst (v := 0) i_312_303 (by decide) ?_
    exact Y_bret i_312_304 rt_312 (by decide) h
theorem t_312_305 {d : Nat} {F A : Nat → Nat → Int32} {J : Nat → Nat → Int64} {G : pG} {Q : pR → pM → Prop} {SL p q : Nat} {x4 : Int32} {v5 v6 : Value} (hG : Geo G SL p q) (h : inB (x4 + 1) SL = true ∧ (X (d + 8) 290 0 [.ref 0, .int (A 2000 (x4 + 1).toNatClampNeg), .ref 104, .null] [] (F, A, J, G) (KK (d + 9) 312 316 [.ref 2000, .ref 0, .ref 68, .ref 104, .int x4, v5, v6, .null] [] Q))) : X (d + 9) 312 305 [.ref 2000, .ref 0, .ref 68, .ref 104, .int x4, v5, v6, .null] [] (F, A, J, G) Q := by
  refine Y_al1 i_312_305 ?_
  refine Y_al0 i_312_306 ?_
  refine Y_il4 i_312_307 ?_
  refine Y_iconst (v := 1) i_312_309 (by decide) ?_
  refine Y_iadd i_312_310 ?_
  have o1 := h.1
  replace h := h.2
  refine Y_ialoadS (k := (x4 + 1).toNatClampNeg) (v := (A 2000 (x4 + 1).toNatClampNeg)) i_312_311 (k_scr hG) (l_scr hG) o1 rfl rfl ?_
  refine Y_al3 i_312_312 ?_
  exact Y_is_3 (L0 := [.ref 0, .int (A 2000 (x4 + 1).toNatClampNeg), .ref 104, .null]) i_312_313 ow_312 lm_11_94 rfl mx_290 rfl rfl hd_312 h
theorem k_312_316 {d : Nat} {F A : Nat → Nat → Int32} {J : Nat → Nat → Int64} {G : pG} {Q : pR → pM → Prop} {SL p q : Nat} {x4 r : Int32} {v5 v6 : Value} (hG : Geo G SL p q) (h : inB (x4 + 1) SL = true ∧ (X (d + 8) 203 0 [.ref 68, .int (A 2000 (x4 + 1).toNatClampNeg), .null] [] (F, A, J, G) (KK (d + 9) 312 328 [.ref 2000, .ref 0, .ref 68, .ref 104, .int x4, .int r, v6, .null] [] Q))) : KK (d + 9) 312 316 [.ref 2000, .ref 0, .ref 68, .ref 104, .int x4, v5, v6, .null] [] Q (.inl (some (.int r))) (F, A, J, G) := by
  refine KKi ?_
  refine Y_is5 i_312_316 rfl ?_
  refine Y_al2 i_312_318 ?_
  refine Y_al0 i_312_319 ?_
  refine Y_il4 i_312_320 ?_
  refine Y_iconst (v := 1) i_312_322 (by decide) ?_
  refine Y_iadd i_312_323 ?_
  have o1 := h.1
  replace h := h.2
  refine Y_ialoadS (k := (x4 + 1).toNatClampNeg) (v := (A 2000 (x4 + 1).toNatClampNeg)) i_312_324 (k_scr hG) (l_scr hG) o1 rfl rfl ?_
  exact Y_iv1 (L0 := [.ref 68, .int (A 2000 (x4 + 1).toNatClampNeg), .null]) i_312_325 ow_312 lm_11_99 ((k_68 hG).trans ow_203.symm) rfl mx_203 rfl rfl hd_312 h
theorem k_312_328 {d : Nat} {F A : Nat → Nat → Int32} {J : Nat → Nat → Int64} {G : pG} {Q : pR → pM → Prop} {SL p q : Nat} {x4 x5 r : Int32} {v6 : Value} (hG : Geo G SL p q) (h : (((F 68 3) = x5 → ((x5 = 0 → (((J 104 0) = r.toInt64 → X (d + 9) 312 1995 [.ref 2000, .ref 0, .ref 68, .ref 104, .int x4, .int x5, .int r, .null] [] (F, A, J, G) Q) ∧ (¬ (J 104 0) = r.toInt64 → Q (.inl (some (.int 0))) (F, A, J, G)))) ∧ (¬ x5 = 0 → X (d + 9) 312 1995 [.ref 2000, .ref 0, .ref 68, .ref 104, .int x4, .int x5, .int r, .null] [] (F, A, J, G) Q))) ∧ (¬ (F 68 3) = x5 → Q (.inl (some (.int 0))) (F, A, J, G)))) : KK (d + 9) 312 328 [.ref 2000, .ref 0, .ref 68, .ref 104, .int x4, .int x5, v6, .null] [] Q (.inl (some (.int r))) (F, A, J, G) := by
  refine KKi ?_
  refine Y_is6 i_312_328 rfl ?_
  refine Y_al2 i_312_330 ?_
  refine Y_iv0 (L0 := [.ref 68]) i_312_331 ow_312 lm_11_100 ((k_68 hG).trans ow_175.symm) rfl mx_175 rfl rfl hd_312 ?_
  refine Y_al0 i_175_0 ?_
  refine Y_gI (v := (F 68 3)) i_175_1 ow_175 lf_10_143 (by decide) (k_68 hG) rfl ?_
  refine Y_iret i_175_4 rt_175 (KKi ?_)
  refine Y_il5 i_312_334 ?_
  refine Y_ceq i_312_336 (fun e1 => ?_) (fun e1 => ?_)
  · replace h := h.1 e1
    refine Y_il5 i_312_341 ?_
    refine Y_zne i_312_343 (fun e2 => ?_) (fun e2 => ?_)
    · replace h := h.1 e2
      refine Y_al3 i_312_346 ?_
      refine Y_iconst (v := 0) i_312_347 (by decide) ?_
      refine Y_laload (k := 0) (v := (J 104 0)) i_312_348 (k_104 hG) (l_104 hG) (by decide) (by decide) rfl ?_
      refine Y_il6 i_312_349 ?_
      refine Y_i2l i_312_351 ?_
      refine Y_lcmp i_312_352 ?_
      refine Y_weq i_312_353 (fun e3 => ?_) (fun e3 => ?_)
      · replace h := h.1 e3
        refine Y_goto i_312_358 ?_
        exact h
      · replace h := h.2 e3
        refine Y_iconst (v := 0) i_312_356 (by decide) ?_
        exact Y_bret i_312_357 rt_312 (by decide) h
    · replace h := h.2 e2
      refine Y_goto i_312_358 ?_
      exact h
  · replace h := h.2 e1
    refine Y_iconst (v := 0) i_312_339 (by decide) ?_
    exact Y_bret i_312_340 rt_312 (by decide) h
theorem t_312_361 {d : Nat} {F A : Nat → Nat → Int32} {J : Nat → Nat → Int64} {G : pG} {Q : pR → pM → Prop} {SL p q : Nat} {x4 : Int32} {v5 v6 : Value} (hG : Geo G SL p q) (h : X (d + 8) 128 0 [.ref 0] [] (F, A, J, G) (KK (d + 9) 312 365 [.ref 2000, .ref 0, .ref 68, .ref 104, .int x4, v5, v6, .null] [] Q)) : X (d + 9) 312 361 [.ref 2000, .ref 0, .ref 68, .ref 104, .int x4, v5, v6, .null] [] (F, A, J, G) Q := by
  refine Y_al1 i_312_361 ?_
  exact Y_iv0 (L0 := [.ref 0]) i_312_362 ow_312 lm_11_104 ((k_0 hG).trans ow_128.symm) rfl mx_128 rfl rfl hd_312 h
theorem k_312_365 {d : Nat} {F A : Nat → Nat → Int32} {J : Nat → Nat → Int64} {G : pG} {Q : pR → pM → Prop} {SL p q : Nat} {x4 r : Int32} {v5 v6 : Value} (hG : Geo G SL p q) (h : X (d + 8) 206 0 [.ref 68] [] (F, A, J, G) (KK (d + 9) 312 369 [.ref 2000, .ref 0, .ref 68, .ref 104, .int x4, v5, v6, .null] [.int r] Q)) : KK (d + 9) 312 365 [.ref 2000, .ref 0, .ref 68, .ref 104, .int x4, v5, v6, .null] [] Q (.inl (some (.int r))) (F, A, J, G) := by
  refine KKi ?_
  refine Y_al2 i_312_365 ?_
  exact Y_iv0 (L0 := [.ref 68]) i_312_366 ow_312 lm_11_107 ((k_68 hG).trans ow_206.symm) rfl mx_206 rfl rfl hd_312 h
theorem k_312_369 {d : Nat} {F A : Nat → Nat → Int32} {J : Nat → Nat → Int64} {G : pG} {Q : pR → pM → Prop} {SL p q : Nat} {x4 r s0 : Int32} {v5 v6 : Value} (hG : Geo G SL p q) (h : ((s0 = r → X (d + 9) 312 1995 [.ref 2000, .ref 0, .ref 68, .ref 104, .int x4, v5, v6, .null] [] (F, A, J, G) Q) ∧ (¬ s0 = r → Q (.inl (some (.int 0))) (F, A, J, G)))) : KK (d + 9) 312 369 [.ref 2000, .ref 0, .ref 68, .ref 104, .int x4, v5, v6, .null] [.int s0] Q (.inl (some (.int r))) (F, A, J, G) := by
  refine KKi ?_
  refine Y_ceq i_312_369 (fun e1 => ?_) (fun e1 => ?_)
  · replace h := h.1 e1
    exact h
  · replace h := h.2 e1
    refine Y_iconst (v := 0) i_312_372 (by decide) ?_
    exact Y_bret i_312_373 rt_312 (by decide) h
theorem t_312_374 {d : Nat} {F A : Nat → Nat → Int32} {J : Nat → Nat → Int64} {G : pG} {Q : pR → pM → Prop} {SL p q : Nat} {x4 : Int32} {v5 v6 : Value} (hG : Geo G SL p q) (h : inB (x4 + 1) SL = true ∧ (X (d + 8) 291 0 [.ref 0, .int (A 2000 (x4 + 1).toNatClampNeg), .ref 104, .null] [] (F, A, J, G) (KK (d + 9) 312 385 [.ref 2000, .ref 0, .ref 68, .ref 104, .int x4, v5, v6, .null] [] Q))) : X (d + 9) 312 374 [.ref 2000, .ref 0, .ref 68, .ref 104, .int x4, v5, v6, .null] [] (F, A, J, G) Q := by
  refine Y_al1 i_312_374 ?_
  refine Y_al0 i_312_375 ?_
  refine Y_il4 i_312_376 ?_
  refine Y_iconst (v := 1) i_312_378 (by decide) ?_
  refine Y_iadd i_312_379 ?_
  have o1 := h.1
  replace h := h.2
  refine Y_ialoadS (k := (x4 + 1).toNatClampNeg) (v := (A 2000 (x4 + 1).toNatClampNeg)) i_312_380 (k_scr hG) (l_scr hG) o1 rfl rfl ?_
  refine Y_al3 i_312_381 ?_
  exact Y_is_3 (L0 := [.ref 0, .int (A 2000 (x4 + 1).toNatClampNeg), .ref 104, .null]) i_312_382 ow_312 lm_11_108 rfl mx_291 rfl rfl hd_312 h
theorem k_312_385 {d : Nat} {F A : Nat → Nat → Int32} {J : Nat → Nat → Int64} {G : pG} {Q : pR → pM → Prop} {SL p q : Nat} {x4 r : Int32} {v5 v6 : Value} (hG : Geo G SL p q) (h : inB (x4 + 1) SL = true ∧ (X (d + 8) 222 0 [.ref 68, .int (A 2000 (x4 + 1).toNatClampNeg)] [] (F, A, J, G) (KK (d + 9) 312 397 [.ref 2000, .ref 0, .ref 68, .ref 104, .int x4, .int r, v6, .null] [] Q))) : KK (d + 9) 312 385 [.ref 2000, .ref 0, .ref 68, .ref 104, .int x4, v5, v6, .null] [] Q (.inl (some (.int r))) (F, A, J, G) := by
  refine KKi ?_
  refine Y_is5 i_312_385 rfl ?_
  refine Y_al2 i_312_387 ?_
  refine Y_al0 i_312_388 ?_
  refine Y_il4 i_312_389 ?_
  refine Y_iconst (v := 1) i_312_391 (by decide) ?_
  refine Y_iadd i_312_392 ?_
  have o1 := h.1
  replace h := h.2
  refine Y_ialoadS (k := (x4 + 1).toNatClampNeg) (v := (A 2000 (x4 + 1).toNatClampNeg)) i_312_393 (k_scr hG) (l_scr hG) o1 rfl rfl ?_
  exact Y_iv1 (L0 := [.ref 68, .int (A 2000 (x4 + 1).toNatClampNeg)]) i_312_394 ow_312 lm_11_110 ((k_68 hG).trans ow_222.symm) rfl mx_222 rfl rfl hd_312 h
theorem k_312_397 {d : Nat} {F A : Nat → Nat → Int32} {J : Nat → Nat → Int64} {G : pG} {Q : pR → pM → Prop} {SL p q : Nat} {x4 x5 r : Int32} {v6 : Value} (hG : Geo G SL p q) (h : (((F 68 3) = x5 → ((x5 = 0 → (((J 104 0) = r.toInt64 → X (d + 9) 312 1995 [.ref 2000, .ref 0, .ref 68, .ref 104, .int x4, .int x5, .int r, .null] [] (F, A, J, G) Q) ∧ (¬ (J 104 0) = r.toInt64 → Q (.inl (some (.int 0))) (F, A, J, G)))) ∧ (¬ x5 = 0 → X (d + 9) 312 1995 [.ref 2000, .ref 0, .ref 68, .ref 104, .int x4, .int x5, .int r, .null] [] (F, A, J, G) Q))) ∧ (¬ (F 68 3) = x5 → Q (.inl (some (.int 0))) (F, A, J, G)))) : KK (d + 9) 312 397 [.ref 2000, .ref 0, .ref 68, .ref 104, .int x4, .int x5, v6, .null] [] Q (.inl (some (.int r))) (F, A, J, G) := by
  refine KKi ?_
  refine Y_is6 i_312_397 rfl ?_
  refine Y_al2 i_312_399 ?_
  refine Y_iv0 (L0 := [.ref 68]) i_312_400 ow_312 lm_11_100 ((k_68 hG).trans ow_175.symm) rfl mx_175 rfl rfl hd_312 ?_
  refine Y_al0 i_175_0 ?_
  refine Y_gI (v := (F 68 3)) i_175_1 ow_175 lf_10_143 (by decide) (k_68 hG) rfl ?_
  refine Y_iret i_175_4 rt_175 (KKi ?_)
  refine Y_il5 i_312_403 ?_
  refine Y_ceq i_312_405 (fun e1 => ?_) (fun e1 => ?_)
  · replace h := h.1 e1
    refine Y_il5 i_312_410 ?_
    refine Y_zne i_312_412 (fun e2 => ?_) (fun e2 => ?_)
    · replace h := h.1 e2
      refine Y_al3 i_312_415 ?_
      refine Y_iconst (v := 0) i_312_416 (by decide) ?_
      refine Y_laload (k := 0) (v := (J 104 0)) i_312_417 (k_104 hG) (l_104 hG) (by decide) (by decide) rfl ?_
      refine Y_il6 i_312_418 ?_
      refine Y_i2l i_312_420 ?_
      refine Y_lcmp i_312_421 ?_
      refine Y_weq i_312_422 (fun e3 => ?_) (fun e3 => ?_)
      · replace h := h.1 e3
        refine Y_goto i_312_427 ?_
        exact h
      · replace h := h.2 e3
        refine Y_iconst (v := 0) i_312_425 (by decide) ?_
        exact Y_bret i_312_426 rt_312 (by decide) h
    · replace h := h.2 e2
      refine Y_goto i_312_427 ?_
      exact h
  · replace h := h.2 e1
    refine Y_iconst (v := 0) i_312_408 (by decide) ?_
    exact Y_bret i_312_409 rt_312 (by decide) h
theorem t_312_430 {d : Nat} {F A : Nat → Nat → Int32} {J : Nat → Nat → Int64} {G : pG} {Q : pR → pM → Prop} {SL p q : Nat} {x4 : Int32} {v5 v6 : Value} (hG : Geo G SL p q) (h : inB (x4 + 1) SL = true ∧ inB (x4 + 2) SL = true ∧ (X (d + 8) 292 0 [.ref 0, .int (A 2000 (x4 + 1).toNatClampNeg), .int (A 2000 (x4 + 2).toNatClampNeg), .ref 104, .null] [] (F, A, J, G) (KK (d + 9) 312 447 [.ref 2000, .ref 0, .ref 68, .ref 104, .int x4, v5, v6, .null] [] Q))) : X (d + 9) 312 430 [.ref 2000, .ref 0, .ref 68, .ref 104, .int x4, v5, v6, .null] [] (F, A, J, G) Q := by
  refine Y_al1 i_312_430 ?_
  refine Y_al0 i_312_431 ?_
  refine Y_il4 i_312_432 ?_
  refine Y_iconst (v := 1) i_312_434 (by decide) ?_
  refine Y_iadd i_312_435 ?_
  have o1 := h.1
  replace h := h.2
  refine Y_ialoadS (k := (x4 + 1).toNatClampNeg) (v := (A 2000 (x4 + 1).toNatClampNeg)) i_312_436 (k_scr hG) (l_scr hG) o1 rfl rfl ?_
  refine Y_al0 i_312_437 ?_
  refine Y_il4 i_312_438 ?_
  refine Y_iconst (v := 2) i_312_440 (by decide) ?_
  refine Y_iadd i_312_441 ?_
  have o2 := h.1
  replace h := h.2
  refine Y_ialoadS (k := (x4 + 2).toNatClampNeg) (v := (A 2000 (x4 + 2).toNatClampNeg)) i_312_442 (k_scr hG) (l_scr hG) o2 rfl rfl ?_
  refine Y_al3 i_312_443 ?_
  exact Y_is_4 (L0 := [.ref 0, .int (A 2000 (x4 + 1).toNatClampNeg), .int (A 2000 (x4 + 2).toNatClampNeg), .ref 104, .null]) i_312_444 ow_312 lm_11_111 rfl mx_292 rfl rfl hd_312 h
theorem k_312_447 {d : Nat} {F A : Nat → Nat → Int32} {J : Nat → Nat → Int64} {G : pG} {Q : pR → pM → Prop} {SL p q : Nat} {x4 r : Int32} {v5 v6 : Value} (hG : Geo G SL p q) (h : inB (x4 + 1) SL = true ∧ inB (x4 + 2) SL = true ∧ (X (d + 8) 223 0 [.ref 68, .int (A 2000 (x4 + 1).toNatClampNeg), .int (A 2000 (x4 + 2).toNatClampNeg)] [] (F, A, J, G) (KK (d + 9) 312 465 [.ref 2000, .ref 0, .ref 68, .ref 104, .int x4, .int r, v6, .null] [] Q))) : KK (d + 9) 312 447 [.ref 2000, .ref 0, .ref 68, .ref 104, .int x4, v5, v6, .null] [] Q (.inl (some (.int r))) (F, A, J, G) := by
  refine KKi ?_
  refine Y_is5 i_312_447 rfl ?_
  refine Y_al2 i_312_449 ?_
  refine Y_al0 i_312_450 ?_
  refine Y_il4 i_312_451 ?_
  refine Y_iconst (v := 1) i_312_453 (by decide) ?_
  refine Y_iadd i_312_454 ?_
  have o1 := h.1
  replace h := h.2
  refine Y_ialoadS (k := (x4 + 1).toNatClampNeg) (v := (A 2000 (x4 + 1).toNatClampNeg)) i_312_455 (k_scr hG) (l_scr hG) o1 rfl rfl ?_
  refine Y_al0 i_312_456 ?_
  refine Y_il4 i_312_457 ?_
  refine Y_iconst (v := 2) i_312_459 (by decide) ?_
  refine Y_iadd i_312_460 ?_
  have o2 := h.1
  replace h := h.2
  refine Y_ialoadS (k := (x4 + 2).toNatClampNeg) (v := (A 2000 (x4 + 2).toNatClampNeg)) i_312_461 (k_scr hG) (l_scr hG) o2 rfl rfl ?_
  exact Y_iv2 (L0 := [.ref 68, .int (A 2000 (x4 + 1).toNatClampNeg), .int (A 2000 (x4 + 2).toNatClampNeg)]) i_312_462 ow_312 lm_11_114 ((k_68 hG).trans ow_223.symm) rfl mx_223 rfl rfl hd_312 h
theorem k_312_465 {d : Nat} {F A : Nat → Nat → Int32} {J : Nat → Nat → Int64} {G : pG} {Q : pR → pM → Prop} {SL p q : Nat} {x4 x5 r : Int32} {v6 : Value} (hG : Geo G SL p q) (h : (((F 68 3) = x5 → ((x5 = 0 → (((J 104 0) = r.toInt64 → X (d + 9) 312 1995 [.ref 2000, .ref 0, .ref 68, .ref 104, .int x4, .int x5, .int r, .null] [] (F, A, J, G) Q) ∧ (¬ (J 104 0) = r.toInt64 → Q (.inl (some (.int 0))) (F, A, J, G)))) ∧ (¬ x5 = 0 → X (d + 9) 312 1995 [.ref 2000, .ref 0, .ref 68, .ref 104, .int x4, .int x5, .int r, .null] [] (F, A, J, G) Q))) ∧ (¬ (F 68 3) = x5 → Q (.inl (some (.int 0))) (F, A, J, G)))) : KK (d + 9) 312 465 [.ref 2000, .ref 0, .ref 68, .ref 104, .int x4, .int x5, v6, .null] [] Q (.inl (some (.int r))) (F, A, J, G) := by
  refine KKi ?_
  refine Y_is6 i_312_465 rfl ?_
  refine Y_al2 i_312_467 ?_
  refine Y_iv0 (L0 := [.ref 68]) i_312_468 ow_312 lm_11_100 ((k_68 hG).trans ow_175.symm) rfl mx_175 rfl rfl hd_312 ?_
  refine Y_al0 i_175_0 ?_
  refine Y_gI (v := (F 68 3)) i_175_1 ow_175 lf_10_143 (by decide) (k_68 hG) rfl ?_
  refine Y_iret i_175_4 rt_175 (KKi ?_)
  refine Y_il5 i_312_471 ?_
  refine Y_ceq i_312_473 (fun e1 => ?_) (fun e1 => ?_)
  · replace h := h.1 e1
    refine Y_il5 i_312_478 ?_
    refine Y_zne i_312_480 (fun e2 => ?_) (fun e2 => ?_)
    · replace h := h.1 e2
      refine Y_al3 i_312_483 ?_
      refine Y_iconst (v := 0) i_312_484 (by decide) ?_
      refine Y_laload (k := 0) (v := (J 104 0)) i_312_485 (k_104 hG) (l_104 hG) (by decide) (by decide) rfl ?_
      refine Y_il6 i_312_486 ?_
      refine Y_i2l i_312_488 ?_
      refine Y_lcmp i_312_489 ?_
      refine Y_weq i_312_490 (fun e3 => ?_) (fun e3 => ?_)
      · replace h := h.1 e3
        refine Y_goto i_312_495 ?_
        exact h
      · replace h := h.2 e3
        refine Y_iconst (v := 0) i_312_493 (by decide) ?_
        exact Y_bret i_312_494 rt_312 (by decide) h
    · replace h := h.2 e2
      refine Y_goto i_312_495 ?_
      exact h
  · replace h := h.2 e1
    refine Y_iconst (v := 0) i_312_476 (by decide) ?_
    exact Y_bret i_312_477 rt_312 (by decide) h
theorem t_312_498 {d : Nat} {F A : Nat → Nat → Int32} {J : Nat → Nat → Int64} {G : pG} {Q : pR → pM → Prop} {SL p q : Nat} {x4 : Int32} {v5 v6 : Value} (hG : Geo G SL p q) (h : inB (x4 + 1) SL = true ∧ inB (x4 + 2) SL = true ∧ (X (d + 8) 293 0 [.ref 0, .int (A 2000 (x4 + 1).toNatClampNeg), .int (A 2000 (x4 + 2).toNatClampNeg), .ref 104, .null] [] (F, A, J, G) (KK (d + 9) 312 515 [.ref 2000, .ref 0, .ref 68, .ref 104, .int x4, v5, v6, .null] [] Q))) : X (d + 9) 312 498 [.ref 2000, .ref 0, .ref 68, .ref 104, .int x4, v5, v6, .null] [] (F, A, J, G) Q := by
  refine Y_al1 i_312_498 ?_
  refine Y_al0 i_312_499 ?_
  refine Y_il4 i_312_500 ?_
  refine Y_iconst (v := 1) i_312_502 (by decide) ?_
  refine Y_iadd i_312_503 ?_
  have o1 := h.1
  replace h := h.2
  refine Y_ialoadS (k := (x4 + 1).toNatClampNeg) (v := (A 2000 (x4 + 1).toNatClampNeg)) i_312_504 (k_scr hG) (l_scr hG) o1 rfl rfl ?_
  refine Y_al0 i_312_505 ?_
  refine Y_il4 i_312_506 ?_
  refine Y_iconst (v := 2) i_312_508 (by decide) ?_
  refine Y_iadd i_312_509 ?_
  have o2 := h.1
  replace h := h.2
  refine Y_ialoadS (k := (x4 + 2).toNatClampNeg) (v := (A 2000 (x4 + 2).toNatClampNeg)) i_312_510 (k_scr hG) (l_scr hG) o2 rfl rfl ?_
  refine Y_al3 i_312_511 ?_
  exact Y_is_4 (L0 := [.ref 0, .int (A 2000 (x4 + 1).toNatClampNeg), .int (A 2000 (x4 + 2).toNatClampNeg), .ref 104, .null]) i_312_512 ow_312 lm_11_115 rfl mx_293 rfl rfl hd_312 h
theorem k_312_515 {d : Nat} {F A : Nat → Nat → Int32} {J : Nat → Nat → Int64} {G : pG} {Q : pR → pM → Prop} {SL p q : Nat} {x4 r : Int32} {v5 v6 : Value} (hG : Geo G SL p q) (h : inB (x4 + 1) SL = true ∧ inB (x4 + 2) SL = true ∧ (X (d + 8) 225 0 [.ref 68, .int (A 2000 (x4 + 1).toNatClampNeg), .int (A 2000 (x4 + 2).toNatClampNeg)] [] (F, A, J, G) (KK (d + 9) 312 533 [.ref 2000, .ref 0, .ref 68, .ref 104, .int x4, .int r, v6, .null] [] Q))) : KK (d + 9) 312 515 [.ref 2000, .ref 0, .ref 68, .ref 104, .int x4, v5, v6, .null] [] Q (.inl (some (.int r))) (F, A, J, G) := by
  refine KKi ?_
  refine Y_is5 i_312_515 rfl ?_
  refine Y_al2 i_312_517 ?_
  refine Y_al0 i_312_518 ?_
  refine Y_il4 i_312_519 ?_
  refine Y_iconst (v := 1) i_312_521 (by decide) ?_
  refine Y_iadd i_312_522 ?_
  have o1 := h.1
  replace h := h.2
  refine Y_ialoadS (k := (x4 + 1).toNatClampNeg) (v := (A 2000 (x4 + 1).toNatClampNeg)) i_312_523 (k_scr hG) (l_scr hG) o1 rfl rfl ?_
  refine Y_al0 i_312_524 ?_
  refine Y_il4 i_312_525 ?_
  refine Y_iconst (v := 2) i_312_527 (by decide) ?_
  refine Y_iadd i_312_528 ?_
  have o2 := h.1
  replace h := h.2
  refine Y_ialoadS (k := (x4 + 2).toNatClampNeg) (v := (A 2000 (x4 + 2).toNatClampNeg)) i_312_529 (k_scr hG) (l_scr hG) o2 rfl rfl ?_
  exact Y_iv2 (L0 := [.ref 68, .int (A 2000 (x4 + 1).toNatClampNeg), .int (A 2000 (x4 + 2).toNatClampNeg)]) i_312_530 ow_312 lm_11_117 ((k_68 hG).trans ow_225.symm) rfl mx_225 rfl rfl hd_312 h
theorem k_312_533 {d : Nat} {F A : Nat → Nat → Int32} {J : Nat → Nat → Int64} {G : pG} {Q : pR → pM → Prop} {SL p q : Nat} {x4 x5 r : Int32} {v6 : Value} (hG : Geo G SL p q) (h : (((F 68 3) = x5 → ((x5 = 0 → (((J 104 0) = r.toInt64 → X (d + 9) 312 1995 [.ref 2000, .ref 0, .ref 68, .ref 104, .int x4, .int x5, .int r, .null] [] (F, A, J, G) Q) ∧ (¬ (J 104 0) = r.toInt64 → Q (.inl (some (.int 0))) (F, A, J, G)))) ∧ (¬ x5 = 0 → X (d + 9) 312 1995 [.ref 2000, .ref 0, .ref 68, .ref 104, .int x4, .int x5, .int r, .null] [] (F, A, J, G) Q))) ∧ (¬ (F 68 3) = x5 → Q (.inl (some (.int 0))) (F, A, J, G)))) : KK (d + 9) 312 533 [.ref 2000, .ref 0, .ref 68, .ref 104, .int x4, .int x5, v6, .null] [] Q (.inl (some (.int r))) (F, A, J, G) := by
  refine KKi ?_
  refine Y_is6 i_312_533 rfl ?_
  refine Y_al2 i_312_535 ?_
  refine Y_iv0 (L0 := [.ref 68]) i_312_536 ow_312 lm_11_100 ((k_68 hG).trans ow_175.symm) rfl mx_175 rfl rfl hd_312 ?_
  refine Y_al0 i_175_0 ?_
  refine Y_gI (v := (F 68 3)) i_175_1 ow_175 lf_10_143 (by decide) (k_68 hG) rfl ?_
  refine Y_iret i_175_4 rt_175 (KKi ?_)
  refine Y_il5 i_312_539 ?_
  refine Y_ceq i_312_541 (fun e1 => ?_) (fun e1 => ?_)
  · replace h := h.1 e1
    refine Y_il5 i_312_546 ?_
    refine Y_zne i_312_548 (fun e2 => ?_) (fun e2 => ?_)
    · replace h := h.1 e2
      refine Y_al3 i_312_551 ?_
      refine Y_iconst (v := 0) i_312_552 (by decide) ?_
      refine Y_laload (k := 0) (v := (J 104 0)) i_312_553 (k_104 hG) (l_104 hG) (by decide) (by decide) rfl ?_
      refine Y_il6 i_312_554 ?_
      refine Y_i2l i_312_556 ?_
      refine Y_lcmp i_312_557 ?_
      refine Y_weq i_312_558 (fun e3 => ?_) (fun e3 => ?_)
      · replace h := h.1 e3
        refine Y_goto i_312_563 ?_
        exact h
      · replace h := h.2 e3
        refine Y_iconst (v := 0) i_312_561 (by decide) ?_
        exact Y_bret i_312_562 rt_312 (by decide) h
    · replace h := h.2 e2
      refine Y_goto i_312_563 ?_
      exact h
  · replace h := h.2 e1
    refine Y_iconst (v := 0) i_312_544 (by decide) ?_
    exact Y_bret i_312_545 rt_312 (by decide) h
theorem t_312_566 {d : Nat} {F A : Nat → Nat → Int32} {J : Nat → Nat → Int64} {G : pG} {Q : pR → pM → Prop} {SL p q : Nat} {x4 : Int32} {v5 v6 : Value} (hG : Geo G SL p q) (h : X (d + 8) 132 0 [.ref 0] [] (F, A, J, G) (KK (d + 9) 312 570 [.ref 2000, .ref 0, .ref 68, .ref 104, .int x4, v5, v6, .null] [] Q)) : X (d + 9) 312 566 [.ref 2000, .ref 0, .ref 68, .ref 104, .int x4, v5, v6, .null] [] (F, A, J, G) Q := by
  refine Y_al1 i_312_566 ?_
  exact Y_iv0 (L0 := [.ref 0]) i_312_567 ow_312 lm_11_118 ((k_0 hG).trans ow_132.symm) rfl mx_132 rfl rfl hd_312 h
theorem k_312_570 {d : Nat} {F A : Nat → Nat → Int32} {J : Nat → Nat → Int64} {G : pG} {Q : pR → pM → Prop} {SL p q : Nat} {x4 r : Int32} {v5 v6 : Value} (hG : Geo G SL p q) (h : X (d + 8) 224 0 [.ref 68] [] (F, A, J, G) (KK (d + 9) 312 574 [.ref 2000, .ref 0, .ref 68, .ref 104, .int x4, v5, v6, .null] [.int r] Q)) : KK (d + 9) 312 570 [.ref 2000, .ref 0, .ref 68, .ref 104, .int x4, v5, v6, .null] [] Q (.inl (some (.int r))) (F, A, J, G) := by
  refine KKi ?_
  refine Y_al2 i_312_570 ?_
  exact Y_iv0 (L0 := [.ref 68]) i_312_571 ow_312 lm_11_121 ((k_68 hG).trans ow_224.symm) rfl mx_224 rfl rfl hd_312 h
theorem k_312_574 {d : Nat} {F A : Nat → Nat → Int32} {J : Nat → Nat → Int64} {G : pG} {Q : pR → pM → Prop} {SL p q : Nat} {x4 r s0 : Int32} {v5 v6 : Value} (hG : Geo G SL p q) (h : ((s0 = r → X (d + 9) 312 1995 [.ref 2000, .ref 0, .ref 68, .ref 104, .int x4, v5, v6, .null] [] (F, A, J, G) Q) ∧ (¬ s0 = r → Q (.inl (some (.int 0))) (F, A, J, G)))) : KK (d + 9) 312 574 [.ref 2000, .ref 0, .ref 68, .ref 104, .int x4, v5, v6, .null] [.int s0] Q (.inl (some (.int r))) (F, A, J, G) := by
  refine KKi ?_
  refine Y_ceq i_312_574 (fun e1 => ?_) (fun e1 => ?_)
  · replace h := h.1 e1
    exact h
  · replace h := h.2 e1
    refine Y_iconst (v := 0) i_312_577 (by decide) ?_
    exact Y_bret i_312_578 rt_312 (by decide) h
theorem t_312_579 {d : Nat} {F A : Nat → Nat → Int32} {J : Nat → Nat → Int64} {G : pG} {Q : pR → pM → Prop} {SL p q : Nat} {x4 : Int32} {v5 v6 : Value} (hG : Geo G SL p q) (h : inB (x4 + 1) SL = true ∧ inB (x4 + 2) SL = true ∧ (X (d + 8) 294 0 [.ref 0, .int (A 2000 (x4 + 1).toNatClampNeg), .int (A 2000 (x4 + 2).toNatClampNeg), .ref 104, .null] [] (F, A, J, G) (KK (d + 9) 312 596 [.ref 2000, .ref 0, .ref 68, .ref 104, .int x4, v5, v6, .null] [] Q))) : X (d + 9) 312 579 [.ref 2000, .ref 0, .ref 68, .ref 104, .int x4, v5, v6, .null] [] (F, A, J, G) Q := by
  refine Y_al1 i_312_579 ?_
  refine Y_al0 i_312_580 ?_
  refine Y_il4 i_312_581 ?_
  refine Y_iconst (v := 1) i_312_583 (by decide) ?_
  refine Y_iadd i_312_584 ?_
  have o1 := h.1
  replace h := h.2
  refine Y_ialoadS (k := (x4 + 1).toNatClampNeg) (v := (A 2000 (x4 + 1).toNatClampNeg)) i_312_585 (k_scr hG) (l_scr hG) o1 rfl rfl ?_
  refine Y_al0 i_312_586 ?_
  refine Y_il4 i_312_587 ?_
  refine Y_iconst (v := 2) i_312_589 (by decide) ?_
  refine Y_iadd i_312_590 ?_
  have o2 := h.1
  replace h := h.2
  refine Y_ialoadS (k := (x4 + 2).toNatClampNeg) (v := (A 2000 (x4 + 2).toNatClampNeg)) i_312_591 (k_scr hG) (l_scr hG) o2 rfl rfl ?_
  refine Y_al3 i_312_592 ?_
  exact Y_is_4 (L0 := [.ref 0, .int (A 2000 (x4 + 1).toNatClampNeg), .int (A 2000 (x4 + 2).toNatClampNeg), .ref 104, .null]) i_312_593 ow_312 lm_11_122 rfl mx_294 rfl rfl hd_312 h
theorem k_312_596 {d : Nat} {F A : Nat → Nat → Int32} {J : Nat → Nat → Int64} {G : pG} {Q : pR → pM → Prop} {SL p q : Nat} {x4 r : Int32} {v5 v6 : Value} (hG : Geo G SL p q) (h : inB (x4 + 1) SL = true ∧ inB (x4 + 2) SL = true ∧ (X (d + 8) 229 0 [.ref 68, .int (A 2000 (x4 + 1).toNatClampNeg), .int (A 2000 (x4 + 2).toNatClampNeg), .null] [] (F, A, J, G) (KK (d + 9) 312 614 [.ref 2000, .ref 0, .ref 68, .ref 104, .int x4, .int r, v6, .null] [] Q))) : KK (d + 9) 312 596 [.ref 2000, .ref 0, .ref 68, .ref 104, .int x4, v5, v6, .null] [] Q (.inl (some (.int r))) (F, A, J, G) := by
  refine KKi ?_
  refine Y_is5 i_312_596 rfl ?_
  refine Y_al2 i_312_598 ?_
  refine Y_al0 i_312_599 ?_
  refine Y_il4 i_312_600 ?_
  refine Y_iconst (v := 1) i_312_602 (by decide) ?_
  refine Y_iadd i_312_603 ?_
  have o1 := h.1
  replace h := h.2
  refine Y_ialoadS (k := (x4 + 1).toNatClampNeg) (v := (A 2000 (x4 + 1).toNatClampNeg)) i_312_604 (k_scr hG) (l_scr hG) o1 rfl rfl ?_
  refine Y_al0 i_312_605 ?_
  refine Y_il4 i_312_606 ?_
  refine Y_iconst (v := 2) i_312_608 (by decide) ?_
  refine Y_iadd i_312_609 ?_
  have o2 := h.1
  replace h := h.2
  refine Y_ialoadS (k := (x4 + 2).toNatClampNeg) (v := (A 2000 (x4 + 2).toNatClampNeg)) i_312_610 (k_scr hG) (l_scr hG) o2 rfl rfl ?_
  exact Y_iv2 (L0 := [.ref 68, .int (A 2000 (x4 + 1).toNatClampNeg), .int (A 2000 (x4 + 2).toNatClampNeg), .null]) i_312_611 ow_312 lm_11_124 ((k_68 hG).trans ow_229.symm) rfl mx_229 rfl rfl hd_312 h
theorem k_312_614 {d : Nat} {F A : Nat → Nat → Int32} {J : Nat → Nat → Int64} {G : pG} {Q : pR → pM → Prop} {SL p q : Nat} {x4 x5 r : Int32} {v6 : Value} (hG : Geo G SL p q) (h : (((F 68 3) = x5 → ((x5 = 0 → (((J 104 0) = r.toInt64 → X (d + 9) 312 1995 [.ref 2000, .ref 0, .ref 68, .ref 104, .int x4, .int x5, .int r, .null] [] (F, A, J, G) Q) ∧ (¬ (J 104 0) = r.toInt64 → Q (.inl (some (.int 0))) (F, A, J, G)))) ∧ (¬ x5 = 0 → X (d + 9) 312 1995 [.ref 2000, .ref 0, .ref 68, .ref 104, .int x4, .int x5, .int r, .null] [] (F, A, J, G) Q))) ∧ (¬ (F 68 3) = x5 → Q (.inl (some (.int 0))) (F, A, J, G)))) : KK (d + 9) 312 614 [.ref 2000, .ref 0, .ref 68, .ref 104, .int x4, .int x5, v6, .null] [] Q (.inl (some (.int r))) (F, A, J, G) := by
  refine KKi ?_
  refine Y_is6 i_312_614 rfl ?_
  refine Y_al2 i_312_616 ?_
  refine Y_iv0 (L0 := [.ref 68]) i_312_617 ow_312 lm_11_100 ((k_68 hG).trans ow_175.symm) rfl mx_175 rfl rfl hd_312 ?_
  refine Y_al0 i_175_0 ?_
  refine Y_gI (v := (F 68 3)) i_175_1 ow_175 lf_10_143 (by decide) (k_68 hG) rfl ?_
  refine Y_iret i_175_4 rt_175 (KKi ?_)
  refine Y_il5 i_312_620 ?_
  refine Y_ceq i_312_622 (fun e1 => ?_) (fun e1 => ?_)
  · replace h := h.1 e1
    refine Y_il5 i_312_627 ?_
    refine Y_zne i_312_629 (fun e2 => ?_) (fun e2 => ?_)
    · replace h := h.1 e2
      refine Y_al3 i_312_632 ?_
      refine Y_iconst (v := 0) i_312_633 (by decide) ?_
      refine Y_laload (k := 0) (v := (J 104 0)) i_312_634 (k_104 hG) (l_104 hG) (by decide) (by decide) rfl ?_
      refine Y_il6 i_312_635 ?_
      refine Y_i2l i_312_637 ?_
      refine Y_lcmp i_312_638 ?_
      refine Y_weq i_312_639 (fun e3 => ?_) (fun e3 => ?_)
      · replace h := h.1 e3
        refine Y_goto i_312_644 ?_
        exact h
      · replace h := h.2 e3
        refine Y_iconst (v := 0) i_312_642 (by decide) ?_
        exact Y_bret i_312_643 rt_312 (by decide) h
    · replace h := h.2 e2
      refine Y_goto i_312_644 ?_
      exact h
  · replace h := h.2 e1
    refine Y_iconst (v := 0) i_312_625 (by decide) ?_
    exact Y_bret i_312_626 rt_312 (by decide) h
theorem t_312_647 {d : Nat} {F A : Nat → Nat → Int32} {J : Nat → Nat → Int64} {G : pG} {Q : pR → pM → Prop} {SL p q : Nat} {x4 : Int32} {v5 v6 : Value} (hG : Geo G SL p q) (h : inB (x4 + 1) SL = true ∧ (X (d + 8) 295 0 [.ref 0, .int (A 2000 (x4 + 1).toNatClampNeg), .ref 104, .null] [] (F, A, J, G) (KK (d + 9) 312 658 [.ref 2000, .ref 0, .ref 68, .ref 104, .int x4, v5, v6, .null] [] Q))) : X (d + 9) 312 647 [.ref 2000, .ref 0, .ref 68, .ref 104, .int x4, v5, v6, .null] [] (F, A, J, G) Q := by
  refine Y_al1 i_312_647 ?_
  refine Y_al0 i_312_648 ?_
  refine Y_il4 i_312_649 ?_
  refine Y_iconst (v := 1) i_312_651 (by decide) ?_
  refine Y_iadd i_312_652 ?_
  have o1 := h.1
  replace h := h.2
  refine Y_ialoadS (k := (x4 + 1).toNatClampNeg) (v := (A 2000 (x4 + 1).toNatClampNeg)) i_312_653 (k_scr hG) (l_scr hG) o1 rfl rfl ?_
  refine Y_al3 i_312_654 ?_
  exact Y_is_3 (L0 := [.ref 0, .int (A 2000 (x4 + 1).toNatClampNeg), .ref 104, .null]) i_312_655 ow_312 lm_11_125 rfl mx_295 rfl rfl hd_312 h
theorem k_312_658 {d : Nat} {F A : Nat → Nat → Int32} {J : Nat → Nat → Int64} {G : pG} {Q : pR → pM → Prop} {SL p q : Nat} {x4 r : Int32} {v5 v6 : Value} (hG : Geo G SL p q) (h : inB (x4 + 1) SL = true ∧ (X (d + 8) 231 0 [.ref 68, .int (A 2000 (x4 + 1).toNatClampNeg), .null] [] (F, A, J, G) (KK (d + 9) 312 670 [.ref 2000, .ref 0, .ref 68, .ref 104, .int x4, .int r, v6, .null] [] Q))) : KK (d + 9) 312 658 [.ref 2000, .ref 0, .ref 68, .ref 104, .int x4, v5, v6, .null] [] Q (.inl (some (.int r))) (F, A, J, G) := by
  refine KKi ?_
  refine Y_is5 i_312_658 rfl ?_
  refine Y_al2 i_312_660 ?_
  refine Y_al0 i_312_661 ?_
  refine Y_il4 i_312_662 ?_
  refine Y_iconst (v := 1) i_312_664 (by decide) ?_
  refine Y_iadd i_312_665 ?_
  have o1 := h.1
  replace h := h.2
  refine Y_ialoadS (k := (x4 + 1).toNatClampNeg) (v := (A 2000 (x4 + 1).toNatClampNeg)) i_312_666 (k_scr hG) (l_scr hG) o1 rfl rfl ?_
  exact Y_iv1 (L0 := [.ref 68, .int (A 2000 (x4 + 1).toNatClampNeg), .null]) i_312_667 ow_312 lm_11_127 ((k_68 hG).trans ow_231.symm) rfl mx_231 rfl rfl hd_312 h
theorem k_312_670 {d : Nat} {F A : Nat → Nat → Int32} {J : Nat → Nat → Int64} {G : pG} {Q : pR → pM → Prop} {SL p q : Nat} {x4 x5 r : Int32} {v6 : Value} (hG : Geo G SL p q) (h : (((F 68 3) = x5 → ((x5 = 0 → (((J 104 0) = r.toInt64 → X (d + 9) 312 1995 [.ref 2000, .ref 0, .ref 68, .ref 104, .int x4, .int x5, .int r, .null] [] (F, A, J, G) Q) ∧ (¬ (J 104 0) = r.toInt64 → Q (.inl (some (.int 0))) (F, A, J, G)))) ∧ (¬ x5 = 0 → X (d + 9) 312 1995 [.ref 2000, .ref 0, .ref 68, .ref 104, .int x4, .int x5, .int r, .null] [] (F, A, J, G) Q))) ∧ (¬ (F 68 3) = x5 → Q (.inl (some (.int 0))) (F, A, J, G)))) : KK (d + 9) 312 670 [.ref 2000, .ref 0, .ref 68, .ref 104, .int x4, .int x5, v6, .null] [] Q (.inl (some (.int r))) (F, A, J, G) := by
  refine KKi ?_
  refine Y_is6 i_312_670 rfl ?_
  refine Y_al2 i_312_672 ?_
  refine Y_iv0 (L0 := [.ref 68]) i_312_673 ow_312 lm_11_100 ((k_68 hG).trans ow_175.symm) rfl mx_175 rfl rfl hd_312 ?_
  refine Y_al0 i_175_0 ?_
  refine Y_gI (v := (F 68 3)) i_175_1 ow_175 lf_10_143 (by decide) (k_68 hG) rfl ?_
  refine Y_iret i_175_4 rt_175 (KKi ?_)
  refine Y_il5 i_312_676 ?_
  refine Y_ceq i_312_678 (fun e1 => ?_) (fun e1 => ?_)
  · replace h := h.1 e1
    refine Y_il5 i_312_683 ?_
    refine Y_zne i_312_685 (fun e2 => ?_) (fun e2 => ?_)
    · replace h := h.1 e2
      refine Y_al3 i_312_688 ?_
      refine Y_iconst (v := 0) i_312_689 (by decide) ?_
      refine Y_laload (k := 0) (v := (J 104 0)) i_312_690 (k_104 hG) (l_104 hG) (by decide) (by decide) rfl ?_
      refine Y_il6 i_312_691 ?_
      refine Y_i2l i_312_693 ?_
      refine Y_lcmp i_312_694 ?_
      refine Y_weq i_312_695 (fun e3 => ?_) (fun e3 => ?_)
      · replace h := h.1 e3
        refine Y_goto i_312_700 ?_
        exact h
      · replace h := h.2 e3
        refine Y_iconst (v := 0) i_312_698 (by decide) ?_
        exact Y_bret i_312_699 rt_312 (by decide) h
    · replace h := h.2 e2
      refine Y_goto i_312_700 ?_
      exact h
  · replace h := h.2 e1
    refine Y_iconst (v := 0) i_312_681 (by decide) ?_
    exact Y_bret i_312_682 rt_312 (by decide) h
theorem t_312_703 {d : Nat} {F A : Nat → Nat → Int32} {J : Nat → Nat → Int64} {G : pG} {Q : pR → pM → Prop} {SL p q : Nat} {x4 : Int32} {v5 v6 : Value} (hG : Geo G SL p q) (h : inB (x4 + 1) SL = true ∧ inB (x4 + 2) SL = true ∧ (X (d + 8) 296 0 [.ref 0, .int (A 2000 (x4 + 1).toNatClampNeg), .int (A 2000 (x4 + 2).toNatClampNeg), .ref 104, .null] [] (F, A, J, G) (KK (d + 9) 312 720 [.ref 2000, .ref 0, .ref 68, .ref 104, .int x4, v5, v6, .null] [] Q))) : X (d + 9) 312 703 [.ref 2000, .ref 0, .ref 68, .ref 104, .int x4, v5, v6, .null] [] (F, A, J, G) Q := by
  refine Y_al1 i_312_703 ?_
  refine Y_al0 i_312_704 ?_
  refine Y_il4 i_312_705 ?_
  refine Y_iconst (v := 1) i_312_707 (by decide) ?_
  refine Y_iadd i_312_708 ?_
  have o1 := h.1
  replace h := h.2
  refine Y_ialoadS (k := (x4 + 1).toNatClampNeg) (v := (A 2000 (x4 + 1).toNatClampNeg)) i_312_709 (k_scr hG) (l_scr hG) o1 rfl rfl ?_
  refine Y_al0 i_312_710 ?_
  refine Y_il4 i_312_711 ?_
  refine Y_iconst (v := 2) i_312_713 (by decide) ?_
  refine Y_iadd i_312_714 ?_
  have o2 := h.1
  replace h := h.2
  refine Y_ialoadS (k := (x4 + 2).toNatClampNeg) (v := (A 2000 (x4 + 2).toNatClampNeg)) i_312_715 (k_scr hG) (l_scr hG) o2 rfl rfl ?_
  refine Y_al3 i_312_716 ?_
  exact Y_is_4 (L0 := [.ref 0, .int (A 2000 (x4 + 1).toNatClampNeg), .int (A 2000 (x4 + 2).toNatClampNeg), .ref 104, .null]) i_312_717 ow_312 lm_11_128 rfl mx_296 rfl rfl hd_312 h
theorem k_312_720 {d : Nat} {F A : Nat → Nat → Int32} {J : Nat → Nat → Int64} {G : pG} {Q : pR → pM → Prop} {SL p q : Nat} {x4 r : Int32} {v5 v6 : Value} (hG : Geo G SL p q) (h : inB (x4 + 1) SL = true ∧ inB (x4 + 2) SL = true ∧ (X (d + 8) 233 0 [.ref 68, .int (A 2000 (x4 + 1).toNatClampNeg), .int (A 2000 (x4 + 2).toNatClampNeg)] [] (F, A, J, G) (KK (d + 9) 312 738 [.ref 2000, .ref 0, .ref 68, .ref 104, .int x4, .int r, v6, .null] [] Q))) : KK (d + 9) 312 720 [.ref 2000, .ref 0, .ref 68, .ref 104, .int x4, v5, v6, .null] [] Q (.inl (some (.int r))) (F, A, J, G) := by
  refine KKi ?_
  refine Y_is5 i_312_720 rfl ?_
  refine Y_al2 i_312_722 ?_
  refine Y_al0 i_312_723 ?_
  refine Y_il4 i_312_724 ?_
  refine Y_iconst (v := 1) i_312_726 (by decide) ?_
  refine Y_iadd i_312_727 ?_
  have o1 := h.1
  replace h := h.2
  refine Y_ialoadS (k := (x4 + 1).toNatClampNeg) (v := (A 2000 (x4 + 1).toNatClampNeg)) i_312_728 (k_scr hG) (l_scr hG) o1 rfl rfl ?_
  refine Y_al0 i_312_729 ?_
  refine Y_il4 i_312_730 ?_
  refine Y_iconst (v := 2) i_312_732 (by decide) ?_
  refine Y_iadd i_312_733 ?_
  have o2 := h.1
  replace h := h.2
  refine Y_ialoadS (k := (x4 + 2).toNatClampNeg) (v := (A 2000 (x4 + 2).toNatClampNeg)) i_312_734 (k_scr hG) (l_scr hG) o2 rfl rfl ?_
  exact Y_iv2 (L0 := [.ref 68, .int (A 2000 (x4 + 1).toNatClampNeg), .int (A 2000 (x4 + 2).toNatClampNeg)]) i_312_735 ow_312 lm_11_130 ((k_68 hG).trans ow_233.symm) rfl mx_233 rfl rfl hd_312 h
theorem k_312_738 {d : Nat} {F A : Nat → Nat → Int32} {J : Nat → Nat → Int64} {G : pG} {Q : pR → pM → Prop} {SL p q : Nat} {x4 x5 r : Int32} {v6 : Value} (hG : Geo G SL p q) (h : (((F 68 3) = x5 → ((x5 = 0 → ((r = 0 → (((J 104 0) = 0 → X (d + 9) 312 1995 [.ref 2000, .ref 0, .ref 68, .ref 104, .int x4, .int x5, .int r, .null] [] (F, A, J, G) Q) ∧ (¬ (J 104 0) = 0 → Q (.inl (some (.int 0))) (F, A, J, G)))) ∧ (¬ r = 0 → (((J 104 0) = 1 → X (d + 9) 312 1995 [.ref 2000, .ref 0, .ref 68, .ref 104, .int x4, .int x5, .int r, .null] [] (F, A, J, G) Q) ∧ (¬ (J 104 0) = 1 → Q (.inl (some (.int 0))) (F, A, J, G)))))) ∧ (¬ x5 = 0 → X (d + 9) 312 1995 [.ref 2000, .ref 0, .ref 68, .ref 104, .int x4, .int x5, .int r, .null] [] (F, A, J, G) Q))) ∧ (¬ (F 68 3) = x5 → Q (.inl (some (.int 0))) (F, A, J, G)))) : KK (d + 9) 312 738 [.ref 2000, .ref 0, .ref 68, .ref 104, .int x4, .int x5, v6, .null] [] Q (.inl (some (.int r))) (F, A, J, G) := by
  refine KKi ?_
  refine Y_is6 i_312_738 rfl ?_
  refine Y_al2 i_312_740 ?_
  refine Y_iv0 (L0 := [.ref 68]) i_312_741 ow_312 lm_11_100 ((k_68 hG).trans ow_175.symm) rfl mx_175 rfl rfl hd_312 ?_
  refine Y_al0 i_175_0 ?_
  refine Y_gI (v := (F 68 3)) i_175_1 ow_175 lf_10_143 (by decide) (k_68 hG) rfl ?_
  refine Y_iret i_175_4 rt_175 (KKi ?_)
  refine Y_il5 i_312_744 ?_
  refine Y_ceq i_312_746 (fun e1 => ?_) (fun e1 => ?_)
  · replace h := h.1 e1
    refine Y_il5 i_312_751 ?_
    refine Y_zne i_312_753 (fun e2 => ?_) (fun e2 => ?_)
    · replace h := h.1 e2
      refine Y_al3 i_312_756 ?_
      refine Y_iconst (v := 0) i_312_757 (by decide) ?_
      refine Y_laload (k := 0) (v := (J 104 0)) i_312_758 (k_104 hG) (l_104 hG) (by decide) (by decide) rfl ?_
      refine Y_il6 i_312_759 ?_
      refine Y_zeq i_312_761 (fun e3 => ?_) (fun e3 => ?_)
      · replace h := h.1 e3
        refine Y_lconst (v := 0) i_312_768 (by decide) ?_
        refine Y_lcmp i_312_769 ?_
        refine Y_weq i_312_770 (fun e4 => ?_) (fun e4 => ?_)
        · replace h := h.1 e4
          refine Y_goto i_312_775 ?_
          exact h
        · replace h := h.2 e4
          refine Y_iconst (v := 0) i_312_773 (by decide) ?_
          exact Y_bret i_312_774 rt_312 (by decide) h
      · replace h := h.2 e3
        refine Y_lconst (v := 1) i_312_764 (by decide) ?_
        refine Y_goto i_312_765 ?_
        refine Y_lcmp i_312_769 ?_
        refine Y_weq i_312_770 (fun e5 => ?_) (fun e5 => ?_)
        · replace h := h.1 e5
          refine Y_goto i_312_775 ?_
          exact h
        · replace h := h.2 e5
          refine Y_iconst (v := 0) i_312_773 (by decide) ?_
          exact Y_bret i_312_774 rt_312 (by decide) h
    · replace h := h.2 e2
      refine Y_goto i_312_775 ?_
      exact h
  · replace h := h.2 e1
    refine Y_iconst (v := 0) i_312_749 (by decide) ?_
    exact Y_bret i_312_750 rt_312 (by decide) h
theorem t_312_778 {d : Nat} {F A : Nat → Nat → Int32} {J : Nat → Nat → Int64} {G : pG} {Q : pR → pM → Prop} {SL p q : Nat} {x4 : Int32} {v5 v6 : Value} (hG : Geo G SL p q) (h : inB (x4 + 1) SL = true ∧ inB (x4 + 2) SL = true ∧ (X (d + 8) 297 0 [.ref 0, .int (A 2000 (x4 + 1).toNatClampNeg), .int (A 2000 (x4 + 2).toNatClampNeg), .ref 104, .null] [] (F, A, J, G) (KK (d + 9) 312 795 [.ref 2000, .ref 0, .ref 68, .ref 104, .int x4, v5, v6, .null] [] Q))) : X (d + 9) 312 778 [.ref 2000, .ref 0, .ref 68, .ref 104, .int x4, v5, v6, .null] [] (F, A, J, G) Q := by
  refine Y_al1 i_312_778 ?_
  refine Y_al0 i_312_779 ?_
  refine Y_il4 i_312_780 ?_
  refine Y_iconst (v := 1) i_312_782 (by decide) ?_
  refine Y_iadd i_312_783 ?_
  have o1 := h.1
  replace h := h.2
  refine Y_ialoadS (k := (x4 + 1).toNatClampNeg) (v := (A 2000 (x4 + 1).toNatClampNeg)) i_312_784 (k_scr hG) (l_scr hG) o1 rfl rfl ?_
  refine Y_al0 i_312_785 ?_
  refine Y_il4 i_312_786 ?_
  refine Y_iconst (v := 2) i_312_788 (by decide) ?_
  refine Y_iadd i_312_789 ?_
  have o2 := h.1
  replace h := h.2
  refine Y_ialoadS (k := (x4 + 2).toNatClampNeg) (v := (A 2000 (x4 + 2).toNatClampNeg)) i_312_790 (k_scr hG) (l_scr hG) o2 rfl rfl ?_
  refine Y_al3 i_312_791 ?_
  exact Y_is_4 (L0 := [.ref 0, .int (A 2000 (x4 + 1).toNatClampNeg), .int (A 2000 (x4 + 2).toNatClampNeg), .ref 104, .null]) i_312_792 ow_312 lm_11_131 rfl mx_297 rfl rfl hd_312 h
theorem k_312_795 {d : Nat} {F A : Nat → Nat → Int32} {J : Nat → Nat → Int64} {G : pG} {Q : pR → pM → Prop} {SL p q : Nat} {x4 r : Int32} {v5 v6 : Value} (hG : Geo G SL p q) (h : inB (x4 + 1) SL = true ∧ inB (x4 + 2) SL = true ∧ (X (d + 8) 234 0 [.ref 68, .int (A 2000 (x4 + 1).toNatClampNeg), .int (A 2000 (x4 + 2).toNatClampNeg), .null] [] (F, A, J, G) (KK (d + 9) 312 813 [.ref 2000, .ref 0, .ref 68, .ref 104, .int x4, .int r, v6, .null] [] Q))) : KK (d + 9) 312 795 [.ref 2000, .ref 0, .ref 68, .ref 104, .int x4, v5, v6, .null] [] Q (.inl (some (.int r))) (F, A, J, G) := by
  refine KKi ?_
  refine Y_is5 i_312_795 rfl ?_
  refine Y_al2 i_312_797 ?_
  refine Y_al0 i_312_798 ?_
  refine Y_il4 i_312_799 ?_
  refine Y_iconst (v := 1) i_312_801 (by decide) ?_
  refine Y_iadd i_312_802 ?_
  have o1 := h.1
  replace h := h.2
  refine Y_ialoadS (k := (x4 + 1).toNatClampNeg) (v := (A 2000 (x4 + 1).toNatClampNeg)) i_312_803 (k_scr hG) (l_scr hG) o1 rfl rfl ?_
  refine Y_al0 i_312_804 ?_
  refine Y_il4 i_312_805 ?_
  refine Y_iconst (v := 2) i_312_807 (by decide) ?_
  refine Y_iadd i_312_808 ?_
  have o2 := h.1
  replace h := h.2
  refine Y_ialoadS (k := (x4 + 2).toNatClampNeg) (v := (A 2000 (x4 + 2).toNatClampNeg)) i_312_809 (k_scr hG) (l_scr hG) o2 rfl rfl ?_
  exact Y_iv2 (L0 := [.ref 68, .int (A 2000 (x4 + 1).toNatClampNeg), .int (A 2000 (x4 + 2).toNatClampNeg), .null]) i_312_810 ow_312 lm_11_133 ((k_68 hG).trans ow_234.symm) rfl mx_234 rfl rfl hd_312 h
theorem k_312_813 {d : Nat} {F A : Nat → Nat → Int32} {J : Nat → Nat → Int64} {G : pG} {Q : pR → pM → Prop} {SL p q : Nat} {x4 x5 r : Int32} {v6 : Value} (hG : Geo G SL p q) (h : (((F 68 3) = x5 → ((x5 = 0 → (((J 104 0) = r.toInt64 → X (d + 9) 312 1995 [.ref 2000, .ref 0, .ref 68, .ref 104, .int x4, .int x5, .int r, .null] [] (F, A, J, G) Q) ∧ (¬ (J 104 0) = r.toInt64 → Q (.inl (some (.int 0))) (F, A, J, G)))) ∧ (¬ x5 = 0 → X (d + 9) 312 1995 [.ref 2000, .ref 0, .ref 68, .ref 104, .int x4, .int x5, .int r, .null] [] (F, A, J, G) Q))) ∧ (¬ (F 68 3) = x5 → Q (.inl (some (.int 0))) (F, A, J, G)))) : KK (d + 9) 312 813 [.ref 2000, .ref 0, .ref 68, .ref 104, .int x4, .int x5, v6, .null] [] Q (.inl (some (.int r))) (F, A, J, G) := by
  refine KKi ?_
  refine Y_is6 i_312_813 rfl ?_
  refine Y_al2 i_312_815 ?_
  refine Y_iv0 (L0 := [.ref 68]) i_312_816 ow_312 lm_11_100 ((k_68 hG).trans ow_175.symm) rfl mx_175 rfl rfl hd_312 ?_
  refine Y_al0 i_175_0 ?_
  refine Y_gI (v := (F 68 3)) i_175_1 ow_175 lf_10_143 (by decide) (k_68 hG) rfl ?_
  refine Y_iret i_175_4 rt_175 (KKi ?_)
  refine Y_il5 i_312_819 ?_
  refine Y_ceq i_312_821 (fun e1 => ?_) (fun e1 => ?_)
  · replace h := h.1 e1
    refine Y_il5 i_312_826 ?_
    refine Y_zne i_312_828 (fun e2 => ?_) (fun e2 => ?_)
    · replace h := h.1 e2
      refine Y_al3 i_312_831 ?_
      refine Y_iconst (v := 0) i_312_832 (by decide) ?_
      refine Y_laload (k := 0) (v := (J 104 0)) i_312_833 (k_104 hG) (l_104 hG) (by decide) (by decide) rfl ?_
      refine Y_il6 i_312_834 ?_
      refine Y_i2l i_312_836 ?_
      refine Y_lcmp i_312_837 ?_
      refine Y_weq i_312_838 (fun e3 => ?_) (fun e3 => ?_)
      · replace h := h.1 e3
        refine Y_goto i_312_843 ?_
        exact h
      · replace h := h.2 e3
        refine Y_iconst (v := 0) i_312_841 (by decide) ?_
        exact Y_bret i_312_842 rt_312 (by decide) h
    · replace h := h.2 e2
      refine Y_goto i_312_843 ?_
      exact h
  · replace h := h.2 e1
    refine Y_iconst (v := 0) i_312_824 (by decide) ?_
    exact Y_bret i_312_825 rt_312 (by decide) h
theorem t_312_846 {d : Nat} {F A : Nat → Nat → Int32} {J : Nat → Nat → Int64} {G : pG} {Q : pR → pM → Prop} {SL p q : Nat} {x4 : Int32} {v5 v6 : Value} (hG : Geo G SL p q) (h : inB (x4 + 1) SL = true ∧ inB (x4 + 2) SL = true ∧ (X (d + 8) 298 0 [.ref 0, .int (A 2000 (x4 + 1).toNatClampNeg), .int (A 2000 (x4 + 2).toNatClampNeg), .ref 104, .null] [] (F, A, J, G) (KK (d + 9) 312 863 [.ref 2000, .ref 0, .ref 68, .ref 104, .int x4, v5, v6, .null] [] Q))) : X (d + 9) 312 846 [.ref 2000, .ref 0, .ref 68, .ref 104, .int x4, v5, v6, .null] [] (F, A, J, G) Q := by
  refine Y_al1 i_312_846 ?_
  refine Y_al0 i_312_847 ?_
  refine Y_il4 i_312_848 ?_
  refine Y_iconst (v := 1) i_312_850 (by decide) ?_
  refine Y_iadd i_312_851 ?_
  have o1 := h.1
  replace h := h.2
  refine Y_ialoadS (k := (x4 + 1).toNatClampNeg) (v := (A 2000 (x4 + 1).toNatClampNeg)) i_312_852 (k_scr hG) (l_scr hG) o1 rfl rfl ?_
  refine Y_al0 i_312_853 ?_
  refine Y_il4 i_312_854 ?_
  refine Y_iconst (v := 2) i_312_856 (by decide) ?_
  refine Y_iadd i_312_857 ?_
  have o2 := h.1
  replace h := h.2
  refine Y_ialoadS (k := (x4 + 2).toNatClampNeg) (v := (A 2000 (x4 + 2).toNatClampNeg)) i_312_858 (k_scr hG) (l_scr hG) o2 rfl rfl ?_
  refine Y_al3 i_312_859 ?_
  exact Y_is_4 (L0 := [.ref 0, .int (A 2000 (x4 + 1).toNatClampNeg), .int (A 2000 (x4 + 2).toNatClampNeg), .ref 104, .null]) i_312_860 ow_312 lm_11_134 rfl mx_298 rfl rfl hd_312 h
theorem k_312_863 {d : Nat} {F A : Nat → Nat → Int32} {J : Nat → Nat → Int64} {G : pG} {Q : pR → pM → Prop} {SL p q : Nat} {x4 r : Int32} {v5 v6 : Value} (hG : Geo G SL p q) (h : inB (x4 + 1) SL = true ∧ inB (x4 + 2) SL = true ∧ (X (d + 8) 235 0 [.ref 68, .int (A 2000 (x4 + 1).toNatClampNeg), .int (A 2000 (x4 + 2).toNatClampNeg), .null] [] (F, A, J, G) (KK (d + 9) 312 881 [.ref 2000, .ref 0, .ref 68, .ref 104, .int x4, .int r, v6, .null] [] Q))) : KK (d + 9) 312 863 [.ref 2000, .ref 0, .ref 68, .ref 104, .int x4, v5, v6, .null] [] Q (.inl (some (.int r))) (F, A, J, G) := by
  refine KKi ?_
  refine Y_is5 i_312_863 rfl ?_
  refine Y_al2 i_312_865 ?_
  refine Y_al0 i_312_866 ?_
  refine Y_il4 i_312_867 ?_
  refine Y_iconst (v := 1) i_312_869 (by decide) ?_
  refine Y_iadd i_312_870 ?_
  have o1 := h.1
  replace h := h.2
  refine Y_ialoadS (k := (x4 + 1).toNatClampNeg) (v := (A 2000 (x4 + 1).toNatClampNeg)) i_312_871 (k_scr hG) (l_scr hG) o1 rfl rfl ?_
  refine Y_al0 i_312_872 ?_
  refine Y_il4 i_312_873 ?_
  refine Y_iconst (v := 2) i_312_875 (by decide) ?_
  refine Y_iadd i_312_876 ?_
  have o2 := h.1
  replace h := h.2
  refine Y_ialoadS (k := (x4 + 2).toNatClampNeg) (v := (A 2000 (x4 + 2).toNatClampNeg)) i_312_877 (k_scr hG) (l_scr hG) o2 rfl rfl ?_
  exact Y_iv2 (L0 := [.ref 68, .int (A 2000 (x4 + 1).toNatClampNeg), .int (A 2000 (x4 + 2).toNatClampNeg), .null]) i_312_878 ow_312 lm_11_136 ((k_68 hG).trans ow_235.symm) rfl mx_235 rfl rfl hd_312 h
theorem k_312_881 {d : Nat} {F A : Nat → Nat → Int32} {J : Nat → Nat → Int64} {G : pG} {Q : pR → pM → Prop} {SL p q : Nat} {x4 x5 r : Int32} {v6 : Value} (hG : Geo G SL p q) (h : (((F 68 3) = x5 → ((x5 = 0 → (((J 104 0) = r.toInt64 → X (d + 9) 312 1995 [.ref 2000, .ref 0, .ref 68, .ref 104, .int x4, .int x5, .int r, .null] [] (F, A, J, G) Q) ∧ (¬ (J 104 0) = r.toInt64 → Q (.inl (some (.int 0))) (F, A, J, G)))) ∧ (¬ x5 = 0 → X (d + 9) 312 1995 [.ref 2000, .ref 0, .ref 68, .ref 104, .int x4, .int x5, .int r, .null] [] (F, A, J, G) Q))) ∧ (¬ (F 68 3) = x5 → Q (.inl (some (.int 0))) (F, A, J, G)))) : KK (d + 9) 312 881 [.ref 2000, .ref 0, .ref 68, .ref 104, .int x4, .int x5, v6, .null] [] Q (.inl (some (.int r))) (F, A, J, G) := by
  refine KKi ?_
  refine Y_is6 i_312_881 rfl ?_
  refine Y_al2 i_312_883 ?_
  refine Y_iv0 (L0 := [.ref 68]) i_312_884 ow_312 lm_11_100 ((k_68 hG).trans ow_175.symm) rfl mx_175 rfl rfl hd_312 ?_
  refine Y_al0 i_175_0 ?_
  refine Y_gI (v := (F 68 3)) i_175_1 ow_175 lf_10_143 (by decide) (k_68 hG) rfl ?_
  refine Y_iret i_175_4 rt_175 (KKi ?_)
  refine Y_il5 i_312_887 ?_
  refine Y_ceq i_312_889 (fun e1 => ?_) (fun e1 => ?_)
  · replace h := h.1 e1
    refine Y_il5 i_312_894 ?_
    refine Y_zne i_312_896 (fun e2 => ?_) (fun e2 => ?_)
    · replace h := h.1 e2
      refine Y_al3 i_312_899 ?_
      refine Y_iconst (v := 0) i_312_900 (by decide) ?_
      refine Y_laload (k := 0) (v := (J 104 0)) i_312_901 (k_104 hG) (l_104 hG) (by decide) (by decide) rfl ?_
      refine Y_il6 i_312_902 ?_
      refine Y_i2l i_312_904 ?_
      refine Y_lcmp i_312_905 ?_
      refine Y_weq i_312_906 (fun e3 => ?_) (fun e3 => ?_)
      · replace h := h.1 e3
        refine Y_goto i_312_911 ?_
        exact h
      · replace h := h.2 e3
        refine Y_iconst (v := 0) i_312_909 (by decide) ?_
        exact Y_bret i_312_910 rt_312 (by decide) h
    · replace h := h.2 e2
      refine Y_goto i_312_911 ?_
      exact h
  · replace h := h.2 e1
    refine Y_iconst (v := 0) i_312_892 (by decide) ?_
    exact Y_bret i_312_893 rt_312 (by decide) h
theorem t_312_914 {d : Nat} {F A : Nat → Nat → Int32} {J : Nat → Nat → Int64} {G : pG} {Q : pR → pM → Prop} {SL p q : Nat} {x4 : Int32} {v5 v6 : Value} (hG : Geo G SL p q) (h : X (d + 8) 138 0 [.ref 0] [] (F, A, J, G) (KK (d + 9) 312 918 [.ref 2000, .ref 0, .ref 68, .ref 104, .int x4, v5, v6, .null] [] Q)) : X (d + 9) 312 914 [.ref 2000, .ref 0, .ref 68, .ref 104, .int x4, v5, v6, .null] [] (F, A, J, G) Q := by
  refine Y_al1 i_312_914 ?_
  exact Y_iv0 (L0 := [.ref 0]) i_312_915 ow_312 lm_11_137 ((k_0 hG).trans ow_138.symm) rfl mx_138 rfl rfl hd_312 h
theorem k_312_918 {d : Nat} {F A : Nat → Nat → Int32} {J : Nat → Nat → Int64} {G : pG} {Q : pR → pM → Prop} {SL p q : Nat} {x4 r : Int32} {v5 v6 : Value} (hG : Geo G SL p q) (h : X (d + 8) 239 0 [.ref 68] [] (F, A, J, G) (KK (d + 9) 312 922 [.ref 2000, .ref 0, .ref 68, .ref 104, .int x4, v5, v6, .null] [.int r] Q)) : KK (d + 9) 312 918 [.ref 2000, .ref 0, .ref 68, .ref 104, .int x4, v5, v6, .null] [] Q (.inl (some (.int r))) (F, A, J, G) := by
  refine KKi ?_
  refine Y_al2 i_312_918 ?_
  exact Y_iv0 (L0 := [.ref 68]) i_312_919 ow_312 lm_11_140 ((k_68 hG).trans ow_239.symm) rfl mx_239 rfl rfl hd_312 h
theorem k_312_922 {d : Nat} {F A : Nat → Nat → Int32} {J : Nat → Nat → Int64} {G : pG} {Q : pR → pM → Prop} {SL p q : Nat} {x4 r s0 : Int32} {v5 v6 : Value} (hG : Geo G SL p q) (h : ((s0 = r → X (d + 9) 312 1995 [.ref 2000, .ref 0, .ref 68, .ref 104, .int x4, v5, v6, .null] [] (F, A, J, G) Q) ∧ (¬ s0 = r → Q (.inl (some (.int 0))) (F, A, J, G)))) : KK (d + 9) 312 922 [.ref 2000, .ref 0, .ref 68, .ref 104, .int x4, v5, v6, .null] [.int s0] Q (.inl (some (.int r))) (F, A, J, G) := by
  refine KKi ?_
  refine Y_ceq i_312_922 (fun e1 => ?_) (fun e1 => ?_)
  · replace h := h.1 e1
    exact h
  · replace h := h.2 e1
    refine Y_iconst (v := 0) i_312_925 (by decide) ?_
    exact Y_bret i_312_926 rt_312 (by decide) h
theorem t_312_927 {d : Nat} {F A : Nat → Nat → Int32} {J : Nat → Nat → Int64} {G : pG} {Q : pR → pM → Prop} {SL p q : Nat} {x4 : Int32} {v5 v6 : Value} (hG : Geo G SL p q) (h : inB (x4 + 1) SL = true ∧ (X (d + 8) 139 0 [.ref 0, .int (A 2000 (x4 + 1).toNatClampNeg)] [] (F, A, J, G) (KK (d + 9) 312 937 [.ref 2000, .ref 0, .ref 68, .ref 104, .int x4, v5, v6, .null] [] Q))) : X (d + 9) 312 927 [.ref 2000, .ref 0, .ref 68, .ref 104, .int x4, v5, v6, .null] [] (F, A, J, G) Q := by
  refine Y_al1 i_312_927 ?_
  refine Y_al0 i_312_928 ?_
  refine Y_il4 i_312_929 ?_
  refine Y_iconst (v := 1) i_312_931 (by decide) ?_
  refine Y_iadd i_312_932 ?_
  have o1 := h.1
  replace h := h.2
  refine Y_ialoadS (k := (x4 + 1).toNatClampNeg) (v := (A 2000 (x4 + 1).toNatClampNeg)) i_312_933 (k_scr hG) (l_scr hG) o1 rfl rfl ?_
  exact Y_iv1 (L0 := [.ref 0, .int (A 2000 (x4 + 1).toNatClampNeg)]) i_312_934 ow_312 lm_11_141 ((k_0 hG).trans ow_139.symm) rfl mx_139 rfl rfl hd_312 h
theorem k_312_937 {d : Nat} {F A : Nat → Nat → Int32} {J : Nat → Nat → Int64} {G : pG} {Q : pR → pM → Prop} {SL p q : Nat} {x4 r : Int32} {v5 v6 : Value} (hG : Geo G SL p q) (h : inB (x4 + 1) SL = true ∧ (X (d + 8) 240 0 [.ref 68, .int (A 2000 (x4 + 1).toNatClampNeg)] [] (F, A, J, G) (KK (d + 9) 312 947 [.ref 2000, .ref 0, .ref 68, .ref 104, .int x4, v5, v6, .null] [.int r] Q))) : KK (d + 9) 312 937 [.ref 2000, .ref 0, .ref 68, .ref 104, .int x4, v5, v6, .null] [] Q (.inl (some (.int r))) (F, A, J, G) := by
  refine KKi ?_
  refine Y_al2 i_312_937 ?_
  refine Y_al0 i_312_938 ?_
  refine Y_il4 i_312_939 ?_
  refine Y_iconst (v := 1) i_312_941 (by decide) ?_
  refine Y_iadd i_312_942 ?_
  have o1 := h.1
  replace h := h.2
  refine Y_ialoadS (k := (x4 + 1).toNatClampNeg) (v := (A 2000 (x4 + 1).toNatClampNeg)) i_312_943 (k_scr hG) (l_scr hG) o1 rfl rfl ?_
  exact Y_iv1 (L0 := [.ref 68, .int (A 2000 (x4 + 1).toNatClampNeg)]) i_312_944 ow_312 lm_11_144 ((k_68 hG).trans ow_240.symm) rfl mx_240 rfl rfl hd_312 h
theorem k_312_947 {d : Nat} {F A : Nat → Nat → Int32} {J : Nat → Nat → Int64} {G : pG} {Q : pR → pM → Prop} {SL p q : Nat} {x4 r s0 : Int32} {v5 v6 : Value} (hG : Geo G SL p q) (h : ((s0 = r → X (d + 9) 312 1995 [.ref 2000, .ref 0, .ref 68, .ref 104, .int x4, v5, v6, .null] [] (F, A, J, G) Q) ∧ (¬ s0 = r → Q (.inl (some (.int 0))) (F, A, J, G)))) : KK (d + 9) 312 947 [.ref 2000, .ref 0, .ref 68, .ref 104, .int x4, v5, v6, .null] [.int s0] Q (.inl (some (.int r))) (F, A, J, G) := by
  refine KKi ?_
  refine Y_ceq i_312_947 (fun e1 => ?_) (fun e1 => ?_)
  · replace h := h.1 e1
    exact h
  · replace h := h.2 e1
    refine Y_iconst (v := 0) i_312_950 (by decide) ?_
    exact Y_bret i_312_951 rt_312 (by decide) h
theorem t_312_952 {d : Nat} {F A : Nat → Nat → Int32} {J : Nat → Nat → Int64} {G : pG} {Q : pR → pM → Prop} {SL p q : Nat} {x4 : Int32} {v5 v6 : Value} (hG : Geo G SL p q) (h : X (d + 8) 140 0 [.ref 0] [] (F, A, J, G) (KK (d + 9) 312 956 [.ref 2000, .ref 0, .ref 68, .ref 104, .int x4, v5, v6, .null] [] Q)) : X (d + 9) 312 952 [.ref 2000, .ref 0, .ref 68, .ref 104, .int x4, v5, v6, .null] [] (F, A, J, G) Q := by
  refine Y_al1 i_312_952 ?_
  exact Y_iv0 (L0 := [.ref 0]) i_312_953 ow_312 lm_11_145 ((k_0 hG).trans ow_140.symm) rfl mx_140 rfl rfl hd_312 h
theorem k_312_956 {d : Nat} {F A : Nat → Nat → Int32} {J : Nat → Nat → Int64} {G : pG} {Q : pR → pM → Prop} {SL p q : Nat} {x4 r : Int32} {v5 v6 : Value} (hG : Geo G SL p q) (h : X (d + 8) 241 0 [.ref 68] [] (F, A, J, G) (KK (d + 9) 312 960 [.ref 2000, .ref 0, .ref 68, .ref 104, .int x4, v5, v6, .null] [.int r] Q)) : KK (d + 9) 312 956 [.ref 2000, .ref 0, .ref 68, .ref 104, .int x4, v5, v6, .null] [] Q (.inl (some (.int r))) (F, A, J, G) := by
  refine KKi ?_
  refine Y_al2 i_312_956 ?_
  exact Y_iv0 (L0 := [.ref 68]) i_312_957 ow_312 lm_11_148 ((k_68 hG).trans ow_241.symm) rfl mx_241 rfl rfl hd_312 h
theorem k_312_960 {d : Nat} {F A : Nat → Nat → Int32} {J : Nat → Nat → Int64} {G : pG} {Q : pR → pM → Prop} {SL p q : Nat} {x4 r s0 : Int32} {v5 v6 : Value} (hG : Geo G SL p q) (h : ((s0 = r → X (d + 9) 312 1995 [.ref 2000, .ref 0, .ref 68, .ref 104, .int x4, v5, v6, .null] [] (F, A, J, G) Q) ∧ (¬ s0 = r → Q (.inl (some (.int 0))) (F, A, J, G)))) : KK (d + 9) 312 960 [.ref 2000, .ref 0, .ref 68, .ref 104, .int x4, v5, v6, .null] [.int s0] Q (.inl (some (.int r))) (F, A, J, G) := by
  refine KKi ?_
  refine Y_ceq i_312_960 (fun e1 => ?_) (fun e1 => ?_)
  · replace h := h.1 e1
    exact h
  · replace h := h.2 e1
    refine Y_iconst (v := 0) i_312_963 (by decide) ?_
    exact Y_bret i_312_964 rt_312 (by decide) h
theorem t_312_965 {d : Nat} {F A : Nat → Nat → Int32} {J : Nat → Nat → Int64} {G : pG} {Q : pR → pM → Prop} {SL p q : Nat} {x4 : Int32} {v5 v6 : Value} (hG : Geo G SL p q) (h : X (d + 8) 141 0 [.ref 0] [] (F, A, J, G) (KK (d + 9) 312 969 [.ref 2000, .ref 0, .ref 68, .ref 104, .int x4, v5, v6, .null] [] Q)) : X (d + 9) 312 965 [.ref 2000, .ref 0, .ref 68, .ref 104, .int x4, v5, v6, .null] [] (F, A, J, G) Q := by
  refine Y_al1 i_312_965 ?_
  exact Y_iv0 (L0 := [.ref 0]) i_312_966 ow_312 lm_11_149 ((k_0 hG).trans ow_141.symm) rfl mx_141 rfl rfl hd_312 h
theorem k_312_969 {d : Nat} {F A : Nat → Nat → Int32} {J : Nat → Nat → Int64} {G : pG} {Q : pR → pM → Prop} {SL p q : Nat} {x4 r : Int32} {v5 v6 : Value} (hG : Geo G SL p q) (h : X (d + 8) 242 0 [.ref 68] [] (F, A, J, G) (KK (d + 9) 312 973 [.ref 2000, .ref 0, .ref 68, .ref 104, .int x4, v5, v6, .null] [.int r] Q)) : KK (d + 9) 312 969 [.ref 2000, .ref 0, .ref 68, .ref 104, .int x4, v5, v6, .null] [] Q (.inl (some (.int r))) (F, A, J, G) := by
  refine KKi ?_
  refine Y_al2 i_312_969 ?_
  exact Y_iv0 (L0 := [.ref 68]) i_312_970 ow_312 lm_11_152 ((k_68 hG).trans ow_242.symm) rfl mx_242 rfl rfl hd_312 h
theorem k_312_973 {d : Nat} {F A : Nat → Nat → Int32} {J : Nat → Nat → Int64} {G : pG} {Q : pR → pM → Prop} {SL p q : Nat} {x4 r s0 : Int32} {v5 v6 : Value} (hG : Geo G SL p q) (h : ((s0 = r → X (d + 9) 312 1995 [.ref 2000, .ref 0, .ref 68, .ref 104, .int x4, v5, v6, .null] [] (F, A, J, G) Q) ∧ (¬ s0 = r → Q (.inl (some (.int 0))) (F, A, J, G)))) : KK (d + 9) 312 973 [.ref 2000, .ref 0, .ref 68, .ref 104, .int x4, v5, v6, .null] [.int s0] Q (.inl (some (.int r))) (F, A, J, G) := by
  refine KKi ?_
  refine Y_ceq i_312_973 (fun e1 => ?_) (fun e1 => ?_)
  · replace h := h.1 e1
    exact h
  · replace h := h.2 e1
    refine Y_iconst (v := 0) i_312_976 (by decide) ?_
    exact Y_bret i_312_977 rt_312 (by decide) h
theorem t_312_978 {d : Nat} {F A : Nat → Nat → Int32} {J : Nat → Nat → Int64} {G : pG} {Q : pR → pM → Prop} {SL p q : Nat} {x4 : Int32} {v5 v6 : Value} (hG : Geo G SL p q) (h : inB (x4 + 1) SL = true ∧ (X (d + 8) 299 0 [.ref 0, .int (A 2000 (x4 + 1).toNatClampNeg), .ref 104, .null] [] (F, A, J, G) (KK (d + 9) 312 989 [.ref 2000, .ref 0, .ref 68, .ref 104, .int x4, v5, v6, .null] [] Q))) : X (d + 9) 312 978 [.ref 2000, .ref 0, .ref 68, .ref 104, .int x4, v5, v6, .null] [] (F, A, J, G) Q := by
  refine Y_al1 i_312_978 ?_
  refine Y_al0 i_312_979 ?_
  refine Y_il4 i_312_980 ?_
  refine Y_iconst (v := 1) i_312_982 (by decide) ?_
  refine Y_iadd i_312_983 ?_
  have o1 := h.1
  replace h := h.2
  refine Y_ialoadS (k := (x4 + 1).toNatClampNeg) (v := (A 2000 (x4 + 1).toNatClampNeg)) i_312_984 (k_scr hG) (l_scr hG) o1 rfl rfl ?_
  refine Y_al3 i_312_985 ?_
  exact Y_is_3 (L0 := [.ref 0, .int (A 2000 (x4 + 1).toNatClampNeg), .ref 104, .null]) i_312_986 ow_312 lm_11_153 rfl mx_299 rfl rfl hd_312 h
theorem k_312_989 {d : Nat} {F A : Nat → Nat → Int32} {J : Nat → Nat → Int64} {G : pG} {Q : pR → pM → Prop} {SL p q : Nat} {x4 r : Int32} {v5 v6 : Value} (hG : Geo G SL p q) (h : inB (x4 + 1) SL = true ∧ (X (d + 8) 243 0 [.ref 68, .int (A 2000 (x4 + 1).toNatClampNeg), .null] [] (F, A, J, G) (KK (d + 9) 312 1001 [.ref 2000, .ref 0, .ref 68, .ref 104, .int x4, .int r, v6, .null] [] Q))) : KK (d + 9) 312 989 [.ref 2000, .ref 0, .ref 68, .ref 104, .int x4, v5, v6, .null] [] Q (.inl (some (.int r))) (F, A, J, G) := by
  refine KKi ?_
  refine Y_is5 i_312_989 rfl ?_
  refine Y_al2 i_312_991 ?_
  refine Y_al0 i_312_992 ?_
  refine Y_il4 i_312_993 ?_
  refine Y_iconst (v := 1) i_312_995 (by decide) ?_
  refine Y_iadd i_312_996 ?_
  have o1 := h.1
  replace h := h.2
  refine Y_ialoadS (k := (x4 + 1).toNatClampNeg) (v := (A 2000 (x4 + 1).toNatClampNeg)) i_312_997 (k_scr hG) (l_scr hG) o1 rfl rfl ?_
  exact Y_iv1 (L0 := [.ref 68, .int (A 2000 (x4 + 1).toNatClampNeg), .null]) i_312_998 ow_312 lm_11_155 ((k_68 hG).trans ow_243.symm) rfl mx_243 rfl rfl hd_312 h
theorem k_312_1001 {d : Nat} {F A : Nat → Nat → Int32} {J : Nat → Nat → Int64} {G : pG} {Q : pR → pM → Prop} {SL p q : Nat} {x4 x5 r : Int32} {v6 : Value} (hG : Geo G SL p q) (h : (((F 68 3) = x5 → ((x5 = 0 → ((r = 0 → (((J 104 0) = 0 → X (d + 9) 312 1995 [.ref 2000, .ref 0, .ref 68, .ref 104, .int x4, .int x5, .int r, .null] [] (F, A, J, G) Q) ∧ (¬ (J 104 0) = 0 → Q (.inl (some (.int 0))) (F, A, J, G)))) ∧ (¬ r = 0 → (((J 104 0) = 1 → X (d + 9) 312 1995 [.ref 2000, .ref 0, .ref 68, .ref 104, .int x4, .int x5, .int r, .null] [] (F, A, J, G) Q) ∧ (¬ (J 104 0) = 1 → Q (.inl (some (.int 0))) (F, A, J, G)))))) ∧ (¬ x5 = 0 → X (d + 9) 312 1995 [.ref 2000, .ref 0, .ref 68, .ref 104, .int x4, .int x5, .int r, .null] [] (F, A, J, G) Q))) ∧ (¬ (F 68 3) = x5 → Q (.inl (some (.int 0))) (F, A, J, G)))) : KK (d + 9) 312 1001 [.ref 2000, .ref 0, .ref 68, .ref 104, .int x4, .int x5, v6, .null] [] Q (.inl (some (.int r))) (F, A, J, G) := by
  refine KKi ?_
  refine Y_is6 i_312_1001 rfl ?_
  refine Y_al2 i_312_1003 ?_
  refine Y_iv0 (L0 := [.ref 68]) i_312_1004 ow_312 lm_11_100 ((k_68 hG).trans ow_175.symm) rfl mx_175 rfl rfl hd_312 ?_
  refine Y_al0 i_175_0 ?_
  refine Y_gI (v := (F 68 3)) i_175_1 ow_175 lf_10_143 (by decide) (k_68 hG) rfl ?_
  refine Y_iret i_175_4 rt_175 (KKi ?_)
  refine Y_il5 i_312_1007 ?_
  refine Y_ceq i_312_1009 (fun e1 => ?_) (fun e1 => ?_)
  · replace h := h.1 e1
    refine Y_il5 i_312_1014 ?_
    refine Y_zne i_312_1016 (fun e2 => ?_) (fun e2 => ?_)
    · replace h := h.1 e2
      refine Y_al3 i_312_1019 ?_
      refine Y_iconst (v := 0) i_312_1020 (by decide) ?_
      refine Y_laload (k := 0) (v := (J 104 0)) i_312_1021 (k_104 hG) (l_104 hG) (by decide) (by decide) rfl ?_
      refine Y_il6 i_312_1022 ?_
      refine Y_zeq i_312_1024 (fun e3 => ?_) (fun e3 => ?_)
      · replace h := h.1 e3
        refine Y_lconst (v := 0) i_312_1031 (by decide) ?_
        refine Y_lcmp i_312_1032 ?_
        refine Y_weq i_312_1033 (fun e4 => ?_) (fun e4 => ?_)
        · replace h := h.1 e4
          refine Y_goto i_312_1038 ?_
          exact h
        · replace h := h.2 e4
          refine Y_iconst (v := 0) i_312_1036 (by decide) ?_
          exact Y_bret i_312_1037 rt_312 (by decide) h
      · replace h := h.2 e3
        refine Y_lconst (v := 1) i_312_1027 (by decide) ?_
        refine Y_goto i_312_1028 ?_
        refine Y_lcmp i_312_1032 ?_
        refine Y_weq i_312_1033 (fun e5 => ?_) (fun e5 => ?_)
        · replace h := h.1 e5
          refine Y_goto i_312_1038 ?_
          exact h
        · replace h := h.2 e5
          refine Y_iconst (v := 0) i_312_1036 (by decide) ?_
          exact Y_bret i_312_1037 rt_312 (by decide) h
    · replace h := h.2 e2
      refine Y_goto i_312_1038 ?_
      exact h
  · replace h := h.2 e1
    refine Y_iconst (v := 0) i_312_1012 (by decide) ?_
    exact Y_bret i_312_1013 rt_312 (by decide) h
theorem t_312_1041 {d : Nat} {F A : Nat → Nat → Int32} {J : Nat → Nat → Int64} {G : pG} {Q : pR → pM → Prop} {SL p q : Nat} {x4 : Int32} {v5 v6 : Value} (hG : Geo G SL p q) (h : inB (x4 + 1) SL = true ∧ (X (d + 8) 300 0 [.ref 0, .int (A 2000 (x4 + 1).toNatClampNeg), .ref 104, .null] [] (F, A, J, G) (KK (d + 9) 312 1052 [.ref 2000, .ref 0, .ref 68, .ref 104, .int x4, v5, v6, .null] [] Q))) : X (d + 9) 312 1041 [.ref 2000, .ref 0, .ref 68, .ref 104, .int x4, v5, v6, .null] [] (F, A, J, G) Q := by
  refine Y_al1 i_312_1041 ?_
  refine Y_al0 i_312_1042 ?_
  refine Y_il4 i_312_1043 ?_
  refine Y_iconst (v := 1) i_312_1045 (by decide) ?_
  refine Y_iadd i_312_1046 ?_
  have o1 := h.1
  replace h := h.2
  refine Y_ialoadS (k := (x4 + 1).toNatClampNeg) (v := (A 2000 (x4 + 1).toNatClampNeg)) i_312_1047 (k_scr hG) (l_scr hG) o1 rfl rfl ?_
  refine Y_al3 i_312_1048 ?_
  exact Y_is_3 (L0 := [.ref 0, .int (A 2000 (x4 + 1).toNatClampNeg), .ref 104, .null]) i_312_1049 ow_312 lm_11_156 rfl mx_300 rfl rfl hd_312 h
theorem k_312_1052 {d : Nat} {F A : Nat → Nat → Int32} {J : Nat → Nat → Int64} {G : pG} {Q : pR → pM → Prop} {SL p q : Nat} {x4 r : Int32} {v5 v6 : Value} (hG : Geo G SL p q) (h : inB (x4 + 1) SL = true ∧ (X (d + 8) 249 0 [.ref 68, .int (A 2000 (x4 + 1).toNatClampNeg), .null] [] (F, A, J, G) (KK (d + 9) 312 1064 [.ref 2000, .ref 0, .ref 68, .ref 104, .int x4, .int r, v6, .null] [] Q))) : KK (d + 9) 312 1052 [.ref 2000, .ref 0, .ref 68, .ref 104, .int x4, v5, v6, .null] [] Q (.inl (some (.int r))) (F, A, J, G) := by
  refine KKi ?_
  refine Y_is5 i_312_1052 rfl ?_
  refine Y_al2 i_312_1054 ?_
  refine Y_al0 i_312_1055 ?_
  refine Y_il4 i_312_1056 ?_
  refine Y_iconst (v := 1) i_312_1058 (by decide) ?_
  refine Y_iadd i_312_1059 ?_
  have o1 := h.1
  replace h := h.2
  refine Y_ialoadS (k := (x4 + 1).toNatClampNeg) (v := (A 2000 (x4 + 1).toNatClampNeg)) i_312_1060 (k_scr hG) (l_scr hG) o1 rfl rfl ?_
  exact Y_iv1 (L0 := [.ref 68, .int (A 2000 (x4 + 1).toNatClampNeg), .null]) i_312_1061 ow_312 lm_11_158 ((k_68 hG).trans ow_249.symm) rfl mx_249 rfl rfl hd_312 h
theorem k_312_1064 {d : Nat} {F A : Nat → Nat → Int32} {J : Nat → Nat → Int64} {G : pG} {Q : pR → pM → Prop} {SL p q : Nat} {x4 x5 r : Int32} {v6 : Value} (hG : Geo G SL p q) (h : (((F 68 3) = x5 → ((x5 = 0 → (((J 104 0) = r.toInt64 → X (d + 9) 312 1995 [.ref 2000, .ref 0, .ref 68, .ref 104, .int x4, .int x5, .int r, .null] [] (F, A, J, G) Q) ∧ (¬ (J 104 0) = r.toInt64 → Q (.inl (some (.int 0))) (F, A, J, G)))) ∧ (¬ x5 = 0 → X (d + 9) 312 1995 [.ref 2000, .ref 0, .ref 68, .ref 104, .int x4, .int x5, .int r, .null] [] (F, A, J, G) Q))) ∧ (¬ (F 68 3) = x5 → Q (.inl (some (.int 0))) (F, A, J, G)))) : KK (d + 9) 312 1064 [.ref 2000, .ref 0, .ref 68, .ref 104, .int x4, .int x5, v6, .null] [] Q (.inl (some (.int r))) (F, A, J, G) := by
  refine KKi ?_
  refine Y_is6 i_312_1064 rfl ?_
  refine Y_al2 i_312_1066 ?_
  refine Y_iv0 (L0 := [.ref 68]) i_312_1067 ow_312 lm_11_100 ((k_68 hG).trans ow_175.symm) rfl mx_175 rfl rfl hd_312 ?_
  refine Y_al0 i_175_0 ?_
  refine Y_gI (v := (F 68 3)) i_175_1 ow_175 lf_10_143 (by decide) (k_68 hG) rfl ?_
  refine Y_iret i_175_4 rt_175 (KKi ?_)
  refine Y_il5 i_312_1070 ?_
  refine Y_ceq i_312_1072 (fun e1 => ?_) (fun e1 => ?_)
  · replace h := h.1 e1
    refine Y_il5 i_312_1077 ?_
    refine Y_zne i_312_1079 (fun e2 => ?_) (fun e2 => ?_)
    · replace h := h.1 e2
      refine Y_al3 i_312_1082 ?_
      refine Y_iconst (v := 0) i_312_1083 (by decide) ?_
      refine Y_laload (k := 0) (v := (J 104 0)) i_312_1084 (k_104 hG) (l_104 hG) (by decide) (by decide) rfl ?_
      refine Y_il6 i_312_1085 ?_
      refine Y_i2l i_312_1087 ?_
      refine Y_lcmp i_312_1088 ?_
      refine Y_weq i_312_1089 (fun e3 => ?_) (fun e3 => ?_)
      · replace h := h.1 e3
        refine Y_goto i_312_1094 ?_
        exact h
      · replace h := h.2 e3
        refine Y_iconst (v := 0) i_312_1092 (by decide) ?_
        exact Y_bret i_312_1093 rt_312 (by decide) h
    · replace h := h.2 e2
      refine Y_goto i_312_1094 ?_
      exact h
  · replace h := h.2 e1
    refine Y_iconst (v := 0) i_312_1075 (by decide) ?_
    exact Y_bret i_312_1076 rt_312 (by decide) h
theorem t_312_1097 {d : Nat} {F A : Nat → Nat → Int32} {J : Nat → Nat → Int64} {G : pG} {Q : pR → pM → Prop} {SL p q : Nat} {x4 : Int32} {v5 v6 : Value} (hG : Geo G SL p q) (h : inB (x4 + 1) SL = true ∧ (X (d + 8) 301 0 [.ref 0, .int (A 2000 (x4 + 1).toNatClampNeg), .ref 104, .null] [] (F, A, J, G) (KK (d + 9) 312 1108 [.ref 2000, .ref 0, .ref 68, .ref 104, .int x4, v5, v6, .null] [] Q))) : X (d + 9) 312 1097 [.ref 2000, .ref 0, .ref 68, .ref 104, .int x4, v5, v6, .null] [] (F, A, J, G) Q := by
  refine Y_al1 i_312_1097 ?_
  refine Y_al0 i_312_1098 ?_
  refine Y_il4 i_312_1099 ?_
  refine Y_iconst (v := 1) i_312_1101 (by decide) ?_
  refine Y_iadd i_312_1102 ?_
  have o1 := h.1
  replace h := h.2
  refine Y_ialoadS (k := (x4 + 1).toNatClampNeg) (v := (A 2000 (x4 + 1).toNatClampNeg)) i_312_1103 (k_scr hG) (l_scr hG) o1 rfl rfl ?_
  refine Y_al3 i_312_1104 ?_
  exact Y_is_3 (L0 := [.ref 0, .int (A 2000 (x4 + 1).toNatClampNeg), .ref 104, .null]) i_312_1105 ow_312 lm_11_159 rfl mx_301 rfl rfl hd_312 h
theorem k_312_1108 {d : Nat} {F A : Nat → Nat → Int32} {J : Nat → Nat → Int64} {G : pG} {Q : pR → pM → Prop} {SL p q : Nat} {x4 r : Int32} {v5 v6 : Value} (hG : Geo G SL p q) (h : inB (x4 + 1) SL = true ∧ (X (d + 8) 250 0 [.ref 68, .int (A 2000 (x4 + 1).toNatClampNeg), .null, .null, .null, .null, .null] [] (F, A, J, G) (KK (d + 9) 312 1120 [.ref 2000, .ref 0, .ref 68, .ref 104, .int x4, .int r, v6, .null] [] Q))) : KK (d + 9) 312 1108 [.ref 2000, .ref 0, .ref 68, .ref 104, .int x4, v5, v6, .null] [] Q (.inl (some (.int r))) (F, A, J, G) := by
  refine KKi ?_
  refine Y_is5 i_312_1108 rfl ?_
  refine Y_al2 i_312_1110 ?_
  refine Y_al0 i_312_1111 ?_
  refine Y_il4 i_312_1112 ?_
  refine Y_iconst (v := 1) i_312_1114 (by decide) ?_
  refine Y_iadd i_312_1115 ?_
  have o1 := h.1
  replace h := h.2
  refine Y_ialoadS (k := (x4 + 1).toNatClampNeg) (v := (A 2000 (x4 + 1).toNatClampNeg)) i_312_1116 (k_scr hG) (l_scr hG) o1 rfl rfl ?_
  exact Y_iv1 (L0 := [.ref 68, .int (A 2000 (x4 + 1).toNatClampNeg), .null, .null, .null, .null, .null]) i_312_1117 ow_312 lm_11_161 ((k_68 hG).trans ow_250.symm) rfl mx_250 rfl rfl hd_312 h
theorem k_312_1120 {d : Nat} {F A : Nat → Nat → Int32} {J : Nat → Nat → Int64} {G : pG} {Q : pR → pM → Prop} {SL p q : Nat} {x4 x5 r : Int32} {v6 : Value} (hG : Geo G SL p q) (h : (((F 68 3) = x5 → ((x5 = 0 → (((J 104 0) = r.toInt64 → X (d + 9) 312 1995 [.ref 2000, .ref 0, .ref 68, .ref 104, .int x4, .int x5, .int r, .null] [] (F, A, J, G) Q) ∧ (¬ (J 104 0) = r.toInt64 → Q (.inl (some (.int 0))) (F, A, J, G)))) ∧ (¬ x5 = 0 → X (d + 9) 312 1995 [.ref 2000, .ref 0, .ref 68, .ref 104, .int x4, .int x5, .int r, .null] [] (F, A, J, G) Q))) ∧ (¬ (F 68 3) = x5 → Q (.inl (some (.int 0))) (F, A, J, G)))) : KK (d + 9) 312 1120 [.ref 2000, .ref 0, .ref 68, .ref 104, .int x4, .int x5, v6, .null] [] Q (.inl (some (.int r))) (F, A, J, G) := by
  refine KKi ?_
  refine Y_is6 i_312_1120 rfl ?_
  refine Y_al2 i_312_1122 ?_
  refine Y_iv0 (L0 := [.ref 68]) i_312_1123 ow_312 lm_11_100 ((k_68 hG).trans ow_175.symm) rfl mx_175 rfl rfl hd_312 ?_
  refine Y_al0 i_175_0 ?_
  refine Y_gI (v := (F 68 3)) i_175_1 ow_175 lf_10_143 (by decide) (k_68 hG) rfl ?_
  refine Y_iret i_175_4 rt_175 (KKi ?_)
  refine Y_il5 i_312_1126 ?_
  refine Y_ceq i_312_1128 (fun e1 => ?_) (fun e1 => ?_)
  · replace h := h.1 e1
    refine Y_il5 i_312_1133 ?_
    refine Y_zne i_312_1135 (fun e2 => ?_) (fun e2 => ?_)
    · replace h := h.1 e2
      refine Y_al3 i_312_1138 ?_
      refine Y_iconst (v := 0) i_312_1139 (by decide) ?_
      refine Y_laload (k := 0) (v := (J 104 0)) i_312_1140 (k_104 hG) (l_104 hG) (by decide) (by decide) rfl ?_
      refine Y_il6 i_312_1141 ?_
      refine Y_i2l i_312_1143 ?_
      refine Y_lcmp i_312_1144 ?_
      refine Y_weq i_312_1145 (fun e3 => ?_) (fun e3 => ?_)
      · replace h := h.1 e3
        refine Y_goto i_312_1150 ?_
        exact h
      · replace h := h.2 e3
        refine Y_iconst (v := 0) i_312_1148 (by decide) ?_
        exact Y_bret i_312_1149 rt_312 (by decide) h
    · replace h := h.2 e2
      refine Y_goto i_312_1150 ?_
      exact h
  · replace h := h.2 e1
    refine Y_iconst (v := 0) i_312_1131 (by decide) ?_
    exact Y_bret i_312_1132 rt_312 (by decide) h
theorem t_312_1153 {d : Nat} {F A : Nat → Nat → Int32} {J : Nat → Nat → Int64} {G : pG} {Q : pR → pM → Prop} {SL p q : Nat} {x4 : Int32} {v5 v6 : Value} (hG : Geo G SL p q) (h : X (d + 8) 145 0 [.ref 0] [] (F, A, J, G) (KK (d + 9) 312 1157 [.ref 2000, .ref 0, .ref 68, .ref 104, .int x4, v5, v6, .null] [] Q)) : X (d + 9) 312 1153 [.ref 2000, .ref 0, .ref 68, .ref 104, .int x4, v5, v6, .null] [] (F, A, J, G) Q := by
  refine Y_al1 i_312_1153 ?_
  exact Y_iv0 (L0 := [.ref 0]) i_312_1154 ow_312 lm_11_162 ((k_0 hG).trans ow_145.symm) rfl mx_145 rfl rfl hd_312 h
theorem k_312_1157 {d : Nat} {F A : Nat → Nat → Int32} {J : Nat → Nat → Int64} {G : pG} {Q : pR → pM → Prop} {SL p q : Nat} {x4 : Int32} {r : Int64} {v5 v6 : Value} (hG : Geo G SL p q) (h : X (d + 8) 252 0 [.ref 68] [] (F, A, J, G) (KK (d + 9) 312 1161 [.ref 2000, .ref 0, .ref 68, .ref 104, .int x4, v5, v6, .null] [.long r] Q)) : KK (d + 9) 312 1157 [.ref 2000, .ref 0, .ref 68, .ref 104, .int x4, v5, v6, .null] [] Q (.inl (some (.long r))) (F, A, J, G) := by
  refine KKl ?_
  refine Y_al2 i_312_1157 ?_
  exact Y_iv0 (L0 := [.ref 68]) i_312_1158 ow_312 lm_11_166 ((k_68 hG).trans ow_252.symm) rfl mx_252 rfl rfl hd_312 h
theorem k_312_1161 {d : Nat} {F A : Nat → Nat → Int32} {J : Nat → Nat → Int64} {G : pG} {Q : pR → pM → Prop} {SL p q : Nat} {x4 : Int32} {r w0 : Int64} {v5 v6 : Value} (hG : Geo G SL p q) (h : ((w0 = r → X (d + 9) 312 1995 [.ref 2000, .ref 0, .ref 68, .ref 104, .int x4, v5, v6, .null] [] (F, A, J, G) Q) ∧ (¬ w0 = r → Q (.inl (some (.int 0))) (F, A, J, G)))) : KK (d + 9) 312 1161 [.ref 2000, .ref 0, .ref 68, .ref 104, .int x4, v5, v6, .null] [.long w0] Q (.inl (some (.long r))) (F, A, J, G) := by
  refine KKl ?_
  refine Y_lcmp i_312_1161 ?_
  refine Y_weq i_312_1162 (fun e1 => ?_) (fun e1 => ?_)
  · replace h := h.1 e1
    exact h
  · replace h := h.2 e1
    refine Y_iconst (v := 0) i_312_1165 (by decide) ?_
    exact Y_bret i_312_1166 rt_312 (by decide) h
theorem t_312_1167 {d : Nat} {F A : Nat → Nat → Int32} {J : Nat → Nat → Int64} {G : pG} {Q : pR → pM → Prop} {SL p q : Nat} {x4 : Int32} {v5 v6 : Value} (hG : Geo G SL p q) (h : X (d + 8) 146 0 [.ref 0] [] (F, A, J, G) (KK (d + 9) 312 1171 [.ref 2000, .ref 0, .ref 68, .ref 104, .int x4, v5, v6, .null] [] Q)) : X (d + 9) 312 1167 [.ref 2000, .ref 0, .ref 68, .ref 104, .int x4, v5, v6, .null] [] (F, A, J, G) Q := by
  refine Y_al1 i_312_1167 ?_
  exact Y_iv0 (L0 := [.ref 0]) i_312_1168 ow_312 lm_11_167 ((k_0 hG).trans ow_146.symm) rfl mx_146 rfl rfl hd_312 h
theorem k_312_1171 {d : Nat} {F A : Nat → Nat → Int32} {J : Nat → Nat → Int64} {G : pG} {Q : pR → pM → Prop} {SL p q : Nat} {x4 r : Int32} {v5 v6 : Value} (hG : Geo G SL p q) (h : X (d + 8) 255 0 [.ref 68, .null, .null] [] (F, A, J, G) (KK (d + 9) 312 1175 [.ref 2000, .ref 0, .ref 68, .ref 104, .int x4, v5, v6, .null] [.int r] Q)) : KK (d + 9) 312 1171 [.ref 2000, .ref 0, .ref 68, .ref 104, .int x4, v5, v6, .null] [] Q (.inl (some (.int r))) (F, A, J, G) := by
  refine KKi ?_
  refine Y_al2 i_312_1171 ?_
  exact Y_iv0 (L0 := [.ref 68, .null, .null]) i_312_1172 ow_312 lm_11_170 ((k_68 hG).trans ow_255.symm) rfl mx_255 rfl rfl hd_312 h
theorem k_312_1175 {d : Nat} {F A : Nat → Nat → Int32} {J : Nat → Nat → Int64} {G : pG} {Q : pR → pM → Prop} {SL p q : Nat} {x4 r s0 : Int32} {v5 v6 : Value} (hG : Geo G SL p q) (h : ((s0 = r → X (d + 9) 312 1995 [.ref 2000, .ref 0, .ref 68, .ref 104, .int x4, v5, v6, .null] [] (F, A, J, G) Q) ∧ (¬ s0 = r → Q (.inl (some (.int 0))) (F, A, J, G)))) : KK (d + 9) 312 1175 [.ref 2000, .ref 0, .ref 68, .ref 104, .int x4, v5, v6, .null] [.int s0] Q (.inl (some (.int r))) (F, A, J, G) := by
  refine KKi ?_
  refine Y_ceq i_312_1175 (fun e1 => ?_) (fun e1 => ?_)
  · replace h := h.1 e1
    exact h
  · replace h := h.2 e1
    refine Y_iconst (v := 0) i_312_1178 (by decide) ?_
    exact Y_bret i_312_1179 rt_312 (by decide) h
theorem t_312_1180 {d : Nat} {F A : Nat → Nat → Int32} {J : Nat → Nat → Int64} {G : pG} {Q : pR → pM → Prop} {SL p q : Nat} {x4 : Int32} {v5 v6 : Value} (hG : Geo G SL p q) (h : X (d + 8) 147 0 [.ref 0] [] (F, A, J, G) (KK (d + 9) 312 1184 [.ref 2000, .ref 0, .ref 68, .ref 104, .int x4, v5, v6, .null] [] Q)) : X (d + 9) 312 1180 [.ref 2000, .ref 0, .ref 68, .ref 104, .int x4, v5, v6, .null] [] (F, A, J, G) Q := by
  refine Y_al1 i_312_1180 ?_
  exact Y_iv0 (L0 := [.ref 0]) i_312_1181 ow_312 lm_11_171 ((k_0 hG).trans ow_147.symm) rfl mx_147 rfl rfl hd_312 h
theorem k_312_1184 {d : Nat} {F A : Nat → Nat → Int32} {J : Nat → Nat → Int64} {G : pG} {Q : pR → pM → Prop} {SL p q : Nat} {x4 r : Int32} {v5 v6 : Value} (hG : Geo G SL p q) (h : X (d + 8) 256 0 [.ref 68, .null, .null, .null] [] (F, A, J, G) (KK (d + 9) 312 1188 [.ref 2000, .ref 0, .ref 68, .ref 104, .int x4, v5, v6, .null] [.int r] Q)) : KK (d + 9) 312 1184 [.ref 2000, .ref 0, .ref 68, .ref 104, .int x4, v5, v6, .null] [] Q (.inl (some (.int r))) (F, A, J, G) := by
  refine KKi ?_
  refine Y_al2 i_312_1184 ?_
  exact Y_iv0 (L0 := [.ref 68, .null, .null, .null]) i_312_1185 ow_312 lm_11_174 ((k_68 hG).trans ow_256.symm) rfl mx_256 rfl rfl hd_312 h
theorem k_312_1188 {d : Nat} {F A : Nat → Nat → Int32} {J : Nat → Nat → Int64} {G : pG} {Q : pR → pM → Prop} {SL p q : Nat} {x4 r s0 : Int32} {v5 v6 : Value} (hG : Geo G SL p q) (h : ((s0 = r → X (d + 9) 312 1995 [.ref 2000, .ref 0, .ref 68, .ref 104, .int x4, v5, v6, .null] [] (F, A, J, G) Q) ∧ (¬ s0 = r → Q (.inl (some (.int 0))) (F, A, J, G)))) : KK (d + 9) 312 1188 [.ref 2000, .ref 0, .ref 68, .ref 104, .int x4, v5, v6, .null] [.int s0] Q (.inl (some (.int r))) (F, A, J, G) := by
  refine KKi ?_
  refine Y_ceq i_312_1188 (fun e1 => ?_) (fun e1 => ?_)
  · replace h := h.1 e1
    exact h
  · replace h := h.2 e1
    refine Y_iconst (v := 0) i_312_1191 (by decide) ?_
    exact Y_bret i_312_1192 rt_312 (by decide) h
theorem t_312_1193 {d : Nat} {F A : Nat → Nat → Int32} {J : Nat → Nat → Int64} {G : pG} {Q : pR → pM → Prop} {SL p q : Nat} {x4 : Int32} {v5 v6 : Value} (hG : Geo G SL p q) (h : X (d + 8) 148 0 [.ref 0] [] (F, A, J, G) (KK (d + 9) 312 1197 [.ref 2000, .ref 0, .ref 68, .ref 104, .int x4, v5, v6, .null] [] Q)) : X (d + 9) 312 1193 [.ref 2000, .ref 0, .ref 68, .ref 104, .int x4, v5, v6, .null] [] (F, A, J, G) Q := by
  refine Y_al1 i_312_1193 ?_
  exact Y_iv0 (L0 := [.ref 0]) i_312_1194 ow_312 lm_11_175 ((k_0 hG).trans ow_148.symm) rfl mx_148 rfl rfl hd_312 h
theorem k_312_1197 {d : Nat} {F A : Nat → Nat → Int32} {J : Nat → Nat → Int64} {G : pG} {Q : pR → pM → Prop} {SL p q : Nat} {x4 r : Int32} {v5 v6 : Value} (hG : Geo G SL p q) (h : X (d + 8) 261 0 [.ref 68] [] (F, A, J, G) (KK (d + 9) 312 1201 [.ref 2000, .ref 0, .ref 68, .ref 104, .int x4, v5, v6, .null] [.int r] Q)) : KK (d + 9) 312 1197 [.ref 2000, .ref 0, .ref 68, .ref 104, .int x4, v5, v6, .null] [] Q (.inl (some (.int r))) (F, A, J, G) := by
  refine KKi ?_
  refine Y_al2 i_312_1197 ?_
  exact Y_iv0 (L0 := [.ref 68]) i_312_1198 ow_312 lm_11_178 ((k_68 hG).trans ow_261.symm) rfl mx_261 rfl rfl hd_312 h
theorem k_312_1201 {d : Nat} {F A : Nat → Nat → Int32} {J : Nat → Nat → Int64} {G : pG} {Q : pR → pM → Prop} {SL p q : Nat} {x4 r s0 : Int32} {v5 v6 : Value} (hG : Geo G SL p q) (h : ((s0 = r → X (d + 9) 312 1995 [.ref 2000, .ref 0, .ref 68, .ref 104, .int x4, v5, v6, .null] [] (F, A, J, G) Q) ∧ (¬ s0 = r → Q (.inl (some (.int 0))) (F, A, J, G)))) : KK (d + 9) 312 1201 [.ref 2000, .ref 0, .ref 68, .ref 104, .int x4, v5, v6, .null] [.int s0] Q (.inl (some (.int r))) (F, A, J, G) := by
  refine KKi ?_
  refine Y_ceq i_312_1201 (fun e1 => ?_) (fun e1 => ?_)
  · replace h := h.1 e1
    exact h
  · replace h := h.2 e1
    refine Y_iconst (v := 0) i_312_1204 (by decide) ?_
    exact Y_bret i_312_1205 rt_312 (by decide) h
theorem t_312_1206 {d : Nat} {F A : Nat → Nat → Int32} {J : Nat → Nat → Int64} {G : pG} {Q : pR → pM → Prop} {SL p q : Nat} {x4 : Int32} {v5 v6 : Value} (hG : Geo G SL p q) (h : inB (x4 + 1) SL = true ∧ inB (x4 + 2) SL = true ∧ (X (d + 8) 302 0 [.ref 0, .int (A 2000 (x4 + 1).toNatClampNeg), .int (A 2000 (x4 + 2).toNatClampNeg), .ref 104, .null] [] (F, A, J, G) (KK (d + 9) 312 1223 [.ref 2000, .ref 0, .ref 68, .ref 104, .int x4, v5, v6, .null] [] Q))) : X (d + 9) 312 1206 [.ref 2000, .ref 0, .ref 68, .ref 104, .int x4, v5, v6, .null] [] (F, A, J, G) Q := by
  refine Y_al1 i_312_1206 ?_
  refine Y_al0 i_312_1207 ?_
  refine Y_il4 i_312_1208 ?_
  refine Y_iconst (v := 1) i_312_1210 (by decide) ?_
  refine Y_iadd i_312_1211 ?_
  have o1 := h.1
  replace h := h.2
  refine Y_ialoadS (k := (x4 + 1).toNatClampNeg) (v := (A 2000 (x4 + 1).toNatClampNeg)) i_312_1212 (k_scr hG) (l_scr hG) o1 rfl rfl ?_
  refine Y_al0 i_312_1213 ?_
  refine Y_il4 i_312_1214 ?_
  refine Y_iconst (v := 2) i_312_1216 (by decide) ?_
  refine Y_iadd i_312_1217 ?_
  have o2 := h.1
  replace h := h.2
  refine Y_ialoadS (k := (x4 + 2).toNatClampNeg) (v := (A 2000 (x4 + 2).toNatClampNeg)) i_312_1218 (k_scr hG) (l_scr hG) o2 rfl rfl ?_
  refine Y_al3 i_312_1219 ?_
  exact Y_is_4 (L0 := [.ref 0, .int (A 2000 (x4 + 1).toNatClampNeg), .int (A 2000 (x4 + 2).toNatClampNeg), .ref 104, .null]) i_312_1220 ow_312 lm_11_179 rfl mx_302 rfl rfl hd_312 h
theorem k_312_1223 {d : Nat} {F A : Nat → Nat → Int32} {J : Nat → Nat → Int64} {G : pG} {Q : pR → pM → Prop} {SL p q : Nat} {x4 r : Int32} {v5 v6 : Value} (hG : Geo G SL p q) (h : inB (x4 + 1) SL = true ∧ inB (x4 + 2) SL = true ∧ (X (d + 8) 259 0 [.ref 68, .int (A 2000 (x4 + 1).toNatClampNeg), .int (A 2000 (x4 + 2).toNatClampNeg)] [] (F, A, J, G) (KK (d + 9) 312 1241 [.ref 2000, .ref 0, .ref 68, .ref 104, .int x4, .int r, v6, .null] [] Q))) : KK (d + 9) 312 1223 [.ref 2000, .ref 0, .ref 68, .ref 104, .int x4, v5, v6, .null] [] Q (.inl (some (.int r))) (F, A, J, G) := by
  refine KKi ?_
  refine Y_is5 i_312_1223 rfl ?_
  refine Y_al2 i_312_1225 ?_
  refine Y_al0 i_312_1226 ?_
  refine Y_il4 i_312_1227 ?_
  refine Y_iconst (v := 1) i_312_1229 (by decide) ?_
  refine Y_iadd i_312_1230 ?_
  have o1 := h.1
  replace h := h.2
  refine Y_ialoadS (k := (x4 + 1).toNatClampNeg) (v := (A 2000 (x4 + 1).toNatClampNeg)) i_312_1231 (k_scr hG) (l_scr hG) o1 rfl rfl ?_
  refine Y_al0 i_312_1232 ?_
  refine Y_il4 i_312_1233 ?_
  refine Y_iconst (v := 2) i_312_1235 (by decide) ?_
  refine Y_iadd i_312_1236 ?_
  have o2 := h.1
  replace h := h.2
  refine Y_ialoadS (k := (x4 + 2).toNatClampNeg) (v := (A 2000 (x4 + 2).toNatClampNeg)) i_312_1237 (k_scr hG) (l_scr hG) o2 rfl rfl ?_
  exact Y_iv2 (L0 := [.ref 68, .int (A 2000 (x4 + 1).toNatClampNeg), .int (A 2000 (x4 + 2).toNatClampNeg)]) i_312_1238 ow_312 lm_11_181 ((k_68 hG).trans ow_259.symm) rfl mx_259 rfl rfl hd_312 h
theorem k_312_1241 {d : Nat} {F A : Nat → Nat → Int32} {J : Nat → Nat → Int64} {G : pG} {Q : pR → pM → Prop} {SL p q : Nat} {x4 x5 r : Int32} {v6 : Value} (hG : Geo G SL p q) (h : (((F 68 3) = x5 → ((x5 = 0 → ((r = 0 → (((J 104 0) = 0 → X (d + 9) 312 1995 [.ref 2000, .ref 0, .ref 68, .ref 104, .int x4, .int x5, .int r, .null] [] (F, A, J, G) Q) ∧ (¬ (J 104 0) = 0 → Q (.inl (some (.int 0))) (F, A, J, G)))) ∧ (¬ r = 0 → (((J 104 0) = 1 → X (d + 9) 312 1995 [.ref 2000, .ref 0, .ref 68, .ref 104, .int x4, .int x5, .int r, .null] [] (F, A, J, G) Q) ∧ (¬ (J 104 0) = 1 → Q (.inl (some (.int 0))) (F, A, J, G)))))) ∧ (¬ x5 = 0 → X (d + 9) 312 1995 [.ref 2000, .ref 0, .ref 68, .ref 104, .int x4, .int x5, .int r, .null] [] (F, A, J, G) Q))) ∧ (¬ (F 68 3) = x5 → Q (.inl (some (.int 0))) (F, A, J, G)))) : KK (d + 9) 312 1241 [.ref 2000, .ref 0, .ref 68, .ref 104, .int x4, .int x5, v6, .null] [] Q (.inl (some (.int r))) (F, A, J, G) := by
  refine KKi ?_
  refine Y_is6 i_312_1241 rfl ?_
  refine Y_al2 i_312_1243 ?_
  refine Y_iv0 (L0 := [.ref 68]) i_312_1244 ow_312 lm_11_100 ((k_68 hG).trans ow_175.symm) rfl mx_175 rfl rfl hd_312 ?_
  refine Y_al0 i_175_0 ?_
  refine Y_gI (v := (F 68 3)) i_175_1 ow_175 lf_10_143 (by decide) (k_68 hG) rfl ?_
  refine Y_iret i_175_4 rt_175 (KKi ?_)
  refine Y_il5 i_312_1247 ?_
  refine Y_ceq i_312_1249 (fun e1 => ?_) (fun e1 => ?_)
  · replace h := h.1 e1
    refine Y_il5 i_312_1254 ?_
    refine Y_zne i_312_1256 (fun e2 => ?_) (fun e2 => ?_)
    · replace h := h.1 e2
      refine Y_al3 i_312_1259 ?_
      refine Y_iconst (v := 0) i_312_1260 (by decide) ?_
      refine Y_laload (k := 0) (v := (J 104 0)) i_312_1261 (k_104 hG) (l_104 hG) (by decide) (by decide) rfl ?_
      refine Y_il6 i_312_1262 ?_
      refine Y_zeq i_312_1264 (fun e3 => ?_) (fun e3 => ?_)
      · replace h := h.1 e3
        refine Y_lconst (v := 0) i_312_1271 (by decide) ?_
        refine Y_lcmp i_312_1272 ?_
        refine Y_weq i_312_1273 (fun e4 => ?_) (fun e4 => ?_)
        · replace h := h.1 e4
          refine Y_goto i_312_1278 ?_
          exact h
        · replace h := h.2 e4
          refine Y_iconst (v := 0) i_312_1276 (by decide) ?_
          exact Y_bret i_312_1277 rt_312 (by decide) h
      · replace h := h.2 e3
        refine Y_lconst (v := 1) i_312_1267 (by decide) ?_
        refine Y_goto i_312_1268 ?_
        refine Y_lcmp i_312_1272 ?_
        refine Y_weq i_312_1273 (fun e5 => ?_) (fun e5 => ?_)
        · replace h := h.1 e5
          refine Y_goto i_312_1278 ?_
          exact h
        · replace h := h.2 e5
          refine Y_iconst (v := 0) i_312_1276 (by decide) ?_
          exact Y_bret i_312_1277 rt_312 (by decide) h
    · replace h := h.2 e2
      refine Y_goto i_312_1278 ?_
      exact h
  · replace h := h.2 e1
    refine Y_iconst (v := 0) i_312_1252 (by decide) ?_
    exact Y_bret i_312_1253 rt_312 (by decide) h
theorem t_312_1281 {d : Nat} {F A : Nat → Nat → Int32} {J : Nat → Nat → Int64} {G : pG} {Q : pR → pM → Prop} {SL p q : Nat} {x4 : Int32} {v5 v6 : Value} (hG : Geo G SL p q) (h : inB (x4 + 1) SL = true ∧ inB (x4 + 2) SL = true ∧ (X (d + 8) 303 0 [.ref 0, .int (A 2000 (x4 + 1).toNatClampNeg), .int (A 2000 (x4 + 2).toNatClampNeg), .ref 104, .null] [] (F, A, J, G) (KK (d + 9) 312 1298 [.ref 2000, .ref 0, .ref 68, .ref 104, .int x4, v5, v6, .null] [] Q))) : X (d + 9) 312 1281 [.ref 2000, .ref 0, .ref 68, .ref 104, .int x4, v5, v6, .null] [] (F, A, J, G) Q := by
  refine Y_al1 i_312_1281 ?_
  refine Y_al0 i_312_1282 ?_
  refine Y_il4 i_312_1283 ?_
  refine Y_iconst (v := 1) i_312_1285 (by decide) ?_
  refine Y_iadd i_312_1286 ?_
  have o1 := h.1
  replace h := h.2
  refine Y_ialoadS (k := (x4 + 1).toNatClampNeg) (v := (A 2000 (x4 + 1).toNatClampNeg)) i_312_1287 (k_scr hG) (l_scr hG) o1 rfl rfl ?_
  refine Y_al0 i_312_1288 ?_
  refine Y_il4 i_312_1289 ?_
  refine Y_iconst (v := 2) i_312_1291 (by decide) ?_
  refine Y_iadd i_312_1292 ?_
  have o2 := h.1
  replace h := h.2
  refine Y_ialoadS (k := (x4 + 2).toNatClampNeg) (v := (A 2000 (x4 + 2).toNatClampNeg)) i_312_1293 (k_scr hG) (l_scr hG) o2 rfl rfl ?_
  refine Y_al3 i_312_1294 ?_
  exact Y_is_4 (L0 := [.ref 0, .int (A 2000 (x4 + 1).toNatClampNeg), .int (A 2000 (x4 + 2).toNatClampNeg), .ref 104, .null]) i_312_1295 ow_312 lm_11_182 rfl mx_303 rfl rfl hd_312 h
theorem k_312_1298 {d : Nat} {F A : Nat → Nat → Int32} {J : Nat → Nat → Int64} {G : pG} {Q : pR → pM → Prop} {SL p q : Nat} {x4 r : Int32} {v5 v6 : Value} (hG : Geo G SL p q) (h : inB (x4 + 1) SL = true ∧ inB (x4 + 2) SL = true ∧ (X (d + 8) 262 0 [.ref 68, .int (A 2000 (x4 + 1).toNatClampNeg), .int (A 2000 (x4 + 2).toNatClampNeg), .null] [] (F, A, J, G) (KK (d + 9) 312 1316 [.ref 2000, .ref 0, .ref 68, .ref 104, .int x4, .int r, v6, .null] [] Q))) : KK (d + 9) 312 1298 [.ref 2000, .ref 0, .ref 68, .ref 104, .int x4, v5, v6, .null] [] Q (.inl (some (.int r))) (F, A, J, G) := by
  refine KKi ?_
  refine Y_is5 i_312_1298 rfl ?_
  refine Y_al2 i_312_1300 ?_
  refine Y_al0 i_312_1301 ?_
  refine Y_il4 i_312_1302 ?_
  refine Y_iconst (v := 1) i_312_1304 (by decide) ?_
  refine Y_iadd i_312_1305 ?_
  have o1 := h.1
  replace h := h.2
  refine Y_ialoadS (k := (x4 + 1).toNatClampNeg) (v := (A 2000 (x4 + 1).toNatClampNeg)) i_312_1306 (k_scr hG) (l_scr hG) o1 rfl rfl ?_
  refine Y_al0 i_312_1307 ?_
  refine Y_il4 i_312_1308 ?_
  refine Y_iconst (v := 2) i_312_1310 (by decide) ?_
  refine Y_iadd i_312_1311 ?_
  have o2 := h.1
  replace h := h.2
  refine Y_ialoadS (k := (x4 + 2).toNatClampNeg) (v := (A 2000 (x4 + 2).toNatClampNeg)) i_312_1312 (k_scr hG) (l_scr hG) o2 rfl rfl ?_
  exact Y_iv2 (L0 := [.ref 68, .int (A 2000 (x4 + 1).toNatClampNeg), .int (A 2000 (x4 + 2).toNatClampNeg), .null]) i_312_1313 ow_312 lm_11_184 ((k_68 hG).trans ow_262.symm) rfl mx_262 rfl rfl hd_312 h
theorem k_312_1316 {d : Nat} {F A : Nat → Nat → Int32} {J : Nat → Nat → Int64} {G : pG} {Q : pR → pM → Prop} {SL p q : Nat} {x4 x5 r : Int32} {v6 : Value} (hG : Geo G SL p q) (h : (((F 68 3) = x5 → ((x5 = 0 → (((J 104 0) = r.toInt64 → X (d + 9) 312 1995 [.ref 2000, .ref 0, .ref 68, .ref 104, .int x4, .int x5, .int r, .null] [] (F, A, J, G) Q) ∧ (¬ (J 104 0) = r.toInt64 → Q (.inl (some (.int 0))) (F, A, J, G)))) ∧ (¬ x5 = 0 → X (d + 9) 312 1995 [.ref 2000, .ref 0, .ref 68, .ref 104, .int x4, .int x5, .int r, .null] [] (F, A, J, G) Q))) ∧ (¬ (F 68 3) = x5 → Q (.inl (some (.int 0))) (F, A, J, G)))) : KK (d + 9) 312 1316 [.ref 2000, .ref 0, .ref 68, .ref 104, .int x4, .int x5, v6, .null] [] Q (.inl (some (.int r))) (F, A, J, G) := by
  refine KKi ?_
  refine Y_is6 i_312_1316 rfl ?_
  refine Y_al2 i_312_1318 ?_
  refine Y_iv0 (L0 := [.ref 68]) i_312_1319 ow_312 lm_11_100 ((k_68 hG).trans ow_175.symm) rfl mx_175 rfl rfl hd_312 ?_
  refine Y_al0 i_175_0 ?_
  refine Y_gI (v := (F 68 3)) i_175_1 ow_175 lf_10_143 (by decide) (k_68 hG) rfl ?_
  refine Y_iret i_175_4 rt_175 (KKi ?_)
  refine Y_il5 i_312_1322 ?_
  refine Y_ceq i_312_1324 (fun e1 => ?_) (fun e1 => ?_)
  · replace h := h.1 e1
    refine Y_il5 i_312_1329 ?_
    refine Y_zne i_312_1331 (fun e2 => ?_) (fun e2 => ?_)
    · replace h := h.1 e2
      refine Y_al3 i_312_1334 ?_
      refine Y_iconst (v := 0) i_312_1335 (by decide) ?_
      refine Y_laload (k := 0) (v := (J 104 0)) i_312_1336 (k_104 hG) (l_104 hG) (by decide) (by decide) rfl ?_
      refine Y_il6 i_312_1337 ?_
      refine Y_i2l i_312_1339 ?_
      refine Y_lcmp i_312_1340 ?_
      refine Y_weq i_312_1341 (fun e3 => ?_) (fun e3 => ?_)
      · replace h := h.1 e3
        refine Y_goto i_312_1346 ?_
        exact h
      · replace h := h.2 e3
        refine Y_iconst (v := 0) i_312_1344 (by decide) ?_
        exact Y_bret i_312_1345 rt_312 (by decide) h
    · replace h := h.2 e2
      refine Y_goto i_312_1346 ?_
      exact h
  · replace h := h.2 e1
    refine Y_iconst (v := 0) i_312_1327 (by decide) ?_
    exact Y_bret i_312_1328 rt_312 (by decide) h
theorem t_312_1349 {d : Nat} {F A : Nat → Nat → Int32} {J : Nat → Nat → Int64} {G : pG} {Q : pR → pM → Prop} {SL p q : Nat} {x4 : Int32} {v5 v6 : Value} (hG : Geo G SL p q) (h : X (d + 8) 151 0 [.ref 0] [] (F, A, J, G) (KK (d + 9) 312 1353 [.ref 2000, .ref 0, .ref 68, .ref 104, .int x4, v5, v6, .null] [] Q)) : X (d + 9) 312 1349 [.ref 2000, .ref 0, .ref 68, .ref 104, .int x4, v5, v6, .null] [] (F, A, J, G) Q := by
  refine Y_al1 i_312_1349 ?_
  exact Y_iv0 (L0 := [.ref 0]) i_312_1350 ow_312 lm_11_185 ((k_0 hG).trans ow_151.symm) rfl mx_151 rfl rfl hd_312 h
theorem k_312_1353 {d : Nat} {F A : Nat → Nat → Int32} {J : Nat → Nat → Int64} {G : pG} {Q : pR → pM → Prop} {SL p q : Nat} {x4 r : Int32} {v5 v6 : Value} (hG : Geo G SL p q) (h : X (d + 8) 263 0 [.ref 68, .null, .null] [] (F, A, J, G) (KK (d + 9) 312 1357 [.ref 2000, .ref 0, .ref 68, .ref 104, .int x4, v5, v6, .null] [.int r] Q)) : KK (d + 9) 312 1353 [.ref 2000, .ref 0, .ref 68, .ref 104, .int x4, v5, v6, .null] [] Q (.inl (some (.int r))) (F, A, J, G) := by
  refine KKi ?_
  refine Y_al2 i_312_1353 ?_
  exact Y_iv0 (L0 := [.ref 68, .null, .null]) i_312_1354 ow_312 lm_11_188 ((k_68 hG).trans ow_263.symm) rfl mx_263 rfl rfl hd_312 h
theorem k_312_1357 {d : Nat} {F A : Nat → Nat → Int32} {J : Nat → Nat → Int64} {G : pG} {Q : pR → pM → Prop} {SL p q : Nat} {x4 r s0 : Int32} {v5 v6 : Value} (hG : Geo G SL p q) (h : ((s0 = r → X (d + 9) 312 1995 [.ref 2000, .ref 0, .ref 68, .ref 104, .int x4, v5, v6, .null] [] (F, A, J, G) Q) ∧ (¬ s0 = r → Q (.inl (some (.int 0))) (F, A, J, G)))) : KK (d + 9) 312 1357 [.ref 2000, .ref 0, .ref 68, .ref 104, .int x4, v5, v6, .null] [.int s0] Q (.inl (some (.int r))) (F, A, J, G) := by
  refine KKi ?_
  refine Y_ceq i_312_1357 (fun e1 => ?_) (fun e1 => ?_)
  · replace h := h.1 e1
    exact h
  · replace h := h.2 e1
    refine Y_iconst (v := 0) i_312_1360 (by decide) ?_
    exact Y_bret i_312_1361 rt_312 (by decide) h
theorem t_312_1362 {d : Nat} {F A : Nat → Nat → Int32} {J : Nat → Nat → Int64} {G : pG} {Q : pR → pM → Prop} {SL p q : Nat} {x4 : Int32} {v5 v6 : Value} (hG : Geo G SL p q) (h : inB (x4 + 1) SL = true ∧ (X (d + 8) 304 0 [.ref 0, .int (A 2000 (x4 + 1).toNatClampNeg), .ref 104, .null] [] (F, A, J, G) (KK (d + 9) 312 1373 [.ref 2000, .ref 0, .ref 68, .ref 104, .int x4, v5, v6, .null] [] Q))) : X (d + 9) 312 1362 [.ref 2000, .ref 0, .ref 68, .ref 104, .int x4, v5, v6, .null] [] (F, A, J, G) Q := by
  refine Y_al1 i_312_1362 ?_
  refine Y_al0 i_312_1363 ?_
  refine Y_il4 i_312_1364 ?_
  refine Y_iconst (v := 1) i_312_1366 (by decide) ?_
  refine Y_iadd i_312_1367 ?_
  have o1 := h.1
  replace h := h.2
  refine Y_ialoadS (k := (x4 + 1).toNatClampNeg) (v := (A 2000 (x4 + 1).toNatClampNeg)) i_312_1368 (k_scr hG) (l_scr hG) o1 rfl rfl ?_
  refine Y_al3 i_312_1369 ?_
  exact Y_is_3 (L0 := [.ref 0, .int (A 2000 (x4 + 1).toNatClampNeg), .ref 104, .null]) i_312_1370 ow_312 lm_11_189 rfl mx_304 rfl rfl hd_312 h
theorem k_312_1373 {d : Nat} {F A : Nat → Nat → Int32} {J : Nat → Nat → Int64} {G : pG} {Q : pR → pM → Prop} {SL p q : Nat} {x4 r : Int32} {v5 v6 : Value} (hG : Geo G SL p q) (h : inB (x4 + 1) SL = true ∧ (X (d + 8) 267 0 [.ref 68, .int (A 2000 (x4 + 1).toNatClampNeg), .null, .null, .null] [] (F, A, J, G) (KK (d + 9) 312 1385 [.ref 2000, .ref 0, .ref 68, .ref 104, .int x4, .int r, v6, .null] [] Q))) : KK (d + 9) 312 1373 [.ref 2000, .ref 0, .ref 68, .ref 104, .int x4, v5, v6, .null] [] Q (.inl (some (.int r))) (F, A, J, G) := by
  refine KKi ?_
  refine Y_is5 i_312_1373 rfl ?_
  refine Y_al2 i_312_1375 ?_
  refine Y_al0 i_312_1376 ?_
  refine Y_il4 i_312_1377 ?_
  refine Y_iconst (v := 1) i_312_1379 (by decide) ?_
  refine Y_iadd i_312_1380 ?_
  have o1 := h.1
  replace h := h.2
  refine Y_ialoadS (k := (x4 + 1).toNatClampNeg) (v := (A 2000 (x4 + 1).toNatClampNeg)) i_312_1381 (k_scr hG) (l_scr hG) o1 rfl rfl ?_
  exact Y_iv1 (L0 := [.ref 68, .int (A 2000 (x4 + 1).toNatClampNeg), .null, .null, .null]) i_312_1382 ow_312 lm_11_191 ((k_68 hG).trans ow_267.symm) rfl mx_267 rfl rfl hd_312 h
theorem k_312_1385 {d : Nat} {F A : Nat → Nat → Int32} {J : Nat → Nat → Int64} {G : pG} {Q : pR → pM → Prop} {SL p q : Nat} {x4 x5 r : Int32} {v6 : Value} (hG : Geo G SL p q) (h : (((F 68 3) = x5 → ((x5 = 0 → (((J 104 0) = r.toInt64 → X (d + 9) 312 1995 [.ref 2000, .ref 0, .ref 68, .ref 104, .int x4, .int x5, .int r, .null] [] (F, A, J, G) Q) ∧ (¬ (J 104 0) = r.toInt64 → Q (.inl (some (.int 0))) (F, A, J, G)))) ∧ (¬ x5 = 0 → X (d + 9) 312 1995 [.ref 2000, .ref 0, .ref 68, .ref 104, .int x4, .int x5, .int r, .null] [] (F, A, J, G) Q))) ∧ (¬ (F 68 3) = x5 → Q (.inl (some (.int 0))) (F, A, J, G)))) : KK (d + 9) 312 1385 [.ref 2000, .ref 0, .ref 68, .ref 104, .int x4, .int x5, v6, .null] [] Q (.inl (some (.int r))) (F, A, J, G) := by
  refine KKi ?_
  refine Y_is6 i_312_1385 rfl ?_
  refine Y_al2 i_312_1387 ?_
  refine Y_iv0 (L0 := [.ref 68]) i_312_1388 ow_312 lm_11_100 ((k_68 hG).trans ow_175.symm) rfl mx_175 rfl rfl hd_312 ?_
  refine Y_al0 i_175_0 ?_
  refine Y_gI (v := (F 68 3)) i_175_1 ow_175 lf_10_143 (by decide) (k_68 hG) rfl ?_
  refine Y_iret i_175_4 rt_175 (KKi ?_)
  refine Y_il5 i_312_1391 ?_
  refine Y_ceq i_312_1393 (fun e1 => ?_) (fun e1 => ?_)
  · replace h := h.1 e1
    refine Y_il5 i_312_1398 ?_
    refine Y_zne i_312_1400 (fun e2 => ?_) (fun e2 => ?_)
    · replace h := h.1 e2
      refine Y_al3 i_312_1403 ?_
      refine Y_iconst (v := 0) i_312_1404 (by decide) ?_
      refine Y_laload (k := 0) (v := (J 104 0)) i_312_1405 (k_104 hG) (l_104 hG) (by decide) (by decide) rfl ?_
      refine Y_il6 i_312_1406 ?_
      refine Y_i2l i_312_1408 ?_
      refine Y_lcmp i_312_1409 ?_
      refine Y_weq i_312_1410 (fun e3 => ?_) (fun e3 => ?_)
      · replace h := h.1 e3
        refine Y_goto i_312_1415 ?_
        exact h
      · replace h := h.2 e3
        refine Y_iconst (v := 0) i_312_1413 (by decide) ?_
        exact Y_bret i_312_1414 rt_312 (by decide) h
    · replace h := h.2 e2
      refine Y_goto i_312_1415 ?_
      exact h
  · replace h := h.2 e1
    refine Y_iconst (v := 0) i_312_1396 (by decide) ?_
    exact Y_bret i_312_1397 rt_312 (by decide) h
theorem t_312_1418 {d : Nat} {F A : Nat → Nat → Int32} {J : Nat → Nat → Int64} {G : pG} {Q : pR → pM → Prop} {SL p q : Nat} {x4 : Int32} {v5 v6 : Value} (hG : Geo G SL p q) (h : X (d + 8) 153 0 [.ref 0] [] (F, A, J, G) (KK (d + 9) 312 1422 [.ref 2000, .ref 0, .ref 68, .ref 104, .int x4, v5, v6, .null] [] Q)) : X (d + 9) 312 1418 [.ref 2000, .ref 0, .ref 68, .ref 104, .int x4, v5, v6, .null] [] (F, A, J, G) Q := by
  refine Y_al1 i_312_1418 ?_
  exact Y_iv0 (L0 := [.ref 0]) i_312_1419 ow_312 lm_11_192 ((k_0 hG).trans ow_153.symm) rfl mx_153 rfl rfl hd_312 h
theorem k_312_1422 {d : Nat} {F A : Nat → Nat → Int32} {J : Nat → Nat → Int64} {G : pG} {Q : pR → pM → Prop} {SL p q : Nat} {x4 r : Int32} {v5 v6 : Value} (hG : Geo G SL p q) (h : X (d + 8) 269 0 [.ref 68, .null, .null, .null, .null, .null] [] (F, A, J, G) (KK (d + 9) 312 1426 [.ref 2000, .ref 0, .ref 68, .ref 104, .int x4, v5, v6, .null] [.int r] Q)) : KK (d + 9) 312 1422 [.ref 2000, .ref 0, .ref 68, .ref 104, .int x4, v5, v6, .null] [] Q (.inl (some (.int r))) (F, A, J, G) := by
  refine KKi ?_
  refine Y_al2 i_312_1422 ?_
  exact Y_iv0 (L0 := [.ref 68, .null, .null, .null, .null, .null]) i_312_1423 ow_312 lm_11_195 ((k_68 hG).trans ow_269.symm) rfl mx_269 rfl rfl hd_312 h
theorem k_312_1426 {d : Nat} {F A : Nat → Nat → Int32} {J : Nat → Nat → Int64} {G : pG} {Q : pR → pM → Prop} {SL p q : Nat} {x4 r s0 : Int32} {v5 v6 : Value} (hG : Geo G SL p q) (h : ((s0 = r → X (d + 9) 312 1995 [.ref 2000, .ref 0, .ref 68, .ref 104, .int x4, v5, v6, .null] [] (F, A, J, G) Q) ∧ (¬ s0 = r → Q (.inl (some (.int 0))) (F, A, J, G)))) : KK (d + 9) 312 1426 [.ref 2000, .ref 0, .ref 68, .ref 104, .int x4, v5, v6, .null] [.int s0] Q (.inl (some (.int r))) (F, A, J, G) := by
  refine KKi ?_
  refine Y_ceq i_312_1426 (fun e1 => ?_) (fun e1 => ?_)
  · replace h := h.1 e1
    exact h
  · replace h := h.2 e1
    refine Y_iconst (v := 0) i_312_1429 (by decide) ?_
    exact Y_bret i_312_1430 rt_312 (by decide) h
theorem t_312_1431 {d : Nat} {F A : Nat → Nat → Int32} {J : Nat → Nat → Int64} {G : pG} {Q : pR → pM → Prop} {SL p q : Nat} {x4 : Int32} {v5 v6 : Value} (hG : Geo G SL p q) (h : inB (x4 + 1) SL = true ∧ inB (x4 + 2) SL = true ∧ (X (d + 8) 305 0 [.ref 0, .int (A 2000 (x4 + 1).toNatClampNeg), .int (A 2000 (x4 + 2).toNatClampNeg), .ref 104, .null] [] (F, A, J, G) (KK (d + 9) 312 1448 [.ref 2000, .ref 0, .ref 68, .ref 104, .int x4, v5, v6, .null] [] Q))) : X (d + 9) 312 1431 [.ref 2000, .ref 0, .ref 68, .ref 104, .int x4, v5, v6, .null] [] (F, A, J, G) Q := by
  refine Y_al1 i_312_1431 ?_
  refine Y_al0 i_312_1432 ?_
  refine Y_il4 i_312_1433 ?_
  refine Y_iconst (v := 1) i_312_1435 (by decide) ?_
  refine Y_iadd i_312_1436 ?_
  have o1 := h.1
  replace h := h.2
  refine Y_ialoadS (k := (x4 + 1).toNatClampNeg) (v := (A 2000 (x4 + 1).toNatClampNeg)) i_312_1437 (k_scr hG) (l_scr hG) o1 rfl rfl ?_
  refine Y_al0 i_312_1438 ?_
  refine Y_il4 i_312_1439 ?_
  refine Y_iconst (v := 2) i_312_1441 (by decide) ?_
  refine Y_iadd i_312_1442 ?_
  have o2 := h.1
  replace h := h.2
  refine Y_ialoadS (k := (x4 + 2).toNatClampNeg) (v := (A 2000 (x4 + 2).toNatClampNeg)) i_312_1443 (k_scr hG) (l_scr hG) o2 rfl rfl ?_
  refine Y_al3 i_312_1444 ?_
  exact Y_is_4 (L0 := [.ref 0, .int (A 2000 (x4 + 1).toNatClampNeg), .int (A 2000 (x4 + 2).toNatClampNeg), .ref 104, .null]) i_312_1445 ow_312 lm_11_196 rfl mx_305 rfl rfl hd_312 h
theorem k_312_1448 {d : Nat} {F A : Nat → Nat → Int32} {J : Nat → Nat → Int64} {G : pG} {Q : pR → pM → Prop} {SL p q : Nat} {x4 r : Int32} {v5 v6 : Value} (hG : Geo G SL p q) (h : inB (x4 + 1) SL = true ∧ inB (x4 + 2) SL = true ∧ (X (d + 8) 253 0 [.ref 68, .int (A 2000 (x4 + 1).toNatClampNeg), .int (A 2000 (x4 + 2).toNatClampNeg), .null, .null] [] (F, A, J, G) (KK (d + 9) 312 1466 [.ref 2000, .ref 0, .ref 68, .ref 104, .int x4, .int r, v6, .null] [] Q))) : KK (d + 9) 312 1448 [.ref 2000, .ref 0, .ref 68, .ref 104, .int x4, v5, v6, .null] [] Q (.inl (some (.int r))) (F, A, J, G) := by
  refine KKi ?_
  refine Y_is5 i_312_1448 rfl ?_
  refine Y_al2 i_312_1450 ?_
  refine Y_al0 i_312_1451 ?_
  refine Y_il4 i_312_1452 ?_
  refine Y_iconst (v := 1) i_312_1454 (by decide) ?_
  refine Y_iadd i_312_1455 ?_
  have o1 := h.1
  replace h := h.2
  refine Y_ialoadS (k := (x4 + 1).toNatClampNeg) (v := (A 2000 (x4 + 1).toNatClampNeg)) i_312_1456 (k_scr hG) (l_scr hG) o1 rfl rfl ?_
  refine Y_al0 i_312_1457 ?_
  refine Y_il4 i_312_1458 ?_
  refine Y_iconst (v := 2) i_312_1460 (by decide) ?_
  refine Y_iadd i_312_1461 ?_
  have o2 := h.1
  replace h := h.2
  refine Y_ialoadS (k := (x4 + 2).toNatClampNeg) (v := (A 2000 (x4 + 2).toNatClampNeg)) i_312_1462 (k_scr hG) (l_scr hG) o2 rfl rfl ?_
  exact Y_iv2 (L0 := [.ref 68, .int (A 2000 (x4 + 1).toNatClampNeg), .int (A 2000 (x4 + 2).toNatClampNeg), .null, .null]) i_312_1463 ow_312 lm_11_198 ((k_68 hG).trans ow_253.symm) rfl mx_253 rfl rfl hd_312 h
theorem k_312_1466 {d : Nat} {F A : Nat → Nat → Int32} {J : Nat → Nat → Int64} {G : pG} {Q : pR → pM → Prop} {SL p q : Nat} {x4 x5 : Int32} {r : Int64} {v6 : Value} (hG : Geo G SL p q) (h : (((F 68 3) = x5 → ((x5 = 0 → (((J 104 0) = r → X (d + 9) 312 1995 [.ref 2000, .ref 0, .ref 68, .ref 104, .int x4, .int x5, .long r, .null] [] (F, A, J, G) Q) ∧ (¬ (J 104 0) = r → Q (.inl (some (.int 0))) (F, A, J, G)))) ∧ (¬ x5 = 0 → X (d + 9) 312 1995 [.ref 2000, .ref 0, .ref 68, .ref 104, .int x4, .int x5, .long r, .null] [] (F, A, J, G) Q))) ∧ (¬ (F 68 3) = x5 → Q (.inl (some (.int 0))) (F, A, J, G)))) : KK (d + 9) 312 1466 [.ref 2000, .ref 0, .ref 68, .ref 104, .int x4, .int x5, v6, .null] [] Q (.inl (some (.long r))) (F, A, J, G) := by
  refine KKl ?_
  refine Y_ls6 i_312_1466 rfl ?_
  refine Y_al2 i_312_1468 ?_
  refine Y_iv0 (L0 := [.ref 68]) i_312_1469 ow_312 lm_11_100 ((k_68 hG).trans ow_175.symm) rfl mx_175 rfl rfl hd_312 ?_
  refine Y_al0 i_175_0 ?_
  refine Y_gI (v := (F 68 3)) i_175_1 ow_175 lf_10_143 (by decide) (k_68 hG) rfl ?_
  refine Y_iret i_175_4 rt_175 (KKi ?_)
  refine Y_il5 i_312_1472 ?_
  refine Y_ceq i_312_1474 (fun e1 => ?_) (fun e1 => ?_)
  · replace h := h.1 e1
    refine Y_il5 i_312_1479 ?_
    refine Y_zne i_312_1481 (fun e2 => ?_) (fun e2 => ?_)
    · replace h := h.1 e2
      refine Y_al3 i_312_1484 ?_
      refine Y_iconst (v := 0) i_312_1485 (by decide) ?_
      refine Y_laload (k := 0) (v := (J 104 0)) i_312_1486 (k_104 hG) (l_104 hG) (by decide) (by decide) rfl ?_
      refine Y_ll6 i_312_1487 ?_
      refine Y_lcmp i_312_1489 ?_
      refine Y_weq i_312_1490 (fun e3 => ?_) (fun e3 => ?_)
      · replace h := h.1 e3
        refine Y_goto i_312_1495 ?_
        exact h
      · replace h := h.2 e3
        refine Y_iconst (v := 0) i_312_1493 (by decide) ?_
        exact Y_bret i_312_1494 rt_312 (by decide) h
    · replace h := h.2 e2
      refine Y_goto i_312_1495 ?_
      exact h
  · replace h := h.2 e1
    refine Y_iconst (v := 0) i_312_1477 (by decide) ?_
    exact Y_bret i_312_1478 rt_312 (by decide) h
theorem t_312_1498 {d : Nat} {F A : Nat → Nat → Int32} {J : Nat → Nat → Int64} {G : pG} {Q : pR → pM → Prop} {SL p q : Nat} {x4 : Int32} {v5 v6 : Value} (hG : Geo G SL p q) (h : X (d + 8) 155 0 [.ref 0] [] (F, A, J, G) (KK (d + 9) 312 1502 [.ref 2000, .ref 0, .ref 68, .ref 104, .int x4, v5, v6, .null] [] Q)) : X (d + 9) 312 1498 [.ref 2000, .ref 0, .ref 68, .ref 104, .int x4, v5, v6, .null] [] (F, A, J, G) Q := by
  refine Y_al1 i_312_1498 ?_
  exact Y_iv0 (L0 := [.ref 0]) i_312_1499 ow_312 lm_11_199 ((k_0 hG).trans ow_155.symm) rfl mx_155 rfl rfl hd_312 h
theorem k_312_1502 {d : Nat} {F A : Nat → Nat → Int32} {J : Nat → Nat → Int64} {G : pG} {Q : pR → pM → Prop} {SL p q : Nat} {x4 r : Int32} {v5 v6 : Value} (hG : Geo G SL p q) (h : X (d + 8) 270 0 [.ref 68, .null, .null, .null, .null, .null] [] (F, A, J, G) (KK (d + 9) 312 1506 [.ref 2000, .ref 0, .ref 68, .ref 104, .int x4, v5, v6, .null] [.int r] Q)) : KK (d + 9) 312 1502 [.ref 2000, .ref 0, .ref 68, .ref 104, .int x4, v5, v6, .null] [] Q (.inl (some (.int r))) (F, A, J, G) := by
  refine KKi ?_
  refine Y_al2 i_312_1502 ?_
  exact Y_iv0 (L0 := [.ref 68, .null, .null, .null, .null, .null]) i_312_1503 ow_312 lm_11_202 ((k_68 hG).trans ow_270.symm) rfl mx_270 rfl rfl hd_312 h
theorem k_312_1506 {d : Nat} {F A : Nat → Nat → Int32} {J : Nat → Nat → Int64} {G : pG} {Q : pR → pM → Prop} {SL p q : Nat} {x4 r s0 : Int32} {v5 v6 : Value} (hG : Geo G SL p q) (h : ((s0 = r → X (d + 9) 312 1995 [.ref 2000, .ref 0, .ref 68, .ref 104, .int x4, v5, v6, .null] [] (F, A, J, G) Q) ∧ (¬ s0 = r → Q (.inl (some (.int 0))) (F, A, J, G)))) : KK (d + 9) 312 1506 [.ref 2000, .ref 0, .ref 68, .ref 104, .int x4, v5, v6, .null] [.int s0] Q (.inl (some (.int r))) (F, A, J, G) := by
  refine KKi ?_
  refine Y_ceq i_312_1506 (fun e1 => ?_) (fun e1 => ?_)
  · replace h := h.1 e1
    exact h
  · replace h := h.2 e1
    refine Y_iconst (v := 0) i_312_1509 (by decide) ?_
    exact Y_bret i_312_1510 rt_312 (by decide) h
theorem t_312_1511 {d : Nat} {F A : Nat → Nat → Int32} {J : Nat → Nat → Int64} {G : pG} {Q : pR → pM → Prop} {SL p q : Nat} {x4 : Int32} {v5 v6 : Value} (hG : Geo G SL p q) (h : inB (x4 + 1) SL = true ∧ (X (d + 8) 306 0 [.ref 0, .int (A 2000 (x4 + 1).toNatClampNeg), .ref 104, .null] [] (F, A, J, G) (KK (d + 9) 312 1522 [.ref 2000, .ref 0, .ref 68, .ref 104, .int x4, v5, v6, .null] [] Q))) : X (d + 9) 312 1511 [.ref 2000, .ref 0, .ref 68, .ref 104, .int x4, v5, v6, .null] [] (F, A, J, G) Q := by
  refine Y_al1 i_312_1511 ?_
  refine Y_al0 i_312_1512 ?_
  refine Y_il4 i_312_1513 ?_
  refine Y_iconst (v := 1) i_312_1515 (by decide) ?_
  refine Y_iadd i_312_1516 ?_
  have o1 := h.1
  replace h := h.2
  refine Y_ialoadS (k := (x4 + 1).toNatClampNeg) (v := (A 2000 (x4 + 1).toNatClampNeg)) i_312_1517 (k_scr hG) (l_scr hG) o1 rfl rfl ?_
  refine Y_al3 i_312_1518 ?_
  exact Y_is_3 (L0 := [.ref 0, .int (A 2000 (x4 + 1).toNatClampNeg), .ref 104, .null]) i_312_1519 ow_312 lm_11_203 rfl mx_306 rfl rfl hd_312 h
theorem k_312_1522 {d : Nat} {F A : Nat → Nat → Int32} {J : Nat → Nat → Int64} {G : pG} {Q : pR → pM → Prop} {SL p q : Nat} {x4 r : Int32} {v5 v6 : Value} (hG : Geo G SL p q) (h : inB (x4 + 1) SL = true ∧ (X (d + 8) 271 0 [.ref 68, .int (A 2000 (x4 + 1).toNatClampNeg)] [] (F, A, J, G) (KK (d + 9) 312 1534 [.ref 2000, .ref 0, .ref 68, .ref 104, .int x4, .int r, v6, .null] [] Q))) : KK (d + 9) 312 1522 [.ref 2000, .ref 0, .ref 68, .ref 104, .int x4, v5, v6, .null] [] Q (.inl (some (.int r))) (F, A, J, G) := by
  refine KKi ?_
  refine Y_is5 i_312_1522 rfl ?_
  refine Y_al2 i_312_1524 ?_
  refine Y_al0 i_312_1525 ?_
  refine Y_il4 i_312_1526 ?_
  refine Y_iconst (v := 1) i_312_1528 (by decide) ?_
  refine Y_iadd i_312_1529 ?_
  have o1 := h.1
  replace h := h.2
  refine Y_ialoadS (k := (x4 + 1).toNatClampNeg) (v := (A 2000 (x4 + 1).toNatClampNeg)) i_312_1530 (k_scr hG) (l_scr hG) o1 rfl rfl ?_
  exact Y_iv1 (L0 := [.ref 68, .int (A 2000 (x4 + 1).toNatClampNeg)]) i_312_1531 ow_312 lm_11_205 ((k_68 hG).trans ow_271.symm) rfl mx_271 rfl rfl hd_312 h
theorem k_312_1534 {d : Nat} {F A : Nat → Nat → Int32} {J : Nat → Nat → Int64} {G : pG} {Q : pR → pM → Prop} {SL p q : Nat} {x4 x5 r : Int32} {v6 : Value} (hG : Geo G SL p q) (h : (((F 68 3) = x5 → ((x5 = 0 → (((J 104 0) = r.toInt64 → X (d + 9) 312 1995 [.ref 2000, .ref 0, .ref 68, .ref 104, .int x4, .int x5, .int r, .null] [] (F, A, J, G) Q) ∧ (¬ (J 104 0) = r.toInt64 → Q (.inl (some (.int 0))) (F, A, J, G)))) ∧ (¬ x5 = 0 → X (d + 9) 312 1995 [.ref 2000, .ref 0, .ref 68, .ref 104, .int x4, .int x5, .int r, .null] [] (F, A, J, G) Q))) ∧ (¬ (F 68 3) = x5 → Q (.inl (some (.int 0))) (F, A, J, G)))) : KK (d + 9) 312 1534 [.ref 2000, .ref 0, .ref 68, .ref 104, .int x4, .int x5, v6, .null] [] Q (.inl (some (.int r))) (F, A, J, G) := by
  refine KKi ?_
  refine Y_is6 i_312_1534 rfl ?_
  refine Y_al2 i_312_1536 ?_
  refine Y_iv0 (L0 := [.ref 68]) i_312_1537 ow_312 lm_11_100 ((k_68 hG).trans ow_175.symm) rfl mx_175 rfl rfl hd_312 ?_
  refine Y_al0 i_175_0 ?_
  refine Y_gI (v := (F 68 3)) i_175_1 ow_175 lf_10_143 (by decide) (k_68 hG) rfl ?_
  refine Y_iret i_175_4 rt_175 (KKi ?_)
  refine Y_il5 i_312_1540 ?_
  refine Y_ceq i_312_1542 (fun e1 => ?_) (fun e1 => ?_)
  · replace h := h.1 e1
    refine Y_il5 i_312_1547 ?_
    refine Y_zne i_312_1549 (fun e2 => ?_) (fun e2 => ?_)
    · replace h := h.1 e2
      refine Y_al3 i_312_1552 ?_
      refine Y_iconst (v := 0) i_312_1553 (by decide) ?_
      refine Y_laload (k := 0) (v := (J 104 0)) i_312_1554 (k_104 hG) (l_104 hG) (by decide) (by decide) rfl ?_
      refine Y_il6 i_312_1555 ?_
      refine Y_i2l i_312_1557 ?_
      refine Y_lcmp i_312_1558 ?_
      refine Y_weq i_312_1559 (fun e3 => ?_) (fun e3 => ?_)
      · replace h := h.1 e3
        refine Y_goto i_312_1564 ?_
        exact h
      · replace h := h.2 e3
        refine Y_iconst (v := 0) i_312_1562 (by decide) ?_
        exact Y_bret i_312_1563 rt_312 (by decide) h
    · replace h := h.2 e2
      refine Y_goto i_312_1564 ?_
      exact h
  · replace h := h.2 e1
    refine Y_iconst (v := 0) i_312_1545 (by decide) ?_
    exact Y_bret i_312_1546 rt_312 (by decide) h
theorem t_312_1567 {d : Nat} {F A : Nat → Nat → Int32} {J : Nat → Nat → Int64} {G : pG} {Q : pR → pM → Prop} {SL p q : Nat} {x4 : Int32} {v5 v6 : Value} (hG : Geo G SL p q) (h : inB (x4 + 1) SL = true ∧ (X (d + 8) 307 0 [.ref 0, .int (A 2000 (x4 + 1).toNatClampNeg), .ref 104, .null] [] (F, A, J, G) (KK (d + 9) 312 1578 [.ref 2000, .ref 0, .ref 68, .ref 104, .int x4, v5, v6, .null] [] Q))) : X (d + 9) 312 1567 [.ref 2000, .ref 0, .ref 68, .ref 104, .int x4, v5, v6, .null] [] (F, A, J, G) Q := by
  refine Y_al1 i_312_1567 ?_
  refine Y_al0 i_312_1568 ?_
  refine Y_il4 i_312_1569 ?_
  refine Y_iconst (v := 1) i_312_1571 (by decide) ?_
  refine Y_iadd i_312_1572 ?_
  have o1 := h.1
  replace h := h.2
  refine Y_ialoadS (k := (x4 + 1).toNatClampNeg) (v := (A 2000 (x4 + 1).toNatClampNeg)) i_312_1573 (k_scr hG) (l_scr hG) o1 rfl rfl ?_
  refine Y_al3 i_312_1574 ?_
  exact Y_is_3 (L0 := [.ref 0, .int (A 2000 (x4 + 1).toNatClampNeg), .ref 104, .null]) i_312_1575 ow_312 lm_11_206 rfl mx_307 rfl rfl hd_312 h
theorem k_312_1578 {d : Nat} {F A : Nat → Nat → Int32} {J : Nat → Nat → Int64} {G : pG} {Q : pR → pM → Prop} {SL p q : Nat} {x4 r : Int32} {v5 v6 : Value} (hG : Geo G SL p q) (h : inB (x4 + 1) SL = true ∧ (X (d + 8) 257 0 [.ref 68, .int (A 2000 (x4 + 1).toNatClampNeg), .null] [] (F, A, J, G) (KK (d + 9) 312 1590 [.ref 2000, .ref 0, .ref 68, .ref 104, .int x4, .int r, v6, .null] [] Q))) : KK (d + 9) 312 1578 [.ref 2000, .ref 0, .ref 68, .ref 104, .int x4, v5, v6, .null] [] Q (.inl (some (.int r))) (F, A, J, G) := by
  refine KKi ?_
  refine Y_is5 i_312_1578 rfl ?_
  refine Y_al2 i_312_1580 ?_
  refine Y_al0 i_312_1581 ?_
  refine Y_il4 i_312_1582 ?_
  refine Y_iconst (v := 1) i_312_1584 (by decide) ?_
  refine Y_iadd i_312_1585 ?_
  have o1 := h.1
  replace h := h.2
  refine Y_ialoadS (k := (x4 + 1).toNatClampNeg) (v := (A 2000 (x4 + 1).toNatClampNeg)) i_312_1586 (k_scr hG) (l_scr hG) o1 rfl rfl ?_
  exact Y_iv1 (L0 := [.ref 68, .int (A 2000 (x4 + 1).toNatClampNeg), .null]) i_312_1587 ow_312 lm_11_208 ((k_68 hG).trans ow_257.symm) rfl mx_257 rfl rfl hd_312 h
theorem k_312_1590 {d : Nat} {F A : Nat → Nat → Int32} {J : Nat → Nat → Int64} {G : pG} {Q : pR → pM → Prop} {SL p q : Nat} {x4 x5 r : Int32} {v6 : Value} (hG : Geo G SL p q) (h : (((F 68 3) = x5 → ((x5 = 0 → (((J 104 0) = r.toInt64 → X (d + 9) 312 1995 [.ref 2000, .ref 0, .ref 68, .ref 104, .int x4, .int x5, .int r, .null] [] (F, A, J, G) Q) ∧ (¬ (J 104 0) = r.toInt64 → Q (.inl (some (.int 0))) (F, A, J, G)))) ∧ (¬ x5 = 0 → X (d + 9) 312 1995 [.ref 2000, .ref 0, .ref 68, .ref 104, .int x4, .int x5, .int r, .null] [] (F, A, J, G) Q))) ∧ (¬ (F 68 3) = x5 → Q (.inl (some (.int 0))) (F, A, J, G)))) : KK (d + 9) 312 1590 [.ref 2000, .ref 0, .ref 68, .ref 104, .int x4, .int x5, v6, .null] [] Q (.inl (some (.int r))) (F, A, J, G) := by
  refine KKi ?_
  refine Y_is6 i_312_1590 rfl ?_
  refine Y_al2 i_312_1592 ?_
  refine Y_iv0 (L0 := [.ref 68]) i_312_1593 ow_312 lm_11_100 ((k_68 hG).trans ow_175.symm) rfl mx_175 rfl rfl hd_312 ?_
  refine Y_al0 i_175_0 ?_
  refine Y_gI (v := (F 68 3)) i_175_1 ow_175 lf_10_143 (by decide) (k_68 hG) rfl ?_
  refine Y_iret i_175_4 rt_175 (KKi ?_)
  refine Y_il5 i_312_1596 ?_
  refine Y_ceq i_312_1598 (fun e1 => ?_) (fun e1 => ?_)
  · replace h := h.1 e1
    refine Y_il5 i_312_1603 ?_
    refine Y_zne i_312_1605 (fun e2 => ?_) (fun e2 => ?_)
    · replace h := h.1 e2
      refine Y_al3 i_312_1608 ?_
      refine Y_iconst (v := 0) i_312_1609 (by decide) ?_
      refine Y_laload (k := 0) (v := (J 104 0)) i_312_1610 (k_104 hG) (l_104 hG) (by decide) (by decide) rfl ?_
      refine Y_il6 i_312_1611 ?_
      refine Y_i2l i_312_1613 ?_
      refine Y_lcmp i_312_1614 ?_
      refine Y_weq i_312_1615 (fun e3 => ?_) (fun e3 => ?_)
      · replace h := h.1 e3
        refine Y_goto i_312_1620 ?_
        exact h
      · replace h := h.2 e3
        refine Y_iconst (v := 0) i_312_1618 (by decide) ?_
        exact Y_bret i_312_1619 rt_312 (by decide) h
    · replace h := h.2 e2
      refine Y_goto i_312_1620 ?_
      exact h
  · replace h := h.2 e1
    refine Y_iconst (v := 0) i_312_1601 (by decide) ?_
    exact Y_bret i_312_1602 rt_312 (by decide) h
theorem t_312_1623 {d : Nat} {F A : Nat → Nat → Int32} {J : Nat → Nat → Int64} {G : pG} {Q : pR → pM → Prop} {SL p q : Nat} {x4 : Int32} {v5 v6 : Value} (hG : Geo G SL p q) (h : X (d + 8) 158 0 [.ref 0] [] (F, A, J, G) (KK (d + 9) 312 1627 [.ref 2000, .ref 0, .ref 68, .ref 104, .int x4, v5, v6, .null] [] Q)) : X (d + 9) 312 1623 [.ref 2000, .ref 0, .ref 68, .ref 104, .int x4, v5, v6, .null] [] (F, A, J, G) Q := by
  refine Y_al1 i_312_1623 ?_
  exact Y_iv0 (L0 := [.ref 0]) i_312_1624 ow_312 lm_11_209 ((k_0 hG).trans ow_158.symm) rfl mx_158 rfl rfl hd_312 h
theorem k_312_1627 {d : Nat} {F A : Nat → Nat → Int32} {J : Nat → Nat → Int64} {G : pG} {Q : pR → pM → Prop} {SL p q : Nat} {x4 r : Int32} {v5 v6 : Value} (hG : Geo G SL p q) (h : X (d + 8) 272 0 [.ref 68, .null, .null] [] (F, A, J, G) (KK (d + 9) 312 1631 [.ref 2000, .ref 0, .ref 68, .ref 104, .int x4, v5, v6, .null] [.int r] Q)) : KK (d + 9) 312 1627 [.ref 2000, .ref 0, .ref 68, .ref 104, .int x4, v5, v6, .null] [] Q (.inl (some (.int r))) (F, A, J, G) := by
  refine KKi ?_
  refine Y_al2 i_312_1627 ?_
  exact Y_iv0 (L0 := [.ref 68, .null, .null]) i_312_1628 ow_312 lm_11_212 ((k_68 hG).trans ow_272.symm) rfl mx_272 rfl rfl hd_312 h
theorem k_312_1631 {d : Nat} {F A : Nat → Nat → Int32} {J : Nat → Nat → Int64} {G : pG} {Q : pR → pM → Prop} {SL p q : Nat} {x4 r s0 : Int32} {v5 v6 : Value} (hG : Geo G SL p q) (h : ((s0 = r → X (d + 9) 312 1995 [.ref 2000, .ref 0, .ref 68, .ref 104, .int x4, v5, v6, .null] [] (F, A, J, G) Q) ∧ (¬ s0 = r → Q (.inl (some (.int 0))) (F, A, J, G)))) : KK (d + 9) 312 1631 [.ref 2000, .ref 0, .ref 68, .ref 104, .int x4, v5, v6, .null] [.int s0] Q (.inl (some (.int r))) (F, A, J, G) := by
  refine KKi ?_
  refine Y_ceq i_312_1631 (fun e1 => ?_) (fun e1 => ?_)
  · replace h := h.1 e1
    exact h
  · replace h := h.2 e1
    refine Y_iconst (v := 0) i_312_1634 (by decide) ?_
    exact Y_bret i_312_1635 rt_312 (by decide) h
theorem t_312_1636 {d : Nat} {F A : Nat → Nat → Int32} {J : Nat → Nat → Int64} {G : pG} {Q : pR → pM → Prop} {SL p q : Nat} {x4 : Int32} {v5 v6 : Value} (hG : Geo G SL p q) (h : inB (x4 + 1) SL = true ∧ (X (d + 8) 308 0 [.ref 0, .int (A 2000 (x4 + 1).toNatClampNeg), .ref 104, .null] [] (F, A, J, G) (KK (d + 9) 312 1647 [.ref 2000, .ref 0, .ref 68, .ref 104, .int x4, v5, v6, .null] [] Q))) : X (d + 9) 312 1636 [.ref 2000, .ref 0, .ref 68, .ref 104, .int x4, v5, v6, .null] [] (F, A, J, G) Q := by
  refine Y_al1 i_312_1636 ?_
  refine Y_al0 i_312_1637 ?_
  refine Y_il4 i_312_1638 ?_
  refine Y_iconst (v := 1) i_312_1640 (by decide) ?_
  refine Y_iadd i_312_1641 ?_
  have o1 := h.1
  replace h := h.2
  refine Y_ialoadS (k := (x4 + 1).toNatClampNeg) (v := (A 2000 (x4 + 1).toNatClampNeg)) i_312_1642 (k_scr hG) (l_scr hG) o1 rfl rfl ?_
  refine Y_al3 i_312_1643 ?_
  exact Y_is_3 (L0 := [.ref 0, .int (A 2000 (x4 + 1).toNatClampNeg), .ref 104, .null]) i_312_1644 ow_312 lm_11_213 rfl mx_308 rfl rfl hd_312 h
theorem k_312_1647 {d : Nat} {F A : Nat → Nat → Int32} {J : Nat → Nat → Int64} {G : pG} {Q : pR → pM → Prop} {SL p q : Nat} {x4 r : Int32} {v5 v6 : Value} (hG : Geo G SL p q) (h : inB (x4 + 1) SL = true ∧ (X (d + 8) 264 0 [.ref 68, .int (A 2000 (x4 + 1).toNatClampNeg), .null] [] (F, A, J, G) (KK (d + 9) 312 1659 [.ref 2000, .ref 0, .ref 68, .ref 104, .int x4, .int r, v6, .null] [] Q))) : KK (d + 9) 312 1647 [.ref 2000, .ref 0, .ref 68, .ref 104, .int x4, v5, v6, .null] [] Q (.inl (some (.int r))) (F, A, J, G) := by
  refine KKi ?_
  refine Y_is5 i_312_1647 rfl ?_
  refine Y_al2 i_312_1649 ?_
  refine Y_al0 i_312_1650 ?_
  refine Y_il4 i_312_1651 ?_
  refine Y_iconst (v := 1) i_312_1653 (by decide) ?_
  refine Y_iadd i_312_1654 ?_
  have o1 := h.1
  replace h := h.2
  refine Y_ialoadS (k := (x4 + 1).toNatClampNeg) (v := (A 2000 (x4 + 1).toNatClampNeg)) i_312_1655 (k_scr hG) (l_scr hG) o1 rfl rfl ?_
  exact Y_iv1 (L0 := [.ref 68, .int (A 2000 (x4 + 1).toNatClampNeg), .null]) i_312_1656 ow_312 lm_11_215 ((k_68 hG).trans ow_264.symm) rfl mx_264 rfl rfl hd_312 h
theorem k_312_1659 {d : Nat} {F A : Nat → Nat → Int32} {J : Nat → Nat → Int64} {G : pG} {Q : pR → pM → Prop} {SL p q : Nat} {x4 x5 r : Int32} {v6 : Value} (hG : Geo G SL p q) (h : (((F 68 3) = x5 → ((x5 = 0 → (((J 104 0) = r.toInt64 → X (d + 9) 312 1995 [.ref 2000, .ref 0, .ref 68, .ref 104, .int x4, .int x5, .int r, .null] [] (F, A, J, G) Q) ∧ (¬ (J 104 0) = r.toInt64 → Q (.inl (some (.int 0))) (F, A, J, G)))) ∧ (¬ x5 = 0 → X (d + 9) 312 1995 [.ref 2000, .ref 0, .ref 68, .ref 104, .int x4, .int x5, .int r, .null] [] (F, A, J, G) Q))) ∧ (¬ (F 68 3) = x5 → Q (.inl (some (.int 0))) (F, A, J, G)))) : KK (d + 9) 312 1659 [.ref 2000, .ref 0, .ref 68, .ref 104, .int x4, .int x5, v6, .null] [] Q (.inl (some (.int r))) (F, A, J, G) := by
  refine KKi ?_
  refine Y_is6 i_312_1659 rfl ?_
  refine Y_al2 i_312_1661 ?_
  refine Y_iv0 (L0 := [.ref 68]) i_312_1662 ow_312 lm_11_100 ((k_68 hG).trans ow_175.symm) rfl mx_175 rfl rfl hd_312 ?_
  refine Y_al0 i_175_0 ?_
  refine Y_gI (v := (F 68 3)) i_175_1 ow_175 lf_10_143 (by decide) (k_68 hG) rfl ?_
  refine Y_iret i_175_4 rt_175 (KKi ?_)
  refine Y_il5 i_312_1665 ?_
  refine Y_ceq i_312_1667 (fun e1 => ?_) (fun e1 => ?_)
  · replace h := h.1 e1
    refine Y_il5 i_312_1672 ?_
    refine Y_zne i_312_1674 (fun e2 => ?_) (fun e2 => ?_)
    · replace h := h.1 e2
      refine Y_al3 i_312_1677 ?_
      refine Y_iconst (v := 0) i_312_1678 (by decide) ?_
      refine Y_laload (k := 0) (v := (J 104 0)) i_312_1679 (k_104 hG) (l_104 hG) (by decide) (by decide) rfl ?_
      refine Y_il6 i_312_1680 ?_
      refine Y_i2l i_312_1682 ?_
      refine Y_lcmp i_312_1683 ?_
      refine Y_weq i_312_1684 (fun e3 => ?_) (fun e3 => ?_)
      · replace h := h.1 e3
        refine Y_goto i_312_1689 ?_
        exact h
      · replace h := h.2 e3
        refine Y_iconst (v := 0) i_312_1687 (by decide) ?_
        exact Y_bret i_312_1688 rt_312 (by decide) h
    · replace h := h.2 e2
      refine Y_goto i_312_1689 ?_
      exact h
  · replace h := h.2 e1
    refine Y_iconst (v := 0) i_312_1670 (by decide) ?_
    exact Y_bret i_312_1671 rt_312 (by decide) h
theorem t_312_1692 {d : Nat} {F A : Nat → Nat → Int32} {J : Nat → Nat → Int64} {G : pG} {Q : pR → pM → Prop} {SL p q : Nat} {x4 : Int32} {v5 v6 : Value} (hG : Geo G SL p q) (h : X (d + 8) 160 0 [.ref 0] [] (F, A, J, G) (KK (d + 9) 312 1696 [.ref 2000, .ref 0, .ref 68, .ref 104, .int x4, v5, v6, .null] [] Q)) : X (d + 9) 312 1692 [.ref 2000, .ref 0, .ref 68, .ref 104, .int x4, v5, v6, .null] [] (F, A, J, G) Q := by
  refine Y_al1 i_312_1692 ?_
  exact Y_iv0 (L0 := [.ref 0]) i_312_1693 ow_312 lm_11_216 ((k_0 hG).trans ow_160.symm) rfl mx_160 rfl rfl hd_312 h
theorem k_312_1696 {d : Nat} {F A : Nat → Nat → Int32} {J : Nat → Nat → Int64} {G : pG} {Q : pR → pM → Prop} {SL p q : Nat} {x4 r : Int32} {v5 v6 : Value} (hG : Geo G SL p q) (h : X (d + 8) 268 0 [.ref 68, .null, .null, .null, .null] [] (F, A, J, G) (KK (d + 9) 312 1700 [.ref 2000, .ref 0, .ref 68, .ref 104, .int x4, v5, v6, .null] [.int r] Q)) : KK (d + 9) 312 1696 [.ref 2000, .ref 0, .ref 68, .ref 104, .int x4, v5, v6, .null] [] Q (.inl (some (.int r))) (F, A, J, G) := by
  refine KKi ?_
  refine Y_al2 i_312_1696 ?_
  exact Y_iv0 (L0 := [.ref 68, .null, .null, .null, .null]) i_312_1697 ow_312 lm_11_219 ((k_68 hG).trans ow_268.symm) rfl mx_268 rfl rfl hd_312 h
theorem k_312_1700 {d : Nat} {F A : Nat → Nat → Int32} {J : Nat → Nat → Int64} {G : pG} {Q : pR → pM → Prop} {SL p q : Nat} {x4 r s0 : Int32} {v5 v6 : Value} (hG : Geo G SL p q) (h : ((s0 = r → X (d + 9) 312 1995 [.ref 2000, .ref 0, .ref 68, .ref 104, .int x4, v5, v6, .null] [] (F, A, J, G) Q) ∧ (¬ s0 = r → Q (.inl (some (.int 0))) (F, A, J, G)))) : KK (d + 9) 312 1700 [.ref 2000, .ref 0, .ref 68, .ref 104, .int x4, v5, v6, .null] [.int s0] Q (.inl (some (.int r))) (F, A, J, G) := by
  refine KKi ?_
  refine Y_ceq i_312_1700 (fun e1 => ?_) (fun e1 => ?_)
  · replace h := h.1 e1
    exact h
  · replace h := h.2 e1
    refine Y_iconst (v := 0) i_312_1703 (by decide) ?_
    exact Y_bret i_312_1704 rt_312 (by decide) h
theorem t_312_1705 {d : Nat} {F A : Nat → Nat → Int32} {J : Nat → Nat → Int64} {G : pG} {Q : pR → pM → Prop} {SL p q : Nat} {x4 : Int32} {v5 v6 : Value} (hG : Geo G SL p q) (h : X (d + 8) 161 0 [.ref 0] [] (F, A, J, G) (KK (d + 9) 312 1709 [.ref 2000, .ref 0, .ref 68, .ref 104, .int x4, v5, v6, .null] [] Q)) : X (d + 9) 312 1705 [.ref 2000, .ref 0, .ref 68, .ref 104, .int x4, v5, v6, .null] [] (F, A, J, G) Q := by
  refine Y_al1 i_312_1705 ?_
  exact Y_iv0 (L0 := [.ref 0]) i_312_1706 ow_312 lm_11_220 ((k_0 hG).trans ow_161.symm) rfl mx_161 rfl rfl hd_312 h
theorem k_312_1709 {d : Nat} {F A : Nat → Nat → Int32} {J : Nat → Nat → Int64} {G : pG} {Q : pR → pM → Prop} {SL p q : Nat} {x4 r : Int32} {v5 v6 : Value} (hG : Geo G SL p q) (h : X (d + 8) 265 0 [.ref 68, .null, .null, .null] [] (F, A, J, G) (KK (d + 9) 312 1713 [.ref 2000, .ref 0, .ref 68, .ref 104, .int x4, v5, v6, .null] [.int r] Q)) : KK (d + 9) 312 1709 [.ref 2000, .ref 0, .ref 68, .ref 104, .int x4, v5, v6, .null] [] Q (.inl (some (.int r))) (F, A, J, G) := by
  refine KKi ?_
  refine Y_al2 i_312_1709 ?_
  exact Y_iv0 (L0 := [.ref 68, .null, .null, .null]) i_312_1710 ow_312 lm_11_223 ((k_68 hG).trans ow_265.symm) rfl mx_265 rfl rfl hd_312 h
theorem k_312_1713 {d : Nat} {F A : Nat → Nat → Int32} {J : Nat → Nat → Int64} {G : pG} {Q : pR → pM → Prop} {SL p q : Nat} {x4 r s0 : Int32} {v5 v6 : Value} (hG : Geo G SL p q) (h : ((s0 = r → X (d + 9) 312 1995 [.ref 2000, .ref 0, .ref 68, .ref 104, .int x4, v5, v6, .null] [] (F, A, J, G) Q) ∧ (¬ s0 = r → Q (.inl (some (.int 0))) (F, A, J, G)))) : KK (d + 9) 312 1713 [.ref 2000, .ref 0, .ref 68, .ref 104, .int x4, v5, v6, .null] [.int s0] Q (.inl (some (.int r))) (F, A, J, G) := by
  refine KKi ?_
  refine Y_ceq i_312_1713 (fun e1 => ?_) (fun e1 => ?_)
  · replace h := h.1 e1
    exact h
  · replace h := h.2 e1
    refine Y_iconst (v := 0) i_312_1716 (by decide) ?_
    exact Y_bret i_312_1717 rt_312 (by decide) h
theorem t_312_1718 {d : Nat} {F A : Nat → Nat → Int32} {J : Nat → Nat → Int64} {G : pG} {Q : pR → pM → Prop} {SL p q : Nat} {x4 : Int32} {v5 v6 : Value} (hG : Geo G SL p q) (h : inB (x4 + 1) SL = true ∧ inB (x4 + 2) SL = true ∧ (X (d + 8) 162 0 [.ref 0, .int (A 2000 (x4 + 1).toNatClampNeg), .int (A 2000 (x4 + 2).toNatClampNeg)] [] (F, A, J, G) (KK (d + 9) 312 1734 [.ref 2000, .ref 0, .ref 68, .ref 104, .int x4, v5, v6, .null] [] Q))) : X (d + 9) 312 1718 [.ref 2000, .ref 0, .ref 68, .ref 104, .int x4, v5, v6, .null] [] (F, A, J, G) Q := by
  refine Y_al1 i_312_1718 ?_
  refine Y_al0 i_312_1719 ?_
  refine Y_il4 i_312_1720 ?_
  refine Y_iconst (v := 1) i_312_1722 (by decide) ?_
  refine Y_iadd i_312_1723 ?_
  have o1 := h.1
  replace h := h.2
  refine Y_ialoadS (k := (x4 + 1).toNatClampNeg) (v := (A 2000 (x4 + 1).toNatClampNeg)) i_312_1724 (k_scr hG) (l_scr hG) o1 rfl rfl ?_
  refine Y_al0 i_312_1725 ?_
  refine Y_il4 i_312_1726 ?_
  refine Y_iconst (v := 2) i_312_1728 (by decide) ?_
  refine Y_iadd i_312_1729 ?_
  have o2 := h.1
  replace h := h.2
  refine Y_ialoadS (k := (x4 + 2).toNatClampNeg) (v := (A 2000 (x4 + 2).toNatClampNeg)) i_312_1730 (k_scr hG) (l_scr hG) o2 rfl rfl ?_
  exact Y_iv2 (L0 := [.ref 0, .int (A 2000 (x4 + 1).toNatClampNeg), .int (A 2000 (x4 + 2).toNatClampNeg)]) i_312_1731 ow_312 lm_11_224 ((k_0 hG).trans ow_162.symm) rfl mx_162 rfl rfl hd_312 h
theorem k_312_1734 {d : Nat} {F A : Nat → Nat → Int32} {J : Nat → Nat → Int64} {G : pG} {Q : pR → pM → Prop} {SL p q : Nat} {x4 r : Int32} {v5 v6 : Value} (hG : Geo G SL p q) (h : inB (x4 + 1) SL = true ∧ inB (x4 + 2) SL = true ∧ (X (d + 8) 273 0 [.ref 68, .int (A 2000 (x4 + 1).toNatClampNeg), .int (A 2000 (x4 + 2).toNatClampNeg)] [] (F, A, J, G) (KK (d + 9) 312 1750 [.ref 2000, .ref 0, .ref 68, .ref 104, .int x4, v5, v6, .null] [.int r] Q))) : KK (d + 9) 312 1734 [.ref 2000, .ref 0, .ref 68, .ref 104, .int x4, v5, v6, .null] [] Q (.inl (some (.int r))) (F, A, J, G) := by
  refine KKi ?_
  refine Y_al2 i_312_1734 ?_
  refine Y_al0 i_312_1735 ?_
  refine Y_il4 i_312_1736 ?_
  refine Y_iconst (v := 1) i_312_1738 (by decide) ?_
  refine Y_iadd i_312_1739 ?_
  have o1 := h.1
  replace h := h.2
  refine Y_ialoadS (k := (x4 + 1).toNatClampNeg) (v := (A 2000 (x4 + 1).toNatClampNeg)) i_312_1740 (k_scr hG) (l_scr hG) o1 rfl rfl ?_
  refine Y_al0 i_312_1741 ?_
  refine Y_il4 i_312_1742 ?_
  refine Y_iconst (v := 2) i_312_1744 (by decide) ?_
  refine Y_iadd i_312_1745 ?_
  have o2 := h.1
  replace h := h.2
  refine Y_ialoadS (k := (x4 + 2).toNatClampNeg) (v := (A 2000 (x4 + 2).toNatClampNeg)) i_312_1746 (k_scr hG) (l_scr hG) o2 rfl rfl ?_
  exact Y_iv2 (L0 := [.ref 68, .int (A 2000 (x4 + 1).toNatClampNeg), .int (A 2000 (x4 + 2).toNatClampNeg)]) i_312_1747 ow_312 lm_11_227 ((k_68 hG).trans ow_273.symm) rfl mx_273 rfl rfl hd_312 h
theorem k_312_1750 {d : Nat} {F A : Nat → Nat → Int32} {J : Nat → Nat → Int64} {G : pG} {Q : pR → pM → Prop} {SL p q : Nat} {x4 r s0 : Int32} {v5 v6 : Value} (hG : Geo G SL p q) (h : ((s0 = r → X (d + 9) 312 1995 [.ref 2000, .ref 0, .ref 68, .ref 104, .int x4, v5, v6, .null] [] (F, A, J, G) Q) ∧ (¬ s0 = r → Q (.inl (some (.int 0))) (F, A, J, G)))) : KK (d + 9) 312 1750 [.ref 2000, .ref 0, .ref 68, .ref 104, .int x4, v5, v6, .null] [.int s0] Q (.inl (some (.int r))) (F, A, J, G) := by
  refine KKi ?_
  refine Y_ceq i_312_1750 (fun e1 => ?_) (fun e1 => ?_)
  · replace h := h.1 e1
    exact h
  · replace h := h.2 e1
    refine Y_iconst (v := 0) i_312_1753 (by decide) ?_
    exact Y_bret i_312_1754 rt_312 (by decide) h
theorem t_312_1755 {d : Nat} {F A : Nat → Nat → Int32} {J : Nat → Nat → Int64} {G : pG} {Q : pR → pM → Prop} {SL p q : Nat} {x4 : Int32} {v5 v6 : Value} (hG : Geo G SL p q) (h : inB (x4 + 1) SL = true ∧ (X (d + 8) 309 0 [.ref 0, .int (A 2000 (x4 + 1).toNatClampNeg), .ref 104, .null] [] (F, A, J, G) (KK (d + 9) 312 1766 [.ref 2000, .ref 0, .ref 68, .ref 104, .int x4, v5, v6, .null] [] Q))) : X (d + 9) 312 1755 [.ref 2000, .ref 0, .ref 68, .ref 104, .int x4, v5, v6, .null] [] (F, A, J, G) Q := by
  refine Y_al1 i_312_1755 ?_
  refine Y_al0 i_312_1756 ?_
  refine Y_il4 i_312_1757 ?_
  refine Y_iconst (v := 1) i_312_1759 (by decide) ?_
  refine Y_iadd i_312_1760 ?_
  have o1 := h.1
  replace h := h.2
  refine Y_ialoadS (k := (x4 + 1).toNatClampNeg) (v := (A 2000 (x4 + 1).toNatClampNeg)) i_312_1761 (k_scr hG) (l_scr hG) o1 rfl rfl ?_
  refine Y_al3 i_312_1762 ?_
  exact Y_is_3 (L0 := [.ref 0, .int (A 2000 (x4 + 1).toNatClampNeg), .ref 104, .null]) i_312_1763 ow_312 lm_11_228 rfl mx_309 rfl rfl hd_312 h
theorem k_312_1766 {d : Nat} {F A : Nat → Nat → Int32} {J : Nat → Nat → Int64} {G : pG} {Q : pR → pM → Prop} {SL p q : Nat} {x4 r : Int32} {v5 v6 : Value} (hG : Geo G SL p q) (h : inB (x4 + 1) SL = true ∧ (X (d + 8) 276 0 [.ref 68, .int (A 2000 (x4 + 1).toNatClampNeg)] [] (F, A, J, G) (KK (d + 9) 312 1778 [.ref 2000, .ref 0, .ref 68, .ref 104, .int x4, .int r, v6, .null] [] Q))) : KK (d + 9) 312 1766 [.ref 2000, .ref 0, .ref 68, .ref 104, .int x4, v5, v6, .null] [] Q (.inl (some (.int r))) (F, A, J, G) := by
  refine KKi ?_
  refine Y_is5 i_312_1766 rfl ?_
  refine Y_al2 i_312_1768 ?_
  refine Y_al0 i_312_1769 ?_
  refine Y_il4 i_312_1770 ?_
  refine Y_iconst (v := 1) i_312_1772 (by decide) ?_
  refine Y_iadd i_312_1773 ?_
  have o1 := h.1
  replace h := h.2
  refine Y_ialoadS (k := (x4 + 1).toNatClampNeg) (v := (A 2000 (x4 + 1).toNatClampNeg)) i_312_1774 (k_scr hG) (l_scr hG) o1 rfl rfl ?_
  exact Y_iv1 (L0 := [.ref 68, .int (A 2000 (x4 + 1).toNatClampNeg)]) i_312_1775 ow_312 lm_11_230 ((k_68 hG).trans ow_276.symm) rfl mx_276 rfl rfl hd_312 h
theorem k_312_1778 {d : Nat} {F A : Nat → Nat → Int32} {J : Nat → Nat → Int64} {G : pG} {Q : pR → pM → Prop} {SL p q : Nat} {x4 x5 r : Int32} {v6 : Value} (hG : Geo G SL p q) (h : (((F 68 3) = x5 → ((x5 = 0 → (((J 104 0) = r.toInt64 → X (d + 9) 312 1995 [.ref 2000, .ref 0, .ref 68, .ref 104, .int x4, .int x5, .int r, .null] [] (F, A, J, G) Q) ∧ (¬ (J 104 0) = r.toInt64 → Q (.inl (some (.int 0))) (F, A, J, G)))) ∧ (¬ x5 = 0 → X (d + 9) 312 1995 [.ref 2000, .ref 0, .ref 68, .ref 104, .int x4, .int x5, .int r, .null] [] (F, A, J, G) Q))) ∧ (¬ (F 68 3) = x5 → Q (.inl (some (.int 0))) (F, A, J, G)))) : KK (d + 9) 312 1778 [.ref 2000, .ref 0, .ref 68, .ref 104, .int x4, .int x5, v6, .null] [] Q (.inl (some (.int r))) (F, A, J, G) := by
  refine KKi ?_
  refine Y_is6 i_312_1778 rfl ?_
  refine Y_al2 i_312_1780 ?_
  refine Y_iv0 (L0 := [.ref 68]) i_312_1781 ow_312 lm_11_100 ((k_68 hG).trans ow_175.symm) rfl mx_175 rfl rfl hd_312 ?_
  refine Y_al0 i_175_0 ?_
  refine Y_gI (v := (F 68 3)) i_175_1 ow_175 lf_10_143 (by decide) (k_68 hG) rfl ?_
  refine Y_iret i_175_4 rt_175 (KKi ?_)
  refine Y_il5 i_312_1784 ?_
  refine Y_ceq i_312_1786 (fun e1 => ?_) (fun e1 => ?_)
  · replace h := h.1 e1
    refine Y_il5 i_312_1791 ?_
    refine Y_zne i_312_1793 (fun e2 => ?_) (fun e2 => ?_)
    · replace h := h.1 e2
      refine Y_al3 i_312_1796 ?_
      refine Y_iconst (v := 0) i_312_1797 (by decide) ?_
      refine Y_laload (k := 0) (v := (J 104 0)) i_312_1798 (k_104 hG) (l_104 hG) (by decide) (by decide) rfl ?_
      refine Y_il6 i_312_1799 ?_
      refine Y_i2l i_312_1801 ?_
      refine Y_lcmp i_312_1802 ?_
      refine Y_weq i_312_1803 (fun e3 => ?_) (fun e3 => ?_)
      · replace h := h.1 e3
        refine Y_goto i_312_1808 ?_
        exact h
      · replace h := h.2 e3
        refine Y_iconst (v := 0) i_312_1806 (by decide) ?_
        exact Y_bret i_312_1807 rt_312 (by decide) h
    · replace h := h.2 e2
      refine Y_goto i_312_1808 ?_
      exact h
  · replace h := h.2 e1
    refine Y_iconst (v := 0) i_312_1789 (by decide) ?_
    exact Y_bret i_312_1790 rt_312 (by decide) h
theorem t_312_1811 {d : Nat} {F A : Nat → Nat → Int32} {J : Nat → Nat → Int64} {G : pG} {Q : pR → pM → Prop} {SL p q : Nat} {x4 : Int32} {v5 v6 : Value} (hG : Geo G SL p q) (h : X (d + 8) 164 0 [.ref 0] [] (F, A, J, G) (KK (d + 9) 312 1815 [.ref 2000, .ref 0, .ref 68, .ref 104, .int x4, v5, v6, .null] [] Q)) : X (d + 9) 312 1811 [.ref 2000, .ref 0, .ref 68, .ref 104, .int x4, v5, v6, .null] [] (F, A, J, G) Q := by
  refine Y_al1 i_312_1811 ?_
  exact Y_iv0 (L0 := [.ref 0]) i_312_1812 ow_312 lm_11_231 ((k_0 hG).trans ow_164.symm) rfl mx_164 rfl rfl hd_312 h
theorem k_312_1815 {d : Nat} {F A : Nat → Nat → Int32} {J : Nat → Nat → Int64} {G : pG} {Q : pR → pM → Prop} {SL p q : Nat} {x4 r : Int32} {v5 v6 : Value} (hG : Geo G SL p q) (h : X (d + 8) 278 0 [.ref 68, .null, .null, .null, .null] [] (F, A, J, G) (KK (d + 9) 312 1819 [.ref 2000, .ref 0, .ref 68, .ref 104, .int x4, v5, v6, .null] [.int r] Q)) : KK (d + 9) 312 1815 [.ref 2000, .ref 0, .ref 68, .ref 104, .int x4, v5, v6, .null] [] Q (.inl (some (.int r))) (F, A, J, G) := by
  refine KKi ?_
  refine Y_al2 i_312_1815 ?_
  exact Y_iv0 (L0 := [.ref 68, .null, .null, .null, .null]) i_312_1816 ow_312 lm_11_234 ((k_68 hG).trans ow_278.symm) rfl mx_278 rfl rfl hd_312 h
theorem k_312_1819 {d : Nat} {F A : Nat → Nat → Int32} {J : Nat → Nat → Int64} {G : pG} {Q : pR → pM → Prop} {SL p q : Nat} {x4 r s0 : Int32} {v5 v6 : Value} (hG : Geo G SL p q) (h : ((s0 = r → X (d + 9) 312 1995 [.ref 2000, .ref 0, .ref 68, .ref 104, .int x4, v5, v6, .null] [] (F, A, J, G) Q) ∧ (¬ s0 = r → Q (.inl (some (.int 0))) (F, A, J, G)))) : KK (d + 9) 312 1819 [.ref 2000, .ref 0, .ref 68, .ref 104, .int x4, v5, v6, .null] [.int s0] Q (.inl (some (.int r))) (F, A, J, G) := by
  refine KKi ?_
  refine Y_ceq i_312_1819 (fun e1 => ?_) (fun e1 => ?_)
  · replace h := h.1 e1
    exact h
  · replace h := h.2 e1
    refine Y_iconst (v := 0) i_312_1822 (by decide) ?_
    exact Y_bret i_312_1823 rt_312 (by decide) h
theorem t_312_1824 {d : Nat} {F A : Nat → Nat → Int32} {J : Nat → Nat → Int64} {G : pG} {Q : pR → pM → Prop} {SL p q : Nat} {x4 : Int32} {v5 v6 : Value} (hG : Geo G SL p q) (h : X (d + 8) 165 0 [.ref 0] [] (F, A, J, G) (KK (d + 9) 312 1828 [.ref 2000, .ref 0, .ref 68, .ref 104, .int x4, v5, v6, .null] [] Q)) : X (d + 9) 312 1824 [.ref 2000, .ref 0, .ref 68, .ref 104, .int x4, v5, v6, .null] [] (F, A, J, G) Q := by
  refine Y_al1 i_312_1824 ?_
  exact Y_iv0 (L0 := [.ref 0]) i_312_1825 ow_312 lm_11_235 ((k_0 hG).trans ow_165.symm) rfl mx_165 rfl rfl hd_312 h
theorem k_312_1828 {d : Nat} {F A : Nat → Nat → Int32} {J : Nat → Nat → Int64} {G : pG} {Q : pR → pM → Prop} {SL p q : Nat} {x4 : Int32} {v5 v6 : Value} (hG : Geo G SL p q) (h : X (d + 8) 279 0 [.ref 68] [] (F, A, J, G) (KK (d + 9) 312 1832 [.ref 2000, .ref 0, .ref 68, .ref 104, .int x4, v5, v6, .null] [] Q)) : KK (d + 9) 312 1828 [.ref 2000, .ref 0, .ref 68, .ref 104, .int x4, v5, v6, .null] [] Q (.inl none) (F, A, J, G) := by
  refine KKv ?_
  refine Y_al2 i_312_1828 ?_
  exact Y_iv0 (L0 := [.ref 68]) i_312_1829 ow_312 lm_11_238 ((k_68 hG).trans ow_279.symm) rfl mx_279 rfl rfl hd_312 h
theorem k_312_1832 {d : Nat} {F A : Nat → Nat → Int32} {J : Nat → Nat → Int64} {G : pG} {Q : pR → pM → Prop} {SL p q : Nat} {x4 : Int32} {v5 v6 : Value} (hG : Geo G SL p q) (h : X (d + 9) 312 1995 [.ref 2000, .ref 0, .ref 68, .ref 104, .int x4, v5, v6, .null] [] (F, A, J, G) Q) : KK (d + 9) 312 1832 [.ref 2000, .ref 0, .ref 68, .ref 104, .int x4, v5, v6, .null] [] Q (.inl none) (F, A, J, G) := by
  refine KKv ?_
  refine Y_goto i_312_1832 ?_
  exact h
theorem t_312_1835 {d : Nat} {F A : Nat → Nat → Int32} {J : Nat → Nat → Int64} {G : pG} {Q : pR → pM → Prop} {SL p q : Nat} {x4 : Int32} {v5 v6 : Value} (hG : Geo G SL p q) (h : inB (x4 + 1) SL = true ∧ (X (d + 8) 310 0 [.ref 0, .int (A 2000 (x4 + 1).toNatClampNeg), .ref 104, .null] [] (F, A, J, G) (KK (d + 9) 312 1846 [.ref 2000, .ref 0, .ref 68, .ref 104, .int x4, v5, v6, .null] [] Q))) : X (d + 9) 312 1835 [.ref 2000, .ref 0, .ref 68, .ref 104, .int x4, v5, v6, .null] [] (F, A, J, G) Q := by
  refine Y_al1 i_312_1835 ?_
  refine Y_al0 i_312_1836 ?_
  refine Y_il4 i_312_1837 ?_
  refine Y_iconst (v := 1) i_312_1839 (by decide) ?_
  refine Y_iadd i_312_1840 ?_
  have o1 := h.1
  replace h := h.2
  refine Y_ialoadS (k := (x4 + 1).toNatClampNeg) (v := (A 2000 (x4 + 1).toNatClampNeg)) i_312_1841 (k_scr hG) (l_scr hG) o1 rfl rfl ?_
  refine Y_al3 i_312_1842 ?_
  exact Y_is_3 (L0 := [.ref 0, .int (A 2000 (x4 + 1).toNatClampNeg), .ref 104, .null]) i_312_1843 ow_312 lm_11_239 rfl mx_310 rfl rfl hd_312 h
theorem k_312_1846 {d : Nat} {F A : Nat → Nat → Int32} {J : Nat → Nat → Int64} {G : pG} {Q : pR → pM → Prop} {SL p q : Nat} {x4 r : Int32} {v5 v6 : Value} (hG : Geo G SL p q) (h : inB (x4 + 1) SL = true ∧ (X (d + 8) 282 0 [.ref 68, .int (A 2000 (x4 + 1).toNatClampNeg), .null, .null, .null] [] (F, A, J, G) (KK (d + 9) 312 1858 [.ref 2000, .ref 0, .ref 68, .ref 104, .int x4, .int r, v6, .null] [] Q))) : KK (d + 9) 312 1846 [.ref 2000, .ref 0, .ref 68, .ref 104, .int x4, v5, v6, .null] [] Q (.inl (some (.int r))) (F, A, J, G) := by
  refine KKi ?_
  refine Y_is5 i_312_1846 rfl ?_
  refine Y_al2 i_312_1848 ?_
  refine Y_al0 i_312_1849 ?_
  refine Y_il4 i_312_1850 ?_
  refine Y_iconst (v := 1) i_312_1852 (by decide) ?_
  refine Y_iadd i_312_1853 ?_
  have o1 := h.1
  replace h := h.2
  refine Y_ialoadS (k := (x4 + 1).toNatClampNeg) (v := (A 2000 (x4 + 1).toNatClampNeg)) i_312_1854 (k_scr hG) (l_scr hG) o1 rfl rfl ?_
  exact Y_iv1 (L0 := [.ref 68, .int (A 2000 (x4 + 1).toNatClampNeg), .null, .null, .null]) i_312_1855 ow_312 lm_11_241 ((k_68 hG).trans ow_282.symm) rfl mx_282 rfl rfl hd_312 h
theorem k_312_1858 {d : Nat} {F A : Nat → Nat → Int32} {J : Nat → Nat → Int64} {G : pG} {Q : pR → pM → Prop} {SL p q : Nat} {x4 x5 r : Int32} {v6 : Value} (hG : Geo G SL p q) (h : (((F 68 3) = x5 → ((x5 = 0 → (((J 104 0) = r.toInt64 → X (d + 9) 312 1995 [.ref 2000, .ref 0, .ref 68, .ref 104, .int x4, .int x5, .int r, .null] [] (F, A, J, G) Q) ∧ (¬ (J 104 0) = r.toInt64 → Q (.inl (some (.int 0))) (F, A, J, G)))) ∧ (¬ x5 = 0 → X (d + 9) 312 1995 [.ref 2000, .ref 0, .ref 68, .ref 104, .int x4, .int x5, .int r, .null] [] (F, A, J, G) Q))) ∧ (¬ (F 68 3) = x5 → Q (.inl (some (.int 0))) (F, A, J, G)))) : KK (d + 9) 312 1858 [.ref 2000, .ref 0, .ref 68, .ref 104, .int x4, .int x5, v6, .null] [] Q (.inl (some (.int r))) (F, A, J, G) := by
  refine KKi ?_
  refine Y_is6 i_312_1858 rfl ?_
  refine Y_al2 i_312_1860 ?_
  refine Y_iv0 (L0 := [.ref 68]) i_312_1861 ow_312 lm_11_100 ((k_68 hG).trans ow_175.symm) rfl mx_175 rfl rfl hd_312 ?_
  refine Y_al0 i_175_0 ?_
  refine Y_gI (v := (F 68 3)) i_175_1 ow_175 lf_10_143 (by decide) (k_68 hG) rfl ?_
  refine Y_iret i_175_4 rt_175 (KKi ?_)
  refine Y_il5 i_312_1864 ?_
  refine Y_ceq i_312_1866 (fun e1 => ?_) (fun e1 => ?_)
  · replace h := h.1 e1
    refine Y_il5 i_312_1871 ?_
    refine Y_zne i_312_1873 (fun e2 => ?_) (fun e2 => ?_)
    · replace h := h.1 e2
      refine Y_al3 i_312_1876 ?_
      refine Y_iconst (v := 0) i_312_1877 (by decide) ?_
      refine Y_laload (k := 0) (v := (J 104 0)) i_312_1878 (k_104 hG) (l_104 hG) (by decide) (by decide) rfl ?_
      refine Y_il6 i_312_1879 ?_
      refine Y_i2l i_312_1881 ?_
      refine Y_lcmp i_312_1882 ?_
      refine Y_weq i_312_1883 (fun e3 => ?_) (fun e3 => ?_)
      · replace h := h.1 e3
        refine Y_goto i_312_1888 ?_
        exact h
      · replace h := h.2 e3
        refine Y_iconst (v := 0) i_312_1886 (by decide) ?_
        exact Y_bret i_312_1887 rt_312 (by decide) h
    · replace h := h.2 e2
      refine Y_goto i_312_1888 ?_
      exact h
  · replace h := h.2 e1
    refine Y_iconst (v := 0) i_312_1869 (by decide) ?_
    exact Y_bret i_312_1870 rt_312 (by decide) h
theorem t_312_1891 {d : Nat} {F A : Nat → Nat → Int32} {J : Nat → Nat → Int64} {G : pG} {Q : pR → pM → Prop} {SL p q : Nat} {x4 : Int32} {v5 v6 : Value} (hG : Geo G SL p q) (h : inB (x4 + 1) SL = true ∧ inB (x4 + 2) SL = true ∧ inB (x4 + 3) SL = true ∧ (X (d + 8) 311 0 [.ref 0, .int (A 2000 (x4 + 1).toNatClampNeg), .int (A 2000 (x4 + 2).toNatClampNeg), .int (A 2000 (x4 + 3).toNatClampNeg), .ref 104, .null] [] (F, A, J, G) (KK (d + 9) 312 1914 [.ref 2000, .ref 0, .ref 68, .ref 104, .int x4, v5, v6, .null] [] Q))) : X (d + 9) 312 1891 [.ref 2000, .ref 0, .ref 68, .ref 104, .int x4, v5, v6, .null] [] (F, A, J, G) Q := by
  refine Y_al1 i_312_1891 ?_
  refine Y_al0 i_312_1892 ?_
  refine Y_il4 i_312_1893 ?_
  refine Y_iconst (v := 1) i_312_1895 (by decide) ?_
  refine Y_iadd i_312_1896 ?_
  have o1 := h.1
  replace h := h.2
  refine Y_ialoadS (k := (x4 + 1).toNatClampNeg) (v := (A 2000 (x4 + 1).toNatClampNeg)) i_312_1897 (k_scr hG) (l_scr hG) o1 rfl rfl ?_
  refine Y_al0 i_312_1898 ?_
  refine Y_il4 i_312_1899 ?_
  refine Y_iconst (v := 2) i_312_1901 (by decide) ?_
  refine Y_iadd i_312_1902 ?_
  have o2 := h.1
  replace h := h.2
  refine Y_ialoadS (k := (x4 + 2).toNatClampNeg) (v := (A 2000 (x4 + 2).toNatClampNeg)) i_312_1903 (k_scr hG) (l_scr hG) o2 rfl rfl ?_
  refine Y_al0 i_312_1904 ?_
  refine Y_il4 i_312_1905 ?_
  refine Y_iconst (v := 3) i_312_1907 (by decide) ?_
  refine Y_iadd i_312_1908 ?_
  have o3 := h.1
  replace h := h.2
  refine Y_ialoadS (k := (x4 + 3).toNatClampNeg) (v := (A 2000 (x4 + 3).toNatClampNeg)) i_312_1909 (k_scr hG) (l_scr hG) o3 rfl rfl ?_
  refine Y_al3 i_312_1910 ?_
  exact Y_is_5 (L0 := [.ref 0, .int (A 2000 (x4 + 1).toNatClampNeg), .int (A 2000 (x4 + 2).toNatClampNeg), .int (A 2000 (x4 + 3).toNatClampNeg), .ref 104, .null]) i_312_1911 ow_312 lm_11_242 rfl mx_311 rfl rfl hd_312 h
theorem k_312_1914 {d : Nat} {F A : Nat → Nat → Int32} {J : Nat → Nat → Int64} {G : pG} {Q : pR → pM → Prop} {SL p q : Nat} {x4 r : Int32} {v5 v6 : Value} (hG : Geo G SL p q) (h : inB (x4 + 1) SL = true ∧ inB (x4 + 2) SL = true ∧ inB (x4 + 3) SL = true ∧ (X (d + 8) 285 0 [.ref 68, .int (A 2000 (x4 + 1).toNatClampNeg), .int (A 2000 (x4 + 2).toNatClampNeg), .int (A 2000 (x4 + 3).toNatClampNeg), .null, .null, .null] [] (F, A, J, G) (KK (d + 9) 312 1938 [.ref 2000, .ref 0, .ref 68, .ref 104, .int x4, .int r, v6, .null] [] Q))) : KK (d + 9) 312 1914 [.ref 2000, .ref 0, .ref 68, .ref 104, .int x4, v5, v6, .null] [] Q (.inl (some (.int r))) (F, A, J, G) := by
  refine KKi ?_
  refine Y_is5 i_312_1914 rfl ?_
  refine Y_al2 i_312_1916 ?_
  refine Y_al0 i_312_1917 ?_
  refine Y_il4 i_312_1918 ?_
  refine Y_iconst (v := 1) i_312_1920 (by decide) ?_
  refine Y_iadd i_312_1921 ?_
  have o1 := h.1
  replace h := h.2
  refine Y_ialoadS (k := (x4 + 1).toNatClampNeg) (v := (A 2000 (x4 + 1).toNatClampNeg)) i_312_1922 (k_scr hG) (l_scr hG) o1 rfl rfl ?_
  refine Y_al0 i_312_1923 ?_
  refine Y_il4 i_312_1924 ?_
  refine Y_iconst (v := 2) i_312_1926 (by decide) ?_
  refine Y_iadd i_312_1927 ?_
  have o2 := h.1
  replace h := h.2
  refine Y_ialoadS (k := (x4 + 2).toNatClampNeg) (v := (A 2000 (x4 + 2).toNatClampNeg)) i_312_1928 (k_scr hG) (l_scr hG) o2 rfl rfl ?_
  refine Y_al0 i_312_1929 ?_
  refine Y_il4 i_312_1930 ?_
  refine Y_iconst (v := 3) i_312_1932 (by decide) ?_
  refine Y_iadd i_312_1933 ?_
  have o3 := h.1
  replace h := h.2
  refine Y_ialoadS (k := (x4 + 3).toNatClampNeg) (v := (A 2000 (x4 + 3).toNatClampNeg)) i_312_1934 (k_scr hG) (l_scr hG) o3 rfl rfl ?_
  exact Y_iv3 (L0 := [.ref 68, .int (A 2000 (x4 + 1).toNatClampNeg), .int (A 2000 (x4 + 2).toNatClampNeg), .int (A 2000 (x4 + 3).toNatClampNeg), .null, .null, .null]) i_312_1935 ow_312 lm_11_245 ((k_68 hG).trans ow_285.symm) rfl mx_285 rfl rfl hd_312 h
theorem k_312_1938 {d : Nat} {F A : Nat → Nat → Int32} {J : Nat → Nat → Int64} {G : pG} {Q : pR → pM → Prop} {SL p q : Nat} {x4 x5 r : Int32} {v6 : Value} (hG : Geo G SL p q) (h : (((F 68 3) = x5 → ((x5 = 0 → (((J 104 0) = r.toInt64 → X (d + 9) 312 1995 [.ref 2000, .ref 0, .ref 68, .ref 104, .int x4, .int x5, .int r, .null] [] (F, A, J, G) Q) ∧ (¬ (J 104 0) = r.toInt64 → Q (.inl (some (.int 0))) (F, A, J, G)))) ∧ (¬ x5 = 0 → X (d + 9) 312 1995 [.ref 2000, .ref 0, .ref 68, .ref 104, .int x4, .int x5, .int r, .null] [] (F, A, J, G) Q))) ∧ (¬ (F 68 3) = x5 → Q (.inl (some (.int 0))) (F, A, J, G)))) : KK (d + 9) 312 1938 [.ref 2000, .ref 0, .ref 68, .ref 104, .int x4, .int x5, v6, .null] [] Q (.inl (some (.int r))) (F, A, J, G) := by
  refine KKi ?_
  refine Y_is6 i_312_1938 rfl ?_
  refine Y_al2 i_312_1940 ?_
  refine Y_iv0 (L0 := [.ref 68]) i_312_1941 ow_312 lm_11_100 ((k_68 hG).trans ow_175.symm) rfl mx_175 rfl rfl hd_312 ?_
  refine Y_al0 i_175_0 ?_
  refine Y_gI (v := (F 68 3)) i_175_1 ow_175 lf_10_143 (by decide) (k_68 hG) rfl ?_
  refine Y_iret i_175_4 rt_175 (KKi ?_)
  refine Y_il5 i_312_1944 ?_
  refine Y_ceq i_312_1946 (fun e1 => ?_) (fun e1 => ?_)
  · replace h := h.1 e1
    refine Y_il5 i_312_1951 ?_
    refine Y_zne i_312_1953 (fun e2 => ?_) (fun e2 => ?_)
    · replace h := h.1 e2
      refine Y_al3 i_312_1956 ?_
      refine Y_iconst (v := 0) i_312_1957 (by decide) ?_
      refine Y_laload (k := 0) (v := (J 104 0)) i_312_1958 (k_104 hG) (l_104 hG) (by decide) (by decide) rfl ?_
      refine Y_il6 i_312_1959 ?_
      refine Y_i2l i_312_1961 ?_
      refine Y_lcmp i_312_1962 ?_
      refine Y_weq i_312_1963 (fun e3 => ?_) (fun e3 => ?_)
      · replace h := h.1 e3
        refine Y_goto i_312_1968 ?_
        exact h
      · replace h := h.2 e3
        refine Y_iconst (v := 0) i_312_1966 (by decide) ?_
        exact Y_bret i_312_1967 rt_312 (by decide) h
    · replace h := h.2 e2
      refine Y_goto i_312_1968 ?_
      exact h
  · replace h := h.2 e1
    refine Y_iconst (v := 0) i_312_1949 (by decide) ?_
    exact Y_bret i_312_1950 rt_312 (by decide) h
theorem t_312_1971 {d : Nat} {F A : Nat → Nat → Int32} {J : Nat → Nat → Int64} {G : pG} {Q : pR → pM → Prop} {SL p q : Nat} {x4 : Int32} {v5 v6 : Value} (hG : Geo G SL p q) (h : X (d + 8) 168 0 [.ref 0] [] (F, A, J, G) (KK (d + 9) 312 1975 [.ref 2000, .ref 0, .ref 68, .ref 104, .int x4, v5, v6, .null] [] Q)) : X (d + 9) 312 1971 [.ref 2000, .ref 0, .ref 68, .ref 104, .int x4, v5, v6, .null] [] (F, A, J, G) Q := by
  refine Y_al1 i_312_1971 ?_
  exact Y_iv0 (L0 := [.ref 0]) i_312_1972 ow_312 lm_11_246 ((k_0 hG).trans ow_168.symm) rfl mx_168 rfl rfl hd_312 h
theorem k_312_1975 {d : Nat} {F A : Nat → Nat → Int32} {J : Nat → Nat → Int64} {G : pG} {Q : pR → pM → Prop} {SL p q : Nat} {x4 : Int32} {v5 v6 : Value} (hG : Geo G SL p q) (h : X (d + 8) 287 0 [.ref 68] [] (F, A, J, G) (KK (d + 9) 312 1979 [.ref 2000, .ref 0, .ref 68, .ref 104, .int x4, v5, v6, .null] [] Q)) : KK (d + 9) 312 1975 [.ref 2000, .ref 0, .ref 68, .ref 104, .int x4, v5, v6, .null] [] Q (.inl none) (F, A, J, G) := by
  refine KKv ?_
  refine Y_al2 i_312_1975 ?_
  exact Y_iv0 (L0 := [.ref 68]) i_312_1976 ow_312 lm_11_249 ((k_68 hG).trans ow_287.symm) rfl mx_287 rfl rfl hd_312 h
theorem k_312_1979 {d : Nat} {F A : Nat → Nat → Int32} {J : Nat → Nat → Int64} {G : pG} {Q : pR → pM → Prop} {SL p q : Nat} {x4 : Int32} {v5 v6 : Value} (hG : Geo G SL p q) (h : X (d + 9) 312 1995 [.ref 2000, .ref 0, .ref 68, .ref 104, .int x4, v5, v6, .null] [] (F, A, J, G) Q) : KK (d + 9) 312 1979 [.ref 2000, .ref 0, .ref 68, .ref 104, .int x4, v5, v6, .null] [] Q (.inl none) (F, A, J, G) := by
  refine KKv ?_
  refine Y_goto i_312_1979 ?_
  exact h
theorem t_312_1982 {d : Nat} {F A : Nat → Nat → Int32} {J : Nat → Nat → Int64} {G : pG} {Q : pR → pM → Prop} {SL p q : Nat} {x4 : Int32} {v5 v6 : Value} (hG : Geo G SL p q) (h : X (d + 8) 169 0 [.ref 0] [] (F, A, J, G) (KK (d + 9) 312 1986 [.ref 2000, .ref 0, .ref 68, .ref 104, .int x4, v5, v6, .null] [] Q)) : X (d + 9) 312 1982 [.ref 2000, .ref 0, .ref 68, .ref 104, .int x4, v5, v6, .null] [] (F, A, J, G) Q := by
  refine Y_al1 i_312_1982 ?_
  exact Y_iv0 (L0 := [.ref 0]) i_312_1983 ow_312 lm_11_250 ((k_0 hG).trans ow_169.symm) rfl mx_169 rfl rfl hd_312 h
theorem k_312_1986 {d : Nat} {F A : Nat → Nat → Int32} {J : Nat → Nat → Int64} {G : pG} {Q : pR → pM → Prop} {SL p q : Nat} {x4 r : Int32} {v5 v6 : Value} (hG : Geo G SL p q) (h : X (d + 8) 288 0 [.ref 68] [] (F, A, J, G) (KK (d + 9) 312 1990 [.ref 2000, .ref 0, .ref 68, .ref 104, .int x4, v5, v6, .null] [.int r] Q)) : KK (d + 9) 312 1986 [.ref 2000, .ref 0, .ref 68, .ref 104, .int x4, v5, v6, .null] [] Q (.inl (some (.int r))) (F, A, J, G) := by
  refine KKi ?_
  refine Y_al2 i_312_1986 ?_
  exact Y_iv0 (L0 := [.ref 68]) i_312_1987 ow_312 lm_11_254 ((k_68 hG).trans ow_288.symm) rfl mx_288 rfl rfl hd_312 h
theorem k_312_1990 {d : Nat} {F A : Nat → Nat → Int32} {J : Nat → Nat → Int64} {G : pG} {Q : pR → pM → Prop} {SL p q : Nat} {x4 r s0 : Int32} {v5 v6 : Value} (hG : Geo G SL p q) (h : ((s0 = r → X (d + 9) 312 1995 [.ref 2000, .ref 0, .ref 68, .ref 104, .int x4, v5, v6, .null] [] (F, A, J, G) Q) ∧ (¬ s0 = r → Q (.inl (some (.int 0))) (F, A, J, G)))) : KK (d + 9) 312 1990 [.ref 2000, .ref 0, .ref 68, .ref 104, .int x4, v5, v6, .null] [.int s0] Q (.inl (some (.int r))) (F, A, J, G) := by
  refine KKi ?_
  refine Y_ceq i_312_1990 (fun e1 => ?_) (fun e1 => ?_)
  · replace h := h.1 e1
    exact h
  · replace h := h.2 e1
    refine Y_iconst (v := 0) i_312_1993 (by decide) ?_
    exact Y_bret i_312_1994 rt_312 (by decide) h
theorem t_312_1995 {d : Nat} {F A : Nat → Nat → Int32} {J : Nat → Nat → Int64} {G : pG} {Q : pR → pM → Prop} {SL p q : Nat} {x4 : Int32} {v5 v6 : Value} (hG : Geo G SL p q) (h : X (d + 9) 312 23 [.ref 2000, .ref 0, .ref 68, .ref 104, .int (x4 + 6), v5, v6, .null] [] (F, A, J, G) Q) : X (d + 9) 312 1995 [.ref 2000, .ref 0, .ref 68, .ref 104, .int x4, v5, v6, .null] [] (F, A, J, G) Q := by
  refine Y_ii4 (v := 6) i_312_1995 (by decide) rfl ?_
  refine Y_goto i_312_1998 ?_
  exact h
end Tr24c
