/-! the law's helpers: a call that may throw -/
section Help24
variable {d mid pc pc' : Nat} {L st : List Value} {M : pM} {Q : pR → pM → Prop} {F A : Nat → Nat → Int32} {J : Nat → Nat → Int64} {G : pG} {SL p q : Nat}
theorem XK_h {i : Instr} {e nx sl : Nat} {L' : List Value} (hs : isSp i = false) (h : hOf (hdl mid) pc e = some (nx, sl)) (hl : stL L sl .null = some L') (hX : X d mid nx L' [] M Q) : XK d mid pc i L st Q (.inr e) M := by
  unfold XK
  dsimp only
  rw [if_neg (by rw [hs]; decide), h]
  dsimp only
  rw [hl]
  exact hX
theorem Y_ih1 {x own cm n o : Nat} {v0 : Value} {L0 : List Value} (h : At mid pc (.invokevirtual x) pc') (ho : mOw mid = own) (hl : lkp mT own x = some (1, cm, 1)) (hk : gK G o = mOw cm) (hW : Nat.ble (stW st) 8 = true) (hn : mMx cm = n) (hE : Nat.ble (entA [.ref o, v0]).length n = true) (hL : entL [.ref o, v0] n = L0) (hX : X d cm 0 L0 [] (F, A, J, G) (XK (d + 1) mid pc (.invokevirtual x) L st Q)) : X (d + 1) mid pc L (v0 :: .ref o :: st) (F, A, J, G) Q := by
  subst hn; subst hL
  rw [X_c (q := (cm, [.ref o, v0], st)) h.1 rfl rfl rfl rfl (by simp only [mOp, hLd_vi, hSt_vi, hNew, hLdc, hJdk, hStr, ho, hl]) rfl rfl (by simp only [cOp, ho, hl]; exact if_pos ⟨hk, Nat.le_of_ble_eq_true hW⟩) (Nat.not_lt.mpr (Nat.le_of_ble_eq_true hE))]
  exact hX
theorem Y_ih2 {x own cm n o : Nat} {v0 v1 : Value} {L0 : List Value} (h : At mid pc (.invokevirtual x) pc') (ho : mOw mid = own) (hl : lkp mT own x = some (1, cm, 2)) (hk : gK G o = mOw cm) (hW : Nat.ble (stW st) 8 = true) (hn : mMx cm = n) (hE : Nat.ble (entA [.ref o, v0, v1]).length n = true) (hL : entL [.ref o, v0, v1] n = L0) (hX : X d cm 0 L0 [] (F, A, J, G) (XK (d + 1) mid pc (.invokevirtual x) L st Q)) : X (d + 1) mid pc L (v1 :: v0 :: .ref o :: st) (F, A, J, G) Q := by
  subst hn; subst hL
  rw [X_c (q := (cm, [.ref o, v0, v1], st)) h.1 rfl rfl rfl rfl (by simp only [mOp, hLd_vi, hSt_vi, hNew, hLdc, hJdk, hStr, ho, hl]) rfl rfl (by simp only [cOp, ho, hl]; exact if_pos ⟨hk, Nat.le_of_ble_eq_true hW⟩) (Nat.not_lt.mpr (Nat.le_of_ble_eq_true hE))]
  exact hX
theorem Y_ih3 {x own cm n o : Nat} {v0 v1 v2 : Value} {L0 : List Value} (h : At mid pc (.invokevirtual x) pc') (ho : mOw mid = own) (hl : lkp mT own x = some (1, cm, 3)) (hk : gK G o = mOw cm) (hW : Nat.ble (stW st) 8 = true) (hn : mMx cm = n) (hE : Nat.ble (entA [.ref o, v0, v1, v2]).length n = true) (hL : entL [.ref o, v0, v1, v2] n = L0) (hX : X d cm 0 L0 [] (F, A, J, G) (XK (d + 1) mid pc (.invokevirtual x) L st Q)) : X (d + 1) mid pc L (v2 :: v1 :: v0 :: .ref o :: st) (F, A, J, G) Q := by
  subst hn; subst hL
  rw [X_c (q := (cm, [.ref o, v0, v1, v2], st)) h.1 rfl rfl rfl rfl (by simp only [mOp, hLd_vi, hSt_vi, hNew, hLdc, hJdk, hStr, ho, hl]) rfl rfl (by simp only [cOp, ho, hl]; exact if_pos ⟨hk, Nat.le_of_ble_eq_true hW⟩) (Nat.not_lt.mpr (Nat.le_of_ble_eq_true hE))]
  exact hX
/-- what a helper makes of the call's end: int, boolean, long -/
def OhI (e1 e2 : Nat) (Q : pR → pM → Prop) : pR → pM → Prop := fun r M => (∃ v F A J G, r = .inl (some (.int v)) ∧ M = (F, A, J, G) ∧ gK G 104 = 22 ∧ gL G 104 = 1 ∧ Q (.inl (some (.int 0))) (F, A, wJ J 104 0 v.toInt64, G)) ∨ (r = .inr e1 ∧ Q (.inl (some (.int 1))) M) ∨ (r = .inr e2 ∧ (if e2 = 0 then False else Q (.inl (some (.int 2))) M))
def OhB (e1 e2 : Nat) (Q : pR → pM → Prop) : pR → pM → Prop := fun r M => (∃ v F A J G, r = .inl (some (.int v)) ∧ M = (F, A, J, G) ∧ gK G 104 = 22 ∧ gL G 104 = 1 ∧ Q (.inl (some (.int 0))) (F, A, wJ J 104 0 (if v = 0 then 0 else 1), G)) ∨ (r = .inr e1 ∧ Q (.inl (some (.int 1))) M) ∨ (r = .inr e2 ∧ (if e2 = 0 then False else Q (.inl (some (.int 2))) M))
def OhL (e1 e2 : Nat) (Q : pR → pM → Prop) : pR → pM → Prop := fun r M => (∃ v F A J G, r = .inl (some (.long v)) ∧ M = (F, A, J, G) ∧ gK G 104 = 22 ∧ gL G 104 = 1 ∧ Q (.inl (some (.int 0))) (F, A, wJ J 104 0 v, G)) ∨ (r = .inr e1 ∧ Q (.inl (some (.int 1))) M) ∨ (r = .inr e2 ∧ (if e2 = 0 then False else Q (.inl (some (.int 2))) M))
theorem h_290 {x1 : Int32} (hG : Geo G SL p q) (h : X d 127 0 [.ref 0, .int x1, .null] [] (F, A, J, G) (OhI 100 0 Q)) : X (d + 1) 290 0 [.ref 0, .int x1, .ref 104, .null] [] (F, A, J, G) Q := by
  refine Y_al2 i_290_0 ?_
  refine Y_iconst (v := 0) i_290_1 (by decide) ?_
  refine Y_al0 i_290_2 ?_
  refine Y_il1 i_290_3 ?_
  refine Y_ih1 (L0 := [.ref 0, .int x1, .null]) i_290_4 ow_290 lm_11_7 ((k_0 hG).trans ow_127.symm) rfl mx_127 rfl rfl ?_
  refine X_mono (fun r M1 hr => ?_) h
  rcases hr with ⟨v, F1, A1, J1, G1, rfl, rfl, hk, hl, hq⟩ | ⟨rfl, hq⟩ | ⟨-, hf⟩
  · show X (d + 1) 290 7 _ [.int v, .int 0, .ref 104] _ Q
    refine Y_i2l i_290_7 ?_
    refine Y_last (k := 0) i_290_8 hk hl (by decide) (by decide) ?_
    refine Y_goto i_290_9 ?_
    refine Y_iconst (v := 0) i_290_15 (by decide) ?_
    exact Y_iret i_290_16 rt_290 hq
  · refine XK_h (L' := [.ref 0, .int x1, .ref 104, .null]) (e := 100) (nx := 13) (sl := 3) rfl (by decide) rfl ?_
    refine Y_iconst (v := 1) i_290_13 (by decide) ?_
    exact Y_iret i_290_14 rt_290 hq
  · exact (show False from hf).elim
theorem h_291 {x1 : Int32} (hG : Geo G SL p q) (h : X d 129 0 [.ref 0, .int x1, .null] [] (F, A, J, G) (OhI 101 0 Q)) : X (d + 1) 291 0 [.ref 0, .int x1, .ref 104, .null] [] (F, A, J, G) Q := by
  refine Y_al2 i_291_0 ?_
  refine Y_iconst (v := 0) i_291_1 (by decide) ?_
  refine Y_al0 i_291_2 ?_
  refine Y_il1 i_291_3 ?_
  refine Y_ih1 (L0 := [.ref 0, .int x1, .null]) i_291_4 ow_291 lm_11_15 ((k_0 hG).trans ow_129.symm) rfl mx_129 rfl rfl ?_
  refine X_mono (fun r M1 hr => ?_) h
  rcases hr with ⟨v, F1, A1, J1, G1, rfl, rfl, hk, hl, hq⟩ | ⟨rfl, hq⟩ | ⟨-, hf⟩
  · show X (d + 1) 291 7 _ [.int v, .int 0, .ref 104] _ Q
    refine Y_i2l i_291_7 ?_
    refine Y_last (k := 0) i_291_8 hk hl (by decide) (by decide) ?_
    refine Y_goto i_291_9 ?_
    refine Y_iconst (v := 0) i_291_15 (by decide) ?_
    exact Y_iret i_291_16 rt_291 hq
  · refine XK_h (L' := [.ref 0, .int x1, .ref 104, .null]) (e := 101) (nx := 13) (sl := 3) rfl (by decide) rfl ?_
    refine Y_iconst (v := 1) i_291_13 (by decide) ?_
    exact Y_iret i_291_14 rt_291 hq
  · exact (show False from hf).elim
theorem h_292 {x1 x2 : Int32} (hG : Geo G SL p q) (h : X d 130 0 [.ref 0, .int x1, .int x2, .null] [] (F, A, J, G) (OhI 101 0 Q)) : X (d + 1) 292 0 [.ref 0, .int x1, .int x2, .ref 104, .null] [] (F, A, J, G) Q := by
  refine Y_al3 i_292_0 ?_
  refine Y_iconst (v := 0) i_292_1 (by decide) ?_
  refine Y_al0 i_292_2 ?_
  refine Y_il1 i_292_3 ?_
  refine Y_il2 i_292_4 ?_
  refine Y_ih2 (L0 := [.ref 0, .int x1, .int x2, .null]) i_292_5 ow_292 lm_11_20 ((k_0 hG).trans ow_130.symm) rfl mx_130 rfl rfl ?_
  refine X_mono (fun r M1 hr => ?_) h
  rcases hr with ⟨v, F1, A1, J1, G1, rfl, rfl, hk, hl, hq⟩ | ⟨rfl, hq⟩ | ⟨-, hf⟩
  · show X (d + 1) 292 8 _ [.int v, .int 0, .ref 104] _ Q
    refine Y_i2l i_292_8 ?_
    refine Y_last (k := 0) i_292_9 hk hl (by decide) (by decide) ?_
    refine Y_goto i_292_10 ?_
    refine Y_iconst (v := 0) i_292_17 (by decide) ?_
    exact Y_iret i_292_18 rt_292 hq
  · refine XK_h (L' := [.ref 0, .int x1, .int x2, .ref 104, .null]) (e := 101) (nx := 15) (sl := 4) rfl (by decide) rfl ?_
    refine Y_iconst (v := 1) i_292_15 (by decide) ?_
    exact Y_iret i_292_16 rt_292 hq
  · exact (show False from hf).elim
theorem h_293 {x1 x2 : Int32} (hG : Geo G SL p q) (h : X d 131 0 [.ref 0, .int x1, .int x2, .null] [] (F, A, J, G) (OhI 101 0 Q)) : X (d + 1) 293 0 [.ref 0, .int x1, .int x2, .ref 104, .null] [] (F, A, J, G) Q := by
  refine Y_al3 i_293_0 ?_
  refine Y_iconst (v := 0) i_293_1 (by decide) ?_
  refine Y_al0 i_293_2 ?_
  refine Y_il1 i_293_3 ?_
  refine Y_il2 i_293_4 ?_
  refine Y_ih2 (L0 := [.ref 0, .int x1, .int x2, .null]) i_293_5 ow_293 lm_11_24 ((k_0 hG).trans ow_131.symm) rfl mx_131 rfl rfl ?_
  refine X_mono (fun r M1 hr => ?_) h
  rcases hr with ⟨v, F1, A1, J1, G1, rfl, rfl, hk, hl, hq⟩ | ⟨rfl, hq⟩ | ⟨-, hf⟩
  · show X (d + 1) 293 8 _ [.int v, .int 0, .ref 104] _ Q
    refine Y_i2l i_293_8 ?_
    refine Y_last (k := 0) i_293_9 hk hl (by decide) (by decide) ?_
    refine Y_goto i_293_10 ?_
    refine Y_iconst (v := 0) i_293_17 (by decide) ?_
    exact Y_iret i_293_18 rt_293 hq
  · refine XK_h (L' := [.ref 0, .int x1, .int x2, .ref 104, .null]) (e := 101) (nx := 15) (sl := 4) rfl (by decide) rfl ?_
    refine Y_iconst (v := 1) i_293_15 (by decide) ?_
    exact Y_iret i_293_16 rt_293 hq
  · exact (show False from hf).elim
theorem h_294 {x1 x2 : Int32} (hG : Geo G SL p q) (h : X d 133 0 [.ref 0, .int x1, .int x2] [] (F, A, J, G) (OhI 101 0 Q)) : X (d + 1) 294 0 [.ref 0, .int x1, .int x2, .ref 104, .null] [] (F, A, J, G) Q := by
  refine Y_al3 i_294_0 ?_
  refine Y_iconst (v := 0) i_294_1 (by decide) ?_
  refine Y_al0 i_294_2 ?_
  refine Y_il1 i_294_3 ?_
  refine Y_il2 i_294_4 ?_
  refine Y_ih2 (L0 := [.ref 0, .int x1, .int x2]) i_294_5 ow_294 lm_11_27 ((k_0 hG).trans ow_133.symm) rfl mx_133 rfl rfl ?_
  refine X_mono (fun r M1 hr => ?_) h
  rcases hr with ⟨v, F1, A1, J1, G1, rfl, rfl, hk, hl, hq⟩ | ⟨rfl, hq⟩ | ⟨-, hf⟩
  · show X (d + 1) 294 8 _ [.int v, .int 0, .ref 104] _ Q
    refine Y_i2l i_294_8 ?_
    refine Y_last (k := 0) i_294_9 hk hl (by decide) (by decide) ?_
    refine Y_goto i_294_10 ?_
    refine Y_iconst (v := 0) i_294_17 (by decide) ?_
    exact Y_iret i_294_18 rt_294 hq
  · refine XK_h (L' := [.ref 0, .int x1, .int x2, .ref 104, .null]) (e := 101) (nx := 15) (sl := 4) rfl (by decide) rfl ?_
    refine Y_iconst (v := 1) i_294_15 (by decide) ?_
    exact Y_iret i_294_16 rt_294 hq
  · exact (show False from hf).elim
theorem h_295 {x1 : Int32} (hG : Geo G SL p q) (h : X d 134 0 [.ref 0, .int x1] [] (F, A, J, G) (OhI 101 0 Q)) : X (d + 1) 295 0 [.ref 0, .int x1, .ref 104, .null] [] (F, A, J, G) Q := by
  refine Y_al2 i_295_0 ?_
  refine Y_iconst (v := 0) i_295_1 (by decide) ?_
  refine Y_al0 i_295_2 ?_
  refine Y_il1 i_295_3 ?_
  refine Y_ih1 (L0 := [.ref 0, .int x1]) i_295_4 ow_295 lm_11_30 ((k_0 hG).trans ow_134.symm) rfl mx_134 rfl rfl ?_
  refine X_mono (fun r M1 hr => ?_) h
  rcases hr with ⟨v, F1, A1, J1, G1, rfl, rfl, hk, hl, hq⟩ | ⟨rfl, hq⟩ | ⟨-, hf⟩
  · show X (d + 1) 295 7 _ [.int v, .int 0, .ref 104] _ Q
    refine Y_i2l i_295_7 ?_
    refine Y_last (k := 0) i_295_8 hk hl (by decide) (by decide) ?_
    refine Y_goto i_295_9 ?_
    refine Y_iconst (v := 0) i_295_15 (by decide) ?_
    exact Y_iret i_295_16 rt_295 hq
  · refine XK_h (L' := [.ref 0, .int x1, .ref 104, .null]) (e := 101) (nx := 13) (sl := 3) rfl (by decide) rfl ?_
    refine Y_iconst (v := 1) i_295_13 (by decide) ?_
    exact Y_iret i_295_14 rt_295 hq
  · exact (show False from hf).elim
theorem h_296 {x1 x2 : Int32} (hG : Geo G SL p q) (h : X d 135 0 [.ref 0, .int x1, .int x2] [] (F, A, J, G) (OhB 101 0 Q)) : X (d + 1) 296 0 [.ref 0, .int x1, .int x2, .ref 104, .null] [] (F, A, J, G) Q := by
  refine Y_al3 i_296_0 ?_
  refine Y_iconst (v := 0) i_296_1 (by decide) ?_
  refine Y_al0 i_296_2 ?_
  refine Y_il1 i_296_3 ?_
  refine Y_il2 i_296_4 ?_
  refine Y_ih2 (L0 := [.ref 0, .int x1, .int x2]) i_296_5 ow_296 lm_11_33 ((k_0 hG).trans ow_135.symm) rfl mx_135 rfl rfl ?_
  refine X_mono (fun r M1 hr => ?_) h
  rcases hr with ⟨v, F1, A1, J1, G1, rfl, rfl, hk, hl, hq⟩ | ⟨rfl, hq⟩ | ⟨-, hf⟩
  · show X (d + 1) 296 8 _ [.int v, .int 0, .ref 104] _ Q
    refine Y_zeq i_296_8 (fun e => ?_) (fun e => ?_)
    · rw [if_pos e] at hq
      refine Y_lconst (v := 0) i_296_15 (by decide) ?_
      refine Y_last (k := 0) i_296_16 hk hl (by decide) (by decide) ?_
      refine Y_goto i_296_17 ?_
      refine Y_iconst (v := 0) i_296_24 (by decide) ?_
      exact Y_iret i_296_25 rt_296 hq
    · rw [if_neg e] at hq
      refine Y_lconst (v := 1) i_296_11 (by decide) ?_
      refine Y_goto i_296_12 ?_
      refine Y_last (k := 0) i_296_16 hk hl (by decide) (by decide) ?_
      refine Y_goto i_296_17 ?_
      refine Y_iconst (v := 0) i_296_24 (by decide) ?_
      exact Y_iret i_296_25 rt_296 hq
  · refine XK_h (L' := [.ref 0, .int x1, .int x2, .ref 104, .null]) (e := 101) (nx := 22) (sl := 4) rfl (by decide) rfl ?_
    refine Y_iconst (v := 1) i_296_22 (by decide) ?_
    exact Y_iret i_296_23 rt_296 hq
  · exact (show False from hf).elim
theorem h_297 {x1 x2 : Int32} (hG : Geo G SL p q) (h : X d 136 0 [.ref 0, .int x1, .int x2] [] (F, A, J, G) (OhI 101 0 Q)) : X (d + 1) 297 0 [.ref 0, .int x1, .int x2, .ref 104, .null] [] (F, A, J, G) Q := by
  refine Y_al3 i_297_0 ?_
  refine Y_iconst (v := 0) i_297_1 (by decide) ?_
  refine Y_al0 i_297_2 ?_
  refine Y_il1 i_297_3 ?_
  refine Y_il2 i_297_4 ?_
  refine Y_ih2 (L0 := [.ref 0, .int x1, .int x2]) i_297_5 ow_297 lm_11_37 ((k_0 hG).trans ow_136.symm) rfl mx_136 rfl rfl ?_
  refine X_mono (fun r M1 hr => ?_) h
  rcases hr with ⟨v, F1, A1, J1, G1, rfl, rfl, hk, hl, hq⟩ | ⟨rfl, hq⟩ | ⟨-, hf⟩
  · show X (d + 1) 297 8 _ [.int v, .int 0, .ref 104] _ Q
    refine Y_i2l i_297_8 ?_
    refine Y_last (k := 0) i_297_9 hk hl (by decide) (by decide) ?_
    refine Y_goto i_297_10 ?_
    refine Y_iconst (v := 0) i_297_17 (by decide) ?_
    exact Y_iret i_297_18 rt_297 hq
  · refine XK_h (L' := [.ref 0, .int x1, .int x2, .ref 104, .null]) (e := 101) (nx := 15) (sl := 4) rfl (by decide) rfl ?_
    refine Y_iconst (v := 1) i_297_15 (by decide) ?_
    exact Y_iret i_297_16 rt_297 hq
  · exact (show False from hf).elim
theorem h_298 {x1 x2 : Int32} (hG : Geo G SL p q) (h : X d 137 0 [.ref 0, .int x1, .int x2] [] (F, A, J, G) (OhI 101 0 Q)) : X (d + 1) 298 0 [.ref 0, .int x1, .int x2, .ref 104, .null] [] (F, A, J, G) Q := by
  refine Y_al3 i_298_0 ?_
  refine Y_iconst (v := 0) i_298_1 (by decide) ?_
  refine Y_al0 i_298_2 ?_
  refine Y_il1 i_298_3 ?_
  refine Y_il2 i_298_4 ?_
  refine Y_ih2 (L0 := [.ref 0, .int x1, .int x2]) i_298_5 ow_298 lm_11_40 ((k_0 hG).trans ow_137.symm) rfl mx_137 rfl rfl ?_
  refine X_mono (fun r M1 hr => ?_) h
  rcases hr with ⟨v, F1, A1, J1, G1, rfl, rfl, hk, hl, hq⟩ | ⟨rfl, hq⟩ | ⟨-, hf⟩
  · show X (d + 1) 298 8 _ [.int v, .int 0, .ref 104] _ Q
    refine Y_i2l i_298_8 ?_
    refine Y_last (k := 0) i_298_9 hk hl (by decide) (by decide) ?_
    refine Y_goto i_298_10 ?_
    refine Y_iconst (v := 0) i_298_17 (by decide) ?_
    exact Y_iret i_298_18 rt_298 hq
  · refine XK_h (L' := [.ref 0, .int x1, .int x2, .ref 104, .null]) (e := 101) (nx := 15) (sl := 4) rfl (by decide) rfl ?_
    refine Y_iconst (v := 1) i_298_15 (by decide) ?_
    exact Y_iret i_298_16 rt_298 hq
  · exact (show False from hf).elim
theorem h_299 {x1 : Int32} (hG : Geo G SL p q) (h : X d 142 0 [.ref 0, .int x1] [] (F, A, J, G) (OhB 101 0 Q)) : X (d + 1) 299 0 [.ref 0, .int x1, .ref 104, .null] [] (F, A, J, G) Q := by
  refine Y_al2 i_299_0 ?_
  refine Y_iconst (v := 0) i_299_1 (by decide) ?_
  refine Y_al0 i_299_2 ?_
  refine Y_il1 i_299_3 ?_
  refine Y_ih1 (L0 := [.ref 0, .int x1]) i_299_4 ow_299 lm_11_43 ((k_0 hG).trans ow_142.symm) rfl mx_142 rfl rfl ?_
  refine X_mono (fun r M1 hr => ?_) h
  rcases hr with ⟨v, F1, A1, J1, G1, rfl, rfl, hk, hl, hq⟩ | ⟨rfl, hq⟩ | ⟨-, hf⟩
  · show X (d + 1) 299 7 _ [.int v, .int 0, .ref 104] _ Q
    refine Y_zeq i_299_7 (fun e => ?_) (fun e => ?_)
    · rw [if_pos e] at hq
      refine Y_lconst (v := 0) i_299_14 (by decide) ?_
      refine Y_last (k := 0) i_299_15 hk hl (by decide) (by decide) ?_
      refine Y_goto i_299_16 ?_
      refine Y_iconst (v := 0) i_299_22 (by decide) ?_
      exact Y_iret i_299_23 rt_299 hq
    · rw [if_neg e] at hq
      refine Y_lconst (v := 1) i_299_10 (by decide) ?_
      refine Y_goto i_299_11 ?_
      refine Y_last (k := 0) i_299_15 hk hl (by decide) (by decide) ?_
      refine Y_goto i_299_16 ?_
      refine Y_iconst (v := 0) i_299_22 (by decide) ?_
      exact Y_iret i_299_23 rt_299 hq
  · refine XK_h (L' := [.ref 0, .int x1, .ref 104, .null]) (e := 101) (nx := 20) (sl := 3) rfl (by decide) rfl ?_
    refine Y_iconst (v := 1) i_299_20 (by decide) ?_
    exact Y_iret i_299_21 rt_299 hq
  · exact (show False from hf).elim
theorem h_300 {x1 : Int32} (hG : Geo G SL p q) (h : X d 143 0 [.ref 0, .int x1] [] (F, A, J, G) (OhI 101 0 Q)) : X (d + 1) 300 0 [.ref 0, .int x1, .ref 104, .null] [] (F, A, J, G) Q := by
  refine Y_al2 i_300_0 ?_
  refine Y_iconst (v := 0) i_300_1 (by decide) ?_
  refine Y_al0 i_300_2 ?_
  refine Y_il1 i_300_3 ?_
  refine Y_ih1 (L0 := [.ref 0, .int x1]) i_300_4 ow_300 lm_11_47 ((k_0 hG).trans ow_143.symm) rfl mx_143 rfl rfl ?_
  refine X_mono (fun r M1 hr => ?_) h
  rcases hr with ⟨v, F1, A1, J1, G1, rfl, rfl, hk, hl, hq⟩ | ⟨rfl, hq⟩ | ⟨-, hf⟩
  · show X (d + 1) 300 7 _ [.int v, .int 0, .ref 104] _ Q
    refine Y_i2l i_300_7 ?_
    refine Y_last (k := 0) i_300_8 hk hl (by decide) (by decide) ?_
    refine Y_goto i_300_9 ?_
    refine Y_iconst (v := 0) i_300_15 (by decide) ?_
    exact Y_iret i_300_16 rt_300 hq
  · refine XK_h (L' := [.ref 0, .int x1, .ref 104, .null]) (e := 101) (nx := 13) (sl := 3) rfl (by decide) rfl ?_
    refine Y_iconst (v := 1) i_300_13 (by decide) ?_
    exact Y_iret i_300_14 rt_300 hq
  · exact (show False from hf).elim
theorem h_301 {x1 : Int32} (hG : Geo G SL p q) (h : X d 144 0 [.ref 0, .int x1] [] (F, A, J, G) (OhI 101 0 Q)) : X (d + 1) 301 0 [.ref 0, .int x1, .ref 104, .null] [] (F, A, J, G) Q := by
  refine Y_al2 i_301_0 ?_
  refine Y_iconst (v := 0) i_301_1 (by decide) ?_
  refine Y_al0 i_301_2 ?_
  refine Y_il1 i_301_3 ?_
  refine Y_ih1 (L0 := [.ref 0, .int x1]) i_301_4 ow_301 lm_11_50 ((k_0 hG).trans ow_144.symm) rfl mx_144 rfl rfl ?_
  refine X_mono (fun r M1 hr => ?_) h
  rcases hr with ⟨v, F1, A1, J1, G1, rfl, rfl, hk, hl, hq⟩ | ⟨rfl, hq⟩ | ⟨-, hf⟩
  · show X (d + 1) 301 7 _ [.int v, .int 0, .ref 104] _ Q
    refine Y_i2l i_301_7 ?_
    refine Y_last (k := 0) i_301_8 hk hl (by decide) (by decide) ?_
    refine Y_goto i_301_9 ?_
    refine Y_iconst (v := 0) i_301_15 (by decide) ?_
    exact Y_iret i_301_16 rt_301 hq
  · refine XK_h (L' := [.ref 0, .int x1, .ref 104, .null]) (e := 101) (nx := 13) (sl := 3) rfl (by decide) rfl ?_
    refine Y_iconst (v := 1) i_301_13 (by decide) ?_
    exact Y_iret i_301_14 rt_301 hq
  · exact (show False from hf).elim
theorem h_302 {x1 x2 : Int32} (hG : Geo G SL p q) (h : X d 149 0 [.ref 0, .int x1, .int x2] [] (F, A, J, G) (OhB 101 100 Q)) : X (d + 1) 302 0 [.ref 0, .int x1, .int x2, .ref 104, .null] [] (F, A, J, G) Q := by
  refine Y_al3 i_302_0 ?_
  refine Y_iconst (v := 0) i_302_1 (by decide) ?_
  refine Y_al0 i_302_2 ?_
  refine Y_il1 i_302_3 ?_
  refine Y_il2 i_302_4 ?_
  refine Y_ih2 (L0 := [.ref 0, .int x1, .int x2]) i_302_5 ow_302 lm_11_53 ((k_0 hG).trans ow_149.symm) rfl mx_149 rfl rfl ?_
  refine X_mono (fun r M1 hr => ?_) h
  rcases hr with ⟨v, F1, A1, J1, G1, rfl, rfl, hk, hl, hq⟩ | ⟨rfl, hq⟩ | ⟨rfl, hq⟩
  · show X (d + 1) 302 8 _ [.int v, .int 0, .ref 104] _ Q
    refine Y_zeq i_302_8 (fun e => ?_) (fun e => ?_)
    · rw [if_pos e] at hq
      refine Y_lconst (v := 0) i_302_15 (by decide) ?_
      refine Y_last (k := 0) i_302_16 hk hl (by decide) (by decide) ?_
      refine Y_goto i_302_17 ?_
      refine Y_iconst (v := 0) i_302_28 (by decide) ?_
      exact Y_iret i_302_29 rt_302 hq
    · rw [if_neg e] at hq
      refine Y_lconst (v := 1) i_302_11 (by decide) ?_
      refine Y_goto i_302_12 ?_
      refine Y_last (k := 0) i_302_16 hk hl (by decide) (by decide) ?_
      refine Y_goto i_302_17 ?_
      refine Y_iconst (v := 0) i_302_28 (by decide) ?_
      exact Y_iret i_302_29 rt_302 hq
  · refine XK_h (L' := [.ref 0, .int x1, .int x2, .ref 104, .null]) (e := 101) (nx := 22) (sl := 4) rfl (by decide) rfl ?_
    refine Y_iconst (v := 1) i_302_22 (by decide) ?_
    exact Y_iret i_302_23 rt_302 hq
  · refine XK_h (L' := [.ref 0, .int x1, .int x2, .ref 104, .null]) (e := 100) (nx := 26) (sl := 4) rfl (by decide) rfl ?_
    refine Y_iconst (v := 2) i_302_26 (by decide) ?_
    exact Y_iret i_302_27 rt_302 hq
theorem h_303 {x1 x2 : Int32} (hG : Geo G SL p q) (h : X d 150 0 [.ref 0, .int x1, .int x2] [] (F, A, J, G) (OhI 101 100 Q)) : X (d + 1) 303 0 [.ref 0, .int x1, .int x2, .ref 104, .null] [] (F, A, J, G) Q := by
  refine Y_al3 i_303_0 ?_
  refine Y_iconst (v := 0) i_303_1 (by decide) ?_
  refine Y_al0 i_303_2 ?_
  refine Y_il1 i_303_3 ?_
  refine Y_il2 i_303_4 ?_
  refine Y_ih2 (L0 := [.ref 0, .int x1, .int x2]) i_303_5 ow_303 lm_11_56 ((k_0 hG).trans ow_150.symm) rfl mx_150 rfl rfl ?_
  refine X_mono (fun r M1 hr => ?_) h
  rcases hr with ⟨v, F1, A1, J1, G1, rfl, rfl, hk, hl, hq⟩ | ⟨rfl, hq⟩ | ⟨rfl, hq⟩
  · show X (d + 1) 303 8 _ [.int v, .int 0, .ref 104] _ Q
    refine Y_i2l i_303_8 ?_
    refine Y_last (k := 0) i_303_9 hk hl (by decide) (by decide) ?_
    refine Y_goto i_303_10 ?_
    refine Y_iconst (v := 0) i_303_21 (by decide) ?_
    exact Y_iret i_303_22 rt_303 hq
  · refine XK_h (L' := [.ref 0, .int x1, .int x2, .ref 104, .null]) (e := 101) (nx := 15) (sl := 4) rfl (by decide) rfl ?_
    refine Y_iconst (v := 1) i_303_15 (by decide) ?_
    exact Y_iret i_303_16 rt_303 hq
  · refine XK_h (L' := [.ref 0, .int x1, .int x2, .ref 104, .null]) (e := 100) (nx := 19) (sl := 4) rfl (by decide) rfl ?_
    refine Y_iconst (v := 2) i_303_19 (by decide) ?_
    exact Y_iret i_303_20 rt_303 hq
theorem h_304 {x1 : Int32} (hG : Geo G SL p q) (h : X d 152 0 [.ref 0, .int x1] [] (F, A, J, G) (OhI 101 0 Q)) : X (d + 1) 304 0 [.ref 0, .int x1, .ref 104, .null] [] (F, A, J, G) Q := by
  refine Y_al2 i_304_0 ?_
  refine Y_iconst (v := 0) i_304_1 (by decide) ?_
  refine Y_al0 i_304_2 ?_
  refine Y_il1 i_304_3 ?_
  refine Y_ih1 (L0 := [.ref 0, .int x1]) i_304_4 ow_304 lm_11_59 ((k_0 hG).trans ow_152.symm) rfl mx_152 rfl rfl ?_
  refine X_mono (fun r M1 hr => ?_) h
  rcases hr with ⟨v, F1, A1, J1, G1, rfl, rfl, hk, hl, hq⟩ | ⟨rfl, hq⟩ | ⟨-, hf⟩
  · show X (d + 1) 304 7 _ [.int v, .int 0, .ref 104] _ Q
    refine Y_i2l i_304_7 ?_
    refine Y_last (k := 0) i_304_8 hk hl (by decide) (by decide) ?_
    refine Y_goto i_304_9 ?_
    refine Y_iconst (v := 0) i_304_15 (by decide) ?_
    exact Y_iret i_304_16 rt_304 hq
  · refine XK_h (L' := [.ref 0, .int x1, .ref 104, .null]) (e := 101) (nx := 13) (sl := 3) rfl (by decide) rfl ?_
    refine Y_iconst (v := 1) i_304_13 (by decide) ?_
    exact Y_iret i_304_14 rt_304 hq
  · exact (show False from hf).elim
theorem h_305 {x1 x2 : Int32} (hG : Geo G SL p q) (h : X d 154 0 [.ref 0, .int x1, .int x2] [] (F, A, J, G) (OhL 100 0 Q)) : X (d + 1) 305 0 [.ref 0, .int x1, .int x2, .ref 104, .null] [] (F, A, J, G) Q := by
  refine Y_al3 i_305_0 ?_
  refine Y_iconst (v := 0) i_305_1 (by decide) ?_
  refine Y_al0 i_305_2 ?_
  refine Y_il1 i_305_3 ?_
  refine Y_il2 i_305_4 ?_
  refine Y_ih2 (L0 := [.ref 0, .int x1, .int x2]) i_305_5 ow_305 lm_11_62 ((k_0 hG).trans ow_154.symm) rfl mx_154 rfl rfl ?_
  refine X_mono (fun r M1 hr => ?_) h
  rcases hr with ⟨v, F1, A1, J1, G1, rfl, rfl, hk, hl, hq⟩ | ⟨rfl, hq⟩ | ⟨-, hf⟩
  · show X (d + 1) 305 8 _ [.long v, .int 0, .ref 104] _ Q
    refine Y_last (k := 0) i_305_8 hk hl (by decide) (by decide) ?_
    refine Y_goto i_305_9 ?_
    refine Y_iconst (v := 0) i_305_16 (by decide) ?_
    exact Y_iret i_305_17 rt_305 hq
  · refine XK_h (L' := [.ref 0, .int x1, .int x2, .ref 104, .null]) (e := 100) (nx := 14) (sl := 4) rfl (by decide) rfl ?_
    refine Y_iconst (v := 1) i_305_14 (by decide) ?_
    exact Y_iret i_305_15 rt_305 hq
  · exact (show False from hf).elim
theorem h_306 {x1 : Int32} (hG : Geo G SL p q) (h : X d 156 0 [.ref 0, .int x1] [] (F, A, J, G) (OhI 101 0 Q)) : X (d + 1) 306 0 [.ref 0, .int x1, .ref 104, .null] [] (F, A, J, G) Q := by
  refine Y_al2 i_306_0 ?_
  refine Y_iconst (v := 0) i_306_1 (by decide) ?_
  refine Y_al0 i_306_2 ?_
  refine Y_il1 i_306_3 ?_
  refine Y_ih1 (L0 := [.ref 0, .int x1]) i_306_4 ow_306 lm_11_66 ((k_0 hG).trans ow_156.symm) rfl mx_156 rfl rfl ?_
  refine X_mono (fun r M1 hr => ?_) h
  rcases hr with ⟨v, F1, A1, J1, G1, rfl, rfl, hk, hl, hq⟩ | ⟨rfl, hq⟩ | ⟨-, hf⟩
  · show X (d + 1) 306 7 _ [.int v, .int 0, .ref 104] _ Q
    refine Y_i2l i_306_7 ?_
    refine Y_last (k := 0) i_306_8 hk hl (by decide) (by decide) ?_
    refine Y_goto i_306_9 ?_
    refine Y_iconst (v := 0) i_306_15 (by decide) ?_
    exact Y_iret i_306_16 rt_306 hq
  · refine XK_h (L' := [.ref 0, .int x1, .ref 104, .null]) (e := 101) (nx := 13) (sl := 3) rfl (by decide) rfl ?_
    refine Y_iconst (v := 1) i_306_13 (by decide) ?_
    exact Y_iret i_306_14 rt_306 hq
  · exact (show False from hf).elim
theorem h_307 {x1 : Int32} (hG : Geo G SL p q) (h : X d 157 0 [.ref 0, .int x1] [] (F, A, J, G) (OhI 100 0 Q)) : X (d + 1) 307 0 [.ref 0, .int x1, .ref 104, .null] [] (F, A, J, G) Q := by
  refine Y_al2 i_307_0 ?_
  refine Y_iconst (v := 0) i_307_1 (by decide) ?_
  refine Y_al0 i_307_2 ?_
  refine Y_il1 i_307_3 ?_
  refine Y_ih1 (L0 := [.ref 0, .int x1]) i_307_4 ow_307 lm_11_69 ((k_0 hG).trans ow_157.symm) rfl mx_157 rfl rfl ?_
  refine X_mono (fun r M1 hr => ?_) h
  rcases hr with ⟨v, F1, A1, J1, G1, rfl, rfl, hk, hl, hq⟩ | ⟨rfl, hq⟩ | ⟨-, hf⟩
  · show X (d + 1) 307 7 _ [.int v, .int 0, .ref 104] _ Q
    refine Y_i2l i_307_7 ?_
    refine Y_last (k := 0) i_307_8 hk hl (by decide) (by decide) ?_
    refine Y_goto i_307_9 ?_
    refine Y_iconst (v := 0) i_307_15 (by decide) ?_
    exact Y_iret i_307_16 rt_307 hq
  · refine XK_h (L' := [.ref 0, .int x1, .ref 104, .null]) (e := 100) (nx := 13) (sl := 3) rfl (by decide) rfl ?_
    refine Y_iconst (v := 1) i_307_13 (by decide) ?_
    exact Y_iret i_307_14 rt_307 hq
  · exact (show False from hf).elim
theorem h_308 {x1 : Int32} (hG : Geo G SL p q) (h : X d 159 0 [.ref 0, .int x1] [] (F, A, J, G) (OhI 100 0 Q)) : X (d + 1) 308 0 [.ref 0, .int x1, .ref 104, .null] [] (F, A, J, G) Q := by
  refine Y_al2 i_308_0 ?_
  refine Y_iconst (v := 0) i_308_1 (by decide) ?_
  refine Y_al0 i_308_2 ?_
  refine Y_il1 i_308_3 ?_
  refine Y_ih1 (L0 := [.ref 0, .int x1]) i_308_4 ow_308 lm_11_72 ((k_0 hG).trans ow_159.symm) rfl mx_159 rfl rfl ?_
  refine X_mono (fun r M1 hr => ?_) h
  rcases hr with ⟨v, F1, A1, J1, G1, rfl, rfl, hk, hl, hq⟩ | ⟨rfl, hq⟩ | ⟨-, hf⟩
  · show X (d + 1) 308 7 _ [.int v, .int 0, .ref 104] _ Q
    refine Y_i2l i_308_7 ?_
    refine Y_last (k := 0) i_308_8 hk hl (by decide) (by decide) ?_
    refine Y_goto i_308_9 ?_
    refine Y_iconst (v := 0) i_308_15 (by decide) ?_
    exact Y_iret i_308_16 rt_308 hq
  · refine XK_h (L' := [.ref 0, .int x1, .ref 104, .null]) (e := 100) (nx := 13) (sl := 3) rfl (by decide) rfl ?_
    refine Y_iconst (v := 1) i_308_13 (by decide) ?_
    exact Y_iret i_308_14 rt_308 hq
  · exact (show False from hf).elim
theorem h_309 {x1 : Int32} (hG : Geo G SL p q) (h : X d 163 0 [.ref 0, .int x1] [] (F, A, J, G) (OhI 101 0 Q)) : X (d + 1) 309 0 [.ref 0, .int x1, .ref 104, .null] [] (F, A, J, G) Q := by
  refine Y_al2 i_309_0 ?_
  refine Y_iconst (v := 0) i_309_1 (by decide) ?_
  refine Y_al0 i_309_2 ?_
  refine Y_il1 i_309_3 ?_
  refine Y_ih1 (L0 := [.ref 0, .int x1]) i_309_4 ow_309 lm_11_75 ((k_0 hG).trans ow_163.symm) rfl mx_163 rfl rfl ?_
  refine X_mono (fun r M1 hr => ?_) h
  rcases hr with ⟨v, F1, A1, J1, G1, rfl, rfl, hk, hl, hq⟩ | ⟨rfl, hq⟩ | ⟨-, hf⟩
  · show X (d + 1) 309 7 _ [.int v, .int 0, .ref 104] _ Q
    refine Y_i2l i_309_7 ?_
    refine Y_last (k := 0) i_309_8 hk hl (by decide) (by decide) ?_
    refine Y_goto i_309_9 ?_
    refine Y_iconst (v := 0) i_309_15 (by decide) ?_
    exact Y_iret i_309_16 rt_309 hq
  · refine XK_h (L' := [.ref 0, .int x1, .ref 104, .null]) (e := 101) (nx := 13) (sl := 3) rfl (by decide) rfl ?_
    refine Y_iconst (v := 1) i_309_13 (by decide) ?_
    exact Y_iret i_309_14 rt_309 hq
  · exact (show False from hf).elim
theorem h_310 {x1 : Int32} (hG : Geo G SL p q) (h : X d 166 0 [.ref 0, .int x1] [] (F, A, J, G) (OhI 101 0 Q)) : X (d + 1) 310 0 [.ref 0, .int x1, .ref 104, .null] [] (F, A, J, G) Q := by
  refine Y_al2 i_310_0 ?_
  refine Y_iconst (v := 0) i_310_1 (by decide) ?_
  refine Y_al0 i_310_2 ?_
  refine Y_il1 i_310_3 ?_
  refine Y_ih1 (L0 := [.ref 0, .int x1]) i_310_4 ow_310 lm_11_78 ((k_0 hG).trans ow_166.symm) rfl mx_166 rfl rfl ?_
  refine X_mono (fun r M1 hr => ?_) h
  rcases hr with ⟨v, F1, A1, J1, G1, rfl, rfl, hk, hl, hq⟩ | ⟨rfl, hq⟩ | ⟨-, hf⟩
  · show X (d + 1) 310 7 _ [.int v, .int 0, .ref 104] _ Q
    refine Y_i2l i_310_7 ?_
    refine Y_last (k := 0) i_310_8 hk hl (by decide) (by decide) ?_
    refine Y_goto i_310_9 ?_
    refine Y_iconst (v := 0) i_310_15 (by decide) ?_
    exact Y_iret i_310_16 rt_310 hq
  · refine XK_h (L' := [.ref 0, .int x1, .ref 104, .null]) (e := 101) (nx := 13) (sl := 3) rfl (by decide) rfl ?_
    refine Y_iconst (v := 1) i_310_13 (by decide) ?_
    exact Y_iret i_310_14 rt_310 hq
  · exact (show False from hf).elim
theorem h_311 {x1 x2 x3 : Int32} (hG : Geo G SL p q) (h : X d 167 0 [.ref 0, .int x1, .int x2, .int x3] [] (F, A, J, G) (OhI 101 100 Q)) : X (d + 1) 311 0 [.ref 0, .int x1, .int x2, .int x3, .ref 104, .null] [] (F, A, J, G) Q := by
  refine Y_al4 i_311_0 ?_
  refine Y_iconst (v := 0) i_311_2 (by decide) ?_
  refine Y_al0 i_311_3 ?_
  refine Y_il1 i_311_4 ?_
  refine Y_il2 i_311_5 ?_
  refine Y_il3 i_311_6 ?_
  refine Y_ih3 (L0 := [.ref 0, .int x1, .int x2, .int x3]) i_311_7 ow_311 lm_11_81 ((k_0 hG).trans ow_167.symm) rfl mx_167 rfl rfl ?_
  refine X_mono (fun r M1 hr => ?_) h
  rcases hr with ⟨v, F1, A1, J1, G1, rfl, rfl, hk, hl, hq⟩ | ⟨rfl, hq⟩ | ⟨rfl, hq⟩
  · show X (d + 1) 311 10 _ [.int v, .int 0, .ref 104] _ Q
    refine Y_i2l i_311_10 ?_
    refine Y_last (k := 0) i_311_11 hk hl (by decide) (by decide) ?_
    refine Y_goto i_311_12 ?_
    refine Y_iconst (v := 0) i_311_23 (by decide) ?_
    exact Y_iret i_311_24 rt_311 hq
  · refine XK_h (L' := [.ref 0, .int x1, .int x2, .int x3, .ref 104, .null]) (e := 101) (nx := 17) (sl := 5) rfl (by decide) rfl ?_
    refine Y_iconst (v := 1) i_311_17 (by decide) ?_
    exact Y_iret i_311_18 rt_311 hq
  · refine XK_h (L' := [.ref 0, .int x1, .int x2, .int x3, .ref 104, .null]) (e := 100) (nx := 21) (sl := 5) rfl (by decide) rfl ?_
    refine Y_iconst (v := 2) i_311_21 (by decide) ?_
    exact Y_iret i_311_22 rt_311 hq
end Help24
