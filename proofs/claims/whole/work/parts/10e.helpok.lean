section HelpT
variable {p : Program} {l : Launch} {e : Env} {R : Room} {s : State} {m : MethodId} {args : Array Value} {below : List Frame} {meth : Method} {c : Code} {H : Heap} {locs : List Loc} {cells slots : Nat} {Q : State → Prop}
variable {pc : Nat} {ls : Array Slot} {ad : Nat → Nat} {N0 SL : Nat} {xs : Nat → Int32} {cs : pCs} {D : va_G} {mid c0 s0 : Nat}
theorem xOp_own {y pc : Nat} {i : Instr} {st : List Value} {e1 : Nat} (h : xOp y pc i st = some e1) : mOw y = 9 := by
  unfold xOp at h
  split at h
  · split at h
    · split at h
      · rename_i hc; exact hc.2.2.1
      · cases h
    · cases h
  · cases h
set_option maxHeartbeats 4000000 in
/-- the contract of a method with handlers, from its run -/
theorem helpMet {n d y : Nat} {as : List Value} {M M' : pM} {r : pR} {ent : MethodName × ByteArray × Nat × Option FieldType × Nat × List (Nat × Instr)} (hP : SndP l ad N0 SL xs cs D n) (had : ∀ i, i < 900 → ad i = N0 + i) (hy : htl.lookup y = some ent) (hn : (entA as).length ≤ mMx y) (h : exN n d y 0 (entL as (mMx y)) [] M = some (r, M')) :
    vx_Met l (mY y) (Cond.codeWith (mY y) (mCd y) (mMx y) (mRt y) ((hdl y).map h4) :: TBg) (rmD d (gC M'.2.2.2 - gC M.2.2.2) (gS M'.2.2.2 - gS M.2.2.2)) (pPc ad N0 SL xs cs D M as) (pQc ad N0 SL xs cs D r M') (pXC ad N0 SL xs cs D r M') (gC M'.2.2.2 - gC M.2.2.2) (gS M'.2.2.2 - gS M.2.2.2) (frA N0) := by
  obtain ⟨he, w1, w2, w2b, w3, w4, w5, w6, w8, w9⟩ := he_ok hy
  dsimp only at w1 w2 w2b w3 w4 w5 w6 w8 w9
  have eY : mY y = ent.1 := by unfold mY; rw [he]; rfl
  have eC : mCd y = ent.2.1 := by unfold mCd; rw [he]; rfl
  have eO : mOw y = 11 := by unfold mOw; rw [he]; exact w2b
  have eX : mMx y = ent.2.2.1 := by unfold mMx; rw [he]; rfl
  have hle := exN_le _ _ _ _ _ _ _ _ _ h
  refine vx_ofWH (by rw [eY]; exact w4) rfl ?_
  intro p e s m args below meth c s₁ B hml hv
  obtain ⟨rfl, hW, hK, hN0, hN1, hE⟩ := hv
  have hts := atoms_spec (ws := Cond.codeWith (mY y) (mCd y) (mMx y) (mRt y) ((hdl y).map h4) :: TBg) B.pre
  have htab := vx_table (x := mY y) B (hts _ List.mem_cons_self)
  have hown : s.vm.findClass (ownR (mOw y)) = some m.cls := by
    rw [eO, ← w2, ← eY]
    exact findClass_of_methodNamed B.named
  have C : Cx ad N0 SL xs cs D p s m (as.map (trV ad)).toArray meth c y (gC M.2.2.2) := ⟨B.exec, B.bytes, hml, B.returns, B.notSynchronized, fun w hw => hts w (List.mem_cons_of_mem _ hw), hown, fun hi => by
    unfold isIni at hi
    have := of_decide_eq_true hi
    rw [eY] at this
    exact absurd this w9, hK, hN0, hN1, hE, had⟩
  rw [lg_entry_eq]
  obtain ⟨hrel, hlen⟩ := ent_rel (ad := ad) hn
  have hroom : (headSpec (Cond.codeWith (mY y) (mCd y) (mMx y) (mRt y) ((hdl y).map h4) :: TBg) (rmD d (gC M'.2.2.2 - gC M.2.2.2) (gS M'.2.2.2 - gS M.2.2.2))).room = rmD d (gC M'.2.2.2 - gC M.2.2.2) (gS M'.2.2.2 - gS M.2.2.2) := rfl
  rw [hroom]
  refine hP d y 0 (entL as (mMx y)) [] M r M' h p e (rmD d (gC M'.2.2.2 - gC M.2.2.2) (gS M'.2.2.2 - gS M.2.2.2)) s m _ below meth c s.heap [] 0 0 _ _ (gC M.2.2.2) (gS M.2.2.2) C (Nat.le_refl _) (Nat.le_refl _) hW va_S.rf hrel hlen rfl rfl (by show _ ≤ _ + (_ - _); have := hle.1; omega) (by show _ ≤ _ + (_ - _); have := hle.2; omega) ?_ ?_ ?_ ?_
  · intro i st1 v pc1 ls1 H1 locs1 cells1 slots1 hr hi hro hW1 hS1 hc1 hs1
    have hd1 := code1 hi (rOp_sw hro)
    have e1 : gC M'.2.2.2 - gC M.2.2.2 = cells1 := by omega
    have e2 : gS M'.2.2.2 - gS M.2.2.2 = slots1 := by omega
    rw [e1, e2]
    refine vx_ret ?_
    have hq : ∀ t : State, t.heap = H1 → s.WarmedH t.vm → pQc ad N0 SL xs cs D r M' (as.map (trV ad)).toArray s (.returned (v.map (trV ad))) t := fun t ht _ => ⟨⟨v, hr, rfl⟩, by rw [ht]; exact hW1, hS1.F ht⟩
    have hlk : meth.locks = false := B.notSynchronized
    unfold rOp at hro
    split at hro
    · split at hro
      · split at hro
        · rename_i x hc
          cases hro
          rcases hc with hc | hc
          · exact W.iret B.exec B.bytes (by rw [B.returns]; exact hc) hq hS1.2.2 hd1 hlk
          · exact W.zret B.exec B.bytes (by rw [B.returns]; exact hc.1) (narB hc.2).1 hq hS1.2.2 hd1 hlk
        · cases hro
      · cases hro
    · split at hro
      · split at hro
        · rename_i x hc
          cases hro
          exact W.lret B.exec B.bytes (by rw [B.returns]; exact hc) hq hS1.2.2 hd1 hlk
        · cases hro
      · cases hro
    · split at hro
      · split at hro
        · rename_i hc
          cases hro
          exact W.vret B.exec B.bytes (by rw [B.returns]; exact hc) hq hS1.2.2 hd1 hlk
        · cases hro
      · cases hro
    · cases hro
  · intro i st1 e1 pc1 ls1 H1 locs1 cells1 slots1 M1 hr hi hx
    have := xOp_own hx
    omega
  · intro e1 q ce pc1 ls1 st1 H1 locs1 cells1 slots1 hr hh hW1 hS1 hc1 hs1 hq hv hcl
    refine vx_out (fun x hx => ?_) B.notSynchronized hq hv hcl (fun t ht hal => ⟨⟨e1, hr, rfl⟩, by rw [ht]; exact hW1, hS1.F ht⟩) hS1.2.2 (by omega) (by omega)
    rw [htab, hh] at hx
    cases hx
  · intro e1 hh q ce pc1 L1 L2 ls1 st1 H1 locs1 cells1 slots1 hho hst2 hl1 hL1 hq hv hcl kk
    obtain ⟨pre, row, suf, h1, h2, h3, h4', h5, h6⟩ := hOf_split _ _ _ _ hho
    have hrows := List.all_eq_true.mp htl_rows _ (lookup_mem _ _ _ hy)
    have hrow : ∀ z ∈ hdl y, hRow y ent.2.2.1 z = true := fun z hz => List.all_eq_true.mp hrows z hz
    have hsplit : c.exceptionTable.toList = (pre.map h4).map (fun q => (⟨q.1, q.2.1, q.2.2.1, q.2.2.2⟩ : ExceptionTableEntry)) ++ (⟨row.1, row.2.1, row.2.2.1, row.2.2.2.1⟩ : ExceptionTableEntry) :: (suf.map h4).map (fun q => (⟨q.1, q.2.1, q.2.2.1, q.2.2.2⟩ : ExceptionTableEntry)) := by
      rw [htab, h1]
      simp [tableOf, h4]
    have hr1 := hrow row (by rw [h1]; simp)
    unfold hRow at hr1
    simp only [Bool.and_eq_true, Bool.or_eq_true, beq_iff_eq, decide_eq_true_eq] at hr1
    obtain ⟨hct, hsl, hast⟩ := hr1
    have hown11 : s.vm.findClass RL = some m.cls := by rw [eO] at hown; exact hown
    have htsT : ∀ w ∈ TBg, w.before (as.map (trV ad)).toArray s = true := fun w hw => hts w (List.mem_cons_of_mem _ hw)
    have hxE : xE s := hE.2.2.2.2.2.2.2.2.2
    have hlink : (Cond.classLink RL row.2.2.2.1 (xcN e1)).before (as.map (trV ad)).toArray s = true ∧ (Cond.castable (xcN e1) (xcN e1)).before (as.map (trV ad)).toArray s = true := by
      rcases hct with hct | hct
      · rw [hct.1]
        have ee : e1 = 100 := by omega
        subst ee
        exact ⟨htsT _ wx_c13, va_Nw.use rfl hxE.2.2.2.1⟩
      · rw [hct.1]
        have ee : e1 = 101 := by omega
        subst ee
        exact ⟨htsT _ wx_c18, va_Nw.use rfl hxE.2.2.2.2.1⟩
    refine vx_catch (own := RL) (name := xcN e1) (E := xcN e1) hown11 _ _ _ hsplit ?_ ?_ ?_ hlink.1 hlink.2 hq hv hcl ?_
    · intro z hz
      obtain ⟨z4, hz4, rfl⟩ := List.mem_map.mp hz
      obtain ⟨z7, hz7, rfl⟩ := List.mem_map.mp hz4
      rcases h6 z7 hz7 with h7 | h7
      · refine Or.inl ?_
        simp only [covers, h4]
        simp
        intro h9
        rcases Nat.lt_or_ge pc1 z7.2.1 with h10 | h10
        · exact absurd ⟨of_decide_eq_true h9, h10⟩ h7
        · exact decide_eq_false (by omega)
      · refine Or.inr ?_
        have hr2 := hrow z7 (by rw [h1]; simp [hz7])
        unfold hRow at hr2
        simp only [Bool.and_eq_true, Bool.or_eq_true, beq_iff_eq, decide_eq_true_eq] at hr2
        have hc18 : z7.2.2.2.1 = 18 := by omega
        refine ⟨by show z7.2.2.2.1 ≠ 0; omega, "java/util/NoSuchElementException", ?_, ?_⟩
        · show (Cond.classLink RL z7.2.2.2.1 _).before _ s = true
          rw [hc18]
          exact htsT _ wx_c18
        · rw [h7.2]
          exact hxE.2.2.2.2.2
    · simp only [covers]
      simp
      omega
    · show row.2.2.2.1 ≠ 0
      omega
    · rw [h5] at hst2 kk
      split at hast
      · rename_i k9 hlk9
        simp only [Bool.and_eq_true, beq_iff_eq] at hast
        have hd9 := code1 hlk9 rfl
        refine lv_astore_n B.exec B.bytes hd9 hast.1 hl1.has (by rw [hL1, eX]; exact hsl) rfl (fun ls' h' => ?_)
        have := kk ls' (lRel.store0 hst2 h')
        rw [hast.2] at this
        exact this
      · rename_i k9 hlk9
        simp only [Bool.and_eq_true, beq_iff_eq] at hast
        have hd9 := code1 hlk9 rfl
        rw [hast.1] at hd9
        refine lv_astore B.exec B.bytes hd9 hl1.has (by rw [hL1, eX]; exact hsl) rfl (fun ls' h' => ?_)
        have := kk ls' (lRel.store0 hst2 h')
        rw [hast.2] at this
        exact this
      · cases hast
theorem mT_kinds : mT.all (fun q => (mts.lookup q.2.2.1).isSome || (decide (q.2.1 = 0) && (htl.lookup q.2.2.1).isSome) || decide (10 ≤ q.2.1)) = true := by decide +kernel
theorem he_good {y : Nat} {ent : MethodName × ByteArray × Nat × Option FieldType × Nat × List (Nat × Instr)} (hy : htl.lookup y = some ent) : GoodIn TBg (Cond.codeWith (mY y) (mCd y) (mMx y) (mRt y) ((hdl y).map h4) :: TBg) := by
  obtain ⟨he, w1, -⟩ := he_ok hy
  dsimp only at w1
  have eq1 : Cond.codeWith (mY y) (mCd y) (mMx y) (mRt y) ((hdl y).map h4) = Cond.codeWith ent.1 ent.2.1 ent.2.2.1 ent.2.2.2.1 ((hdl y).map h4) := by unfold mY mCd mMx mRt; rw [he]; rfl
  intro w hw
  rcases List.mem_cons.mp hw with rfl | hw
  · rw [eq1]; exact ⟨w1, good_of_word (List.mem_filter.mp w1).2⟩
  · exact ⟨hw, good_of_word (List.mem_filter.mp hw).2⟩
set_option maxHeartbeats 4000000 in
theorem help_ok {n : Nat} (hP : SndP l ad N0 SL xs cs D n) : HelpOk l ad N0 SL xs cs D n := by
  intro p e R s m args below meth c H locs cells slots Q ls mid pc c0 s0 d' i st M M1 r1 q C hf hlo hW hS hsz hc hpl hn hd hex hcn hsn hcc hcs kr kx
  obtain ⟨hx, hb, hmx, -, -, hts, hown, -, hK, hN0, hN1, hE, had⟩ := C
  have hle := exN_le _ _ _ _ _ _ _ _ _ hex
  -- only a static call comes here
  have kind : ∀ {own x k cm na : Nat}, lkp mT own x = some (k, cm, na) → cm = q.1 → k < 10 → k = 0 ∧ ∃ ent, htl.lookup q.1 = some ent := by
    intro own x k cm na hl9 hcm hk
    obtain ⟨hm, -, -⟩ := lkp_mem hl9
    have h1 := List.all_eq_true.mp mT_kinds _ hm
    dsimp only at h1
    rw [hcm, hpl] at h1
    simp only [Option.isSome_none, Bool.false_or, Bool.or_eq_true, Bool.and_eq_true, decide_eq_true_eq] at h1
    rcases h1 with h1 | h1
    · exact ⟨h1.1, Option.isSome_iff_exists.mp h1.2⟩
    · omega
  unfold cOp at hc
  split at hc
  · rename_i x
    split at hc
    · rename_i cm na hl9
      split at hc
      · rename_i hcc9
        cases hc
        obtain ⟨-, ent, hy⟩ := kind hl9 rfl (by omega)
        obtain ⟨hm, e1, e2⟩ := lkp_mem hl9
        obtain ⟨v1, v2, v3⟩ := mT_ok _ hm
        dsimp only at v1 v2 v3
        rw [e1, e2] at v1
        have hM := helpMet hP had hy hn hex
        obtain ⟨he, w1, w2, w2b, w3, w4, w5, w6, w8, w9⟩ := he_ok hy
        dsimp only at w1 w2 w2b w3 w4 w5 w6 w8 w9
        have eY : mY cm = ent.1 := by unfold mY; rw [he]; rfl
        have eX : mMx cm = ent.2.2.1 := by unfold mMx; rw [he]; rfl
        have hini : (Cond.initialized (mY cm).cls).before args s = true := by rw [eY]; exact hts _ w3
        have hcl1 : (mY cm).cls ≠ "java/lang/invoke/MethodHandle" := by rw [eY]; exact w5
        have hcl2 : (mY cm).cls ≠ "java/lang/invoke/VarHandle" := by rw [eY]; exact w6
        have hR : (rmD d' (gC M1.2.2.2 - gC M.2.2.2) (gS M1.2.2.2 - gS M.2.2.2)).frames + 1 ≤ R.frames ∧ 8 + (mMx cm + 11) + (rmD d' (gC M1.2.2.2 - gC M.2.2.2) (gS M1.2.2.2 - gS M.2.2.2)).locals ≤ R.locals := by
          rw [eX]
          exact ⟨by show d' + 10 + 1 ≤ _; omega, by show 8 + (_ + 11) + (64 * (d' + 1) + 100) ≤ _; omega⟩
        have hcap : cells + (gC M1.2.2.2 - gC M.2.2.2) ≤ R.cells ∧ slots + (gS M1.2.2.2 - gS M.2.2.2) ≤ R.slots := by
          have := hle.1; have := hle.2
          omega
        refine W.sized (fun hz => ?_)
        have hkept : ∀ a : Nat, a < s.heap.size → ¬ N0 ≤ a → H[a]? = s.heap[a]? := fun a h1 h2 => hS.2.1 a h1 h2
        have hpre : ∀ U : State, U.heap = H → s.WarmedH U.vm → pPc ad N0 SL xs cs D M ((st.take na).reverse) (((st.take na).reverse).map (trV ad)).toArray U := by
          intro U hU hWm
          have hz2 := hS.1
          exact ⟨rfl, by rw [hU]; exact hW, va_K.moved hWm.alike hK, by rw [hU]; omega, by rw [hU]; omega, by rw [hU]; exact (hE.kept hN0 hkept).warm hWm⟩
        have hG : GoodIn TBg (va_wsS (ownR (mOw mid)) x (mY cm) (Cond.codeWith (mY cm) (mCd cm) (mMx cm) (mRt cm) ((hdl cm).map h4) :: TBg)) := by
          intro w hw
          unfold va_wsS at hw
          rcases List.mem_append.mp hw with hw | hw
          · simp only [List.mem_cons, List.not_mem_nil, or_false] at hw
            rcases hw with rfl | rfl | rfl
            · exact ⟨v1, good_of_word (List.mem_filter.mp v1).2⟩
            · exact ⟨v2, good_of_word (List.mem_filter.mp v2).2⟩
            · rw [eY]; exact ⟨w3, good_of_word (List.mem_filter.mp w3).2⟩
          · exact he_good hy w hw
        have hr := vx_runSX (p := p) (e := e) (meth := meth) (below := below) (locs := locs) (g := F0 m pc ls (st.map (trV ad))) (As := ((st.take na).reverse).map (trV ad)) (rest := (st.drop na).map (trV ad)) ⟨hx, hb, hmx, hown, hts⟩ hM (vx_cwSW na hts hG rfl rfl rfl ⟨hcl1, hcl2, v3⟩ hR) ⟨pPc_blind M _, hpre⟩ rfl (by simp; omega) (hsz.trans hmx) (by show st.map (trV ad) = _; rw [← List.map_reverse, List.reverse_reverse, ← List.map_append, List.take_append_drop]) (by show 2 * 0 + _ ≤ 8; rw [stW_tr]; omega) hd hcap
        intro T hT X
        rcases hr T hT X with ⟨v, st₀, t, T', L, h0, X', hL, e1, e2, ⟨⟨vv, hv1, ho⟩, hW1, hF⟩, stp⟩ | ⟨qx, st₀, t, T', L, E, ce, h0, X', hL, e1, e2, ⟨⟨e3, he3, rfl⟩, hW1, hF⟩, hce, hcv, hcl, stp⟩
        · obtain ⟨k1, k2, k3⟩ := vx_keep h0 e1 hS (A1 := frA N0) (fun q _ h => h) (fun q h => h) hL hF
          have hv : v = vv.map (trV ad) := by cases ho; rfl
          have hk := kr vv T'.heap (locs ++ L) hv1 (by rw [e1]; exact hW1) k3
          have e9 : v.toList ++ (st.drop na).map (trV ad) = (vv.toList ++ st.drop na).map (trV ad) := by subst hv; cases vv <;> simp
          obtain ⟨t2, a1, b1⟩ := hk T' rfl X'
          refine ⟨t2, stp t2 ?_, b1⟩
          show Steps _ _ _ (T'.setTop { (F0 m pc ls (st.map (trV ad))) with pc := pc + 3, stack := v.toList ++ (st.drop na).map (trV ad) }) t2
          rw [e9]
          exact a1
        · obtain ⟨k1, k2, k3⟩ := vx_keep h0 e1 hS (A1 := frA N0) (fun q _ h => h) (fun q h => h) hL hF
          have hk := kx e3 qx ce T'.heap (locs ++ L) he3 (by rw [e1]; exact hW1) k3 (by rw [e1]; exact hce) hcv hcl
          obtain ⟨t2, a1, b1⟩ := hk T' rfl X'
          exact ⟨t2, stp.trans a1, b1⟩
      · cases hc
    · cases hc
  · rename_i x
    split at hc
    · rename_i cm na hl9
      split at hc
      · split at hc
        · cases hc
          have := (kind hl9 rfl (by omega)).1
          omega
        · cases hc
      · cases hc
    · cases hc
  · rename_i x
    split at hc
    · rename_i cm na hl9
      split at hc
      · split at hc
        · cases hc
          have := (kind hl9 rfl (by omega)).1
          omega
        · cases hc
      · cases hc
    · rename_i cm na hl9
      split at hc
      · split at hc
        · cases hc
          have := (kind hl9 rfl (by omega)).1
          omega
        · cases hc
      · cases hc
    · cases hc
  · cases hc
end HelpT
