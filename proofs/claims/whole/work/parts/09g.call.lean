/-! soundness of a call of a plain method -/
section SndG
variable {p : Program} {l : Launch} {e : Env} {R : Room} {s : State} {m : MethodId} {args : Array Value} {below : List Frame} {meth : Method} {c : Code} {H : Heap} {locs : List Loc} {cells slots : Nat} {Q : State → Prop}
variable {pc : Nat} {ls : Array Slot} {ad : Nat → Nat} {N0 SL : Nat} {xs : Nat → Int32} {cs : pCs} {D : va_G} {mid c0 s0 : Nat}
/-- a throw of one's own goes through on the machine -/
def ThrOk (l : Launch) (ad : Nat → Nat) (N0 SL : Nat) (xs : Nat → Int32) (cs : pCs) (D : va_G) : Prop :=
  ∀ (d y : Nat) (M M' : pM) (r : pR) (p : Program) (e : Env) (s : State) (m : MethodId) (args : Array Value) (below : List Frame) (meth : Method) (c : Code), Cx ad N0 SL xs cs D p s m args meth c y (gC M.2.2.2) → (∀ x ∈ c.exceptionTable.toList, False) →
      ∀ (i : Instr) (st1 : List Value) (e1 pc1 : Nat) (ls1 : Array Slot) (H1 : Heap) (locs1 : List Loc) (cells1 slots1 : Nat) (M1 : pM), r = .inr e1 → (pCode y).lookup pc1 = some i → xOp y pc1 i st1 = some e1 → M' = (M1.1, M1.2.1, M1.2.2.1, gThr M1.2.2.2) → Wd ad SL xs cs D M1 H1 → va_S (frA N0) s.heap H1 locs1 → gC M.2.2.2 + cells1 = gC M1.2.2.2 → gS M.2.2.2 + slots1 = gS M1.2.2.2 → ls1.size = c.maxLocals →
      W p l e (rmD d (gC M'.2.2.2 - gC M.2.2.2) (gS M'.2.2.2 - gS M.2.2.2)) s m args below meth c H1 locs1 cells1 slots1 (vx_MQ below (pQc ad N0 SL xs cs D r M') (pXC ad N0 SL xs cs D r M') args s (gC M'.2.2.2 - gC M.2.2.2) (gS M'.2.2.2 - gS M.2.2.2) (frA N0)) (F0 m pc1 ls1 (st1.map (trV ad)))
theorem tb_good {w : Cond} {ws : List Cond} (h : w ∈ TBg) (hw : w ∈ ws → w ∈ TBg) : w ∈ TBg ∧ ((w.onTables && w.keeps) = true ∨ ∃ ty, w = .arrayClass ty) := ⟨h, good_of_word (List.mem_filter.mp h).2⟩
theorem pl_good {y : Nat} {ent : MethodName × ByteArray × Nat × Option FieldType × Nat × List (Nat × Instr)} (hy : mts.lookup y = some ent) : GoodIn TBg (Cond.code (mY y) (mCd y) (mMx y) (mRt y) :: TBg) := by
  obtain ⟨he, w1, -⟩ := pl_ok hy
  dsimp only at w1
  have eq1 : Cond.code (mY y) (mCd y) (mMx y) (mRt y) = Cond.code ent.1 ent.2.1 ent.2.2.1 ent.2.2.2.1 := by unfold mY mCd mMx mRt; rw [he]; rfl
  intro w hw
  rcases List.mem_cons.mp hw with rfl | hw
  · rw [eq1]; exact ⟨w1, good_of_word (List.mem_filter.mp w1).2⟩
  · exact ⟨hw, good_of_word (List.mem_filter.mp hw).2⟩
/-- a contract that can't throw -/
theorem met_of {y : MethodName} {ws : List Cond} {rm : Room} {Pc : Array Value → State → Prop} {Qc : Array Value → State → Outcome → State → Prop} {XC : String → State → State → Prop} {mc ms : Nat} {free : Addr → Prop} (hX : ∀ E st t, ¬ XC E st t) (h : vx_Met l y ws rm Pc Qc XC mc ms free) : Met l y ws rm Pc Qc mc ms free := by
  have eq1 : vx_Q Qc XC mc ms free = fun a st o t => Qc a st o t ∧ ∃ L, FrameEnd st o t L mc ms ∧ ∀ q ∈ L, free q.base := by
    funext a st o t
    apply propext
    constructor
    · rintro (h1 | ⟨q, -, E, ce, L, hx, -⟩)
      · exact h1
      · exact absurd hx (hX _ _ _)
    · exact Or.inl
  unfold vx_Met at h
  rw [eq1] at h
  exact h
theorem run_vx {mc ms : Nat} {g : JFrame} {rest : List Value} {Qa : State → Outcome → State → Prop} {XC : String → State → State → Prop} {free : Addr → Prop} (h : va_Run p l e R s m args below meth c H locs cells slots mc ms g rest Qa free) : vx_Run p l e R s m args below meth c H locs cells slots mc ms g rest Qa XC free := fun T hT X => Or.inl (h T hT X)
theorem mts_own : mts.all (fun q => decide (q.2.2.2.2.2.1 < 12 ∨ q.2.2.2.2.2.1 = 26)) = true := by decide +kernel
theorem pl_own {y : Nat} {ent : MethodName × ByteArray × Nat × Option FieldType × Nat × List (Nat × Instr)} (h : mts.lookup y = some ent) : mOw y < 12 ∨ mOw y = 26 := by
  have h1 := List.all_eq_true.mp mts_own _ (lookup_mem _ _ _ h)
  have h2 := of_decide_eq_true h1
  have he := (pl_ok h).1
  have eO : mOw y = ent.2.2.2.2.1 := by unfold mOw; rw [he]; rfl
  rw [eO]
  exact h2
theorem mts_rt : mts.all (fun q => !(decide (q.2.1.name = "<init>")) || (q.2.2.2.2.1).isNone) = true := by decide +kernel
theorem pl_rt {y : Nat} {ent : MethodName × ByteArray × Nat × Option FieldType × Nat × List (Nat × Instr)} (h : mts.lookup y = some ent) (hn : (mY y).name = "<init>") : mRt y = none := by
  have h1 := List.all_eq_true.mp mts_rt _ (lookup_mem _ _ _ h)
  have he := (pl_ok h).1
  have eY : mY y = ent.1 := by unfold mY; rw [he]; rfl
  have eR : mRt y = ent.2.2.2.1 := by unfold mRt; rw [he]; rfl
  rw [eY] at hn
  simp only [hn, decide_true, Bool.not_true, Bool.false_or] at h1
  rw [eR]
  exact Option.isNone_iff_eq_none.mp h1
theorem mT_nest : mT.all (fun q => decide (q.2.1 ≠ 3) || (decide (q = (70029, 3, 52, 0)) || decide (q = (50011, 3, 0, 0)))) = true := by decide +kernel
theorem nest_ok {own x cm na : Nat} (h : (own * 10000 + x, 3, cm, na) ∈ mT) (h1 : (own * 10000 + x) / 10000 = own) (h2 : (own * 10000 + x) % 10000 = x) (hE : nestE s) : va_Nw (.methodLinkNest (ownR own) x (mY cm) "TableTower") s ∧ Cond.instanceMethod (mY cm) ∈ TBg ∧ (mY cm).name = "<init>" ∧ par (mY cm) = some na := by
  have h3 := List.all_eq_true.mp mT_nest _ h
  simp only [ne_eq, not_true_eq_false, decide_false, Bool.false_or, Bool.or_eq_true, decide_eq_true_eq, Prod.mk.injEq] at h3
  rcases h3 with ⟨e1, -, rfl, rfl⟩ | ⟨e1, -, rfl, rfl⟩
  · have eo : own = 7 := by omega
    have ex : x = 29 := by omega
    subst eo; subst ex
    exact ⟨hE.1, nestI_52, by decide +kernel, by decide +kernel⟩
  · have eo : own = 5 := by omega
    have ex : x = 11 := by omega
    subst eo; subst ex
    exact ⟨hE.2.1, nestI_0, by decide +kernel, by decide +kernel⟩
theorem recv_lt {G : pG} {o w : Nat} (h : gOk G) (hk : gK G o = w) (hw : w < 12 ∨ w = 26) : w < 11 ∧ o < gN G := by
  by_cases hlt : o < gN G
  · refine ⟨?_, hlt⟩
    rcases h.2.2.1 o hlt with h1 | h1 | h1 | h1 | h1 <;> omega
  · rcases h.2.1 o (by omega) with h1 | h1 <;> omega
theorem s_call {n d' : Nat} {i : Instr} {st : List Value} {M M1 : pM} {r1 : pR} {q : Nat × List Value × List Value} {ent : MethodName × ByteArray × Nat × Option FieldType × Nat × List (Nat × Instr)} (hP : SndP l ad N0 SL xs cs D n) (hT : ThrOk l ad N0 SL xs cs D) (C : Cx ad N0 SL xs cs D p s m args meth c mid c0)
    (hf : d' + 1 + 10 ≤ R.frames) (hlo : 64 * (d' + 1 + 1) + 100 ≤ R.locals) (hW : Wd ad SL xs cs D M H) (hS : va_S (frA N0) s.heap H locs) (hsz : ls.size = c.maxLocals) (hc : cOp (mOw mid) i st M = some q) (hpl : mts.lookup q.1 = some ent) (hn : (entA q.2.1).length ≤ mMx q.1) (hd : decode (mCd mid) pc = .ok (i, ilen i))
    (hex : exN n d' q.1 0 (entL q.2.1 (mMx q.1)) [] M = some (r1, M1)) (hcn : c0 + cells = gC M.2.2.2) (hsn : s0 + slots = gS M.2.2.2) (hcc : gC M1.2.2.2 ≤ c0 + R.cells) (hcs : gS M1.2.2.2 ≤ s0 + R.slots) (hsp : isSp i = true → ∃ v, r1 = .inl v)
    (kr : ∀ (v : Option Value) (H1 : Heap) (locs1 : List Loc), r1 = .inl v → Wd ad SL xs cs D M1 H1 → va_S (frA N0) s.heap H1 locs1 → W p l e R s m args below meth c H1 locs1 (cells + (gC M1.2.2.2 - gC M.2.2.2)) (slots + (gS M1.2.2.2 - gS M.2.2.2)) Q (F0 m (pc + 3) ls ((v.toList ++ q.2.2).map (trV ad))))
    (kx : ∀ (e1 : Nat) (qx : Addr) (ce : Cell) (H1 : Heap) (locs1 : List Loc), r1 = .inr e1 → Wd ad SL xs cs D M1 H1 → va_S (frA N0) s.heap H1 locs1 → H1[qx]? = some ce → ce.vm = .none → s.vm.findClass (xcN e1) = some ce.cls → vx_W p l e R s m args below meth c H1 locs1 (cells + (gC M1.2.2.2 - gC M.2.2.2)) (slots + (gS M1.2.2.2 - gS M.2.2.2)) Q (F0 m pc ls (q.2.2.map (trV ad))) qx) :
    W p l e R s m args below meth c H locs cells slots Q (F0 m pc ls (st.map (trV ad))) := by
  obtain ⟨hx, hb, hmx, -, -, hts, hown, -, hK, hN0, hN1, hE, had⟩ := C
  have hM := plainMet hP had hpl hn hex (fun p e s m args below meth c => hT d' q.1 M M1 r1 p e s m args below meth c)
  have hle := exN_le _ _ _ _ _ _ _ _ _ hex
  obtain ⟨he, w1, w2, w3, w4, w5, w6, w7, w8⟩ := pl_ok hpl
  dsimp only at w1 w2 w3 w4 w5 w6 w7 w8
  have eY : mY q.1 = ent.1 := by unfold mY; rw [he]; rfl
  have eO : mOw q.1 = ent.2.2.2.2.1 := by unfold mOw; rw [he]; rfl
  have eX : mMx q.1 = ent.2.2.1 := by unfold mMx; rw [he]; rfl
  have hini : (Cond.initialized (mY q.1).cls).before args s = true := by rw [eY]; exact hts _ w3
  have hcl1 : (mY q.1).cls ≠ "java/lang/invoke/MethodHandle" := by rw [eY]; exact w5
  have hcl2 : (mY q.1).cls ≠ "java/lang/invoke/VarHandle" := by rw [eY]; exact w6
  have hR : (rmD d' (gC M1.2.2.2 - gC M.2.2.2) (gS M1.2.2.2 - gS M.2.2.2)).frames + 1 ≤ R.frames ∧ 8 + (mMx q.1 + 11) + (rmD d' (gC M1.2.2.2 - gC M.2.2.2) (gS M1.2.2.2 - gS M.2.2.2)).locals ≤ R.locals := by
    rw [eX]
    exact ⟨by show d' + 10 + 1 ≤ _; omega, by show 8 + (_ + 11) + (64 * (d' + 1) + 100) ≤ _; omega⟩
  have hcap : cells + (gC M1.2.2.2 - gC M.2.2.2) ≤ R.cells ∧ slots + (gS M1.2.2.2 - gS M.2.2.2) ≤ R.slots := by
    have := hle.1; have := hle.2
    omega
  refine W.sized (fun hz => ?_)
  have hkept : ∀ a : Nat, a < s.heap.size → ¬ N0 ≤ a → H[a]? = s.heap[a]? := fun a h1 h2 => hS.2.1 a h1 h2
  have hpre : ∀ (a : List Value), a = q.2.1 → ∀ U : State, U.heap = H → s.WarmedH U.vm → pPc ad N0 SL xs cs D M q.2.1 (a.map (trV ad)).toArray U := by
    intro a ha U hU hWm
    subst ha
    have hz2 := hS.1
    exact ⟨rfl, by rw [hU]; exact hW, va_K.moved hWm.alike hK, by rw [hU]; omega, by rw [hU]; omega, by rw [hU]; exact (hE.kept hN0 hkept).warm hWm⟩
  -- behind the call
  have behind : ∀ (restM : List Value), restM = q.2.2.map (trV ad) → vx_Run p l e R s m args below meth c H locs cells slots (gC M1.2.2.2 - gC M.2.2.2) (gS M1.2.2.2 - gS M.2.2.2) (F0 m pc ls (st.map (trV ad))) restM (pQc ad N0 SL xs cs D r1 M1 (q.2.1.map (trV ad)).toArray) (pXC ad N0 SL xs cs D r1 M1) (frA N0) →
      W p l e R s m args below meth c H locs cells slots Q (F0 m pc ls (st.map (trV ad))) := by
    intro restM hrest hr T hT X
    subst hrest
    rcases hr T hT X with ⟨v, st₀, t, T', L, h0, X', hL, e1, e2, ⟨⟨v1, hv1, ho⟩, hW1, hF⟩, stp⟩ | ⟨qx, st₀, t, T', L, E, ce, h0, X', hL, e1, e2, ⟨⟨e3, he3, rfl⟩, hW1, hF⟩, hce, hcv, hcl, stp⟩
    · obtain ⟨k1, k2, k3⟩ := vx_keep h0 e1 hS (A1 := frA N0) (fun q _ h => h) (fun q h => h) hL hF
      have hv : v = v1.map (trV ad) := by cases ho; rfl
      have hk := kr v1 T'.heap (locs ++ L) hv1 (by rw [e1]; exact hW1) k3
      have e9 : v.toList ++ q.2.2.map (trV ad) = (v1.toList ++ q.2.2).map (trV ad) := by subst hv; cases v1 <;> simp
      obtain ⟨t2, a1, b1⟩ := hk T' rfl X'
      refine ⟨t2, stp t2 ?_, b1⟩
      show Steps _ _ _ (T'.setTop { (F0 m pc ls (st.map (trV ad))) with pc := pc + 3, stack := v.toList ++ q.2.2.map (trV ad) }) t2
      rw [e9]
      exact a1
    · obtain ⟨k1, k2, k3⟩ := vx_keep h0 e1 hS (A1 := frA N0) (fun q _ h => h) (fun q h => h) hL hF
      have hk := kx e3 qx ce T'.heap (locs ++ L) he3 (by rw [e1]; exact hW1) k3 (by rw [e1]; exact hce) hcv hcl
      obtain ⟨t2, a1, b1⟩ := hk T' rfl X'
      exact ⟨t2, stp.trans a1, b1⟩
  unfold cOp at hc
  split at hc
  · rename_i x
    split at hc
    · rename_i cm na hl9
      split at hc
      · rename_i hcc9
        cases hc
        obtain ⟨hm, e1, e2⟩ := lkp_mem hl9
        obtain ⟨v1, v2, v3⟩ := mT_ok _ hm
        dsimp only at v1 v2 v3
        rw [e1, e2] at v1
        refine behind _ rfl (vx_runS (As := ((st.take na).reverse).map (trV ad)) (rest := (st.drop na).map (trV ad)) ⟨hx, hb, hmx, hown, hts⟩ hM ⟨callB_of na hts (pl_good hpl) rfl rfl rfl hini (hts _ v1) ⟨hcl1, hcl2, v3⟩ hR, hts _ v2⟩ ⟨pPc_blind M _, hpre _ rfl⟩ rfl ?_ (hsz.trans hmx) ?_ ?_ hd hcap)
        · simp; omega
        · rw [← List.map_reverse, List.reverse_reverse, ← List.map_append, List.take_append_drop]
        · show 2 * 0 + _ ≤ 8
          rw [stW_tr]
          omega
      · cases hc
    · cases hc
  · rename_i x
    split at hc
    · rename_i cm na hl9
      split at hc
      · rename_i o r hdrop
        split at hc
        · rename_i hcc9
          cases hc
          obtain ⟨hm, e1, e2⟩ := lkp_mem hl9
          obtain ⟨v1, v2, v3, v4⟩ := mT_ok _ hm
          dsimp only at v1 v2 v3 v4
          rw [e1, e2] at v1
          have hna : na ≤ st.length := by
            apply Nat.le_of_not_lt
            intro q9
            have : st.drop na = [] := List.drop_eq_nil_of_le (by omega)
            rw [this] at hdrop
            cases hdrop
          have hcell : ∃ cellB : Cell, H[ad o]? = some cellB ∧ cellB.vm.isStatics = false ∧ s.vm.findClass (mY cm).cls = some cellB.cls := by
            have hk := hcc9.1
            have ho := pl_own hpl
            obtain ⟨hlt, hlt2⟩ := recv_lt hW.2.1 hk ho
            have hg := mkW_get (ad := ad) (cs := cs) hlt2
            rw [cellE_obj hlt hk] at hg
            have hr := va_recv hK hW.1 (vwCl_at _ hlt) hg
            rw [eY, w2, ← eO]
            exact hr
          refine behind _ rfl (vx_runV (C := (mY cm).cls) (b := ad o) (As := ((st.take na).reverse).map (trV ad)) (rest := r.map (trV ad)) ⟨hx, hb, hmx, hown, hts⟩ hM ⟨callB_of na hts (pl_good hpl) rfl rfl rfl hini (hts _ v1) ⟨hcl1, hcl2, v4⟩ hR, hts _ v2, hts _ v3⟩ ⟨pPc_blind M _, hcell, hpre _ rfl⟩ rfl ?_ (hsz.trans hmx) ?_ ?_ hd hcap)
          · simp; omega
          · rw [← List.map_reverse, List.reverse_reverse, show Value.ref (ad o) :: r.map (trV ad) = (st.drop na).map (trV ad) by rw [hdrop]; rfl, ← List.map_append, List.take_append_drop]
          · show 2 * 0 + _ ≤ 8
            rw [stW_tr]
            omega
        · cases hc
      · cases hc
    · cases hc
  · rename_i x
    have hex2 := hsp rfl
    have hM2 : Met l (mY q.1) (Cond.code (mY q.1) (mCd q.1) (mMx q.1) (mRt q.1) :: TBg) (rmD d' (gC M1.2.2.2 - gC M.2.2.2) (gS M1.2.2.2 - gS M.2.2.2)) (pPc ad N0 SL xs cs D M q.2.1) (pQc ad N0 SL xs cs D r1 M1) (gC M1.2.2.2 - gC M.2.2.2) (gS M1.2.2.2 - gS M.2.2.2) (frA N0) := by
      refine met_of (fun E st t hX => ?_) hM
      obtain ⟨v, hv⟩ := hex2
      obtain ⟨⟨e1, he1, -⟩, -⟩ := hX
      rw [hv] at he1
      cases he1
    split at hc
    · rename_i cm na hl9
      split at hc
      · rename_i o r hdrop
        split at hc
        · rename_i hcc9
          cases hc
          obtain ⟨hm, e1, e2⟩ := lkp_mem hl9
          obtain ⟨v1, v2, v3, v4⟩ := mT_ok _ hm
          dsimp only at v1 v2 v3 v4
          rw [e1, e2] at v1
          have hna : na ≤ st.length := by
            apply Nat.le_of_not_lt
            intro q9
            have : st.drop na = [] := List.drop_eq_nil_of_le (by omega)
            rw [this] at hdrop
            cases hdrop
          have hrt := pl_rt hpl v3
          dsimp only at hM2
          have hgd := pl_good hpl
          rw [hrt] at hM2 hgd
          refine behind _ rfl (run_vx (va_runI (b := ad o) (As := ((st.take na).reverse).map (trV ad)) (rest := r.map (trV ad)) ⟨hx, hb, hmx, hown, hts⟩ hM2 ⟨callB_of na hts hgd rfl rfl rfl hini (hts _ v1) ⟨hcl1, hcl2, v4⟩ hR, v3, hts _ v2⟩ ⟨pPc_blind M _, hpre _ rfl⟩ rfl ?_ (hsz.trans hmx) ?_ ?_ hd hcap))
          · simp; omega
          · rw [← List.map_reverse, List.reverse_reverse, show Value.ref (ad o) :: r.map (trV ad) = (st.drop na).map (trV ad) by rw [hdrop]; rfl, ← List.map_append, List.take_append_drop]
          · show 2 * 0 + _ ≤ 8
            rw [stW_tr]
            omega
        · cases hc
      · cases hc
    · rename_i cm na hl9
      split at hc
      · rename_i o r hdrop
        split at hc
        · rename_i hcc9
          cases hc
          obtain ⟨hm, e1, e2⟩ := lkp_mem hl9
          have hna : na ≤ st.length := by
            apply Nat.le_of_not_lt
            intro q9
            have : st.drop na = [] := List.drop_eq_nil_of_le (by omega)
            rw [this] at hdrop
            cases hdrop
          obtain ⟨v1, v2, v3, v4⟩ := nest_ok hm e1 e2 hE.2.2.2.2.2.2
          have hrt := pl_rt hpl v3
          dsimp only at hM2
          have hgd := pl_good hpl
          rw [hrt] at hM2 hgd
          refine behind _ rfl (run_vx (va_runIN (host := "TableTower") (b := ad o) (As := ((st.take na).reverse).map (trV ad)) (rest := r.map (trV ad)) ⟨hx, hb, hmx, hown, hts⟩ hM2 ⟨va_cnB na hts hgd rfl rfl rfl v1 hini ⟨hcl1, hcl2, v4⟩ hR, v3, hts _ v2⟩ ⟨pPc_blind M _, hpre _ rfl⟩ rfl ?_ (hsz.trans hmx) ?_ ?_ hd hcap))
          · simp; omega
          · rw [← List.map_reverse, List.reverse_reverse, show Value.ref (ad o) :: r.map (trV ad) = (st.drop na).map (trV ad) by rw [hdrop]; rfl, ← List.map_append, List.take_append_drop]
          · show 2 * 0 + _ ≤ 8
            rw [stW_tr]
            omega
        · cases hc
      · cases hc
    · cases hc
  · cases hc
end SndG
