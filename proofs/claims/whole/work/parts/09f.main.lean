/-! soundness of a run: what an induction on its length needs -/
section SndF
theorem code_ok {mid pc : Nat} {i : Instr} (h : (pCode mid).lookup pc = some i) : ∃ len, decode (mCd mid) pc = .ok (i, len) ∧ (len = ilen i ∨ isSw i = true) := by
  unfold pCode at h
  cases he : mEnt mid with
  | none => rw [he] at h; cases h
  | some ent =>
    rw [he] at h
    have hm := lookup_mem _ _ _ he
    have ha := all_dm _ hm
    have hq := List.all_eq_true.mp ha _ (lookup_mem _ _ _ h)
    have hc : mCd mid = ent.2.1 := by unfold mCd; rw [he]; rfl
    rw [hc]
    unfold dB at hq
    dsimp only at hq
    split at hq
    · rename_i j len hd
      simp only [Bool.and_eq_true, Bool.or_eq_true, decide_eq_true_eq] at hq
      obtain ⟨rfl, h2⟩ := hq
      exact ⟨len, hd, h2⟩
    · cases hq
theorem lookup_left {α : Type} : ∀ (T U : List (Nat × α)) (k : Nat) (r : α), T.lookup k = some r → (T ++ U).lookup k = some r
  | [], _, _, _, h => nomatch h
  | (a, b) :: T, U, k, r, h => by
    rw [List.cons_append, List.lookup_cons]
    rw [List.lookup_cons] at h
    split at h
    · exact h
    · exact lookup_left T U k r h
theorem pl_ok {y : Nat} {ent : MethodName × ByteArray × Nat × Option FieldType × Nat × List (Nat × Instr)} (h : mts.lookup y = some ent) : mEnt y = some ent ∧ okMe (y, ent) :=
  ⟨lookup_left _ _ _ _ h, mts_ok _ (lookup_mem _ _ _ h)⟩
theorem isSw_form {i : Instr} (h : isSw i = true) : (∃ a b c d, i = .tableswitch a b c d) ∨ ∃ a b, i = .lookupswitch a b := by
  unfold isSw at h
  split at h
  · exact Or.inl ⟨_, _, _, _, rfl⟩
  · exact Or.inr ⟨_, _, rfl⟩
  · cases h
def rmD (d mc ms : Nat) : Room := { frames := d + 10, cells := mc, slots := ms, locals := 64 * (d + 1) + 100 }
variable {l : Launch} {ad : Nat → Nat} {N0 SL : Nat} {xs : Nat → Int32} {cs : pCs} {D : va_G}
/-- a run of n steps goes through on the machine, whatever waits behind it -/
def SndP (l : Launch) (ad : Nat → Nat) (N0 SL : Nat) (xs : Nat → Int32) (cs : pCs) (D : va_G) (n : Nat) : Prop :=
  ∀ (d mid pc : Nat) (L st : List Value) (M : pM) (r : pR) (M' : pM), exN n d mid pc L st M = some (r, M') →
  ∀ (p : Program) (e : Env) (R : Room) (s : State) (m : MethodId) (args : Array Value) (below : List Frame) (meth : Method) (c : Code) (H : Heap) (locs : List Loc) (cells slots : Nat) (Q : State → Prop) (ls : Array Slot) (c0 s0 : Nat),
  Cx ad N0 SL xs cs D p s m args meth c mid c0 → d + 10 ≤ R.frames → 64 * (d + 1) + 100 ≤ R.locals → Wd ad SL xs cs D M H → va_S (frA N0) s.heap H locs → lRel ad L ls → L.length = mMx mid →
  c0 + cells = gC M.2.2.2 → s0 + slots = gS M.2.2.2 → gC M'.2.2.2 ≤ c0 + R.cells → gS M'.2.2.2 ≤ s0 + R.slots →
  (∀ (i : Instr) (st1 : List Value) (v : Option Value) (pc1 : Nat) (ls1 : Array Slot) (H1 : Heap) (locs1 : List Loc) (cells1 slots1 : Nat), r = .inl v → (pCode mid).lookup pc1 = some i → rOp mid i st1 = some v → Wd ad SL xs cs D M' H1 → va_S (frA N0) s.heap H1 locs1 → c0 + cells1 = gC M'.2.2.2 → s0 + slots1 = gS M'.2.2.2 → W p l e R s m args below meth c H1 locs1 cells1 slots1 Q (F0 m pc1 ls1 (st1.map (trV ad)))) →
  (∀ (i : Instr) (st1 : List Value) (e1 pc1 : Nat) (ls1 : Array Slot) (H1 : Heap) (locs1 : List Loc) (cells1 slots1 : Nat) (M1 : pM), r = .inr e1 → (pCode mid).lookup pc1 = some i → xOp mid pc1 i st1 = some e1 → M' = (M1.1, M1.2.1, M1.2.2.1, gThr M1.2.2.2) → Wd ad SL xs cs D M1 H1 → va_S (frA N0) s.heap H1 locs1 → c0 + cells1 = gC M1.2.2.2 → s0 + slots1 = gS M1.2.2.2 → ls1.size = c.maxLocals → W p l e R s m args below meth c H1 locs1 cells1 slots1 Q (F0 m pc1 ls1 (st1.map (trV ad)))) →
  (∀ (e1 : Nat) (q : Addr) (ce : Cell) (pc1 : Nat) (ls1 : Array Slot) (st1 : List Value) (H1 : Heap) (locs1 : List Loc) (cells1 slots1 : Nat), r = .inr e1 → hdl mid = [] → Wd ad SL xs cs D M' H1 → va_S (frA N0) s.heap H1 locs1 → c0 + cells1 = gC M'.2.2.2 → s0 + slots1 = gS M'.2.2.2 → H1[q]? = some ce → ce.vm = .none → s.vm.findClass (xcN e1) = some ce.cls → vx_W p l e R s m args below meth c H1 locs1 cells1 slots1 Q (F0 m pc1 ls1 st1) q) →
  (∀ (e1 : Nat) (h : Nat × Nat) (q : Addr) (ce : Cell) (pc1 : Nat) (L1 L2 : List Value) (ls1 : Array Slot) (st1 : List Value) (H1 : Heap) (locs1 : List Loc) (cells1 slots1 : Nat), hOf (hdl mid) pc1 e1 = some h → stL L1 h.2 .null = some L2 → lRel ad L1 ls1 → L1.length = mMx mid → H1[q]? = some ce → ce.vm = .none → s.vm.findClass (xcN e1) = some ce.cls → (∀ ls2 : Array Slot, lRel ad L2 ls2 → W p l e R s m args below meth c H1 locs1 cells1 slots1 Q (F0 m h.1 ls2 [])) → vx_W p l e R s m args below meth c H1 locs1 cells1 slots1 Q (F0 m pc1 ls1 st1) q) →
  W p l e R s m args below meth c H locs cells slots Q (F0 m pc ls (st.map (trV ad)))
/-- a method's contract: its start, its answer, what it throws -/
def pPc (ad : Nat → Nat) (N0 SL : Nat) (xs : Nat → Int32) (cs : pCs) (D : va_G) (M : pM) (as : List Value) : Array Value → State → Prop :=
  va_Pc (as.map (trV ad)) (fun U => Wd ad SL xs cs D M U.heap ∧ va_K D vwCl (pTys cs) U ∧ N0 ≤ U.heap.size ∧ U.heap.size ≤ N0 + gC M.2.2.2 ∧ pEnv ad N0 SL xs U U.heap)
def pQc (ad : Nat → Nat) (N0 SL : Nat) (xs : Nat → Int32) (cs : pCs) (D : va_G) (r : pR) (M' : pM) : Array Value → State → Outcome → State → Prop := fun _ st o t => (∃ v, r = .inl v ∧ o = .returned (v.map (trV ad))) ∧ Wd ad SL xs cs D M' t.heap ∧ va_F (frA N0) st t
def pXC (ad : Nat → Nat) (N0 SL : Nat) (xs : Nat → Int32) (cs : pCs) (D : va_G) (r : pR) (M' : pM) : String → State → State → Prop := fun E st t => (∃ e1, r = .inr e1 ∧ E = xcN e1) ∧ Wd ad SL xs cs D M' t.heap ∧ va_F (frA N0) st t
theorem pPc_blind (M : pM) (as : List Value) : FrameBlind (pPc ad N0 SL xs cs D M as) := by
  intro a U g mk h
  obtain ⟨h1, h2, h3, h4, h5, h6⟩ := h
  exact ⟨h1, h2, va_K.moved (u := U) (U := U.calling g mk a) (Vm.Alike.refl U.vm) h3, h4, h5, h6.calling⟩
theorem mts_hdl : mts.all (fun q => (hdl q.1).isEmpty) = true := by decide +kernel
theorem pl_hdl {y : Nat} {ent : MethodName × ByteArray × Nat × Option FieldType × Nat × List (Nat × Instr)} (h : mts.lookup y = some ent) : hdl y = [] := by
  have := List.all_eq_true.mp mts_hdl _ (lookup_mem _ _ _ h)
  exact List.isEmpty_iff.mp this
theorem isLg_cat {v : Value} : isLg v = true ↔ v.category = 2 := by cases v <;> simp [isLg, Value.category]
/-- the locals at a method's entry -/
theorem ent_has : ∀ (vs : List Value) (k : Nat) (i : Nat) (v : Value), (entA vs)[i]? = some v → v ≠ .null → (k + i, trV ad v) ∈ lv_args k (vs.map (trV ad)) := by
  intro vs
  induction vs with
  | nil => intro k i v h; cases h
  | cons w vs ih =>
    intro k i v h hn
    unfold entA at h
    rw [List.map_cons]
    unfold lv_args
    rw [trV_cat]
    split at h
    · rename_i hlg
      rw [if_pos (isLg_cat.mp hlg)]
      match i, h with
      | 0, h => cases h; exact List.mem_cons_self
      | 1, h => cases h; exact absurd rfl hn
      | j + 2, h =>
        have h2 : (entA vs)[j]? = some v := h
        have := ih (k + 2) j v h2 hn
        rw [show k + 2 + j = k + (j + 2) by omega] at this
        exact List.mem_cons_of_mem _ this
    · rename_i hlg
      rw [if_neg (fun q => hlg (isLg_cat.mpr q))]
      match i, h with
      | 0, h => cases h; exact List.mem_cons_self
      | j + 1, h =>
        have h2 : (entA vs)[j]? = some v := h
        have := ih (k + 1) j v h2 hn
        rw [show k + 1 + j = k + (j + 1) by omega] at this
        exact List.mem_cons_of_mem _ this
theorem ent_len (vs : List Value) : (lg_sl (vs.map (trV ad))).length = (entA vs).length := by
  induction vs with
  | nil => rfl
  | cons w vs ih =>
    unfold entA
    rw [List.map_cons]
    have e : lg_sl (trV ad w :: vs.map (trV ad)) = (if (trV ad w).category = 2 then [.val (trV ad w), .second] else [.val (trV ad w)]) ++ lg_sl (vs.map (trV ad)) := by simp [lg_sl]
    rw [e, List.length_append, ih, trV_cat]
    by_cases h : w.category = 2
    · rw [if_pos h, if_pos (isLg_cat.mpr h)]; simp; omega
    · rw [if_neg h, if_neg (fun q => h (isLg_cat.mp q))]; simp; omega
theorem ent_rel {vs : List Value} {n : Nat} (h : (entA vs).length ≤ n) : lRel ad (entL vs n) ((lg_sl (vs.map (trV ad)) ++ List.replicate (n - (lg_sl (vs.map (trV ad))).length) Slot.unset).toArray) ∧ (entL vs n).length = n := by
  have hl : (entL vs n).length = n := by unfold entL; simp; omega
  have he := lv_entry (vs.map (trV ad)) (n := n) (by rw [ent_len]; exact h)
  refine ⟨⟨by rw [he.1, hl], he.2.1, fun k v hk hn => ?_⟩, hl⟩
  unfold entL at hk
  by_cases hlt : k < (entA vs).length
  · rw [List.getElem?_append_left hlt] at hk
    have := ent_has (ad := ad) vs 0 k v hk hn
    rw [Nat.zero_add] at this
    exact he.2.2 _ this
  · rw [List.getElem?_append_right (by omega)] at hk
    rw [List.getElem?_replicate] at hk
    split at hk
    · cases hk; exact absurd rfl hn
    · cases hk
theorem rOp_sw {mid : Nat} {i : Instr} {st : List Value} {v : Option Value} (h : rOp mid i st = some v) : isSw i = false := by
  unfold rOp at h
  split at h <;> first | rfl | cases h
/-- the contract of a plain method, from its run -/
theorem plainMet {n d y : Nat} {as : List Value} {M M' : pM} {r : pR} {ent : MethodName × ByteArray × Nat × Option FieldType × Nat × List (Nat × Instr)} (hP : SndP l ad N0 SL xs cs D n) (had : ∀ i, i < 900 → ad i = N0 + i) (hy : mts.lookup y = some ent) (hn : (entA as).length ≤ mMx y) (h : exN n d y 0 (entL as (mMx y)) [] M = some (r, M'))
    (hthrow : ∀ (p : Program) (e : Env) (s : State) (m : MethodId) (args : Array Value) (below : List Frame) (meth : Method) (c : Code), Cx ad N0 SL xs cs D p s m args meth c y (gC M.2.2.2) → (∀ x ∈ c.exceptionTable.toList, False) →
      ∀ (i : Instr) (st1 : List Value) (e1 pc1 : Nat) (ls1 : Array Slot) (H1 : Heap) (locs1 : List Loc) (cells1 slots1 : Nat) (M1 : pM), r = .inr e1 → (pCode y).lookup pc1 = some i → xOp y pc1 i st1 = some e1 → M' = (M1.1, M1.2.1, M1.2.2.1, gThr M1.2.2.2) → Wd ad SL xs cs D M1 H1 → va_S (frA N0) s.heap H1 locs1 → gC M.2.2.2 + cells1 = gC M1.2.2.2 → gS M.2.2.2 + slots1 = gS M1.2.2.2 → ls1.size = c.maxLocals →
      W p l e (rmD d (gC M'.2.2.2 - gC M.2.2.2) (gS M'.2.2.2 - gS M.2.2.2)) s m args below meth c H1 locs1 cells1 slots1 (vx_MQ below (pQc ad N0 SL xs cs D r M') (pXC ad N0 SL xs cs D r M') args s (gC M'.2.2.2 - gC M.2.2.2) (gS M'.2.2.2 - gS M.2.2.2) (frA N0)) (F0 m pc1 ls1 (st1.map (trV ad)))) :
    vx_Met l (mY y) (Cond.code (mY y) (mCd y) (mMx y) (mRt y) :: TBg) (rmD d (gC M'.2.2.2 - gC M.2.2.2) (gS M'.2.2.2 - gS M.2.2.2)) (pPc ad N0 SL xs cs D M as) (pQc ad N0 SL xs cs D r M') (pXC ad N0 SL xs cs D r M') (gC M'.2.2.2 - gC M.2.2.2) (gS M'.2.2.2 - gS M.2.2.2) (frA N0) := by
  obtain ⟨he, w1, w2, w3, w4, w5, w6, w7, w8⟩ := pl_ok hy
  dsimp only at w1 w2 w3 w4 w5 w6 w7 w8
  have eY : mY y = ent.1 := by unfold mY; rw [he]; rfl
  have eC : mCd y = ent.2.1 := by unfold mCd; rw [he]; rfl
  have eO : mOw y = ent.2.2.2.2.1 := by unfold mOw; rw [he]; rfl
  have hle := exN_le _ _ _ _ _ _ _ _ _ h
  refine vx_ofW (by rw [eY]; exact w4) rfl ?_
  intro p e s m args below meth c s₁ B hml hnx hv
  obtain ⟨rfl, hW, hK, hN0, hN1, hE⟩ := hv
  have hts := atoms_spec (ws := Cond.code (mY y) (mCd y) (mMx y) (mRt y) :: TBg) B.pre
  have hown : s.vm.findClass (ownR (mOw y)) = some m.cls := by
    rw [eO, ← w2, ← eY]
    exact findClass_of_methodNamed B.named
  have C : Cx ad N0 SL xs cs D p s m (as.map (trV ad)).toArray meth c y (gC M.2.2.2) := ⟨B.exec, B.bytes, hml, B.returns, B.notSynchronized, fun w hw => hts w (List.mem_cons_of_mem _ hw), hown, fun hi => by
    have h1 := (name_of_methodNamed B.named B.method).1
    rw [h1]
    unfold isIni at hi
    exact of_decide_eq_true hi, hK, hN0, hN1, hE, had⟩
  rw [lg_entry_eq]
  obtain ⟨hrel, hlen⟩ := ent_rel (ad := ad) hn
  have hroom : (headSpec (Cond.code (mY y) (mCd y) (mMx y) (mRt y) :: TBg) (rmD d (gC M'.2.2.2 - gC M.2.2.2) (gS M'.2.2.2 - gS M.2.2.2))).room = rmD d (gC M'.2.2.2 - gC M.2.2.2) (gS M'.2.2.2 - gS M.2.2.2) := rfl
  rw [hroom]
  refine hP d y 0 (entL as (mMx y)) [] M r M' h p e (rmD d (gC M'.2.2.2 - gC M.2.2.2) (gS M'.2.2.2 - gS M.2.2.2)) s m _ below meth c s.heap [] 0 0 _ _ (gC M.2.2.2) (gS M.2.2.2) C (Nat.le_refl _) (Nat.le_refl _) hW va_S.rf hrel hlen rfl rfl (by show _ ≤ _ + (_ - _); have := hle.1; omega) (by show _ ≤ _ + (_ - _); have := hle.2; omega) ?_ (hthrow p e s m _ below meth c C hnx) ?_ ?_
  · intro i st1 v pc1 ls1 H1 locs1 cells1 slots1 hr hi hro hW1 hS1 hc1 hs1
    obtain ⟨len, hd, hlen9⟩ := code_ok hi
    have hd1 : decode (mCd y) pc1 = .ok (i, ilen i) := by
      rcases hlen9 with rfl | h9
      · exact hd
      · rw [rOp_sw hro] at h9; cases h9
    have e1 : gC M'.2.2.2 - gC M.2.2.2 = cells1 := by omega
    have e2 : gS M'.2.2.2 - gS M.2.2.2 = slots1 := by omega
    rw [e1, e2]
    refine vx_ret ?_
    have hq : ∀ t : State, t.heap = H1 → s.WarmedH t.vm → pQc ad N0 SL xs cs D r M' (as.map (trV ad)).toArray s (.returned (v.map (trV ad))) t := fun t ht _ => ⟨⟨v, hr, rfl⟩, by rw [ht]; exact hW1, hS1.F ht⟩
    have hlk : meth.locks = false := B.notSynchronized
    unfold rOp at hro
    split at hro
    · split at hro
      · split at hro
        · rename_i x hc
          cases hro
          rcases hc with hc | hc
          · exact W.iret B.exec B.bytes (by rw [B.returns]; exact hc) hq hS1.2.2 hd1 hlk
          · exact W.zret B.exec B.bytes (by rw [B.returns]; exact hc.1) (narB hc.2).1 hq hS1.2.2 hd1 hlk
        · cases hro
      · cases hro
    · split at hro
      · split at hro
        · rename_i x hc
          cases hro
          exact W.lret B.exec B.bytes (by rw [B.returns]; exact hc) hq hS1.2.2 hd1 hlk
        · cases hro
      · cases hro
    · split at hro
      · split at hro
        · rename_i hc
          cases hro
          exact W.vret B.exec B.bytes (by rw [B.returns]; exact hc) hq hS1.2.2 hd1 hlk
        · cases hro
      · cases hro
    · cases hro
  · intro e1 q ce pc1 ls1 st1 H1 locs1 cells1 slots1 hr hh hW1 hS1 hc1 hs1 hq hv hcl
    exact vx_out (fun x hx => (hnx x hx).elim) B.notSynchronized hq hv hcl (fun t ht hal => ⟨⟨e1, hr, rfl⟩, by rw [ht]; exact hW1, hS1.F ht⟩) hS1.2.2 (by omega) (by omega)
  · intro e1 hh q ce pc1 L1 L2 ls1 st1 H1 locs1 cells1 slots1 hho
    -- a plain method has no handlers
    rw [pl_hdl hy] at hho
    cases hho
end SndF
