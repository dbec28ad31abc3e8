/-! soundness: one more step -/
section SndH
variable {p : Program} {l : Launch} {e : Env} {R : Room} {s : State} {m : MethodId} {args : Array Value} {below : List Frame} {meth : Method} {c : Code} {H : Heap} {locs : List Loc} {cells slots : Nat} {Q : State → Prop}
variable {pc : Nat} {ls : Array Slot} {ad : Nat → Nat} {N0 SL : Nat} {xs : Nat → Int32} {cs : pCs} {D : va_G} {mid c0 s0 : Nat}
/-- members of constant texts go through on the machine -/
def StrOk (l : Launch) (ad : Nat → Nat) (N0 SL : Nat) (xs : Nat → Int32) (cs : pCs) (D : va_G) : Prop :=
  ∀ (p : Program) (e : Env) (R : Room) (s : State) (m : MethodId) (args : Array Value) (below : List Frame) (meth : Method) (c : Code) (H : Heap) (locs : List Loc) (cells slots : Nat) (Q : State → Prop) (ls : Array Slot) (mid pc c0 : Nat) (i : Instr) (st st' : List Value),
  Cx ad N0 SL xs cs D p s m args meth c mid c0 → va_S (frA N0) s.heap H locs → ls.size = c.maxLocals → hStr (mOw mid) i st = some st' → decode (mCd mid) pc = .ok (i, ilen i) → 10 ≤ R.frames → 100 ≤ R.locals → cells ≤ R.cells → slots ≤ R.slots →
  (∀ (H1 : Heap) (locs1 : List Loc), H1 = H → locs1 = locs → W p l e R s m args below meth c H1 locs1 cells slots Q (F0 m (pc + ilen i) ls (st'.map (trV ad)))) → W p l e R s m args below meth c H locs cells slots Q (F0 m pc ls (st.map (trV ad)))
theorem sw_none {i : Instr} (h : isSw i = true) (mid pc : Nat) (L st : List Value) (M : pM) : sOp i st = none ∧ lOp i L = none ∧ tOp i L st = none ∧ mOp mid i st M = none ∧ rOp mid i st = none ∧ xOp mid pc i st = none ∧ cOp (mOw mid) i st M = none := by
  rcases isSw_form h with ⟨a, b, c, d, rfl⟩ | ⟨a, b, rfl⟩
  · refine ⟨rfl, rfl, rfl, ?_, rfl, rfl, rfl⟩
    have h1 : hLd (.tableswitch a b c d) st M = none := by unfold hLd; split <;> rfl
    have h2 : hSt (.tableswitch a b c d) st M = none := by unfold hSt; split <;> rfl
    simp only [mOp, h1, h2, hNew, hLdc, hJdk, hStr]
  · refine ⟨rfl, rfl, rfl, ?_, rfl, rfl, rfl⟩
    have h1 : hLd (.lookupswitch a b) st M = none := by unfold hLd; split <;> rfl
    have h2 : hSt (.lookupswitch a b) st M = none := by unfold hSt; split <;> rfl
    simp only [mOp, h1, h2, hNew, hLdc, hJdk, hStr]
theorem s_mOp {i : Instr} {st : List Value} {M : pM} {q : List Value × pM} (hStrOk : StrOk l ad N0 SL xs cs D) (C : Cx ad N0 SL xs cs D p s m args meth c mid c0) (hf : 10 ≤ R.frames) (hlo : 100 ≤ R.locals) (hW : Wd ad SL xs cs D M H) (hS : va_S (frA N0) s.heap H locs) (hsz : ls.size = c.maxLocals) (h : mOp mid i st M = some q) (hd : decode (mCd mid) pc = .ok (i, ilen i))
    (hcn : c0 + cells = gC M.2.2.2) (hsn : s0 + slots = gS M.2.2.2) (hcc : gC q.2.2.2.2 ≤ c0 + R.cells) (hcs : gS q.2.2.2.2 ≤ s0 + R.slots)
    (k : ∀ (H1 : Heap) (locs1 : List Loc) (cells1 slots1 : Nat), Wd ad SL xs cs D q.2 H1 → va_S (frA N0) s.heap H1 locs1 → c0 + cells1 = gC q.2.2.2.2 → s0 + slots1 = gS q.2.2.2.2 → W p l e R s m args below meth c H1 locs1 cells1 slots1 Q (F0 m (pc + ilen i) ls (q.1.map (trV ad)))) : W p l e R s m args below meth c H locs cells slots Q (F0 m pc ls (st.map (trV ad))) := by
  have hle := mOp_le h
  have hc1 : cells ≤ R.cells := by have := hle.1; omega
  have hs1 : slots ≤ R.slots := by have := hle.2; omega
  unfold mOp at h
  split at h
  · refine s_get C hW h hd (fun hq => ?_)
    rw [hq] at k
    exact k H locs cells slots hW hS hcn hsn
  · exact s_put C hW hS h hd (fun H1 locs1 hW1 hS1 e1 e2 => k H1 locs1 cells slots hW1 hS1 (by rw [e1]; exact hcn) (by rw [e2]; exact hsn))
  · split at h
    · rename_i st' hl
      cases h
      exact s_ld C hW hS hl hd (k H locs cells slots hW hS hcn hsn)
    · split at h
      · rename_i q9 hs
        cases h
        exact s_st C hW hS hs hd (fun H1 locs1 hW1 hS1 e1 e2 => k H1 locs1 cells slots hW1 hS1 (by rw [e1]; exact hcn) (by rw [e2]; exact hsn))
      · split at h
        · rename_i q9 hs
          cases h
          refine s_new C hW hS hs hd hcn hcc (by have := hle.2; omega) (fun H1 hW1 hS1 e1 e2 => k H1 locs _ _ hW1 hS1 (by omega) (by omega))
        · split at h
          · rename_i v hs
            cases h
            exact s_ldc C hs hd (k H locs cells slots hW hS hcn hsn)
          · split at h
            · rename_i q9 hs
              cases h
              exact s_jdk C hW hS hsz hs hd hf hlo hc1 hs1 (fun H1 locs1 hW1 hS1 e1 e2 => k H1 locs1 cells slots hW1 hS1 (by rw [e1]; exact hcn) (by rw [e2]; exact hsn))
            · split at h
              · rename_i st' hs
                cases h
                exact hStrOk p e R s m args below meth c H locs cells slots Q ls mid pc c0 i st st' C hS hsz hs hd hf hlo hc1 hs1 (fun H1 locs1 e1 e2 => by subst e1; subst e2; exact k H1 locs1 cells slots hW hS hcn hsn)
              · cases h
/-- a call of a method with handlers goes through on the machine -/
def HelpOk (l : Launch) (ad : Nat → Nat) (N0 SL : Nat) (xs : Nat → Int32) (cs : pCs) (D : va_G) (n : Nat) : Prop :=
  ∀ (p : Program) (e : Env) (R : Room) (s : State) (m : MethodId) (args : Array Value) (below : List Frame) (meth : Method) (c : Code) (H : Heap) (locs : List Loc) (cells slots : Nat) (Q : State → Prop) (ls : Array Slot) (mid pc c0 s0 d' : Nat) (i : Instr) (st : List Value) (M M1 : pM) (r1 : pR) (q : Nat × List Value × List Value),
  Cx ad N0 SL xs cs D p s m args meth c mid c0 → d' + 1 + 10 ≤ R.frames → 64 * (d' + 1 + 1) + 100 ≤ R.locals → Wd ad SL xs cs D M H → va_S (frA N0) s.heap H locs → ls.size = c.maxLocals → cOp (mOw mid) i st M = some q → mts.lookup q.1 = none → (entA q.2.1).length ≤ mMx q.1 → decode (mCd mid) pc = .ok (i, ilen i) →
  exN n d' q.1 0 (entL q.2.1 (mMx q.1)) [] M = some (r1, M1) → c0 + cells = gC M.2.2.2 → s0 + slots = gS M.2.2.2 → gC M1.2.2.2 ≤ c0 + R.cells → gS M1.2.2.2 ≤ s0 + R.slots →
  (∀ (v : Option Value) (H1 : Heap) (locs1 : List Loc), r1 = .inl v → Wd ad SL xs cs D M1 H1 → va_S (frA N0) s.heap H1 locs1 → W p l e R s m args below meth c H1 locs1 (cells + (gC M1.2.2.2 - gC M.2.2.2)) (slots + (gS M1.2.2.2 - gS M.2.2.2)) Q (F0 m (pc + 3) ls ((v.toList ++ q.2.2).map (trV ad)))) →
  (∀ (e1 : Nat) (qx : Addr) (ce : Cell) (H1 : Heap) (locs1 : List Loc), r1 = .inr e1 → Wd ad SL xs cs D M1 H1 → va_S (frA N0) s.heap H1 locs1 → H1[qx]? = some ce → ce.vm = .none → s.vm.findClass (xcN e1) = some ce.cls → vx_W p l e R s m args below meth c H1 locs1 (cells + (gC M1.2.2.2 - gC M.2.2.2)) (slots + (gS M1.2.2.2 - gS M.2.2.2)) Q (F0 m pc ls (q.2.2.map (trV ad))) qx) →
  W p l e R s m args below meth c H locs cells slots Q (F0 m pc ls (st.map (trV ad)))
theorem tOp_len {i : Instr} {L st : List Value} {q : List Value × List Value} (h : tOp i L st = some q) : q.1.length = L.length := by
  have h1 : ∀ {k : Nat} {v : Value} {L' : List Value}, stL L k v = some L' → L'.length = L.length := by
    intro k v L' hs
    unfold stL at hs
    split at hs
    · cases hs; simp
    · cases hs
  have h2 : ∀ {k : Nat} {v : Value} {L' : List Value}, stLL L k v = some L' → L'.length = L.length := by
    intro k v L' hs
    unfold stLL at hs
    split at hs
    · cases hs; simp
    · cases hs
  unfold tOp at h
  split at h <;> first | (split at h <;> first | (obtain ⟨L', hs, rfl⟩ := Option.map_eq_some_iff.mp h; first | exact h1 hs | exact h2 hs) | cases h) | cases h
theorem cOp_len {own : Nat} {i : Instr} {st : List Value} {M : pM} {q : Nat × List Value × List Value} (h : cOp own i st M = some q) : ilen i = 3 := by
  unfold cOp at h
  split at h <;> first | rfl | cases h
theorem snd_step {n : Nat} (hP : SndP l ad N0 SL xs cs D n) (hT : ThrOk l ad N0 SL xs cs D) (hSt : StrOk l ad N0 SL xs cs D) (hHp : HelpOk l ad N0 SL xs cs D n) : SndP l ad N0 SL xs cs D (n + 1) := by
  intro d mid pc L st M r M' h p e R s m args below meth c H locs cells slots Q ls c0 s0 C hf hlo hW hS hl hLm hcn hsn hcc hcs hret hxt hthr hcat
  have hsz : ls.size = c.maxLocals := by rw [hl.1, hLm, C.2.2.1]
  unfold exN at h
  split at h
  · cases h
  · rename_i i hi
    obtain ⟨len, hdl9, hlen⟩ := code_ok hi
    have hd1 : isSw i = false → decode (mCd mid) pc = .ok (i, ilen i) := fun hw => by
      rcases hlen with rfl | h9
      · exact hdl9
      · rw [hw] at h9; cases h9
    have hsw : ∀ {P : Prop}, (isSw i = false → P) → (isSw i = true → False) → P := fun h1 h2 => by
      cases hb : isSw i with
      | false => exact h1 hb
      | true => exact (h2 hb).elim
    split at h
    · rename_i st' hs
      refine hsw (fun hw => ?_) (fun hw => by rw [(sw_none hw mid pc L st M).1] at hs; cases hs)
      exact s_sOp C.1 C.2.1 (hd1 hw) hs (hP d mid _ L st' M r M' h p e R s m args below meth c H locs cells slots Q ls c0 s0 C hf hlo hW hS hl hLm hcn hsn hcc hcs hret hxt hthr hcat)
    · split at h
      · rename_i v hs
        refine hsw (fun hw => ?_) (fun hw => by rw [(sw_none hw mid pc L st M).2.1] at hs; cases hs)
        exact s_lOp C.1 C.2.1 (hd1 hw) hs hl (hP d mid _ L (v :: st) M r M' h p e R s m args below meth c H locs cells slots Q ls c0 s0 C hf hlo hW hS hl hLm hcn hsn hcc hcs hret hxt hthr hcat)
      · split at h
        · rename_i q hs
          refine hsw (fun hw => ?_) (fun hw => by rw [(sw_none hw mid pc L st M).2.2.1] at hs; cases hs)
          exact s_tOp C.1 C.2.1 (hd1 hw) hs hl (fun ls' hl' => hP d mid _ q.1 q.2 M r M' h p e R s m args below meth c H locs cells slots Q ls' c0 s0 C hf hlo hW hS hl' (by rw [tOp_len hs]; exact hLm) hcn hsn hcc hcs hret hxt hthr hcat)
        · split at h
          · rename_i q hs
            exact s_jOp C.1 C.2.1 hdl9 hlen hs (hP d mid _ L q.2 M r M' h p e R s m args below meth c H locs cells slots Q ls c0 s0 C hf hlo hW hS hl hLm hcn hsn hcc hcs hret hxt hthr hcat)
          · split at h
            · rename_i q hs
              refine hsw (fun hw => ?_) (fun hw => by rw [(sw_none hw mid pc L st M).2.2.2.1] at hs; cases hs)
              have hle := exN_le _ _ _ _ _ _ _ _ _ h
              exact s_mOp hSt C (by omega) (by omega) hW hS hsz hs (hd1 hw) hcn hsn (Nat.le_trans hle.1 hcc) (Nat.le_trans hle.2 hcs) (fun H1 locs1 cells1 slots1 hW1 hS1 e1 e2 => hP d mid _ L q.1 q.2 r M' h p e R s m args below meth c H1 locs1 cells1 slots1 Q ls c0 s0 C hf hlo hW1 hS1 hl hLm e1 e2 hcc hcs hret hxt hthr hcat)
            · split at h
              · rename_i v hs
                cases h
                exact hret i st v pc ls H locs cells slots rfl hi hs hW hS hcn hsn
              · split at h
                · rename_i e1 hs
                  cases h
                  exact hxt i st e1 pc ls H locs cells slots M rfl hi hs rfl hW hS hcn hsn hsz
                · split at h
                  · rename_i q hs
                    refine hsw (fun hw => ?_) (fun hw => by rw [(sw_none hw mid pc L st M).2.2.2.2.2.2] at hs; cases hs)
                    split at h
                    · cases h
                    · rename_i hn
                      split at h
                      · cases h
                      · rename_i d'
                        split at h
                        · rename_i v M1 hex
                          have hle := exN_le _ _ _ _ _ _ _ _ _ h
                          have hle1 := exN_le _ _ _ _ _ _ _ _ _ hex
                          have kr : ∀ (v9 : Option Value) (H1 : Heap) (locs1 : List Loc), (Sum.inl v : pR) = .inl v9 → Wd ad SL xs cs D M1 H1 → va_S (frA N0) s.heap H1 locs1 → W p l e R s m args below meth c H1 locs1 (cells + (gC M1.2.2.2 - gC M.2.2.2)) (slots + (gS M1.2.2.2 - gS M.2.2.2)) Q (F0 m (pc + 3) ls ((v9.toList ++ q.2.2).map (trV ad))) := by
                            intro v9 H1 locs1 hv hW1 hS1
                            cases hv
                            have := hle1.1
                            have := hle1.2
                            exact hP _ mid _ L _ M1 r M' h p e R s m args below meth c H1 locs1 _ _ Q ls c0 s0 C hf hlo hW1 hS1 hl hLm (by omega) (by omega) hcc hcs hret hxt hthr hcat
                          cases hpl : mts.lookup q.1 with
                          | some ent => exact s_call hP hT C hf hlo hW hS hsz hs hpl (by omega) (hd1 hw) hex hcn hsn (Nat.le_trans hle.1 hcc) (Nat.le_trans hle.2 hcs) (fun _ => ⟨v, rfl⟩) kr (fun e1 qx ce H1 locs1 he => nomatch he)
                          | none => exact hHp p e R s m args below meth c H locs cells slots Q ls mid pc c0 s0 d' i st M M1 _ q C hf hlo hW hS hsz hs hpl (by omega) (hd1 hw) hex hcn hsn (Nat.le_trans hle.1 hcc) (Nat.le_trans hle.2 hcs) kr (fun e1 qx ce H1 locs1 he => nomatch he)
                        · rename_i e1 M1 hex
                          have hle1 := exN_le _ _ _ _ _ _ _ _ _ hex
                          split at h
                          · cases h
                          · rename_i hnsp
                            have kx : gLe M1 M' → (∀ (e2 : Nat) (qx : Addr) (ce : Cell) (H1 : Heap) (locs1 : List Loc), (Sum.inr e1 : pR) = .inr e2 → Wd ad SL xs cs D M1 H1 → va_S (frA N0) s.heap H1 locs1 → H1[qx]? = some ce → ce.vm = .none → s.vm.findClass (xcN e2) = some ce.cls → vx_W p l e R s m args below meth c H1 locs1 (cells + (gC M1.2.2.2 - gC M.2.2.2)) (slots + (gS M1.2.2.2 - gS M.2.2.2)) Q (F0 m pc ls (q.2.2.map (trV ad))) qx) → W p l e R s m args below meth c H locs cells slots Q (F0 m pc ls (st.map (trV ad))) := by
                              intro hle kx
                              cases hpl : mts.lookup q.1 with
                              | some ent => exact s_call hP hT C hf hlo hW hS hsz hs hpl (by omega) (hd1 hw) hex hcn hsn (Nat.le_trans hle.1 hcc) (Nat.le_trans hle.2 hcs) (fun hsp => absurd hsp (by rw [Bool.not_eq_true] at hnsp; rw [hnsp]; exact Bool.false_ne_true)) (fun v9 H1 locs1 hv => nomatch hv) kx
                              | none => exact hHp p e R s m args below meth c H locs cells slots Q ls mid pc c0 s0 d' i st M M1 _ q C hf hlo hW hS hsz hs hpl (by omega) (hd1 hw) hex hcn hsn (Nat.le_trans hle.1 hcc) (Nat.le_trans hle.2 hcs) (fun v9 H1 locs1 hv => nomatch hv) kx
                            split at h
                            · rename_i hh hho
                              split at h
                              · rename_i L2 hst2
                                have hle := exN_le _ _ _ _ _ _ _ _ _ h
                                refine kx hle (fun e2 qx ce H1 locs1 he hW1 hS1 hq hv hcl => ?_)
                                cases he
                                have := hle1.1
                                have := hle1.2
                                refine hcat e1 hh qx ce pc L L2 ls _ H1 locs1 _ _ hho hst2 hl hLm hq hv hcl (fun ls2 hl2 => ?_)
                                exact hP _ mid _ _ [] M1 r M' h p e R s m args below meth c H1 locs1 _ _ Q ls2 c0 s0 C hf hlo hW1 hS1 hl2 (by rw [← hLm]; unfold stL at hst2; split at hst2; (cases hst2; simp); (cases hst2)) (by omega) (by omega) hcc hcs hret hxt hthr hcat
                              · cases h
                            · rename_i hho
                              split at h
                              · rename_i hem
                                cases h
                                refine kx (gLe.rf _) (fun e2 qx ce H1 locs1 he hW1 hS1 hq hv hcl => ?_)
                                cases he
                                have := hle1.1
                                have := hle1.2
                                exact hthr e1 qx ce pc ls _ H1 locs1 _ _ rfl (List.isEmpty_iff.mp hem) hW1 hS1 (by omega) (by omega) hq hv hcl
                              · cases h
                        · cases h
                  · cases h
end SndH
