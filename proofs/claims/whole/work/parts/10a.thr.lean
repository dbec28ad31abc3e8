section Thr13
/-! a new exception thrown at once, whose own constructor hands its text on by the constant 13 (java.util.NoSuchElementException) -/
def six13 : ByteArray := ⟨#[0x2a, 0x2b, 0xb7, 0x00, 0x0d, 0xb1]⟩
theorem s13_0 : decode six13 0 = .ok (.aload_n 0, 1) := by decide +kernel
theorem s13_1 : decode six13 1 = .ok (.aload_n 1, 1) := by decide +kernel
theorem s13_2 : decode six13 2 = .ok (.invokespecial 13, 3) := by decide +kernel
theorem s13_5 : decode six13 5 = .ok (.return_, 1) := by decide +kernel
/-- what a Throwable's field called n, of type d, wants of the class X -/
def nd_lay (X : String) : List Cond := [("cause", "Ljava/lang/Throwable;"), ("stackTrace", Jvm.Bundle.steD), ("suppressedExceptions", Jvm.Bundle.listD), ("detailMessage", "Ljava/lang/String;"), ("backtrace", "Ljava/lang/Object;")].map (fun q => .lays X Jvm.Bundle.tN q.1 q.2)
def nd_one (own : String) (ic : Nat) (X : String) : List Cond :=
  [.methodLink own ic (Jvm.Bundle.initS X), .instantiable X 6, .selects X Jvm.Bundle.tFill0 Jvm.Bundle.tFill0, .selects X Jvm.Bundle.tFill Jvm.Bundle.tFill,
   .isRef (.static Jvm.Bundle.tN "UNASSIGNED_STACK" Jvm.Bundle.steD), .isRef (.static Jvm.Bundle.tN "SUPPRESSED_SENTINEL" Jvm.Bundle.listD),
   .fieldLink Jvm.Bundle.tN 198 Jvm.Bundle.tN "backtrace" "Ljava/lang/Object;", .lays Jvm.Bundle.tN Jvm.Bundle.tN "backtrace" "Ljava/lang/Object;"]
def xAt13 (own : String) (ic : Nat) (X Y : String) (names : List String) : List Cond :=
  nd_one own ic X ++ (nd_lay X ++ (Jvm.Bundle.passSAtoms X Y 13 six13 ++ (Jvm.Bundle.chainSAtoms Y names ++ (Jvm.Bundle.throwableAtoms ++ Jvm.Bundle.throwableSAtoms))))
theorem nd_in1 {own X Y : String} {ic : Nat} {names : List String} {w : Cond} (h : w ∈ nd_one own ic X) : w ∈ xAt13 own ic X Y names := List.mem_append_left _ h
theorem nd_in2 {own X Y : String} {ic : Nat} {names : List String} {w : Cond} (h : w ∈ nd_lay X) : w ∈ xAt13 own ic X Y names := List.mem_append_right _ (List.mem_append_left _ h)
theorem nd_in3 {own X Y : String} {ic : Nat} {names : List String} {w : Cond} (h : w ∈ Jvm.Bundle.passSAtoms X Y 13 six13) : w ∈ xAt13 own ic X Y names := List.mem_append_right _ (List.mem_append_right _ (List.mem_append_left _ h))
theorem nd_in4 {own X Y : String} {ic : Nat} {names : List String} {w : Cond} (h : w ∈ Jvm.Bundle.chainSAtoms Y names) : w ∈ xAt13 own ic X Y names := List.mem_append_right _ (List.mem_append_right _ (List.mem_append_right _ (List.mem_append_left _ h)))
theorem nd_in5 {own X Y : String} {ic : Nat} {names : List String} {w : Cond} (h : w ∈ Jvm.Bundle.throwableAtoms) : w ∈ xAt13 own ic X Y names := List.mem_append_right _ (List.mem_append_right _ (List.mem_append_right _ (List.mem_append_right _ (List.mem_append_left _ h))))
theorem nd_in6 {own X Y : String} {ic : Nat} {names : List String} {w : Cond} (h : w ∈ Jvm.Bundle.throwableSAtoms) : w ∈ xAt13 own ic X Y names := List.mem_append_right _ (List.mem_append_right _ (List.mem_append_right _ (List.mem_append_right _ (List.mem_append_right _ h))))
theorem nd_lays {X n d : String} (h : (n, d) ∈ [("cause", "Ljava/lang/Throwable;"), ("stackTrace", Jvm.Bundle.steD), ("suppressedExceptions", Jvm.Bundle.listD), ("detailMessage", "Ljava/lang/String;"), ("backtrace", "Ljava/lang/Object;")]) : Cond.lays X Jvm.Bundle.tN n d ∈ nd_lay X := List.mem_map_of_mem (f := fun q : String × String => Cond.lays X Jvm.Bundle.tN q.1 q.2) h
section Cells13
variable {s : State} {args : Array Value} {C n d n' d' : String} {k c1 c2 i1 i2 : Nat} {K k1 k2 : Class} {f f' : Field}
/-- a fresh cell has room for a field that the class lays -/
theorem nd_room {v : Value} (hc : s.vm.findClass C = some k) (hK : s.vm.classes[k]? = some K) (ho : K.kind = .ordinary) (hf : s.fieldFound? Jvm.Bundle.tN n d = some (c1, k1, i1, f)) (hw : (Cond.lays C Jvm.Bundle.tN n d).before args s = true) (hv : fits f.type v = true) : Takes s (freshCell k K) f v :=
  Takes.of_laid hK ho (Cond.laysAt hc hK hf hw).1 hv
/-- two fields of other names lie in other slots -/
theorem nd_apart (hc : s.vm.findClass C = some k) (hK : s.vm.classes[k]? = some K) (hf : s.fieldFound? Jvm.Bundle.tN n d = some (c1, k1, i1, f)) (hw : (Cond.lays C Jvm.Bundle.tN n d).before args s = true) (hf' : s.fieldFound? Jvm.Bundle.tN n' d' = some (c2, k2, i2, f')) (hw' : (Cond.lays C Jvm.Bundle.tN n' d').before args s = true) (hne : f.name ≠ f'.name) : f.slot ≠ f'.slot := by
  have A := (Cond.laysAt hc hK hf hw).2
  have B := (Cond.laysAt hc hK hf' hw').2
  exact Cond.laysApart A.choose_spec.1 B.choose_spec.1 A.choose_spec.2 B.choose_spec.2 hne
/-- a method of Throwable that the class doesn't write anew is the one that a call of it takes -/
theorem nd_sel {e : Env} {l : Launch} {t : MethodName} {q : MethodId} (ha : l.admits e) (hc : s.vm.findClass C = some k) (hq : s.methodNamed? t = some q) (hr : s.methodFound? t.cls t.name t.desc = some q) (hw : (Cond.selects C t t).before args s = true) : selectMethod e.platform s.vm k q = .method q := by
  have B := Cond.selects_spec hw
  obtain ⟨b1, b2, b3, h1, h2, h3, h4, -⟩ := B
  rw [hc] at h1; rw [hr] at h2; rw [hq] at h3
  cases h1; cases h2; cases h3
  rw [Launch.admits_selectMethod ha, h4]
/-- the constructors one behind another, from the class's own up to Throwable's -/
theorem nd_chain {X Y : String} {names : List String} {pl : Platform} {top : MethodId} (hpl : pl.magicAccessors = ({} : Platform).magicAccessors) (htop : s.methodNamed? (Jvm.Bundle.initS Jvm.Bundle.tN) = some top) (hX : Jvm.Bundle.fit X = true) (hY : Jvm.Bundle.fit Y = true) (hn : ∀ n ∈ names, Jvm.Bundle.fit n = true)
    (h3 : ∀ w ∈ Jvm.Bundle.passSAtoms X Y 13 six13, w.before args s = true) (h4 : ∀ w ∈ Jvm.Bundle.chainSAtoms Y names, w.before args s = true) :
    ∃ Ps : List PassC, Ps.length = names.length + 2 ∧ (∀ P, P ∈ Ps → P.LinksS pl s) ∧ PassesOn top (Ps.map (·.toPassT)) ∧ s.methodNamed? (Jvm.Bundle.initS X) = some (firstOf top (Ps.map (·.toPassT))) := by
  obtain ⟨A, lA, nA, uA⟩ := PassC.ofS_atoms hpl (Jvm.Bundle.fit_spec hX).1 (Jvm.Bundle.fit_spec hY).2 s13_0 s13_1 s13_2 s13_5 h3
  obtain ⟨B, r, len, lB, lr, nB, uB, pr⟩ := Jvm.Bundle.chainS hpl htop names Y hY hn h4
  have ab : A.sup = B.m := by rw [uA] at nB; exact Option.some.inj nB
  refine ⟨A :: B :: r, by rw [List.length_cons, List.length_cons, len], fun P hP => ?_, ⟨ab, uB, pr⟩, nA⟩
  rcases List.mem_cons.mp hP with e | hP
  · rw [e]; exact lA
  · rcases List.mem_cons.mp hP with e | hP
    · rw [e]; exact lB
    · exact lr P hP
end Cells13
section Main13
variable {p : Program} {l : Launch} {e : Env} {R : Room} {s : State} {m₀ : MethodId} {args : Array Value} {below : List Frame} {meth : Method} {c : Code} {W : State} {locs : List Loc} {cells slots : Nat}
/-- a class's statics, where none of them may be written: what stood there stands there -/
theorem nd_stat (X : Stand p l e R s m₀ args below meth c W locs cells slots) (hl : ∀ x ∈ locs, ∀ q, s.heap[x.base]? = some q → q.vm.isStatics = false) {b : Addr} {q : Cell} (hq : s.heap[b]? = some q) (hs : q.vm.isStatics = true) :
    ∃ q' : Cell, W.heap[b]? = some q' ∧ q'.vm ≠ .unknown ∧ ∀ i : Nat, q'.slots[i]? = q.slots[i]? := by
  obtain ⟨q', h1, h2, -, h4⟩ := X.same.2.2.2.2.2 b q hq
  refine ⟨q', h1, fun hu => ?_, fun i => h4 i (fun hm => ?_)⟩
  · rw [h2] at hu; rw [show q.vm = .unknown from hu] at hs; exact absurd hs (by decide)
  · have := hl _ hm q hq; rw [hs] at this; exact absurd this (by decide)
/-- the field that a stack trace would go to is null in a cell that is being made -/
theorem nd_skip {pl : Platform} {T : ThrowableC} {Z0 : Init0T} {C : String} {k : Nat} {K : Class} {a : Addr} {u0 sen : RefV} {x : Nat} (hpl : pl.magicAccessors = ({} : Platform).magicAccessors) (L : T.Links pl s) (Y : Jvm.Bundle.Ties T Z0 s) (hc : s.vm.findClass C = some k) (hK : s.vm.classes[k]? = some K)
    (w0 : (Cond.fieldLink Jvm.Bundle.tN 198 Jvm.Bundle.tN "backtrace" "Ljava/lang/Object;").before args s = true) (w1 : (Cond.lays Jvm.Bundle.tN Jvm.Bundle.tN "backtrace" "Ljava/lang/Object;").before args s = true) (hw : ∀ w ∈ nd_lay C, w.before args s = true) :
    SkipFacts T pl s (fun u => u) u0 ((preparedCellV T.toThrowableT (freshCell k K) a u0 sen).withEntry x) := by
  obtain ⟨ci, i, f, f1, f2, f3, f4, -, f6, f7, f8⟩ := Cond.ownField (t := .object "java/lang/Object") Y.found L.cls (by decide +kernel) w0 w1 pl hpl
  have wB := hw _ (nd_lays (n := "backtrace") (d := "Ljava/lang/Object;") (by decide +kernel))
  have n1 : f.slot ≠ T.fCause.slot := nd_apart hc hK f8 wB Y.cause (hw _ (nd_lays (by decide +kernel))) (by rw [f6, Y.causeName]; decide)
  have n2 : f.slot ≠ T.fStack.slot := nd_apart hc hK f8 wB Y.stack (hw _ (nd_lays (by decide +kernel))) (by rw [f6, Y.stackName]; decide)
  have n3 : f.slot ≠ T.fSupp.slot := nd_apart hc hK f8 wB Y.supp (hw _ (nd_lays (by decide +kernel))) (by rw [f6, Y.suppName]; decide)
  have z : (freshCell k K).slots[f.slot]? = some (defaultValue f.type) := fresh_default (Cond.laysAt hc hK f8 wB).1
  rw [f7] at z
  refine ⟨{ ci198 := ci, i198 := i, fBack := f }, ⟨f1, f2, f3, f4⟩, ?_, fun _ _ => rfl⟩
  simpa [preparedCellV, Cell.setSlot, Cell.withEntry, Array.getElem?_setIfInBounds, n1, n2, n3, n1.symm, n2.symm, n3.symm, defaultValue] using z
set_option maxHeartbeats 4000000 in
theorem ct13 (X : Stand p l e R s m₀ args below meth c W locs cells slots) (hexec : p.tables.exec = Jvm.exec) (htr : e.platform.stackTraces = false) {own cls Y0 : String} {names : List String} {ic : Nat}
    (hown : s.vm.findClass own = some m₀.cls) (hcls : Jvm.Bundle.fit cls = true) (hY0 : Jvm.Bundle.fit Y0 = true) (hnames : ∀ n ∈ names, Jvm.Bundle.fit n = true) (h : ∀ w ∈ xAt13 own ic cls Y0 names, w.before args s = true)
    (hl : ∀ x ∈ locs, ∀ q, s.heap[x.base]? = some q → q.vm.isStatics = false) {a : Addr} {k : ClassId} {K : Class} (hc : s.vm.findClass cls = some k) (hK : s.vm.classes[k]? = some K) (ha : W.heap[a]? = some (freshCell k K)) (hnew : s.heap.size ≤ a)
    {msg : Value} (hmsg : msg.isRef = true) {g : JFrame} (hg : g.method = m₀) (hsize : g.locals.size = c.maxLocals) (hlk : g.locked = none) (hen : g.entered = []) {rest : List Value} (hst : g.stack = msg :: .ref a :: .ref a :: rest)
    (d0 : decode c.code g.pc = .ok (.invokespecial ic, 3)) (d3 : decode c.code (g.pc + 3) = .ok (.athrow, 1)) (hout : ∀ x ∈ c.exceptionTable.toList, covers x (g.pc + 3) = false)
    (hf : names.length + 1 + 3 < R.frames) (hr : 2 * g.monitorRoom + ((Value.ref a :: rest).map fun v => v.category).sum + (13 * (names.length + 1 + 1) + 42) ≤ R.locals) (hlocks : meth.locks = false) :
    ∃ U : State, Steps p.tables e below (W.setTop g) U ∧ U.status = .running ∧ Ended U below (.threw a) ∧ s.WarmedH U.vm ∧ s.sameButNew ({ U with vm := s.vm } : State) locs cells slots ∧
      ∃ ce, U.heap[a]? = some ce ∧ s.vm.findClass cls = some ce.cls ∧ ce.vm = .none := by
  have P := X.admits.platform
  have hpl : e.platform.magicAccessors = ({} : Platform).magicAccessors := by rw [P]
  have one : ∀ w ∈ nd_one own ic cls, w.before args s = true := fun w hw => h w (nd_in1 hw)
  have lay : ∀ w ∈ nd_lay cls, w.before args s = true := fun w hw => h w (nd_in2 hw)
  obtain ⟨T, Z0, L, -, Y⟩ := ThrowableC.of_atoms (args := args) (s := s) (pl := e.platform) (by rw [P]) (by rw [P]) hpl (fun w hw => h w (nd_in5 hw))
  obtain ⟨Z, M, LZ, LM, nZ⟩ := Init0T.ofS_atoms (args := args) hpl L Y (fun w hw => h w (nd_in6 hw))
  obtain ⟨Ps, len, lP, pass, nP⟩ := nd_chain (args := args) hpl nZ hcls hY0 hnames (fun w hw => h w (nd_in3 hw)) (fun w hw => h w (nd_in4 hw))
  obtain ⟨c1, K1, i1, i2, ord, -, -, -⟩ := Cond.instantiable_spec (one (.instantiable cls 6) (by simp [nd_one]))
  rw [hc] at i1; cases i1
  rw [hK] at i2; cases i2
  obtain ⟨iM, fM⟩ := Y.msg
  obtain ⟨q, hq, qs⟩ := Y.statics
  obtain ⟨u0, hu⟩ := Cond.staticRefV Y.unassigned L.unassignedStatic L.statics hq qs (one (.isRef (.static Jvm.Bundle.tN "UNASSIGNED_STACK" Jvm.Bundle.steD)) (by simp [nd_one]))
  obtain ⟨sen, hs⟩ := Cond.staticRefV Y.sentinel L.sentinelStatic L.statics hq qs (one (.isRef (.static Jvm.Bundle.tN "SUPPRESSED_SENTINEL" Jvm.Bundle.listD)) (by simp [nd_one]))
  obtain ⟨q', h1, h2, h3⟩ := nd_stat X hl hq qs
  have far : T.aS ≠ a := fun E => by
    have := (Array.getElem?_eq_some_iff.mp hq).1
    rw [E] at this
    exact Nat.lt_irrefl _ (Nat.lt_of_lt_of_le this hnew)
  obtain ⟨tm, _, _, _, v1, nT, -, -, -, -, -, -, -, W1, go1⟩ := Steps.initColdS (tb := p.tables) (e := e) (below := below) (s := s) (U := W) X.here hexec X.warmed hpl hown (t := Jvm.Bundle.initS cls) rfl rfl (Jvm.Bundle.fit_spec hcls).2
    (one (.methodLink own ic (Jvm.Bundle.initS cls)) (by simp [nd_one])) (h (.instanceMethod (Jvm.Bundle.initS cls)) (nd_in3 (by simp [Jvm.Bundle.passSAtoms]))) (bytes := six13) (maxL := 2) (h (.code (Jvm.Bundle.initS cls) six13 2 none) (nd_in3 (by simp [Jvm.Bundle.passSAtoms])))
    (f := g) hg (a := a) (msg := msg) (rest := .ref a :: rest) hst d0
  rw [nP] at nT
  cases nT
  obtain ⟨v2, X2, go2⟩ := (X.noted W1).ctorMessageOffV hexec (g := { g with stack := .ref a :: rest }) hg hsize T L Z LZ M LM Ps lP pass (u0 := u0) (sen := sen) (self := a) hmsg (cell := freshCell k K) (cellS := q') ha (fun _ => by simp) (by simp) rfl rfl
    (nd_sel X.admits hc Y.fill0 (State.methodFound?_of_named Y.fill0 (by decide)) (one _ (by simp [nd_one]))) (nd_sel X.admits hc Y.fill (State.methodFound?_of_named Y.fill (by decide)) (one _ (by simp [nd_one])))
    h1 far h2 (by rw [h3]; exact hu) (by rw [h3]; exact hs)
    (nd_room hc hK ord Y.cause (lay _ (nd_lays (by decide +kernel))) (by rw [Y.causeType]; rfl)) (nd_room hc hK ord Y.stack (lay _ (nd_lays (by decide +kernel))) (by rw [Y.stackType]; exact fits_refV_array _ u0))
    (nd_room hc hK ord Y.supp (lay _ (nd_lays (by decide +kernel))) (by rw [Y.suppType]; exact fits_refV_object _ sen)) (nd_room hc hK ord fM (lay _ (nd_lays (by decide +kernel))) (by rw [Y.msgType]; exact fits_refV_object _ ⟨msg, hmsg⟩))
    Y.objLocals (nd_skip hpl L Y hc hK (one _ (by simp [nd_one])) (one _ (by simp [nd_one])) lay) htr [] d0 (by rw [len]; omega) (by rw [len]; exact hr)
  obtain ⟨e1, e2, e3, e4, e5⟩ := X2.athrowLeaves hexec (g := { g with stack := .ref a :: rest, pc := g.pc + 3 }) hg hlk hen hout (a := a) (rest := rest) rfl d3 hlocks
  have inW : a < ((W.setVm v1).setVm v2).heap.size := (Array.getElem?_eq_some_iff.mp ha).1
  refine ⟨_, go1 _ (fun acts => by rw [doInvoke_state]; exact go2 _ e1), e2, e3, e4, e5.weaken (fun y hy ylt => ?_) (Nat.le_refl _) (Nat.le_refl _), _, heapAt_setCell_self (s := (W.setVm v1).setVm v2) (plainBareV T.toThrowableT (freshCell k K) a u0 sen msg) inW, hc, rfl⟩
  rcases List.mem_append.mp hy with hy | hy
  · exact hy
  · have yb : y.base = a := by
      simp only [List.mem_cons, List.not_mem_nil, or_false] at hy
      rcases hy with E | E | E | E | E <;> rw [E]
    rw [yb] at ylt
    exact absurd hnew (Nat.not_le.mpr ylt)
end Main13
end Thr13
