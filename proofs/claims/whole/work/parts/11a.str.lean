/-! members of the constant texts -/
section JStr
theorem jc_length : Cond.code yJ0_length_8abf5 cJ0_length_8abf5 1 (some .int) ∈ TBg := tb_4 (List.mem_of_getElem? (i := 232) rfl) rfl
theorem ji_length : Cond.instanceMethod yJ0_length_8abf5 ∈ TBg := tb_4 (List.mem_of_getElem? (i := 230) rfl) rfl
theorem jv_length : Cond.selects "java/lang/String" yJ0_length_8abf5 yJ0_length_8abf5 ∈ TBg := tb_4 (List.mem_of_getElem? (i := 231) rfl) rfl
theorem jc_charAt : Cond.code yJ0_charAt_5068e cJ0_charAt_5068e 2 (some .char) ∈ TBg := tb_5 (List.mem_of_getElem? (i := 74) rfl) rfl
theorem ji_charAt : Cond.instanceMethod yJ0_charAt_5068e ∈ TBg := tb_5 (List.mem_of_getElem? (i := 72) rfl) rfl
theorem jv_charAt : Cond.selects "java/lang/String" yJ0_charAt_5068e yJ0_charAt_5068e ∈ TBg := tb_5 (List.mem_of_getElem? (i := 73) rfl) rfl
theorem jc_indexOf1 : Cond.code yJ0_indexOf_0f7a4 cJ0_indexOf_0f7a4 2 (some .int) ∈ TBg := tb_4 (List.mem_of_getElem? (i := 218) rfl) rfl
theorem ji_indexOf1 : Cond.instanceMethod yJ0_indexOf_0f7a4 ∈ TBg := tb_4 (List.mem_of_getElem? (i := 216) rfl) rfl
theorem jv_indexOf1 : Cond.selects "java/lang/String" yJ0_indexOf_0f7a4 yJ0_indexOf_0f7a4 ∈ TBg := tb_4 (List.mem_of_getElem? (i := 217) rfl) rfl
theorem jc_indexOf2 : Cond.code yJ0_indexOf_7cf53 cJ0_indexOf_7cf53 3 (some .int) ∈ TBg := tb_4 (List.mem_of_getElem? (i := 222) rfl) rfl
theorem ji_indexOf2 : Cond.instanceMethod yJ0_indexOf_7cf53 ∈ TBg := tb_4 (List.mem_of_getElem? (i := 220) rfl) rfl
theorem jv_indexOf2 : Cond.selects "java/lang/String" yJ0_indexOf_7cf53 yJ0_indexOf_7cf53 ∈ TBg := tb_4 (List.mem_of_getElem? (i := 221) rfl) rfl
theorem jc_coder : Cond.code yJ0_coder_7d493 cJ0_coder_7d493 1 (some .byte) ∈ TBg := tb_4 (List.mem_of_getElem? (i := 236) rfl) rfl
theorem ji_coder : Cond.instanceMethod yJ0_coder_7d493 ∈ TBg := tb_4 (List.mem_of_getElem? (i := 234) rfl) rfl
theorem jv_coder : Cond.selects "java/lang/String" yJ0_coder_7d493 yJ0_coder_7d493 ∈ TBg := tb_4 (List.mem_of_getElem? (i := 235) rfl) rfl
theorem jc_isLatin1 : Cond.code yJ0_isLatin1_aae02 cJ0_isLatin1_aae02 1 (some .boolean) ∈ TBg := tb_4 (List.mem_of_getElem? (i := 226) rfl) rfl
theorem ji_isLatin1 : Cond.instanceMethod yJ0_isLatin1_aae02 ∈ TBg := tb_4 (List.mem_of_getElem? (i := 224) rfl) rfl
theorem jv_isLatin1 : Cond.selects "java/lang/String" yJ0_isLatin1_aae02 yJ0_isLatin1_aae02 ∈ TBg := tb_4 (List.mem_of_getElem? (i := 225) rfl) rfl
theorem jc_checkIndex : Cond.code yJ0_checkIndex_df160 cJ0_checkIndex_df160 2 none ∈ TBg := tb_5 (List.mem_of_getElem? (i := 80) rfl) rfl
theorem js_checkIndex : Cond.static yJ0_checkIndex_df160 ∈ TBg := tb_5 (List.mem_of_getElem? (i := 79) rfl) rfl
theorem jc_LcharAt : Cond.code yJ1_charAt_3b067 cJ1_charAt_3b067 2 (some .char) ∈ TBg := tb_5 (List.mem_of_getElem? (i := 77) rfl) rfl
theorem js_LcharAt : Cond.static yJ1_charAt_3b067 ∈ TBg := tb_5 (List.mem_of_getElem? (i := 76) rfl) rfl
theorem jc_canEncode : Cond.code yJ1_canEncode_9a6ad cJ1_canEncode_9a6ad 1 (some .boolean) ∈ TBg := tb_5 (List.mem_of_getElem? (i := 2) rfl) rfl
theorem js_canEncode : Cond.static yJ1_canEncode_9a6ad ∈ TBg := tb_5 (List.mem_of_getElem? (i := 1) rfl) rfl
theorem jc_LindexOf : Cond.code yJ1_indexOf_4cfef cJ1_indexOf_4cfef 4 (some .int) ∈ TBg := tb_4 (List.mem_of_getElem? (i := 239) rfl) rfl
theorem js_LindexOf : Cond.static yJ1_indexOf_4cfef ∈ TBg := tb_4 (List.mem_of_getElem? (i := 238) rfl) rfl
theorem jc_indexOfChar : Cond.code yJ1_indexOfChar_4cfef cJ1_indexOfChar_4cfef 6 (some .int) ∈ TBg := tb_5 (List.mem_of_getElem? (i := 7) rfl) rfl
theorem js_indexOfChar : Cond.static yJ1_indexOfChar_4cfef ∈ TBg := tb_5 (List.mem_of_getElem? (i := 6) rfl) rfl
theorem jc_pcheck : Cond.code yJ3_checkIndex_8e157 cJ3_checkIndex_8e157 3 (some .int) ∈ TBg := tb_5 (List.mem_of_getElem? (i := 83) rfl) rfl
theorem js_pcheck : Cond.static yJ3_checkIndex_8e157 ∈ TBg := tb_5 (List.mem_of_getElem? (i := 82) rfl) rfl
theorem jn_S : Cond.initialized "java/lang/String" ∈ TBg := tb_1 (List.mem_of_getElem? (i := 17) rfl) rfl
theorem jn_L : Cond.initialized "java/lang/StringLatin1" ∈ TBg := tb_1 (List.mem_of_getElem? (i := 18) rfl) rfl
theorem jn_P : Cond.initialized "jdk/internal/util/Preconditions" ∈ TBg := tb_1 (List.mem_of_getElem? (i := 20) rfl) rfl
theorem jl_335 : Cond.methodLink "java/lang/String" 335 yJ0_coder_7d493 ∈ TBg := tb_4 (List.mem_of_getElem? (i := 233) rfl) rfl
theorem jl_492 : Cond.methodLink "java/lang/String" 492 yJ0_isLatin1_aae02 ∈ TBg := tb_4 (List.mem_of_getElem? (i := 223) rfl) rfl
theorem jl_495 : Cond.methodLink "java/lang/String" 495 yJ1_charAt_3b067 ∈ TBg := tb_5 (List.mem_of_getElem? (i := 75) rfl) rfl
theorem jl_505 : Cond.methodLink "java/lang/String" 505 yJ0_length_8abf5 ∈ TBg := tb_4 (List.mem_of_getElem? (i := 229) rfl) rfl
theorem jl_633 : Cond.methodLink "java/lang/String" 633 yJ0_indexOf_7cf53 ∈ TBg := tb_4 (List.mem_of_getElem? (i := 219) rfl) rfl
theorem jl_637 : Cond.methodLink "java/lang/String" 637 yJ1_indexOf_4cfef ∈ TBg := tb_4 (List.mem_of_getElem? (i := 237) rfl) rfl
theorem jl_1059 : Cond.methodLink "java/lang/String" 1059 yJ3_checkIndex_8e157 ∈ TBg := tb_5 (List.mem_of_getElem? (i := 81) rfl) rfl
theorem jl_9 : Cond.methodLink "java/lang/StringLatin1" 9 yJ0_checkIndex_df160 ∈ TBg := tb_5 (List.mem_of_getElem? (i := 78) rfl) rfl
theorem jl_88 : Cond.methodLink "java/lang/StringLatin1" 88 yJ1_canEncode_9a6ad ∈ TBg := tb_5 (List.mem_of_getElem? (i := 0) rfl) rfl
theorem jl_95 : Cond.methodLink "java/lang/StringLatin1" 95 yJ1_indexOfChar_4cfef ∈ TBg := tb_5 (List.mem_of_getElem? (i := 5) rfl) rfl
theorem jl_m92 : Cond.methodLink "java/lang/StringLatin1" 92 Lib.Math.max.name ∈ TBg := tb_5 (List.mem_of_getElem? (i := 3) rfl) rfl
theorem jl_m38 : Cond.methodLink "java/lang/StringLatin1" 38 Lib.Math.min.name ∈ TBg := tb_5 (List.mem_of_getElem? (i := 4) rfl) rfl
theorem jf_38 : Cond.fieldLink "java/lang/String" 38 "java/lang/String" "COMPACT_STRINGS" "Z" ∈ TBg := tb_4 (List.mem_of_getElem? (i := 227) rfl) rfl
theorem jf_1053 : Cond.fieldLink "java/lang/String" 1053 "jdk/internal/util/Preconditions" "SIOOBE_FORMATTER" "Ljava/util/function/BiFunction;" ∈ TBg := tb_5 (List.mem_of_getElem? (i := 26) rfl) rfl
theorem jf_15 : Cond.fieldLink "java/lang/String" 15 "java/lang/String" "coder" "B" ∈ TBg := tb_9 (List.mem_of_getElem? (i := 217) rfl) rfl
theorem jf_9 : Cond.fieldLink "java/lang/String" 9 "java/lang/String" "value" "[B" ∈ TBg := tb_9 (List.mem_of_getElem? (i := 218) rfl) rfl
variable {p : Program} {l : Launch} {e : Env} {R : Room} {s : State} {m : MethodId} {args : Array Value} {below : List Frame} {meth : Method} {c : Code} {H : Heap} {locs : List Loc} {cells slots : Nat} {Q : State → Prop}
variable {pc : Nat} {ls : Array Slot} {ad : Nat → Nat} {N0 : Nat}
def jQc (v : Option Value) : Array Value → State → Outcome → State → Prop := fun _ st o t => o = .returned v ∧ t.heap = st.heap
def zA (z : Value) : Nat := match z with
  | .ref t => t
  | _ => 0
def nfr : Addr → Prop := fun _ => False
def jPc (ad : Nat → Nat) (B : State → Prop) (as : List Value) : Array Value → State → Prop := va_Pc (as.map (trV ad)) B
theorem j_run {g : JFrame} {rest : List Value} {v : Option Value} {as : Array Value} (hr : va_Run p l e R s m args below meth c H locs cells slots 0 0 g rest (jQc v as) nfr)
    (k : W p l e R s m args below meth c H locs cells slots Q { g with pc := g.pc + 3, stack := v.toList ++ rest }) : W p l e R s m args below meth c H locs cells slots Q g := by
  intro T hT X
  obtain ⟨v1, st₀, t, T', L, h0, X', hL, e1, e2, ⟨ho, hh⟩, stp⟩ := hr T hT X
  have hLe : L = [] := List.eq_nil_iff_forall_not_mem.mpr (fun q hq => hL q hq)
  subst hLe
  rw [List.append_nil] at X'
  cases ho
  obtain ⟨t2, a1, b1⟩ := k T' (by rw [e1, hh, h0]) X'
  exact ⟨t2, stp t2 a1, b1⟩
def jBl (B : State → Prop) : Prop := ∀ (U : State) (g : JFrame) (mk : MethodId) (a : Array Value), B U → B (U.calling g mk a)
theorem jB_str (ad : Nat → Nat) (N0 : Nat) : jBl (fun U => pStr ad N0 U U.heap) := fun U g mk a h => pStr.moved (u := U) (U := U.calling g mk a) (Vm.Alike.refl U.vm) h
theorem jB_T : jBl (fun _ => True) := fun _ _ _ _ _ => trivial
theorem jPc_blind {B : State → Prop} (h : jBl B) (as : List Value) : FrameBlind (jPc ad B as) := by
  intro a U g mk hh
  exact ⟨hh.1, h U g mk a hh.2⟩
def rmJ (f n : Nat) : Room := { frames := f, cells := 0, slots := 0, locals := n }
theorem jMet {B : State → Prop} {y : MethodName} {cc : ByteArray} {maxL f n : Nat} {ret : Option FieldType} {as : List Value} {v : Option Value} (hy : plainName y.cls = true) (hn : (entA as).length ≤ maxL)
    (body : ∀ (p : Program) (e : Env) (s : State) (m : MethodId) (below : List Frame) (meth : Method) (c : Code) (ls : Array Slot), p.tables.exec = Jvm.exec → c.code = cc → meth.sig.returnType = ret → meth.locks = false → c.maxLocals = maxL → (∀ w ∈ TBg, w.before (as.map (trV ad)).toArray s = true) → s.vm.findClass y.cls = some m.cls → B s → lRel ad (entL as maxL) ls → ls.size = c.maxLocals →
      W p l e (rmJ f n) s m (as.map (trV ad)).toArray below meth c s.heap [] 0 0 (MQ below (jQc v) (as.map (trV ad)).toArray s 0 0 nfr) (F0 m 0 ls [])) : Met l y (Cond.code y cc maxL ret :: TBg) (rmJ f n) (jPc ad B as) (jQc v) 0 0 nfr := by
  refine Met.ofW (cc := cc) (maxL := maxL) (ret := ret) hy rfl ?_
  intro p e s m args below meth c s₁ Bd hml hv
  obtain ⟨rfl, hB⟩ := hv
  have hts := atoms_spec (ws := Cond.code y cc maxL ret :: TBg) Bd.pre
  rw [lg_entry_eq]
  obtain ⟨hrel, hlen⟩ := ent_rel (ad := ad) hn
  exact body p e s m below meth c _ Bd.exec Bd.bytes Bd.returns Bd.notSynchronized hml (fun w hw => hts w (List.mem_cons_of_mem _ hw)) (findClass_of_methodNamed Bd.named) hB hrel (by rw [hrel.1, hlen, hml])
theorem j_good {y : MethodName} {cc : ByteArray} {maxL : Nat} {ret : Option FieldType} (w1 : Cond.code y cc maxL ret ∈ TBg) : GoodIn TBg (Cond.code y cc maxL ret :: TBg) := by
  intro w hw
  rcases List.mem_cons.mp hw with rfl | hw
  · exact ⟨w1, good_of_word (List.mem_filter.mp w1).2⟩
  · exact ⟨hw, good_of_word (List.mem_filter.mp hw).2⟩
/-- a call of a static member -/
theorem jcallS {B : State → Prop} {y : MethodName} {cc cy : ByteArray} {maxL f n x : Nat} {ret : Option FieldType} {as rest stk : List Value} {na : Nat} {v : Option Value} {own : String} (hstk : stk = (as.map (trV ad)).reverse ++ rest) (hna : as.length = na) (hM : Met l y (Cond.code y cy maxL ret :: TBg) (rmJ f n) (jPc ad B as) (jQc v) 0 0 nfr) (hBl : jBl B)
    (hx : p.tables.exec = Jvm.exec) (hb : c.code = cc) (hts : ∀ w ∈ TBg, w.before args s = true) (hown : s.vm.findClass own = some m.cls) (hsz : ls.size = c.maxLocals)
    (w1 : Cond.code y cy maxL ret ∈ TBg) (w2 : Cond.initialized y.cls ∈ TBg) (w3 : Cond.methodLink own x y ∈ TBg) (w4 : Cond.static y ∈ TBg) (hd : y.cls ≠ "java/lang/invoke/MethodHandle" ∧ y.cls ≠ "java/lang/invoke/VarHandle" ∧ (parseMethodDescriptor y.desc).map (fun d => d.parameters.length) = some na) (hR : f + 1 ≤ R.frames ∧ 8 + (maxL + 11) + n ≤ R.locals)
    (hB : ∀ U : State, U.heap = H → s.WarmedH U.vm → B U) (hst : (rest.map fun v => v.category).sum ≤ 8) (hcc : cells ≤ R.cells) (hcs : slots ≤ R.slots) (hdg : decode cc pc = .ok (.invokestatic x, 3))
    (k : W p l e R s m args below meth c H locs cells slots Q (F0 m (pc + 3) ls (v.toList ++ rest))) : W p l e R s m args below meth c H locs cells slots Q (F0 m pc ls stk) := by
  subst hstk
  refine j_run (va_runS (As := as.map (trV ad)) (rest := rest) (g := F0 m pc ls ((as.map (trV ad)).reverse ++ rest)) ⟨hx, hb, rfl, hown, hts⟩ hM ⟨callB_of na hts (j_good w1) rfl rfl rfl (hts _ w2) (hts _ w3) hd hR, hts _ w4⟩ ⟨jPc_blind hBl _, fun U hU hWm => ⟨rfl, hB U hU hWm⟩⟩ rfl (by simpa using hna) hsz rfl ?_ hdg ⟨by omega, by omega⟩) k
  show 2 * 0 + _ ≤ 8
  omega
/-- a call of a text's own member -/
theorem jcallV {B : State → Prop} {y : MethodName} {cc cy : ByteArray} {maxL f n x b : Nat} {ret : Option FieldType} {as rest stk : List Value} {na : Nat} {v : Option Value} {own : String} (hstk : stk = (as.map (trV ad)).reverse ++ .ref (ad b) :: rest) (hna : as.length = na) (hM : Met l y (Cond.code y cy maxL ret :: TBg) (rmJ f n) (jPc ad B (.ref b :: as)) (jQc v) 0 0 nfr) (hBl : jBl B)
    (hx : p.tables.exec = Jvm.exec) (hb : c.code = cc) (hts : ∀ w ∈ TBg, w.before args s = true) (hown : s.vm.findClass own = some m.cls) (hsz : ls.size = c.maxLocals)
    (w1 : Cond.code y cy maxL ret ∈ TBg) (w2 : Cond.initialized y.cls ∈ TBg) (w3 : Cond.methodLink own x y ∈ TBg) (w4 : Cond.instanceMethod y ∈ TBg) (w5 : Cond.selects "java/lang/String" y y ∈ TBg) (hd : y.cls ≠ "java/lang/invoke/MethodHandle" ∧ y.cls ≠ "java/lang/invoke/VarHandle" ∧ (parseMethodDescriptor y.desc).map (fun d => d.parameters.length) = some na) (hR : f + 1 ≤ R.frames ∧ 8 + (maxL + 11) + n ≤ R.locals)
    (hB : ∀ U : State, U.heap = H → s.WarmedH U.vm → B U) (hO : ∃ cellB : Cell, H[ad b]? = some cellB ∧ cellB.vm.isStatics = false ∧ s.vm.findClass "java/lang/String" = some cellB.cls) (hst : (rest.map fun v => v.category).sum ≤ 8) (hcc : cells ≤ R.cells) (hcs : slots ≤ R.slots) (hdg : decode cc pc = .ok (.invokevirtual x, 3))
    (k : W p l e R s m args below meth c H locs cells slots Q (F0 m (pc + 3) ls (v.toList ++ rest))) : W p l e R s m args below meth c H locs cells slots Q (F0 m pc ls stk) := by
  subst hstk
  refine j_run (va_runV (C := "java/lang/String") (b := ad b) (As := as.map (trV ad)) (rest := rest) (g := F0 m pc ls ((as.map (trV ad)).reverse ++ .ref (ad b) :: rest)) ⟨hx, hb, rfl, hown, hts⟩ hM ⟨callB_of na hts (j_good w1) rfl rfl rfl (hts _ w2) (hts _ w3) hd hR, hts _ w4, hts _ w5⟩ ⟨jPc_blind hBl _, hO, fun U hU hWm => ⟨rfl, hB U hU hWm⟩⟩ rfl (by simpa using hna) hsz rfl ?_ hdg ⟨by omega, by omega⟩) k
  show 2 * 0 + _ ≤ 8
  omega
theorem pStr.cell {U : State} {H H1 : Heap} {i : Nat} (h : pStr ad N0 U H) (hi : i < sBy.length) (hq : ∀ a : Nat, a < H.size → ¬ N0 ≤ a → H1[a]? = H[a]?) : ∃ cellB : Cell, H1[ad (1000 + i)]? = some cellB ∧ cellB.vm.isStatics = false ∧ U.vm.findClass "java/lang/String" = some cellB.cls := by
  obtain ⟨cell, h1, h2, h3, -⟩ := (h.1 i hi).1.kept hq
  exact ⟨cell, h1, h2, h3⟩
theorem jLg_i (x : Int32) : isLg (.int x) = false := rfl
theorem nil_nfr : ∀ q ∈ ([] : List Loc), nfr q.base := fun q h => nomatch h
theorem jr_q {v : Option Value} {as : Array Value} {s : State} : ∀ t : State, t.heap = s.heap → s.WarmedH t.vm → jQc v as s (.returned v) t := fun _ h _ => ⟨rfl, h⟩
theorem js_len : ∀ i, i < sBy.length → (sBy.getD i []).length < 200 ∧ 0 < (sBy.getD i []).length ∧ ∀ b ∈ sBy.getD i [], b < 128 := by decide +kernel
theorem js_shr : ∀ i, i < sBy.length → Int32.ofNat ((sBy.getD i []).length) >>> ((0 : Int32) &&& 31) = nI (sLen i) := by decide +kernel
theorem jm_coder {i : Nat} (hi : i < sBy.length) : Met l yJ0_coder_7d493 (Cond.code yJ0_coder_7d493 cJ0_coder_7d493 1 (some .byte) :: TBg) (rmJ 1 0) (jPc ad (fun U => pStr ad N0 U U.heap) [.ref (1000 + i)]) (jQc (some (.int 0))) 0 0 nfr := by
  refine jMet (by decide +kernel) (by simp [entA, isLg]) ?_
  intro p e s m below meth c ls hx hb hr hlk hml hts hown hB hl hsz
  obtain ⟨⟨hO, hC, hV, hT⟩, hZ, hF⟩ := (show (_ ∧ _ ∧ _ ∧ _) ∧ _ ∧ _ from ⟨hB.1 i hi, hB.2.1, hB.2.2⟩)
  refine va_gets hx hb hZ va_S.rf hown (hts _ jf_38) (fun _ h => h) (by decide +kernel) ?_
  refine s_jOp (ad := ad) (st := [.int 1]) (i := .ifCond .eq 10) hx hb (by decide +kernel) (Or.inl rfl) rfl ?_
  refine s_lOp (ad := ad) (st := []) (i := .aload_n 0) hx hb (by decide +kernel) rfl hl ?_
  refine vk_getf hx hb hC va_S.rf hown (hts _ jf_15) (fun _ h => h) (by decide +kernel) ?_
  refine s_jOp (ad := ad) (st := [.int 0]) (i := .goto 4) hx hb (by decide +kernel) (Or.inl rfl) rfl ?_
  exact W.zret hx hb hr rfl jr_q nil_nfr (by decide +kernel) hlk
theorem jm_isLatin1 {i : Nat} (hi : i < sBy.length) : Met l yJ0_isLatin1_aae02 (Cond.code yJ0_isLatin1_aae02 cJ0_isLatin1_aae02 1 (some .boolean) :: TBg) (rmJ 1 0) (jPc ad (fun U => pStr ad N0 U U.heap) [.ref (1000 + i)]) (jQc (some (.int 1))) 0 0 nfr := by
  refine jMet (by decide +kernel) (by simp [entA, isLg]) ?_
  intro p e s m below meth c ls hx hb hr hlk hml hts hown hB hl hsz
  obtain ⟨⟨hO, hC, hV, hT⟩, hZ, hF⟩ := (show (_ ∧ _ ∧ _ ∧ _) ∧ _ ∧ _ from ⟨hB.1 i hi, hB.2.1, hB.2.2⟩)
  refine va_gets hx hb hZ va_S.rf hown (hts _ jf_38) (fun _ h => h) (by decide +kernel) ?_
  refine s_jOp (ad := ad) (st := [.int 1]) (i := .ifCond .eq 14) hx hb (by decide +kernel) (Or.inl rfl) rfl ?_
  refine s_lOp (ad := ad) (st := []) (i := .aload_n 0) hx hb (by decide +kernel) rfl hl ?_
  refine vk_getf hx hb hC va_S.rf hown (hts _ jf_15) (fun _ h => h) (by decide +kernel) ?_
  refine s_jOp (ad := ad) (st := [.int 0]) (i := .ifCond .ne 7) hx hb (by decide +kernel) (Or.inl rfl) rfl ?_
  refine s_sOp (ad := ad) (st := []) (i := .iconst 1) hx hb (by decide +kernel) rfl ?_
  refine s_jOp (ad := ad) (st := [.int 1]) (i := .goto 4) hx hb (by decide +kernel) (Or.inl rfl) rfl ?_
  exact W.zret hx hb hr rfl jr_q nil_nfr (by decide +kernel) hlk
theorem jm_length {i : Nat} (hi : i < sBy.length) : Met l yJ0_length_8abf5 (Cond.code yJ0_length_8abf5 cJ0_length_8abf5 1 (some .int) :: TBg) (rmJ 2 20) (jPc ad (fun U => pStr ad N0 U U.heap) [.ref (1000 + i)]) (jQc (some (.int (nI (sLen i))))) 0 0 nfr := by
  refine jMet (by decide +kernel) (by simp [entA, isLg]) ?_
  intro p e s m below meth c ls hx hb hr hlk hml hts hown hB hl hsz
  obtain ⟨⟨hO, hC, hV, hT⟩, hZ, hF⟩ := (show (_ ∧ _ ∧ _ ∧ _) ∧ _ ∧ _ from ⟨hB.1 i hi, hB.2.1, hB.2.2⟩)
  refine s_lOp (ad := ad) (st := []) (i := .aload_n 0) hx hb (by decide +kernel) rfl hl ?_
  refine vk_getf hx hb hV va_S.rf hown (hts _ jf_9) (fun _ h => h) (by decide +kernel) ?_
  refine va_tlen hx hb hT va_S.rf rfl (by decide +kernel) ?_
  refine s_lOp (ad := ad) (st := [.int (Int32.ofNat (sBy.getD i []).length)]) (i := .aload_n 0) hx hb (by decide +kernel) rfl hl ?_
  refine jcallV (ad := ad) (as := []) (rest := [.int (Int32.ofNat (sBy.getD i []).length)]) (b := 1000 + i) (na := 0) rfl rfl (jm_coder hi) (jB_str ad N0) hx hb hts hown hsz jc_coder jn_S jl_335 ji_coder jv_coder (by decide +kernel) ⟨by decide, by decide⟩ (fun U hU hW => by rw [hU]; exact hB.moved hW.alike) (hB.cell hi (fun _ _ _ => rfl)) (Nat.le_of_ble_eq_true rfl) (Nat.zero_le _) (Nat.zero_le _) (by decide +kernel) ?_
  refine s_sOp (ad := ad) (st := [.int 0, .int (Int32.ofNat (sBy.getD i []).length)]) (i := .ishr) hx hb (by decide +kernel) rfl ?_
  rw [← js_shr i hi]
  exact W.iret hx hb hr jr_q nil_nfr (by decide +kernel) hlk
theorem jm_pcheck {a b : Int32} {z : Value} (hz : isLg z = false) (h0 : ¬ a < 0) (h1 : a < b) : Met l yJ3_checkIndex_8e157 (Cond.code yJ3_checkIndex_8e157 cJ3_checkIndex_8e157 3 (some .int) :: TBg) (rmJ 1 0) (jPc ad (fun _ => True) [.int a, .int b, z]) (jQc (some (.int a))) 0 0 nfr := by
  refine jMet (by decide +kernel) (by simp [entA, jLg_i, hz]) ?_
  intro p e s m below meth c ls hx hb hr hlk hml hts hown hB hl hsz
  have eL : entL [.int a, .int b, z] 3 = [.int a, .int b, z] := by simp [entL, entA, jLg_i, hz]
  rw [eL] at hl
  refine s_lOp (ad := ad) (st := []) (i := .iload_n 0) hx hb (by decide +kernel) rfl hl ?_
  refine s_jOp (ad := ad) (st := [.int a]) (i := .ifCond .lt 8) (q := (4, [])) hx hb (by decide +kernel) (Or.inl rfl) (by simp [jOp, ic2, h0, tgt, ilen]) ?_
  refine s_lOp (ad := ad) (st := []) (i := .iload_n 0) hx hb (by decide +kernel) rfl hl ?_
  refine s_lOp (ad := ad) (st := [.int a]) (i := .iload_n 1) hx hb (by decide +kernel) rfl hl ?_
  refine s_jOp (ad := ad) (st := [.int b, .int a]) (i := .if_icmp .lt 10) (q := (16, [])) hx hb (by decide +kernel) (Or.inl rfl) (by simp [jOp, ic2, h1, tgt, ilen]) ?_
  refine s_lOp (ad := ad) (st := []) (i := .iload_n 0) hx hb (by decide +kernel) rfl hl ?_
  exact W.iret hx hb hr jr_q nil_nfr (by decide +kernel) hlk
theorem jm_checkIndex {a b : Int32} (h0 : ¬ a < 0) (h1 : a < b) : Met l yJ0_checkIndex_df160 (Cond.code yJ0_checkIndex_df160 cJ0_checkIndex_df160 2 none :: TBg) (rmJ 2 22) (jPc ad (fun U => pStr ad N0 U U.heap) [.int a, .int b]) (jQc none) 0 0 nfr := by
  refine jMet (by decide +kernel) (by simp [entA, isLg]) ?_
  intro p e s m below meth c ls hx hb hr hlk hml hts hown hB hl hsz
  refine s_lOp (ad := ad) (st := []) (i := .iload_n 0) hx hb (by decide +kernel) rfl hl ?_
  refine s_lOp (ad := ad) (st := [.int a]) (i := .iload_n 1) hx hb (by decide +kernel) rfl hl ?_
  have fin : ∀ z : Value, isLg z = false → z.category = 1 → W p l e (rmJ 2 22) s m ([.int a, .int b].map (trV ad)).toArray below meth c s.heap [] 0 0 (MQ below (jQc none) ([.int a, .int b].map (trV ad)).toArray s 0 0 nfr) (F0 m 5 ls [trV (fun _ => zA z) z, .int b, .int a]) := by
    intro z hz hzc
    refine jcallS (ad := fun _ => zA z) (as := [.int a, .int b, z]) (rest := []) (na := 3) rfl rfl (jm_pcheck hz h0 h1) jB_T hx hb hts hown hsz jc_pcheck jn_P jl_1059 js_pcheck (by decide +kernel) ⟨by decide, by decide⟩ (fun _ _ _ => trivial) (Nat.le_of_ble_eq_true rfl) (Nat.zero_le _) (Nat.zero_le _) (by decide +kernel) ?_
    refine s_sOp (ad := ad) (st := [.int a]) (i := .pop) hx hb (by decide +kernel) rfl ?_
    exact W.vret hx hb hr jr_q nil_nfr (by decide +kernel) hlk
  rcases hB.2.2 with hZ | ⟨t, hZ⟩
  · exact va_gets hx hb hZ va_S.rf hown (hts _ jf_1053) (fun _ h => h) (by decide +kernel) (fin .null rfl rfl)
  · exact va_gets hx hb hZ va_S.rf hown (hts _ jf_1053) (fun _ h => h) (by decide +kernel) (fin (.ref t) rfl rfl)
theorem js_ch : ∀ i, i < sBy.length → ∀ k, k < (sBy.getD i []).length → (match sOp .i2c [.int (nI ((sBy.getD i []).getD k 0) &&& 255)] with | some [.int x] => x | _ => 0) = sCh i k := by decide +kernel
theorem js_nar : ∀ i, i < sBy.length → ∀ k, k < (sBy.getD i []).length → narrow .char (.int (match sOp .i2c [.int (nI ((sBy.getD i []).getD k 0) &&& 255)] with | some [.int x] => x | _ => 0)) = .int (match sOp .i2c [.int (nI ((sBy.getD i []).getD k 0) &&& 255)] with | some [.int x] => x | _ => 0) := by decide +kernel
theorem js_nar2 : ∀ i, i < sBy.length → ∀ k, k < (sBy.getD i []).length → narrow .char (.int (sCh i k)) = .int (sCh i k) := by decide +kernel
theorem jm_LcharAt {i k : Nat} (hi : i < sBy.length) (hk : k < (sBy.getD i []).length) : Met l yJ1_charAt_3b067 (Cond.code yJ1_charAt_3b067 cJ1_charAt_3b067 2 (some .char) :: TBg) (rmJ 3 43) (jPc ad (fun U => pStr ad N0 U U.heap) [.ref (1500 + i), .int (nI k)]) (jQc (some (.int (sCh i k)))) 0 0 nfr := by
  have hl200 := (js_len i hi).1
  refine jMet (by decide +kernel) (by simp [entA, isLg]) ?_
  intro p e s m below meth c ls hx hb hr hlk hml hts hown hB hl hsz
  obtain ⟨⟨hO, hC, hV, hT⟩, hZ, hF⟩ := (show (_ ∧ _ ∧ _ ∧ _) ∧ _ ∧ _ from ⟨hB.1 i hi, hB.2.1, hB.2.2⟩)
  refine s_lOp (ad := ad) (st := []) (i := .iload_n 1) hx hb (by decide +kernel) rfl hl ?_
  refine s_lOp (ad := ad) (st := [.int (nI k)]) (i := .aload_n 0) hx hb (by decide +kernel) rfl hl ?_
  refine va_tlen hx hb hT va_S.rf rfl (by decide +kernel) ?_
  refine jcallS (ad := ad) (as := [.int (nI k), .int (Int32.ofNat (sBy.getD i []).length)]) (rest := []) (na := 2) rfl rfl (jm_checkIndex (nI_pos (by omega)) (nI_lt hk (by omega))) (jB_str ad N0) hx hb hts hown hsz jc_checkIndex jn_S jl_9 js_checkIndex (by decide +kernel) ⟨by decide, by decide⟩ (fun U hU hW => by rw [hU]; exact hB.moved hW.alike) (Nat.le_of_ble_eq_true rfl) (Nat.zero_le _) (Nat.zero_le _) (by decide +kernel) ?_
  refine s_lOp (ad := ad) (st := []) (i := .aload_n 0) hx hb (by decide +kernel) rfl hl ?_
  refine s_lOp (ad := ad) (st := [.ref (1500 + i)]) (i := .iload_n 1) hx hb (by decide +kernel) rfl hl ?_
  refine va_tb hx hb hT va_S.rf (vp_in_nI hk (by omega)) (by rw [nI_clamp (by omega)]) (by decide +kernel) ?_
  refine s_sOp (ad := ad) (st := [.int (nI ((sBy.getD i []).getD k 0))]) (i := .sipush 255) hx hb (by decide +kernel) rfl ?_
  refine s_sOp (ad := ad) (st := [.int 255, .int (nI ((sBy.getD i []).getD k 0))]) (i := .iand) hx hb (by decide +kernel) rfl ?_
  refine s_sOp (ad := ad) (st := [.int (nI ((sBy.getD i []).getD k 0) &&& 255)]) (i := .i2c) hx hb (by decide +kernel) rfl ?_
  rw [show sCh i k = _ from (js_ch i hi k hk).symm]
  exact W.zret hx hb hr (js_nar i hi k hk) jr_q nil_nfr (by decide +kernel) hlk
theorem jm_charAt {i k : Nat} (hi : i < sBy.length) (hk : k < (sBy.getD i []).length) : Met l yJ0_charAt_5068e (Cond.code yJ0_charAt_5068e cJ0_charAt_5068e 2 (some .char) :: TBg) (rmJ 4 64) (jPc ad (fun U => pStr ad N0 U U.heap) [.ref (1000 + i), .int (nI k)]) (jQc (some (.int (sCh i k)))) 0 0 nfr := by
  refine jMet (by decide +kernel) (by simp [entA, isLg]) ?_
  intro p e s m below meth c ls hx hb hr hlk hml hts hown hB hl hsz
  obtain ⟨⟨hO, hC, hV, hT⟩, hZ, hF⟩ := (show (_ ∧ _ ∧ _ ∧ _) ∧ _ ∧ _ from ⟨hB.1 i hi, hB.2.1, hB.2.2⟩)
  refine s_lOp (ad := ad) (st := []) (i := .aload_n 0) hx hb (by decide +kernel) rfl hl ?_
  refine jcallV (ad := ad) (as := []) (rest := []) (b := 1000 + i) (na := 0) rfl rfl (jm_isLatin1 hi) (jB_str ad N0) hx hb hts hown hsz jc_isLatin1 jn_S jl_492 ji_isLatin1 jv_isLatin1 (by decide +kernel) ⟨by decide, by decide⟩ (fun U hU hW => by rw [hU]; exact hB.moved hW.alike) (hB.cell hi (fun _ _ _ => rfl)) (Nat.le_of_ble_eq_true rfl) (Nat.zero_le _) (Nat.zero_le _) (by decide +kernel) ?_
  refine s_jOp (ad := ad) (st := [.int 1]) (i := .ifCond .eq 12) hx hb (by decide +kernel) (Or.inl rfl) rfl ?_
  refine s_lOp (ad := ad) (st := []) (i := .aload_n 0) hx hb (by decide +kernel) rfl hl ?_
  refine vk_getf hx hb hV va_S.rf hown (hts _ jf_9) (fun _ h => h) (by decide +kernel) ?_
  refine s_lOp (ad := ad) (st := [.ref (1500 + i)]) (i := .iload_n 1) hx hb (by decide +kernel) rfl hl ?_
  refine jcallS (ad := ad) (as := [.ref (1500 + i), .int (nI k)]) (rest := []) (na := 2) rfl rfl (jm_LcharAt hi hk) (jB_str ad N0) hx hb hts hown hsz jc_LcharAt jn_L jl_495 js_LcharAt (by decide +kernel) ⟨by decide, by decide⟩ (fun U hU hW => by rw [hU]; exact hB.moved hW.alike) (Nat.le_of_ble_eq_true rfl) (Nat.zero_le _) (Nat.zero_le _) (by decide +kernel) ?_
  exact W.zret hx hb hr (js_nar2 i hi k hk) jr_q nil_nfr (by decide +kernel) hlk
theorem jm_enc0 {x : Int32} (h0 : x < 0) : Met l yJ1_canEncode_9a6ad (Cond.code yJ1_canEncode_9a6ad cJ1_canEncode_9a6ad 1 (some .boolean) :: TBg) (rmJ 1 0) (jPc ad (fun _ => True) [.int x]) (jQc (some (.int 0))) 0 0 nfr := by
  refine jMet (by decide +kernel) (by simp [entA, isLg]) ?_
  intro p e s m below meth c ls hx hb hr hlk hml hts hown hB hl hsz
  refine s_lOp (ad := ad) (st := []) (i := .iload_n 0) hx hb (by decide +kernel) rfl hl ?_
  refine s_jOp (ad := ad) (st := [.int x]) (i := .ifCond .lt 14) (q := (15, [])) hx hb (by decide +kernel) (Or.inl rfl) (by simp [jOp, ic2, h0, tgt, ilen]) ?_
  refine s_sOp (ad := ad) (st := []) (i := .iconst 0) hx hb (by decide +kernel) rfl ?_
  exact W.zret hx hb hr rfl jr_q nil_nfr (by decide +kernel) hlk
theorem jm_enc1 {x : Int32} (h0 : ¬ x < 0) (h1 : 255 < x) : Met l yJ1_canEncode_9a6ad (Cond.code yJ1_canEncode_9a6ad cJ1_canEncode_9a6ad 1 (some .boolean) :: TBg) (rmJ 1 0) (jPc ad (fun _ => True) [.int x]) (jQc (some (.int 0))) 0 0 nfr := by
  refine jMet (by decide +kernel) (by simp [entA, isLg]) ?_
  intro p e s m below meth c ls hx hb hr hlk hml hts hown hB hl hsz
  refine s_lOp (ad := ad) (st := []) (i := .iload_n 0) hx hb (by decide +kernel) rfl hl ?_
  refine s_jOp (ad := ad) (st := [.int x]) (i := .ifCond .lt 14) (q := (4, [])) hx hb (by decide +kernel) (Or.inl rfl) (by simp [jOp, ic2, h0, tgt, ilen]) ?_
  refine s_lOp (ad := ad) (st := []) (i := .iload_n 0) hx hb (by decide +kernel) rfl hl ?_
  refine s_sOp (ad := ad) (st := [.int x]) (i := .sipush 255) hx hb (by decide +kernel) rfl ?_
  refine s_jOp (ad := ad) (st := [.int 255, .int x]) (i := .if_icmp .gt 7) (q := (15, [])) hx hb (by decide +kernel) (Or.inl rfl) (by simp [jOp, ic2, h1, tgt, ilen]) ?_
  refine s_sOp (ad := ad) (st := []) (i := .iconst 0) hx hb (by decide +kernel) rfl ?_
  exact W.zret hx hb hr rfl jr_q nil_nfr (by decide +kernel) hlk
theorem jm_enc2 {x : Int32} (h0 : ¬ x < 0) (h1 : ¬ 255 < x) : Met l yJ1_canEncode_9a6ad (Cond.code yJ1_canEncode_9a6ad cJ1_canEncode_9a6ad 1 (some .boolean) :: TBg) (rmJ 1 0) (jPc ad (fun _ => True) [.int x]) (jQc (some (.int 1))) 0 0 nfr := by
  refine jMet (by decide +kernel) (by simp [entA, isLg]) ?_
  intro p e s m below meth c ls hx hb hr hlk hml hts hown hB hl hsz
  refine s_lOp (ad := ad) (st := []) (i := .iload_n 0) hx hb (by decide +kernel) rfl hl ?_
  refine s_jOp (ad := ad) (st := [.int x]) (i := .ifCond .lt 14) (q := (4, [])) hx hb (by decide +kernel) (Or.inl rfl) (by simp [jOp, ic2, h0, tgt, ilen]) ?_
  refine s_lOp (ad := ad) (st := []) (i := .iload_n 0) hx hb (by decide +kernel) rfl hl ?_
  refine s_sOp (ad := ad) (st := [.int x]) (i := .sipush 255) hx hb (by decide +kernel) rfl ?_
  refine s_jOp (ad := ad) (st := [.int 255, .int x]) (i := .if_icmp .gt 7) (q := (11, [])) hx hb (by decide +kernel) (Or.inl rfl) (by simp [jOp, ic2, h1, tgt, ilen]) ?_
  refine s_sOp (ad := ad) (st := []) (i := .iconst 1) hx hb (by decide +kernel) rfl ?_
  refine s_jOp (ad := ad) (st := [.int 1]) (i := .goto 4) hx hb (by decide +kernel) (Or.inl rfl) rfl ?_
  exact W.zret hx hb hr rfl jr_q nil_nfr (by decide +kernel) hlk
theorem drop_c {l : List Nat} {j b : Nat} {r : List Nat} (h : l.drop j = b :: r) : j < l.length ∧ l.getD j 0 = b ∧ l.drop (j + 1) = r ∧ b ∈ l := by
  have hlt : j < l.length := by
    apply Nat.lt_of_not_le
    intro q
    rw [List.drop_eq_nil_of_le q] at h
    cases h
  rw [List.drop_eq_getElem_cons hlt] at h
  injection h with h1 h2
  refine ⟨hlt, ?_, h2, ?_⟩
  · rw [List.getD_eq_getElem?_getD, List.getElem?_eq_getElem hlt]; exact h1
  · rw [← h1]; exact List.getElem_mem hlt
theorem js_b8 : ∀ n, n < 256 → ∀ b, b < 128 → (nI b = (nI n).toInt8.toInt32 ↔ nI b = nI n) := by decide +kernel
theorem ixF_out {c : Int32} : ∀ (l : List Nat) (k : Nat), (∀ b ∈ l, b < 128) → (c < 0 ∨ 255 < c) → ixF c l k = -1 := by
  intro l
  induction l with
  | nil => intro k _ _; rfl
  | cons b l ih =>
    intro k hb hc
    have h1 := hb b List.mem_cons_self
    have h2 : ¬ nI b = c := by
      intro q
      subst q
      rcases hc with hc | hc
      · exact nI_pos (by omega) hc
      · exact absurd (show nI 255 < nI b from hc) (nI_nlt (by omega) (by omega))
    rw [ixF, if_neg h2]
    exact ih (k + 1) (fun b hb9 => hb b (List.mem_cons_of_mem _ hb9)) hc
theorem jm_ioc {i n : Nat} (hi : i < sBy.length) (hn : n < 256) : Met l yJ1_indexOfChar_4cfef (Cond.code yJ1_indexOfChar_4cfef cJ1_indexOfChar_4cfef 6 (some .int) :: TBg) (rmJ 1 0) (jPc ad (fun U => pStr ad N0 U U.heap) [.ref (1500 + i), .int (nI n), .int 0, .int (nI (sLen i))]) (jQc (some (.int (sIx i (nI n))))) 0 0 nfr := by
  refine jMet (by decide +kernel) (by simp [entA, isLg]) ?_
  intro p e s m below meth c ls hx hb hr hlk hml hts hown hB hl hsz
  obtain ⟨⟨hO, hC, hV, hT⟩, hZ, hF⟩ := (show (_ ∧ _ ∧ _ ∧ _) ∧ _ ∧ _ from ⟨hB.1 i hi, hB.2.1, hB.2.2⟩)
  obtain ⟨hl200, -, hb128⟩ := js_len i hi
  have loop : ∀ (t : List Nat) (j : Nat) (ls : Array Slot), (sBy.getD i []).drop j = t → j ≤ sLen i → ixF (nI n) t j = sIx i (nI n) → lRel ad [.ref (1500 + i), .int (nI n), .int 0, .int (nI (sLen i)), .int (nI n).toInt8.toInt32, .int (nI j)] ls → W p l e (rmJ 1 0) s m ([.ref (1500 + i), .int (nI n), .int 0, .int (nI (sLen i))].map (trV ad)).toArray below meth c s.heap [] 0 0 (MQ below (jQc (some (.int (sIx i (nI n))))) ([.ref (1500 + i), .int (nI n), .int 0, .int (nI (sLen i))].map (trV ad)).toArray s 0 0 nfr) (F0 m 7 ls []) := by
    intro t
    induction t with
    | nil =>
      intro j ls hd hj hq hl
      have h1 : nI (sLen i) ≤ nI j := nI_le (List.drop_eq_nil_iff.mp hd) (by have : sLen i < 200 := hl200; omega)
      refine s_lOp (ad := ad) (st := []) (i := .iload 5) hx hb (by decide +kernel) rfl hl ?_
      refine s_lOp (ad := ad) (st := [.int (nI j)]) (i := .iload_n 3) hx hb (by decide +kernel) rfl hl ?_
      refine s_jOp (ad := ad) (st := [.int (nI (sLen i)), .int (nI j)]) (i := .if_icmp .ge 21) (q := (31, [])) hx hb (by decide +kernel) (Or.inl rfl) (by simp [jOp, ic2, h1, tgt, ilen]) ?_
      refine s_sOp (ad := ad) (st := []) (i := .iconst (-1)) hx hb (by decide +kernel) rfl ?_
      rw [← hq]
      exact W.iret hx hb hr jr_q nil_nfr (by decide +kernel) hlk
    | cons b t ih =>
      intro j ls hd hj hq hl
      obtain ⟨g1, g2, g3, g4⟩ := drop_c hd
      have g5 : j < sLen i := g1
      have hl9 : sLen i < 200 := hl200
      have h1 : ¬ nI (sLen i) ≤ nI j := nI_ge g5 (by omega)
      refine s_lOp (ad := ad) (st := []) (i := .iload 5) hx hb (by decide +kernel) rfl hl ?_
      refine s_lOp (ad := ad) (st := [.int (nI j)]) (i := .iload_n 3) hx hb (by decide +kernel) rfl hl ?_
      refine s_jOp (ad := ad) (st := [.int (nI (sLen i)), .int (nI j)]) (i := .if_icmp .ge 21) (q := (13, [])) hx hb (by decide +kernel) (Or.inl rfl) (by simp [jOp, ic2, h1, tgt, ilen]) ?_
      refine s_lOp (ad := ad) (st := []) (i := .aload_n 0) hx hb (by decide +kernel) rfl hl ?_
      refine s_lOp (ad := ad) (st := [.ref (1500 + i)]) (i := .iload 5) hx hb (by decide +kernel) rfl hl ?_
      refine va_tb hx hb hT va_S.rf (vp_in_nI g1 (by omega)) (v := .int (nI b)) (by rw [nI_clamp (by omega), g2]) (by decide +kernel) ?_
      refine s_lOp (ad := ad) (st := [.int (nI b)]) (i := .iload 4) hx hb (by decide +kernel) rfl hl ?_
      have h8 := js_b8 n hn b (hb128 b g4)
      rw [ixF] at hq
      by_cases hc : nI b = nI n
      · rw [if_pos hc] at hq
        have h2 := h8.mpr hc
        refine s_jOp (ad := ad) (st := [.int (nI n).toInt8.toInt32, .int (nI b)]) (i := .if_icmp .ne 6) (q := (22, [])) hx hb (by decide +kernel) (Or.inl rfl) (by simp [jOp, ic2, h2, tgt, ilen]) ?_
        refine s_lOp (ad := ad) (st := []) (i := .iload 5) hx hb (by decide +kernel) rfl hl ?_
        rw [← hq]
        exact W.iret hx hb hr jr_q nil_nfr (by decide +kernel) hlk
      · rw [if_neg hc] at hq
        have h2 : ¬ nI b = (nI n).toInt8.toInt32 := fun q => hc (h8.mp q)
        refine s_jOp (ad := ad) (st := [.int (nI n).toInt8.toInt32, .int (nI b)]) (i := .if_icmp .ne 6) (q := (25, [])) hx hb (by decide +kernel) (Or.inl rfl) (by simp [jOp, ic2, h2, tgt, ilen]) ?_
        refine s_tOp (ad := ad) (st := []) (i := .iinc 5 1) hx hb (by decide +kernel) rfl hl (fun ls hl => ?_)
        refine s_jOp (ad := ad) (st := []) (i := .goto (-21)) hx hb (by decide +kernel) (Or.inl rfl) rfl ?_
        exact ih (j + 1) ls g3 (by omega) hq (by rw [nI_succ]; exact hl)
  refine s_lOp (ad := ad) (st := []) (i := .iload_n 1) hx hb (by decide +kernel) rfl hl ?_
  refine s_sOp (ad := ad) (st := [.int (nI n)]) (i := .i2b) hx hb (by decide +kernel) rfl ?_
  refine s_tOp (ad := ad) (st := [.int (nI n).toInt8.toInt32]) (i := .istore 4) hx hb (by decide +kernel) rfl hl (fun ls hl => ?_)
  refine s_lOp (ad := ad) (st := []) (i := .iload_n 2) hx hb (by decide +kernel) rfl hl ?_
  refine s_tOp (ad := ad) (st := [.int 0]) (i := .istore 5) hx hb (by decide +kernel) rfl hl (fun ls hl => ?_)
  exact loop _ 0 ls rfl (Nat.zero_le _) rfl hl
theorem jm_lio0 {i : Nat} {x : Int32} (hi : i < sBy.length) (h0 : x < 0) : Met l yJ1_indexOf_4cfef (Cond.code yJ1_indexOf_4cfef cJ1_indexOf_4cfef 4 (some .int) :: TBg) (rmJ 2 30) (jPc ad (fun U => pStr ad N0 U U.heap) [.ref (1500 + i), .int x, .int 0, .int (nI (sLen i))]) (jQc (some (.int (sIx i x)))) 0 0 nfr := by
  refine jMet (by decide +kernel) (by simp [entA, isLg]) ?_
  intro p e s m below meth c ls hx hb hr hlk hml hts hown hB hl hsz
  refine s_lOp (ad := ad) (st := []) (i := .iload_n 1) hx hb (by decide +kernel) rfl hl ?_
  refine jcallS (ad := ad) (as := [.int x]) (rest := []) (na := 1) rfl rfl (jm_enc0 h0) jB_T hx hb hts hown hsz jc_canEncode jn_L jl_88 js_canEncode (by decide +kernel) ⟨by decide, by decide⟩ (fun _ _ _ => trivial) (Nat.le_of_ble_eq_true rfl) (Nat.zero_le _) (Nat.zero_le _) (by decide +kernel) ?_
  refine s_jOp (ad := ad) (st := [.int 0]) (i := .ifCond .ne 5) hx hb (by decide +kernel) (Or.inl rfl) rfl ?_
  refine s_sOp (ad := ad) (st := []) (i := .iconst (-1)) hx hb (by decide +kernel) rfl ?_
  rw [show sIx i x = -1 from ixF_out _ _ (js_len i hi).2.2 (Or.inl h0)]
  exact W.iret hx hb hr jr_q nil_nfr (by decide +kernel) hlk
theorem jm_lio1 {i : Nat} {x : Int32} (hi : i < sBy.length) (h0 : ¬ x < 0) (h1 : 255 < x) : Met l yJ1_indexOf_4cfef (Cond.code yJ1_indexOf_4cfef cJ1_indexOf_4cfef 4 (some .int) :: TBg) (rmJ 2 30) (jPc ad (fun U => pStr ad N0 U U.heap) [.ref (1500 + i), .int x, .int 0, .int (nI (sLen i))]) (jQc (some (.int (sIx i x)))) 0 0 nfr := by
  refine jMet (by decide +kernel) (by simp [entA, isLg]) ?_
  intro p e s m below meth c ls hx hb hr hlk hml hts hown hB hl hsz
  refine s_lOp (ad := ad) (st := []) (i := .iload_n 1) hx hb (by decide +kernel) rfl hl ?_
  refine jcallS (ad := ad) (as := [.int x]) (rest := []) (na := 1) rfl rfl (jm_enc1 h0 h1) jB_T hx hb hts hown hsz jc_canEncode jn_L jl_88 js_canEncode (by decide +kernel) ⟨by decide, by decide⟩ (fun _ _ _ => trivial) (Nat.le_of_ble_eq_true rfl) (Nat.zero_le _) (Nat.zero_le _) (by decide +kernel) ?_
  refine s_jOp (ad := ad) (st := [.int 0]) (i := .ifCond .ne 5) hx hb (by decide +kernel) (Or.inl rfl) rfl ?_
  refine s_sOp (ad := ad) (st := []) (i := .iconst (-1)) hx hb (by decide +kernel) rfl ?_
  rw [show sIx i x = -1 from ixF_out _ _ (js_len i hi).2.2 (Or.inr h1)]
  exact W.iret hx hb hr jr_q nil_nfr (by decide +kernel) hlk
theorem jm_lio2 {i n : Nat} (hi : i < sBy.length) (hn : n < 256) : Met l yJ1_indexOf_4cfef (Cond.code yJ1_indexOf_4cfef cJ1_indexOf_4cfef 4 (some .int) :: TBg) (rmJ 2 30) (jPc ad (fun U => pStr ad N0 U U.heap) [.ref (1500 + i), .int (nI n), .int 0, .int (nI (sLen i))]) (jQc (some (.int (sIx i (nI n))))) 0 0 nfr := by
  refine jMet (by decide +kernel) (by simp [entA, isLg]) ?_
  intro p e s m below meth c ls hx hb hr hlk hml hts hown hB hl hsz
  obtain ⟨⟨hO, hC, hV, hT⟩, hZ, hF⟩ := (show (_ ∧ _ ∧ _ ∧ _) ∧ _ ∧ _ from ⟨hB.1 i hi, hB.2.1, hB.2.2⟩)
  obtain ⟨hl200, hl0, -⟩ := js_len i hi
  have h1 : (0 : Int32) < nI (sLen i) := nI_lt (a := 0) hl0 (by have : sLen i < 200 := hl200; omega)
  refine s_lOp (ad := ad) (st := []) (i := .iload_n 1) hx hb (by decide +kernel) rfl hl ?_
  refine jcallS (ad := ad) (as := [.int (nI n)]) (rest := []) (na := 1) rfl rfl (jm_enc2 (nI_pos (by omega)) (nI_nlt (b := n) (a := 255) (by omega) (by omega))) jB_T hx hb hts hown hsz jc_canEncode jn_L jl_88 js_canEncode (by decide +kernel) ⟨by decide, by decide⟩ (fun _ _ _ => trivial) (Nat.le_of_ble_eq_true rfl) (Nat.zero_le _) (Nat.zero_le _) (by decide +kernel) ?_
  refine s_jOp (ad := ad) (st := [.int 1]) (i := .ifCond .ne 5) hx hb (by decide +kernel) (Or.inl rfl) rfl ?_
  refine s_lOp (ad := ad) (st := []) (i := .iload_n 2) hx hb (by decide +kernel) rfl hl ?_
  refine s_sOp (ad := ad) (st := [.int 0]) (i := .iconst 0) hx hb (by decide +kernel) rfl ?_
  refine va_mmax (rest := []) (x := 0) (y := 0) hx hb hsz.symm hown (hts _ jl_m92) (hts _ wx_maxs) (hts _ wx_mi) (hts _ wx_maxc) (by decide) (by decide) (Nat.zero_le _) (Nat.zero_le _) (by decide +kernel) ?_
  rw [if_neg (show ¬ (0 : Int32) < 0 by decide)]
  refine s_tOp (ad := ad) (st := [.int 0]) (i := .istore_n 2) hx hb (by decide +kernel) rfl hl (fun ls hl => ?_)
  refine s_lOp (ad := ad) (st := []) (i := .iload_n 3) hx hb (by decide +kernel) rfl hl ?_
  refine s_lOp (ad := ad) (st := [.int (nI (sLen i))]) (i := .aload_n 0) hx hb (by decide +kernel) rfl hl ?_
  refine va_tlen hx hb hT va_S.rf rfl (by decide +kernel) ?_
  refine va_mmin (rest := []) hx hb (by rw [hml]; exact hl.1.symm) hown (hts _ jl_m38) (hts _ wx_mins) (hts _ wx_mi) (hts _ wx_minc) (by decide) (by decide) (Nat.zero_le _) (Nat.zero_le _) (by decide +kernel) ?_
  rw [show (if Int32.ofNat (sBy.getD i []).length < nI (sLen i) then Int32.ofNat (sBy.getD i []).length else nI (sLen i)) = nI (sLen i) from ite_self (nI (sLen i))]
  refine s_tOp (ad := ad) (st := [.int (nI (sLen i))]) (i := .istore_n 3) hx hb (by decide +kernel) rfl hl (fun ls hl => ?_)
  refine s_lOp (ad := ad) (st := []) (i := .iload_n 2) hx hb (by decide +kernel) rfl hl ?_
  refine s_lOp (ad := ad) (st := [.int 0]) (i := .iload_n 3) hx hb (by decide +kernel) rfl hl ?_
  refine s_jOp (ad := ad) (st := [.int (nI (sLen i)), .int 0]) (i := .if_icmp .lt 5) (q := (29, [])) hx hb (by decide +kernel) (Or.inl rfl) (by simp [jOp, ic2, h1, tgt, ilen]) ?_
  refine s_lOp (ad := ad) (st := []) (i := .aload_n 0) hx hb (by decide +kernel) rfl hl ?_
  refine s_lOp (ad := ad) (st := [.ref (1500 + i)]) (i := .iload_n 1) hx hb (by decide +kernel) rfl hl ?_
  refine s_lOp (ad := ad) (st := [.int (nI n), .ref (1500 + i)]) (i := .iload_n 2) hx hb (by decide +kernel) rfl hl ?_
  refine s_lOp (ad := ad) (st := [.int 0, .int (nI n), .ref (1500 + i)]) (i := .iload_n 3) hx hb (by decide +kernel) rfl hl ?_
  refine jcallS (ad := ad) (as := [.ref (1500 + i), .int (nI n), .int 0, .int (nI (sLen i))]) (rest := []) (na := 4) rfl rfl (jm_ioc hi hn) (jB_str ad N0) hx hb hts hown (by rw [hml]; exact hl.1) jc_indexOfChar jn_L jl_95 js_indexOfChar (by decide +kernel) ⟨by decide, by decide⟩ (fun U hU hW => by rw [hU]; exact hB.moved hW.alike) (Nat.le_of_ble_eq_true rfl) (Nat.zero_le _) (Nat.zero_le _) (by decide +kernel) ?_
  exact W.iret hx hb hr jr_q nil_nfr (by decide +kernel) hlk
theorem jm_lio {i : Nat} {x : Int32} (hi : i < sBy.length) : Met l yJ1_indexOf_4cfef (Cond.code yJ1_indexOf_4cfef cJ1_indexOf_4cfef 4 (some .int) :: TBg) (rmJ 2 30) (jPc ad (fun U => pStr ad N0 U U.heap) [.ref (1500 + i), .int x, .int 0, .int (nI (sLen i))]) (jQc (some (.int (sIx i x)))) 0 0 nfr := by
  by_cases h0 : x < 0
  · exact jm_lio0 hi h0
  · by_cases h1 : 255 < x
    · exact jm_lio1 hi h0 h1
    · have h2 : ∃ n, n < 256 ∧ x = nI n := by
        rw [Int32.lt_iff_toInt_lt] at h0 h1
        have e1 : (0 : Int32).toInt = 0 := by decide
        have e2 : (255 : Int32).toInt = 255 := by decide
        rw [e1] at h0
        rw [e2] at h1
        refine ⟨x.toInt.toNat, by omega, ?_⟩
        apply Int32.toInt_inj.mp
        rw [nI_toInt (by omega)]
        omega
      obtain ⟨n, hn, rfl⟩ := h2
      exact jm_lio2 hi hn
theorem jm_io2 {i : Nat} {x : Int32} (hi : i < sBy.length) : Met l yJ0_indexOf_7cf53 (Cond.code yJ0_indexOf_7cf53 cJ0_indexOf_7cf53 3 (some .int) :: TBg) (rmJ 3 53) (jPc ad (fun U => pStr ad N0 U U.heap) [.ref (1000 + i), .int x, .int 0]) (jQc (some (.int (sIx i x)))) 0 0 nfr := by
  refine jMet (by decide +kernel) (by simp [entA, isLg]) ?_
  intro p e s m below meth c ls hx hb hr hlk hml hts hown hB hl hsz
  obtain ⟨⟨hO, hC, hV, hT⟩, hZ, hF⟩ := (show (_ ∧ _ ∧ _ ∧ _) ∧ _ ∧ _ from ⟨hB.1 i hi, hB.2.1, hB.2.2⟩)
  refine s_lOp (ad := ad) (st := []) (i := .aload_n 0) hx hb (by decide +kernel) rfl hl ?_
  refine jcallV (ad := ad) (as := []) (rest := []) (b := 1000 + i) (na := 0) rfl rfl (jm_isLatin1 hi) (jB_str ad N0) hx hb hts hown hsz jc_isLatin1 jn_S jl_492 ji_isLatin1 jv_isLatin1 (by decide +kernel) ⟨by decide, by decide⟩ (fun U hU hW => by rw [hU]; exact hB.moved hW.alike) (hB.cell hi (fun _ _ _ => rfl)) (Nat.le_of_ble_eq_true rfl) (Nat.zero_le _) (Nat.zero_le _) (by decide +kernel) ?_
  refine s_jOp (ad := ad) (st := [.int 1]) (i := .ifCond .eq 19) hx hb (by decide +kernel) (Or.inl rfl) rfl ?_
  refine s_lOp (ad := ad) (st := []) (i := .aload_n 0) hx hb (by decide +kernel) rfl hl ?_
  refine vk_getf hx hb hV va_S.rf hown (hts _ jf_9) (fun _ h => h) (by decide +kernel) ?_
  refine s_lOp (ad := ad) (st := [.ref (1500 + i)]) (i := .iload_n 1) hx hb (by decide +kernel) rfl hl ?_
  refine s_lOp (ad := ad) (st := [.int x, .ref (1500 + i)]) (i := .iload_n 2) hx hb (by decide +kernel) rfl hl ?_
  refine s_lOp (ad := ad) (st := [.int 0, .int x, .ref (1500 + i)]) (i := .aload_n 0) hx hb (by decide +kernel) rfl hl ?_
  refine jcallV (ad := ad) (as := []) (rest := [.int 0, .int x, .ref (ad (1500 + i))]) (b := 1000 + i) (na := 0) rfl rfl (jm_length hi) (jB_str ad N0) hx hb hts hown hsz jc_length jn_S jl_505 ji_length jv_length (by decide +kernel) ⟨by decide, by decide⟩ (fun U hU hW => by rw [hU]; exact hB.moved hW.alike) (hB.cell hi (fun _ _ _ => rfl)) (Nat.le_of_ble_eq_true rfl) (Nat.zero_le _) (Nat.zero_le _) (by decide +kernel) ?_
  refine jcallS (ad := ad) (as := [.ref (1500 + i), .int x, .int 0, .int (nI (sLen i))]) (rest := []) (na := 4) rfl rfl (jm_lio hi) (jB_str ad N0) hx hb hts hown hsz jc_LindexOf jn_L jl_637 js_LindexOf (by decide +kernel) ⟨by decide, by decide⟩ (fun U hU hW => by rw [hU]; exact hB.moved hW.alike) (Nat.le_of_ble_eq_true rfl) (Nat.zero_le _) (Nat.zero_le _) (by decide +kernel) ?_
  refine s_jOp (ad := ad) (st := [.int (sIx i x)]) (i := .goto 16) (q := (36, [.int (sIx i x)])) hx hb (by decide +kernel) (Or.inl rfl) rfl ?_
  exact W.iret (pc := 36) hx hb hr jr_q nil_nfr (by decide +kernel) hlk
theorem jm_io1 {i : Nat} {x : Int32} (hi : i < sBy.length) : Met l yJ0_indexOf_0f7a4 (Cond.code yJ0_indexOf_0f7a4 cJ0_indexOf_0f7a4 2 (some .int) :: TBg) (rmJ 4 75) (jPc ad (fun U => pStr ad N0 U U.heap) [.ref (1000 + i), .int x]) (jQc (some (.int (sIx i x)))) 0 0 nfr := by
  refine jMet (by decide +kernel) (by simp [entA, isLg]) ?_
  intro p e s m below meth c ls hx hb hr hlk hml hts hown hB hl hsz
  refine s_lOp (ad := ad) (st := []) (i := .aload_n 0) hx hb (by decide +kernel) rfl hl ?_
  refine s_lOp (ad := ad) (st := [.ref (1000 + i)]) (i := .iload_n 1) hx hb (by decide +kernel) rfl hl ?_
  refine s_sOp (ad := ad) (st := [.int x, .ref (1000 + i)]) (i := .iconst 0) hx hb (by decide +kernel) rfl ?_
  refine jcallV (ad := ad) (as := [.int x, .int 0]) (rest := []) (b := 1000 + i) (na := 2) rfl rfl (jm_io2 hi) (jB_str ad N0) hx hb hts hown hsz jc_indexOf2 jn_S jl_633 ji_indexOf2 jv_indexOf2 (by decide +kernel) ⟨by decide, by decide⟩ (fun U hU hW => by rw [hU]; exact hB.moved hW.alike) (hB.cell hi (fun _ _ _ => rfl)) (Nat.le_of_ble_eq_true rfl) (Nat.zero_le _) (Nat.zero_le _) (by decide +kernel) ?_
  exact W.iret hx hb hr jr_q nil_nfr (by decide +kernel) hlk
/-- members of constant texts go through on the machine -/
theorem str_ok {SL : Nat} {xs : Nat → Int32} {cs : pCs} {D : va_G} : StrOk l ad N0 SL xs cs D := by
  intro p e R s m args below meth c H locs cells slots Q ls mid pc c0 i st st' C hS hsz h hd hf hlo hcc hcs k
  obtain ⟨hx, hb, -, -, -, hts, hown, -, hK, hN0, -, hE, had⟩ := C
  have hk := k H locs rfl rfl
  have hkept : ∀ a : Nat, a < s.heap.size → ¬ N0 ≤ a → H[a]? = s.heap[a]? := fun a h1 h2 => hS.2.1 a h1 h2
  have hB : ∀ U : State, U.heap = H → s.WarmedH U.vm → pStr ad N0 U U.heap := fun U hU hW => by rw [hU]; exact (hE.1.kept hkept).moved hW.alike
  unfold hStr at h
  split at h
  · rename_i x
    split at h
    · rename_i w hl
      split at h
      · rename_i q r
        split at h
        · rename_i hc
          cases h
          obtain ⟨hm, e1, e2⟩ := lkp_mem hl
          have w1 : Cond.methodLink (ownR _) _ yJ0_length_8abf5 ∈ TBg := mT_ok _ hm
          rw [e1, e2] at w1
          obtain ⟨i, rfl⟩ : ∃ i, q = 1000 + i := ⟨q - 1000, (Nat.add_sub_of_le hc.2.1).symm⟩
          have hi : i < sBy.length := Nat.lt_of_add_lt_add_left hc.2.2
          rw [Nat.add_sub_cancel_left] at hk
          refine jcallV (ad := ad) (as := []) (rest := r.map (trV ad)) (b := 1000 + i) (na := 0) rfl rfl (jm_length (N0 := N0) hi) (jB_str ad N0) hx hb hts hown hsz jc_length jn_S w1 ji_length jv_length (by decide +kernel) ⟨by omega, by omega⟩ hB (hE.1.cell hi hkept) (by rw [stW_tr]; exact hc.1) hcc hcs hd hk
        · cases h
      · cases h
    · rename_i w hl
      split at h
      · rename_i kk q r
        split at h
        · rename_i hc
          cases h
          obtain ⟨hm, e1, e2⟩ := lkp_mem hl
          have w1 : Cond.methodLink (ownR _) _ yJ0_charAt_5068e ∈ TBg := mT_ok _ hm
          rw [e1, e2] at w1
          obtain ⟨i, rfl⟩ : ∃ i, q = 1000 + i := ⟨q - 1000, (Nat.add_sub_of_le hc.2.1).symm⟩
          have hi : i < sBy.length := Nat.lt_of_add_lt_add_left hc.2.2.1
          rw [Nat.add_sub_cancel_left] at hk hc
          have hin := inB_in hc.2.2.2
          obtain ⟨k0, rfl, hk0⟩ : ∃ k0, kk = nI k0 ∧ k0 < (sBy.getD i []).length := by
            refine ⟨kk.toNatClampNeg, ?_, Nat.lt_of_not_le (fun q => hin (Or.inr q))⟩
            have h9 : ¬ kk < 0 := fun q => hin (Or.inl q)
            rw [Int32.lt_iff_toInt_lt] at h9
            have e0 : (0 : Int32).toInt = 0 := by decide
            rw [e0] at h9
            have hlt : kk.toInt < 2 ^ 31 := kk.toInt_lt
            apply Int32.toInt_inj.mp
            show kk.toInt = (nI kk.toInt.toNat).toInt
            rw [nI_toInt (by omega)]
            omega
          have hl200 := (js_len i hi).1
          rw [nI_clamp (by omega)] at hk
          refine jcallV (ad := ad) (as := [.int (nI k0)]) (rest := r.map (trV ad)) (b := 1000 + i) (na := 1) rfl rfl (jm_charAt (N0 := N0) hi hk0) (jB_str ad N0) hx hb hts hown hsz jc_charAt jn_S w1 ji_charAt jv_charAt (by decide +kernel) ⟨by omega, by omega⟩ hB (hE.1.cell hi hkept) (by rw [stW_tr]; exact hc.1) hcc hcs hd hk
        · cases h
      · cases h
    · rename_i w hl
      split at h
      · rename_i x0 q r
        split at h
        · rename_i hc
          cases h
          obtain ⟨hm, e1, e2⟩ := lkp_mem hl
          have w1 : Cond.methodLink (ownR _) _ yJ0_indexOf_0f7a4 ∈ TBg := mT_ok _ hm
          rw [e1, e2] at w1
          obtain ⟨i, rfl⟩ : ∃ i, q = 1000 + i := ⟨q - 1000, (Nat.add_sub_of_le hc.2.1).symm⟩
          have hi : i < sBy.length := Nat.lt_of_add_lt_add_left hc.2.2
          rw [Nat.add_sub_cancel_left] at hk
          refine jcallV (ad := ad) (as := [.int x0]) (rest := r.map (trV ad)) (b := 1000 + i) (na := 1) rfl rfl (jm_io1 (N0 := N0) hi) (jB_str ad N0) hx hb hts hown hsz jc_indexOf1 jn_S w1 ji_indexOf1 jv_indexOf1 (by decide +kernel) ⟨by omega, by omega⟩ hB (hE.1.cell hi hkept) (by rw [stW_tr]; exact hc.1) hcc hcs hd hk
        · cases h
      · cases h
    · cases h
  · cases h
end JStr
