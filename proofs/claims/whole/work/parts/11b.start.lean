/-! the start of the law -/
section Start
theorem tl_1 {w : Cond} (h : w ∈ tables_1_1) : w ∈ lw_tbl := (List.mem_append_right _ (List.mem_append_left _ h))
theorem tl_2 {w : Cond} (h : w ∈ tables_1_2) : w ∈ lw_tbl := (List.mem_append_right _ (List.mem_append_right _ (List.mem_append_left _ h)))
theorem tl_3 {w : Cond} (h : w ∈ tables_1_3) : w ∈ lw_tbl := (List.mem_append_right _ (List.mem_append_right _ (List.mem_append_right _ (List.mem_append_left _ h))))
theorem tl_4 {w : Cond} (h : w ∈ tables_1_4) : w ∈ lw_tbl := (List.mem_append_right _ (List.mem_append_right _ (List.mem_append_right _ (List.mem_append_right _ (List.mem_append_left _ h)))))
theorem tl_5 {w : Cond} (h : w ∈ tables_1_5) : w ∈ lw_tbl := (List.mem_append_right _ (List.mem_append_right _ (List.mem_append_right _ (List.mem_append_right _ (List.mem_append_right _ (List.mem_append_left _ h))))))
theorem tl_6 {w : Cond} (h : w ∈ tables_1_6) : w ∈ lw_tbl := (List.mem_append_right _ (List.mem_append_right _ (List.mem_append_right _ (List.mem_append_right _ (List.mem_append_right _ (List.mem_append_right _ (List.mem_append_left _ h)))))))
theorem tl_7 {w : Cond} (h : w ∈ tables_1_7) : w ∈ lw_tbl := (List.mem_append_right _ (List.mem_append_right _ (List.mem_append_right _ (List.mem_append_right _ (List.mem_append_right _ (List.mem_append_right _ (List.mem_append_right _ (List.mem_append_left _ h))))))))
theorem tl_8 {w : Cond} (h : w ∈ tables_1_8) : w ∈ lw_tbl := (List.mem_append_right _ (List.mem_append_right _ (List.mem_append_right _ (List.mem_append_right _ (List.mem_append_right _ (List.mem_append_right _ (List.mem_append_right _ (List.mem_append_right _ (List.mem_append_left _ h)))))))))
theorem tl_9 {w : Cond} (h : w ∈ tables_1_9) : w ∈ lw_tbl := (List.mem_append_right _ (List.mem_append_right _ (List.mem_append_right _ (List.mem_append_right _ (List.mem_append_right _ (List.mem_append_right _ (List.mem_append_right _ (List.mem_append_right _ (List.mem_append_right _ h)))))))))
theorem sr_0 : Cond.stringRef "TableTower" 90 "the tape has not so many bytes" ∈ lw_tbl := tl_4 (List.mem_of_getElem? (i := 172) rfl)
theorem sr_1 : Cond.stringRef "TableTower$Reader" 199 ";()+-*/<=" ∈ lw_tbl := tl_4 (List.mem_of_getElem? (i := 214) rfl)
theorem sr_2 : Cond.stringRef "TableTower$Reader" 167 "pine" ∈ lw_tbl := tl_5 (List.mem_of_getElem? (i := 65) rfl)
theorem sr_3 : Cond.stringRef "TableTower$Reader" 169 "oak" ∈ lw_tbl := tl_5 (List.mem_of_getElem? (i := 91) rfl)
theorem sr_4 : Cond.stringRef "TableTower$Reader" 171 "folding" ∈ lw_tbl := tl_5 (List.mem_of_getElem? (i := 92) rfl)
theorem sr_5 : Cond.stringRef "TableTower$Reader" 173 "castor" ∈ lw_tbl := tl_5 (List.mem_of_getElem? (i := 93) rfl)
theorem sr_6 : Cond.stringRef "TableTower$Reader" 71 "limit" ∈ lw_tbl := tl_5 (List.mem_of_getElem? (i := 114) rfl)
theorem sr_7 : Cond.stringRef "TableTower$Reader" 80 "food" ∈ lw_tbl := tl_5 (List.mem_of_getElem? (i := 119) rfl)
theorem sr_8 : Cond.stringRef "TableTower$Reader" 85 "takes" ∈ lw_tbl := tl_5 (List.mem_of_getElem? (i := 124) rfl)
theorem sr_9 : Cond.stringRef "TableTower$Reader" 145 "not" ∈ lw_tbl := tl_5 (List.mem_of_getElem? (i := 141) rfl)
theorem sr_10 : Cond.stringRef "TableTower$Reader" 175 "level" ∈ lw_tbl := tl_5 (List.mem_of_getElem? (i := 166) rfl)
theorem sr_11 : Cond.stringRef "TableTower$Reader" 177 "hunger" ∈ lw_tbl := tl_5 (List.mem_of_getElem? (i := 167) rfl)
theorem sr_12 : Cond.stringRef "TableTower$Reader" 178 "left" ∈ lw_tbl := tl_5 (List.mem_of_getElem? (i := 168) rfl)
theorem sr_13 : Cond.stringRef "TableTower$Reader" 180 "kind" ∈ lw_tbl := tl_5 (List.mem_of_getElem? (i := 169) rfl)
theorem sr_14 : Cond.stringRef "TableTower$Reader" 181 "above" ∈ lw_tbl := tl_5 (List.mem_of_getElem? (i := 170) rfl)
theorem sr_15 : Cond.stringRef "TableTower$Reader" 183 "weight" ∈ lw_tbl := tl_5 (List.mem_of_getElem? (i := 171) rfl)
theorem sr_16 : Cond.stringRef "TableTower$Reader" 144 "and" ∈ lw_tbl := tl_5 (List.mem_of_getElem? (i := 172) rfl)
theorem sr_17 : Cond.stringRef "TableTower$Reader" 135 "or" ∈ lw_tbl := tl_5 (List.mem_of_getElem? (i := 173) rfl)
theorem sr_18 : Cond.stringRef "TableTower" 159 "no such count" ∈ lw_tbl := tl_5 (List.mem_of_getElem? (i := 216) rfl)
theorem sr_19 : Cond.stringRef "TableTower" 380 "no such TABLE" ∈ lw_tbl := tl_5 (List.mem_of_getElem? (i := 234) rfl)
theorem sr_20 : Cond.stringRef "TableTower" 190 "no such thing of a TABLE" ∈ lw_tbl := tl_5 (List.mem_of_getElem? (i := 237) rfl)
theorem sr_21 : Cond.stringRef "TableTower" 384 "no such LEVEL" ∈ lw_tbl := tl_6 (List.mem_of_getElem? (i := 9) rfl)
theorem sr_22 : Cond.stringRef "TableTower" 214 "no such thing of a LEVEL" ∈ lw_tbl := tl_6 (List.mem_of_getElem? (i := 12) rfl)
theorem sr_23 : Cond.stringRef "TableTower" 254 "no such thing of THE MOST" ∈ lw_tbl := tl_6 (List.mem_of_getElem? (i := 87) rfl)
theorem sr_24 : Cond.stringRef "TableTower" 267 "no such LEVEL of THE MOST" ∈ lw_tbl := tl_6 (List.mem_of_getElem? (i := 108) rfl)
theorem sr_25 : Cond.stringRef "TableTower" 285 "both are one" ∈ lw_tbl := tl_6 (List.mem_of_getElem? (i := 116) rfl)
theorem sr_26 : Cond.stringRef "TableTower" 382 "no such TABLE in THE TOWER" ∈ lw_tbl := tl_6 (List.mem_of_getElem? (i := 129) rfl)
theorem sr_27 : Cond.stringRef "TableTower" 293 "not 0 to 99" ∈ lw_tbl := tl_6 (List.mem_of_getElem? (i := 130) rfl)
theorem sr_28 : Cond.stringRef "TableTower" 307 "no such TABLES, or not 0 to 10" ∈ lw_tbl := tl_6 (List.mem_of_getElem? (i := 159) rfl)
theorem sr_29 : Cond.stringRef "TableTower" 321 "not 0 to 999" ∈ lw_tbl := tl_6 (List.mem_of_getElem? (i := 183) rfl)
theorem sr_30 : Cond.stringRef "TableTower" 344 "no such thing of WHICH LEG" ∈ lw_tbl := tl_6 (List.mem_of_getElem? (i := 208) rfl)
theorem sr_31 : Cond.stringRef "TableTower" 349 "no such thing of A GAME" ∈ lw_tbl := tl_6 (List.mem_of_getElem? (i := 216) rfl)
theorem sr_32 : Cond.stringRef "TableTower" 360 "no such thing of YEARS by a seed" ∈ lw_tbl := tl_7 (List.mem_of_getElem? (i := 0) rfl)
theorem sr_33 : Cond.stringRef "TableTower" 362 "not 0 to 40" ∈ lw_tbl := tl_7 (List.mem_of_getElem? (i := 1) rfl)
theorem sr_34 : Cond.stringRef "TableTowerModel" 11 "pine" ∈ lw_tbl := tl_7 (List.mem_of_getElem? (i := 25) rfl)
theorem sr_35 : Cond.stringRef "TableTowerModel" 13 "oak" ∈ lw_tbl := tl_7 (List.mem_of_getElem? (i := 26) rfl)
theorem sr_36 : Cond.stringRef "TableTowerModel" 15 "folding" ∈ lw_tbl := tl_7 (List.mem_of_getElem? (i := 27) rfl)
theorem sr_37 : Cond.stringRef "TableTowerModel" 17 "castor" ∈ lw_tbl := tl_7 (List.mem_of_getElem? (i := 28) rfl)
theorem sr_38 : Cond.stringRef "TableTowerModel" 23 "level" ∈ lw_tbl := tl_7 (List.mem_of_getElem? (i := 29) rfl)
theorem sr_39 : Cond.stringRef "TableTowerModel" 25 "hunger" ∈ lw_tbl := tl_7 (List.mem_of_getElem? (i := 30) rfl)
theorem sr_40 : Cond.stringRef "TableTowerModel" 27 "left" ∈ lw_tbl := tl_7 (List.mem_of_getElem? (i := 31) rfl)
theorem sr_41 : Cond.stringRef "TableTowerModel" 29 "kind" ∈ lw_tbl := tl_7 (List.mem_of_getElem? (i := 32) rfl)
theorem sr_42 : Cond.stringRef "TableTowerModel" 31 "above" ∈ lw_tbl := tl_7 (List.mem_of_getElem? (i := 33) rfl)
theorem sr_43 : Cond.stringRef "TableTowerModel" 33 "weight" ∈ lw_tbl := tl_7 (List.mem_of_getElem? (i := 34) rfl)
theorem sr_44 : Cond.stringRef "TableTowerModel" 260 "limit" ∈ lw_tbl := tl_8 (List.mem_of_getElem? (i := 10) rfl)
theorem sr_45 : Cond.stringRef "TableTowerModel" 262 "food" ∈ lw_tbl := tl_8 (List.mem_of_getElem? (i := 17) rfl)
theorem sr_46 : Cond.stringRef "TableTowerModel" 264 "takes" ∈ lw_tbl := tl_8 (List.mem_of_getElem? (i := 18) rfl)
theorem sr_47 : Cond.stringRef "TableTowerModel" 245 "not" ∈ lw_tbl := tl_8 (List.mem_of_getElem? (i := 47) rfl)
theorem sr_48 : Cond.stringRef "TableTowerModel" 253 "and" ∈ lw_tbl := tl_8 (List.mem_of_getElem? (i := 68) rfl)
theorem sr_49 : Cond.stringRef "TableTowerModel" 258 "or" ∈ lw_tbl := tl_8 (List.mem_of_getElem? (i := 69) rfl)
theorem kS_sr : ∀ q ∈ kS, Cond.stringRef (ownR (q.1 / 10000)) (q.1 % 10000) (sTx.getD q.2 "") ∈ lw_tbl := (List.forall_mem_cons.mpr ⟨sr_0, (List.forall_mem_cons.mpr ⟨sr_1, (List.forall_mem_cons.mpr ⟨sr_2, (List.forall_mem_cons.mpr ⟨sr_3, (List.forall_mem_cons.mpr ⟨sr_4, (List.forall_mem_cons.mpr ⟨sr_5, (List.forall_mem_cons.mpr ⟨sr_6, (List.forall_mem_cons.mpr ⟨sr_7, (List.forall_mem_cons.mpr ⟨sr_8, (List.forall_mem_cons.mpr ⟨sr_9, (List.forall_mem_cons.mpr ⟨sr_10, (List.forall_mem_cons.mpr ⟨sr_11, (List.forall_mem_cons.mpr ⟨sr_12, (List.forall_mem_cons.mpr ⟨sr_13, (List.forall_mem_cons.mpr ⟨sr_14, (List.forall_mem_cons.mpr ⟨sr_15, (List.forall_mem_cons.mpr ⟨sr_16, (List.forall_mem_cons.mpr ⟨sr_17, (List.forall_mem_cons.mpr ⟨sr_18, (List.forall_mem_cons.mpr ⟨sr_19, (List.forall_mem_cons.mpr ⟨sr_20, (List.forall_mem_cons.mpr ⟨sr_21, (List.forall_mem_cons.mpr ⟨sr_22, (List.forall_mem_cons.mpr ⟨sr_23, (List.forall_mem_cons.mpr ⟨sr_24, (List.forall_mem_cons.mpr ⟨sr_25, (List.forall_mem_cons.mpr ⟨sr_26, (List.forall_mem_cons.mpr ⟨sr_27, (List.forall_mem_cons.mpr ⟨sr_28, (List.forall_mem_cons.mpr ⟨sr_29, (List.forall_mem_cons.mpr ⟨sr_30, (List.forall_mem_cons.mpr ⟨sr_31, (List.forall_mem_cons.mpr ⟨sr_32, (List.forall_mem_cons.mpr ⟨sr_33, (List.forall_mem_cons.mpr ⟨sr_34, (List.forall_mem_cons.mpr ⟨sr_35, (List.forall_mem_cons.mpr ⟨sr_36, (List.forall_mem_cons.mpr ⟨sr_37, (List.forall_mem_cons.mpr ⟨sr_38, (List.forall_mem_cons.mpr ⟨sr_39, (List.forall_mem_cons.mpr ⟨sr_40, (List.forall_mem_cons.mpr ⟨sr_41, (List.forall_mem_cons.mpr ⟨sr_42, (List.forall_mem_cons.mpr ⟨sr_43, (List.forall_mem_cons.mpr ⟨sr_44, (List.forall_mem_cons.mpr ⟨sr_45, (List.forall_mem_cons.mpr ⟨sr_46, (List.forall_mem_cons.mpr ⟨sr_47, (List.forall_mem_cons.mpr ⟨sr_48, (List.forall_mem_cons.mpr ⟨sr_49, fun _ h => nomatch h⟩)⟩)⟩)⟩)⟩)⟩)⟩)⟩)⟩)⟩)⟩)⟩)⟩)⟩)⟩)⟩)⟩)⟩)⟩)⟩)⟩)⟩)⟩)⟩)⟩)⟩)⟩)⟩)⟩)⟩)⟩)⟩)⟩)⟩)⟩)⟩)⟩)⟩)⟩)⟩)⟩)⟩)⟩)⟩)⟩)⟩)⟩)⟩)⟩)⟩)
theorem sn_1 : Cond.methodLinkNest RX7 29 yX4_init "TableTower" ∈ lw_tbl := tl_1 (List.mem_of_getElem? (i := 41) rfl)
theorem sn_2 : Cond.methodLinkNest RX5 11 yX0_init "TableTower" ∈ lw_tbl := tl_1 (List.mem_of_getElem? (i := 194) rfl)
theorem sn_3 : Cond.arrayOver (.object "java/lang/String") ∈ lw_tbl := tl_7 (List.mem_of_getElem? (i := 24) rfl)
theorem sn_d0 : Cond.declares (Jvm.Bundle.initS "java/lang/RuntimeException") ∈ lw_tbl := tl_4 (List.mem_of_getElem? (i := 136) rfl)
theorem sn_d1 : Cond.declares (Jvm.Bundle.initS "java/lang/Exception") ∈ lw_tbl := tl_4 (List.mem_of_getElem? (i := 138) rfl)
theorem sn_d2 : Cond.declares (Jvm.Bundle.initS Jvm.Bundle.tN) ∈ lw_tbl := tl_4 (List.mem_of_getElem? (i := 140) rfl)
theorem sn_c0 : Cond.castable "java/lang/IllegalArgumentException" "java/lang/IllegalArgumentException" ∈ lw_tbl := tl_4 (List.mem_of_getElem? (i := 134) rfl)
theorem sn_c1 : Cond.castable "java/util/NoSuchElementException" "java/util/NoSuchElementException" ∈ lw_tbl := tl_5 (List.mem_of_getElem? (i := 209) rfl)
theorem sl_1 : Cond.laysStatic "java/lang/Throwable" "UNASSIGNED_STACK" "[Ljava/lang/StackTraceElement;" ∈ lw_tbl := tl_4 (List.mem_of_getElem? (i := 159) rfl)
theorem sl_2 : Cond.laysStatic "java/lang/Throwable" "SUPPRESSED_SENTINEL" "Ljava/util/List;" ∈ lw_tbl := tl_4 (List.mem_of_getElem? (i := 161) rfl)
theorem sl_3 : Cond.laysStatic "java/lang/String" "COMPACT_STRINGS" "Z" ∈ lw_tbl := tl_4 (List.mem_of_getElem? (i := 228) rfl)
theorem sl_4 : Cond.laysStatic "jdk/internal/util/Preconditions" "SIOOBE_FORMATTER" "Ljava/util/function/BiFunction;" ∈ lw_tbl := tl_5 (List.mem_of_getElem? (i := 27) rfl)
theorem si_1 : Cond.initialized "java/lang/Throwable" ∈ lw_tbl := tl_1 (List.mem_of_getElem? (i := 12) rfl)
theorem si_3 : Cond.initialized "java/lang/String" ∈ lw_tbl := tl_1 (List.mem_of_getElem? (i := 17) rfl)
theorem si_4 : Cond.initialized "jdk/internal/util/Preconditions" ∈ lw_tbl := tl_1 (List.mem_of_getElem? (i := 20) rfl)
def R_law : String := "TableTowerLaw"
def lw_P (b : Addr) (xs : List Int32) (args : Array Value) (s : State) : Prop := args = #[.ref b] ∧ s.IntsAt b xs ∧ xs.length ≤ 3072 ∧ (Jvm.Cond.and given_1 narrow_1).before args s = true
def lw_Q (_ : Array Value) (s : State) (o : Outcome) (t : State) : Prop := o = .returned (some (.int 1)) ∧ Framed s o t [] 601024 7293034
def lw_Z (below : List Frame) (a : Array Value) (s : State) : State → Prop := fun t => ∃ o, t.status = .running ∧ Ended t below o ∧ lw_Q a s o t
theorem lw_ret {p : Program} {l : Launch} {e : Env} {s : State} {m : MethodId} {below : List Frame} {meth : Method} {c : Code} {b : Nat} (hx : p.tables.exec = Jvm.exec) (hb : c.code = code) (hr : meth.sig.returnType = ret) (hlocks : meth.locks = false) {pc : Nat} {H : Heap} {ls : Array Slot} (hdg : decode code pc = .ok (.ireturn, 1)) : W p l e room_1 s m #[Value.ref b] below meth c H [] 601024 7293034 (lw_Z below #[Value.ref b] s) (F0 m pc ls [.int 1]) := by
  intro T hT X
  obtain ⟨fs, hret, hrun, hended, hW, hframe⟩ := X.leave (v := some (.int 1)) (hlocks := hlocks) (fun h => by rw [hr] at h; cases h)
  have hmeth' : T.vm.method? m = some meth := X.method'
  refine ⟨T.setFrames fs, ?_, .returned (some (.int 1)), hrun, hended, rfl, ⟨_, rfl⟩, hW, hframe⟩
  jvm_step X.here [X.here.top, hx, hb, hdg, hmeth', hr, ret, narrow_b1]
  (try refine ⟨rfl, ?_⟩); (try refine ⟨rfl, ?_⟩)
  first | (intro acts; rw [hret _ acts rfl rfl rfl]) | rw [hret _ _ rfl rfl rfl]
  exact Steps.refl _
def lw_At (p : Program) (s : State) (m : MethodId) (meth : Method) (c : Code) (b L : Nat) (xs : Nat → Int32) : Prop :=
  p.tables.exec = Jvm.exec ∧ c.code = code ∧ meth.sig.returnType = ret ∧ c.maxLocals = 8 ∧ s.vm.findClass R_law = some m.cls ∧ (∀ w ∈ lw_tbl, w.before #[Value.ref b] s = true) ∧ va_X b L xs s s.heap ∧ b < s.heap.size ∧ meth.locks = false ∧ (Jvm.Cond.and given_1 narrow_1).before #[Value.ref b] s = true
abbrev gvn : Cond := Jvm.Cond.and given_1 narrow_1
/-- the term of a text -/
def tmS (n : Nat) : Term := .string (ownR ((kS.getD n (0, 0)).1 / 10000)) ((kS.getD n (0, 0)).1 % 10000)
theorem sBy_34 : sBy.length = 34 := by decide +kernel
def psT (n : Nat) : Nat := [35, 69, 82, 90, 97, 108, 118, 127, 135, 144, 151, 160, 170, 178, 186, 195, 205, 212, 218, 235, 252, 280, 297, 325, 354, 383, 399, 429, 444, 478, 494, 524, 551, 587, 610, 618, 630, 641, 651, 662, 671, 680, 690, 701, 711, 720, 730, 738, 746, 753].getD n 0
theorem fl_mem {w : Cond} {n : Nat} (h : (flatC gvn)[n]? = some w) : w ∈ flatC gvn := List.mem_of_getElem? h
theorem st_ex : ∀ i, i < 34 → Cond.exactly (tmS i) "java/lang/String" ∈ flatC gvn := fun i hi => fl_mem ((show ∀ i, i < 34 → (flatC gvn)[psT i]? = some (Cond.exactly (tmS i) "java/lang/String") by decide +kernel) i hi)
theorem st_co : ∀ i, i < 34 → Cond.eq (.field (tmS i) "java/lang/String" "coder" "B") (.int 0) ∈ flatC gvn := fun i hi => fl_mem ((show ∀ i, i < 34 → (flatC gvn)[psT i + 1]? = some (Cond.eq (.field (tmS i) "java/lang/String" "coder" "B") (.int 0)) by decide +kernel) i hi)
theorem st_ar : ∀ i, i < 34 → Cond.arrayOf (.field (tmS i) "java/lang/String" "value" "[B") .byte ∈ flatC gvn := fun i hi => fl_mem ((show ∀ i, i < 34 → (flatC gvn)[psT i + 2]? = some (Cond.arrayOf (.field (tmS i) "java/lang/String" "value" "[B") .byte) by decide +kernel) i hi)
theorem st_le : ∀ i, i < 34 → Cond.eq (.length (.field (tmS i) "java/lang/String" "value" "[B")) (.int (Int32.ofNat (sBy.getD i []).length)) ∈ flatC gvn := fun i hi => fl_mem ((show ∀ i, i < 34 → (flatC gvn)[psT i + 3]? = some (Cond.eq (.length (.field (tmS i) "java/lang/String" "value" "[B")) (.int (Int32.ofNat (sBy.getD i []).length))) by decide +kernel) i hi)
theorem st_el : ∀ i, i < 34 → ∀ j, j < (sBy.getD i []).length → Cond.eq (.elem (.field (tmS i) "java/lang/String" "value" "[B") (.int (Int32.ofNat j))) (.int (nI ((sBy.getD i []).getD j 0))) ∈ flatC gvn := fun i hi j hj => fl_mem ((show ∀ i, i < 34 → ∀ j, j < (sBy.getD i []).length → (flatC gvn)[psT i + 4 + j]? = some (Cond.eq (.elem (.field (tmS i) "java/lang/String" "value" "[B") (.int (Int32.ofNat j))) (.int (nI ((sBy.getD i []).getD j 0)))) by decide +kernel) i hi j hj)
theorem st_own : ∀ n, n < 34 → (kS.getD n (0, 0)).2 = n := by decide +kernel
theorem st_eq : ∀ n, n < 50 → 34 ≤ n → Cond.eq (tmS (kS.getD n (0, 0)).2) (tmS n) ∈ flatC gvn := fun n hn hn2 => fl_mem ((show ∀ n, n < 50 → 34 ≤ n → (flatC gvn)[psT n]? = some (Cond.eq (tmS (kS.getD n (0, 0)).2) (tmS n)) by decide +kernel) n hn hn2)
theorem st_lt : ∀ n, n < 50 → (kS.getD n (0, 0)).2 < 34 := by decide +kernel
theorem st_texts {args : Array Value} {s : State} {A : Nat → Prop} (hs : ∀ w ∈ flatC gvn, w.before args s = true) (hA : ∀ a : Nat, a < s.heap.size → ¬ A a) :
    ∃ q : Nat → Nat × Nat, ∀ i, i < 34 → (tmS i).eval args s none [] s = some (.ref (q i).1) ∧ va_O "java/lang/String" (q i).1 A s s.heap ∧ va_OF "java/lang/String" "coder" "B" (.int 0) (q i).1 A s s.heap ∧ va_OF "java/lang/String" "value" "[B" (.ref (q i).2) (q i).1 A s s.heap ∧ va_T .byte (q i).2 (sBy.getD i []).length (fun j => .int (nI ((sBy.getD i []).getD j 0))) A s s.heap := by
  have h0 : ∀ i : Nat, ∃ q : Nat × Nat, i < 34 → (tmS i).eval args s none [] s = some (.ref q.1) ∧ va_O "java/lang/String" q.1 A s s.heap ∧ va_OF "java/lang/String" "coder" "B" (.int 0) q.1 A s s.heap ∧ va_OF "java/lang/String" "value" "[B" (.ref q.2) q.1 A s s.heap ∧ va_T .byte q.2 (sBy.getD i []).length (fun j => .int (nI ((sBy.getD i []).getD j 0))) A s s.heap := by
    intro i
    by_cases hi : i < 34
    · obtain ⟨a, c, cA, kA, q1, q2, q3, q4, q5, q6, -⟩ := Cond.exactly_spec (args := args) (first := s) (o := none) (s := s) (idx := []) (t := tmS i) (cls := "java/lang/String") (hs _ (st_ex i hi))
      have hl := (js_len i (by rw [sBy_34]; exact hi)).1
      obtain ⟨t, ht, hT⟩ := va_Tof (f := fun j => .int (nI ((sBy.getD i []).getD j 0))) (A := A) (by omega) (hs _ (st_ar i hi)) (va_eqt (hs _ (st_le i hi))) (fun j hj => va_eqt (hs _ (st_el i hi j hj))) hA
      exact ⟨(a, t), fun _ => ⟨q1, ⟨cA, q3, q5, by rw [q6]; exact q2, hA a (Array.getElem?_eq_some_iff.mp q3).1⟩, vk_OFof q1 (va_eqt (hs _ (st_co i hi))) hA, vk_OFof q1 ht hA, hT⟩⟩
    · exact ⟨(0, 0), fun h => absurd h hi⟩
  obtain ⟨ad, had⟩ := Classical.axiomOfChoice h0
  exact ⟨ad, had⟩
/-- the tables say where the fields of our classes lie, and which classes rows have -/
theorem st_K {args : Array Value} {s : State} (hts : ∀ w ∈ lw_tbl, w.before args s = true) : ∃ (D : va_G) (cs : pCs), va_K D vwCl (pTys cs) s := by
  have hg : ∀ w ∈ TBg, w.before args s = true := fun w hw => hts w (List.mem_filter.mp hw).1
  have h0 : ∀ c : Nat, ∃ q : ClassId × (Nat → Nat), c < 11 → u_Kn s (ownR c) (clT c) (clN c) q.1 q.2 := by
    intro c
    by_cases hc : c < 11
    · obtain ⟨cC, iS, h⟩ := u_known hg (uw_all c hc) (hg _ (wi_all c hc).1)
      exact ⟨(cC, iS), fun _ => h⟩
    · exact ⟨(0, fun _ => 0), fun h => absurd h hc⟩
  obtain ⟨f, hf⟩ := Classical.axiomOfChoice h0
  have prim : ∀ ty : FieldType, (∀ C, ty ≠ .object C) → (Cond.arrayClass ty).before args s = true → ∃ cA : ClassId, ArrOfT s cA ty ∧ va_RA s cA ty := by
    intro ty hty h
    obtain ⟨cA, kA, comp, h1, h2, h3⟩ := Cond.arrayClass_spec (args := args) (first := s) (o := none) (s := s) (idx := []) h
    refine ⟨cA, fun n z => ⟨fun k h => (by cases h), kA, h2, comp, h3⟩, ?_⟩
    cases ty <;> first | exact h1 | exact absurd rfl (hty _)
  obtain ⟨c1, a1⟩ := prim .int (fun _ h => nomatch h) (hg _ wx_aint)
  obtain ⟨c2, a2⟩ := prim .byte (fun _ h => nomatch h) (hg _ wx_abyte)
  obtain ⟨c3, a3⟩ := prim .long (fun _ h => nomatch h) (hg _ wx_along)
  obtain ⟨comp, cA, kA, f1, -, f2, f3, f4⟩ := Cond.arrayOver_spec (args := args) (first := s) (o := none) (s := s) (idx := []) (n := "java/lang/String") (hts _ sn_3)
  refine ⟨(fun c => (f c).1, fun c => (f c).2), (c1, c2, c3, cA), fun c q hq => ?_, fun k q hk => ?_⟩
  · have hc : c < 11 := (List.getElem?_eq_some_iff.mp hq).1
    rw [vwCl_at c hc] at hq
    cases hq
    exact hf c hc
  · have hk4 : k < 4 := (List.getElem?_eq_some_iff.mp hk).1
    have : k = 0 ∨ k = 1 ∨ k = 2 ∨ k = 3 := by omega
    rcases this with rfl | rfl | rfl | rfl
    · cases hk; exact a1
    · cases hk; exact a2
    · cases hk; exact a3
    · cases hk; exact ⟨fun N z => ⟨(fun k h => by cases h), kA, f2, comp, f3⟩, kA, comp, f2, f3, f1, f4⟩
/-- the empty memory, with the script -/
def gM0 (L : Nat) : pG := (0, fun i => if i = 2000 then 30 else 900, fun i => if i = 2000 then L else 0, fun _ _ => 0, 0, 0)
def pM0 (L : Nat) (xs : Nat → Int32) : pM := (fun _ _ => 0, fun i => if i = 2000 then xs else fun _ => 0, fun _ _ => 0, gM0 L)
theorem snd_all {l : Launch} {ad : Nat → Nat} {N0 SL : Nat} {xs : Nat → Int32} {cs : pCs} {D : va_G} (hl : l.stackTraces = false) : ∀ n, SndP l ad N0 SL xs cs D n := by
  intro n
  induction n with
  | zero => intro d mid pc L st M r M' h; cases h
  | succ n ih => exact snd_step ih (thr_ok hl) str_ok (help_ok ih)
theorem law_mx : mMx 312 = 8 ∧ mRt 312 = some .boolean ∧ mOw 312 = 11 ∧ isIni 312 = false ∧ (hdl 312).isEmpty = true := by decide +kernel
theorem law_cd : mCd 312 = code := rfl
/-- the law comes to its end with true, where its pure run does -/
theorem law_start {p : Program} {e : Env} {s : State} {m : MethodId} {below : List Frame} {meth : Method} {c : Code} (l : Launch) (hl : l.stackTraces = false) {b L : Nat} {xs : Nat → Int32} (C0 : lw_At p s m meth c b L xs)
    (hrun : ∃ n M', exN n 1000 312 0 (entL [.ref 2000] 8) [] (pM0 L xs) = some (.inl (some (.int 1)), M') ∧ gC M'.2.2.2 ≤ 601024 ∧ gS M'.2.2.2 ≤ 7293034) : W p l e room_1 s m #[Value.ref b] below meth c s.heap [] 0 0 (lw_Z below #[Value.ref b] s) (entryFrame m ([Value.ref b] : List Value).toArray 8) := by
  obtain ⟨hx, hb, hret, hml, hown, hts, hX, hbl, hlocks, hgv⟩ := C0
  obtain ⟨n, M', hex, hC, hS⟩ := hrun
  obtain ⟨mx, rt, ow, ini, hd0⟩ := law_mx
  have hs := flat_of_before _ hgv
  have hA : ∀ a : Nat, a < s.heap.size → ¬ (fun q => s.heap.size ≤ q) a := fun a h => Nat.not_le.mpr h
  obtain ⟨q, hq⟩ := st_texts (A := fun q => s.heap.size ≤ q) hs hA
  obtain ⟨D, cs, hK⟩ := st_K hts
  obtain ⟨ad, had⟩ : ∃ ad : Nat → Nat, ad = fun k => if k < 900 then s.heap.size + k else if k < 1500 then (q (k - 1000)).1 else if k < 2000 then (q (k - 1500)).2 else b := ⟨_, rfl⟩
  have ad0 : ∀ i, i < 900 → ad i = s.heap.size + i := fun i hi => by rw [had]; exact if_pos hi
  have adk : ∀ i, i < 34 → ad (1000 + i) = (q i).1 := fun i hi => by
    rw [had]
    show (if 1000 + i < 900 then _ else if 1000 + i < 1500 then (q (1000 + i - 1000)).1 else _) = _
    rw [if_neg (by omega), if_pos (by omega), Nat.add_sub_cancel_left]
  have adv : ∀ i, i < 34 → ad (1500 + i) = (q i).2 := fun i hi => by
    rw [had]
    show (if 1500 + i < 900 then _ else if 1500 + i < 1500 then _ else if 1500 + i < 2000 then (q (1500 + i - 1500)).2 else _) = _
    rw [if_neg (by omega), if_neg (by omega), if_pos (by omega), Nat.add_sub_cancel_left]
  have ads : ad 2000 = b := by rw [had]; rfl
  have hstr : pStr ad s.heap.size s s.heap := by
    refine ⟨fun i hi => ?_, va_Zof (hts _ sl_3) (hts _ si_3) (va_eqi (hs _ (by decide +kernel))) hA, va_Zqof (hts _ sl_4) (hts _ si_4) (hs _ (by decide +kernel)) hA⟩
    rw [sBy_34] at hi
    rw [adk i hi, adv i hi]
    exact (hq i hi).2
  have htx : ∀ w ∈ kS, vk_R (ownR (w.1 / 10000)) (w.1 % 10000) (sTx.getD w.2 "") (ad (1000 + w.2)) s := by
    intro w hw
    obtain ⟨n, hn⟩ := List.mem_iff_getElem?.mp hw
    have hlt : n < 50 := (List.getElem?_eq_some_iff.mp hn).1
    have hgd : kS.getD n (0, 0) = w := by rw [List.getD_eq_getElem?_getD, hn]; rfl
    have h34 := st_lt n hlt
    rw [hgd] at h34
    refine vk_R.of (A := #[Value.ref b]) (hts _ (kS_sr w hw)) ?_
    rw [adk _ h34]
    by_cases hn34 : n < 34
    · have h1 := st_own n hn34
      rw [hgd] at h1
      have h2 := (hq n hn34).1
      unfold tmS at h2
      rw [hgd] at h2
      rw [h1]
      exact h2
    · have h1 := st_eq n hlt (by omega)
      rw [hgd] at h1
      have h2 := va_eqR (hs _ h1) (hq _ h34).1
      unfold tmS at h2
      rw [hgd] at h2
      exact h2
  have hE : pEnv ad s.heap.size L xs s s.heap := by
    refine ⟨hstr, vx_Zqof (hts _ sl_1) (hts _ si_1) (hs _ (by decide +kernel)) hA, vx_Zqof (hts _ sl_2) (hts _ si_1) (hs _ (by decide +kernel)) hA, by rw [ads]; exact hX, by rw [ads]; exact hbl, htx, va_Nw.of rfl (hts _ sn_1), va_Nw.of rfl (hts _ sn_2), va_AO.of (hts _ sn_3), va_Nw.of rfl (hts _ sn_d0), va_Nw.of rfl (hts _ sn_d1), va_Nw.of rfl (hts _ sn_d2), va_Nw.of rfl (hts _ sn_c0), va_Nw.of rfl (hts _ sn_c1), va_Nc.of (hs _ (by decide +kernel))⟩
  have C : Cx ad s.heap.size L xs cs D p s m #[Value.ref b] meth c 312 0 := ⟨hx, hb, by rw [mx]; exact hml, by rw [rt]; exact hret, hlocks, fun w hw => hts w (List.mem_filter.mp hw).1, by rw [ow]; exact hown, (fun h => by rw [ini] at h; cases h), hK, Nat.le_refl _, Nat.le_refl _, hE, ad0⟩
  have hW : Wd ad L xs cs D (pM0 L xs) s.heap := by
    refine ⟨(fun k q h => by cases h), ⟨Nat.zero_le _, fun i _ => ?_, fun i h => absurd h (Nat.not_lt_zero i), Nat.le_refl _⟩, fun _ => ⟨rfl, rfl⟩⟩
    show 900 ≤ (if i = 2000 then 30 else 900) ∨ ((if i = 2000 then 30 else 900) = 30 ∧ i = 2000)
    by_cases hi : i = 2000
    · rw [if_pos hi]; exact Or.inr ⟨rfl, hi⟩
    · rw [if_neg hi]; exact Or.inl (Nat.le_refl _)
  have hent := ent_rel (ad := ad) (vs := [.ref 2000]) (n := 8) (by decide)
  rw [lg_entry_eq]
  have hls : ([Value.ref 2000].map (trV ad)) = [Value.ref b] := by show [Value.ref (ad 2000)] = _; rw [ads]
  rw [hls] at hent
  refine snd_all (ad := ad) (N0 := s.heap.size) (SL := L) (xs := xs) (cs := cs) (D := D) hl n 1000 312 0 (entL [.ref 2000] 8) [] (pM0 L xs) _ M' hex p e room_1 s m #[Value.ref b] below meth c s.heap [] 0 0 _ _ 0 0 C (by decide) (by decide) hW va_S.rf hent.1 (by rw [mx]; exact hent.2) rfl rfl (by rw [Nat.zero_add]; exact hC) (by rw [Nat.zero_add]; exact hS) ?_ ?_ ?_ ?_
  · intro i st1 v pc1 ls1 H1 locs1 cells1 slots1 hr hi hro hW1 hS1 hc1 hs1
    cases hr
    obtain ⟨len, hd, hlen9⟩ := code_ok hi
    have hd1 : decode code pc1 = .ok (i, ilen i) := by
      rcases hlen9 with rfl | h9
      · exact hd
      · rw [rOp_sw hro] at h9; cases h9
    refine va_forget hS1.2.2 (W.widen (k := 601024) (n := 7293034) (by omega) (by omega) ?_)
    unfold rOp at hro
    split at hro
    · split at hro
      · split at hro
        · cases hro
          exact lw_ret hx hb hret hlocks hd1
        · cases hro
      · cases hro
    · split at hro
      · split at hro <;> cases hro
      · cases hro
    · split at hro
      · split at hro <;> cases hro
      · cases hro
    · cases hro
  · intro i st1 e1 pc1 ls1 H1 locs1 cells1 slots1 M1 hr
    cases hr
  · intro e1 q ce pc1 ls1 st1 H1 locs1 cells1 slots1 hr
    cases hr
  · intro e1 h q ce pc1 L1 L2 ls1 st1 H1 locs1 cells1 slots1 hh
    rw [List.isEmpty_iff.mp hd0] at hh
    cases hh
end Start
