/-! soundness, instruction by instruction: stack, locals, jumps -/
section SndA
def trV (ad : Nat → Nat) (v : Value) : Value := match v with
  | .ref i => .ref (ad i)
  | v => v
theorem trV_cat (ad : Nat → Nat) (v : Value) : (trV ad v).category = v.category := by cases v <;> rfl
variable {p : Program} {l : Launch} {e : Env} {R : Room} {s : State} {m : MethodId} {args : Array Value} {below : List Frame} {meth : Method} {c : Code} {H : Heap} {locs : List Loc} {cells slots : Nat} {Q : State → Prop}
variable {cc : ByteArray} {pc : Nat} {ls : Array Slot} {ad : Nat → Nat}
theorem s_sOp {i : Instr} {st st' : List Value} (hexec : p.tables.exec = Jvm.exec) (hb : c.code = cc) (hd : decode cc pc = .ok (i, ilen i)) (h : sOp i st = some st')
    (k : W p l e R s m args below meth c H locs cells slots Q (F0 m (pc + ilen i) ls (st'.map (trV ad)))) : W p l e R s m args below meth c H locs cells slots Q (F0 m pc ls (st.map (trV ad))) := by
  unfold sOp at h
  split at h
  · cases h; exact lv_iconst hexec hb hd rfl k
  · cases h; exact lv_bipush hexec hb hd rfl k
  · cases h; exact lv_sipush hexec hb hd rfl k
  · cases h; exact lv_lconst hexec hb hd rfl k
  · split at h <;> first | (cases h; exact lv_iadd hexec hb hd k) | cases h
  · split at h <;> first | (cases h; exact lv_isub hexec hb hd k) | cases h
  · split at h <;> first | (cases h; exact lv_imul hexec hb hd k) | cases h
  · split at h <;> first | (cases h; exact lv_iand hexec hb hd k) | cases h
  · split at h <;> first | (cases h; exact lv_ior hexec hb hd k) | cases h
  · split at h <;> first | (cases h; exact lv_ixor hexec hb hd k) | cases h
  · split at h
    · split at h
      · cases h
      · rename_i hne; cases h; exact lv_idiv hexec hb hd hne k
    · cases h
  · split at h
    · split at h
      · cases h
      · rename_i hne; cases h; exact lv_irem hexec hb hd hne k
    · cases h
  · split at h <;> first | (cases h; exact lv_ineg hexec hb hd k) | cases h
  · split at h <;> first | (cases h; exact lv_ishl hexec hb hd k) | cases h
  · split at h <;> first | (cases h; exact lv_ishr hexec hb hd k) | cases h
  · split at h <;> first | (cases h; exact lv_iushr hexec hb hd rfl k) | cases h
  · split at h <;> first | (cases h; exact lv_i2l hexec hb hd rfl k) | cases h
  · split at h <;> first | (cases h; exact lv_i2b hexec hb hd rfl k) | cases h
  · split at h <;> first | (cases h; exact lv_i2c hexec hb hd rfl k) | cases h
  · split at h <;> first | (cases h; exact lv_ladd hexec hb hd k) | cases h
  · split at h <;> first | (cases h; exact W.lcmp hexec hb hd k) | cases h
  · split at h
    · split at h
      · rename_i hc; cases h; exact lv_dup hexec hb hd ((trV_cat ad _).trans hc) k
      · cases h
    · cases h
  · split at h
    · split at h
      · rename_i hc; cases h; exact lv_pop hexec hb hd ((trV_cat ad _).trans hc) k
      · cases h
    · cases h
  · split at h
    · split at h
      · rename_i hc; cases h; exact lv_dup2_11 hexec hb hd ((trV_cat ad _).trans hc.1) ((trV_cat ad _).trans hc.2) k
      · cases h
    · cases h
  · cases h
/-- the locals of the machine hold those of the pure one -/
def lRel (ad : Nat → Nat) (L : List Value) (ls : Array Slot) : Prop := ls.size = L.length ∧ lv_wf ls ∧ ∀ (k : Nat) (v : Value), L[k]? = some v → v ≠ .null → ls[k]? = some (.val (trV ad v))
theorem s_lOp {i : Instr} {L st : List Value} {v : Value} (hexec : p.tables.exec = Jvm.exec) (hb : c.code = cc) (hd : decode cc pc = .ok (i, ilen i)) (h : lOp i L = some v) (hl : lRel ad L ls)
    (k : W p l e R s m args below meth c H locs cells slots Q (F0 m (pc + ilen i) ls ((v :: st).map (trV ad)))) : W p l e R s m args below meth c H locs cells slots Q (F0 m pc ls (st.map (trV ad))) := by
  unfold lOp at h
  split at h
  · split at h
    · rename_i hk; cases h; exact lv_iload_n hexec hb hd rfl (hl.2.2 _ _ hk (fun q => nomatch q)) k
    · cases h
  · split at h
    · rename_i hk; cases h; exact lv_iload hexec hb hd (hl.2.2 _ _ hk (fun q => nomatch q)) k
    · cases h
  · split at h
    · rename_i hk; cases h; exact lv_lload_n hexec hb hd rfl (hl.2.2 _ _ hk (fun q => nomatch q)) k
    · cases h
  · split at h
    · rename_i hk; cases h; exact lv_lload hexec hb hd (hl.2.2 _ _ hk (fun q => nomatch q)) k
    · cases h
  · split at h
    · rename_i hk; cases h; exact lv_aload_n hexec hb hd rfl (hl.2.2 _ _ hk (fun q => nomatch q)) k
    · cases h
  · split at h
    · rename_i hk; cases h; exact lv_aload hexec hb hd (hl.2.2 _ _ hk (fun q => nomatch q)) k
    · cases h
  · cases h
/-- the locals as the kit lists them -/
def asc (ad : Nat → Nat) (L : List Value) : List (Nat × Value) := (List.range L.length).filterMap (fun k => match L[k]? with
  | some Value.null => none
  | some v => some (k, trV ad v)
  | none => none)
theorem asc_mem {L : List Value} {k : Nat} {w : Value} : (k, w) ∈ asc ad L ↔ ∃ v, L[k]? = some v ∧ v ≠ .null ∧ w = trV ad v := by
  unfold asc
  rw [List.mem_filterMap]
  constructor
  · rintro ⟨j, -, h⟩
    split at h
    · cases h
    · rename_i v hn hv
      simp only [Option.some.injEq, Prod.mk.injEq] at h
      obtain ⟨rfl, rfl⟩ := h
      exact ⟨v, hv, hn, rfl⟩
    · cases h
  · rintro ⟨v, hv, hn, rfl⟩
    refine ⟨k, List.mem_range.mpr (List.getElem?_eq_some_iff.mp hv).1, ?_⟩
    split
    · rename_i h; rw [hv] at h; exact absurd (Option.some.inj h) hn
    · rename_i w hw h; rw [hv] at h; cases h; rfl
    · rename_i h; rw [hv] at h; cases h
theorem lRel.has {L : List Value} (h : lRel ad L ls) : lv_has ls L.length (asc ad L) := ⟨h.1, h.2.1, fun q hq => by
  obtain ⟨k, w⟩ := q
  obtain ⟨v, hv, hn, rfl⟩ := asc_mem.mp hq
  exact h.2.2 k v hv hn⟩
theorem lRel.store1 {L L' : List Value} {i : Nat} {v : Value} {ls' : Array Slot} (hs : stL L i v = some L')
    (h' : lv_has ls' L.length ((i, trV ad v) :: (asc ad L).filter (fun q => !(q.1 == i) && !(q.1 + 1 == i && q.2.category == 2)))) : lRel ad L' ls' := by
  unfold stL at hs
  split at hs
  · rename_i hc
    cases hs
    refine ⟨by rw [h'.1, List.length_set], h'.2.1, fun k w hk hn => ?_⟩
    by_cases hki : k = i
    · subst hki
      rw [List.getElem?_set_self hc.1] at hk
      cases hk
      exact h'.2.2 (k, _) List.mem_cons_self
    · rw [List.getElem?_set_ne (fun q => hki q.symm)] at hk
      refine h'.2.2 (k, trV ad w) (List.mem_cons_of_mem _ (List.mem_filter.mpr ⟨asc_mem.mpr ⟨w, hk, hn, rfl⟩, ?_⟩))
      by_cases h1 : k + 1 = i
      · subst h1
        have h2 : isLg w = false := by
          have := hc.2
          simp only [isL1] at this
          rw [List.getD_eq_getElem?_getD, hk] at this
          exact this
        have h3 : (trV ad w).category = 1 := by rw [trV_cat]; cases w <;> first | rfl | (cases h2)
        simp [h3]
      · simp [hki, h1]
  · cases hs
theorem lRel.store2 {L L' : List Value} {i : Nat} {v : Value} {ls' : Array Slot} (hs : stLL L i v = some L')
    (h' : lv_has ls' L.length ((i, trV ad v) :: (asc ad L).filter (fun q => !(q.1 == i) && (!(q.1 == i + 1) && !(q.1 + 1 == i && q.2.category == 2))))) : lRel ad L' ls' := by
  unfold stLL at hs
  split at hs
  · rename_i hc
    cases hs
    refine ⟨by rw [h'.1, List.length_set, List.length_set], h'.2.1, fun k w hk hn => ?_⟩
    by_cases hk1 : k = i + 1
    · subst hk1
      rw [List.getElem?_set_self (by rw [List.length_set]; exact hc.1)] at hk
      cases hk
      exact absurd rfl hn
    · rw [List.getElem?_set_ne (fun q => hk1 q.symm)] at hk
      by_cases hki : k = i
      · subst hki
        rw [List.getElem?_set_self (by omega)] at hk
        cases hk
        exact h'.2.2 (k, _) List.mem_cons_self
      · rw [List.getElem?_set_ne (fun q => hki q.symm)] at hk
        refine h'.2.2 (k, trV ad w) (List.mem_cons_of_mem _ (List.mem_filter.mpr ⟨asc_mem.mpr ⟨w, hk, hn, rfl⟩, ?_⟩))
        by_cases h1 : k + 1 = i
        · subst h1
          have h2 : isLg w = false := by
            have := hc.2
            simp only [isL1] at this
            rw [List.getD_eq_getElem?_getD, hk] at this
            exact this
          have h3 : (trV ad w).category = 1 := by rw [trV_cat]; cases w <;> first | rfl | (cases h2)
          simp [h3]; omega
        · simp [hki, hk1, h1]
  · cases hs
theorem stL_lt {L L' : List Value} {i : Nat} {v : Value} (hs : stL L i v = some L') : i < L.length := by
  unfold stL at hs
  split at hs
  · rename_i hc; exact hc.1
  · cases hs
theorem stLL_lt {L L' : List Value} {i : Nat} {v : Value} (hs : stLL L i v = some L') : i + 1 < L.length := by
  unfold stLL at hs
  split at hs
  · rename_i hc; exact hc.1
  · cases hs
theorem s_tOp {i : Instr} {L st : List Value} {q : List Value × List Value} (hexec : p.tables.exec = Jvm.exec) (hb : c.code = cc) (hd : decode cc pc = .ok (i, ilen i)) (h : tOp i L st = some q) (hl : lRel ad L ls)
    (k : ∀ ls' : Array Slot, lRel ad q.1 ls' → W p l e R s m args below meth c H locs cells slots Q (F0 m (pc + ilen i) ls' (q.2.map (trV ad)))) : W p l e R s m args below meth c H locs cells slots Q (F0 m pc ls (st.map (trV ad))) := by
  unfold tOp at h
  split at h
  · split at h
    · obtain ⟨L', hs, rfl⟩ := Option.map_eq_some_iff.mp h
      exact lv_istore_n hexec hb hd rfl hl.has (stL_lt hs) rfl (fun ls' h' => k ls' (lRel.store1 hs h'))
    · cases h
  · split at h
    · obtain ⟨L', hs, rfl⟩ := Option.map_eq_some_iff.mp h
      exact lv_istore hexec hb hd hl.has (stL_lt hs) rfl (fun ls' h' => k ls' (lRel.store1 hs h'))
    · cases h
  · split at h
    · obtain ⟨L', hs, rfl⟩ := Option.map_eq_some_iff.mp h
      exact lv_astore_n hexec hb hd rfl hl.has (stL_lt hs) rfl (fun ls' h' => k ls' (lRel.store1 hs h'))
    · cases h
  · split at h
    · obtain ⟨L', hs, rfl⟩ := Option.map_eq_some_iff.mp h
      exact lv_astore hexec hb hd hl.has (stL_lt hs) rfl (fun ls' h' => k ls' (lRel.store1 hs h'))
    · cases h
  · split at h
    · obtain ⟨L', hs, rfl⟩ := Option.map_eq_some_iff.mp h
      exact lv_lstore_n hexec hb hd rfl hl.has (stLL_lt hs) rfl (fun ls' h' => k ls' (lRel.store2 hs h'))
    · cases h
  · split at h
    · obtain ⟨L', hs, rfl⟩ := Option.map_eq_some_iff.mp h
      exact lv_lstore hexec hb hd hl.has (stLL_lt hs) rfl (fun ls' h' => k ls' (lRel.store2 hs h'))
    · cases h
  · split at h
    · rename_i x hk
      obtain ⟨L', hs, rfl⟩ := Option.map_eq_some_iff.mp h
      obtain ⟨j, hj⟩ := List.getElem?_of_mem (asc_mem (ad := ad).mpr ⟨_, hk, (fun q => nomatch q), rfl⟩)
      exact lv_iinc hexec hb hd hl.has hj rfl (stL_lt hs) rfl (fun ls' h' => k ls' (lRel.store1 hs h'))
    · cases h
  · cases h
theorem tgt_eq {pc : Nat} {off : Int} (h : 0 ≤ (pc : Int) + off) : (pc : Int) + off = ((tgt pc off : Nat) : Int) := (Int.toNat_of_nonneg h).symm
theorem s_jOp {i : Instr} {st : List Value} {q : Nat × List Value} {len : Nat} (hexec : p.tables.exec = Jvm.exec) (hb : c.code = cc) (hd : decode cc pc = .ok (i, len)) (hlen : len = ilen i ∨ isSw i = true) (h : jOp i pc st = some q)
    (k : W p l e R s m args below meth c H locs cells slots Q (F0 m q.1 ls (q.2.map (trV ad)))) : W p l e R s m args below meth c H locs cells slots Q (F0 m pc ls (st.map (trV ad))) := by
  unfold jOp at h
  split at h
  · rcases hlen with rfl | hlen
    · split at h
      · rename_i h0; cases h; exact lv_goto hexec hb hd (tgt_eq h0) k
      · cases h
    · cases hlen
  · rcases hlen with rfl | hlen
    · split at h
      · split at h
        · rename_i cnd off _ y x r h0
          cases h
          cases cnd
          · exact lv_icmp_eq hexec hb hd (tgt_eq h0) (fun hc => by simpa [ic2, hc] using k) (fun hc => by simpa [ic2, hc] using k)
          · exact lv_icmp_ne hexec hb hd (tgt_eq h0) (fun hc => by simpa [ic2, hc] using k) (fun hc => by simpa [ic2, hc] using k)
          · exact lv_icmp_lt hexec hb hd (tgt_eq h0) (fun hc => by simpa [ic2, hc] using k) (fun hc => by simpa [ic2, hc] using k)
          · exact lv_icmp_ge hexec hb hd (tgt_eq h0) (fun hc => by simpa [ic2, hc] using k) (fun hc => by simpa [ic2, hc] using k)
          · exact lv_icmp_gt hexec hb hd (tgt_eq h0) (fun hc => by simpa [ic2, hc] using k) (fun hc => by simpa [ic2, hc] using k)
          · exact lv_icmp_le hexec hb hd (tgt_eq h0) (fun hc => by simpa [ic2, hc] using k) (fun hc => by simpa [ic2, hc] using k)
        · cases h
      · cases h
    · cases hlen
  · rcases hlen with rfl | hlen
    · split at h
      · split at h
        · rename_i cnd off _ x r h0
          cases h
          cases cnd
          · exact lv_if_eq hexec hb hd (tgt_eq h0) (fun hc => by simpa [ic2, hc] using k) (fun hc => by simpa [ic2, hc] using k)
          · exact lv_if_ne hexec hb hd (tgt_eq h0) (fun hc => by simpa [ic2, hc] using k) (fun hc => by simpa [ic2, hc] using k)
          · exact lv_if_lt hexec hb hd (tgt_eq h0) (fun hc => by simpa [ic2, hc] using k) (fun hc => by simpa [ic2, hc] using k)
          · exact lv_if_ge hexec hb hd (tgt_eq h0) (fun hc => by simpa [ic2, hc] using k) (fun hc => by simpa [ic2, hc] using k)
          · exact lv_if_gt hexec hb hd (tgt_eq h0) (fun hc => by simpa [ic2, hc] using k) (fun hc => by simpa [ic2, hc] using k)
          · exact lv_if_le hexec hb hd (tgt_eq h0) (fun hc => by simpa [ic2, hc] using k) (fun hc => by simpa [ic2, hc] using k)
        · cases h
      · cases h
    · cases hlen
  · split at h
    · split at h
      · rename_i ho
        split at h
        · rename_i h0; cases h; exact lv_tableOut hexec hb hd ho (tgt_eq h0) k
        · cases h
      · rename_i ho
        split at h
        · rename_i off hof
          split at h
          · rename_i h0; cases h; exact lv_tableIn hexec hb hd (fun q => ho (Or.inl q)) (fun q => ho (Or.inr q)) hof (tgt_eq h0) k
          · cases h
        · cases h
    · cases h
  · split at h
    · split at h
      · rename_i h0; cases h; exact lv_lookup hexec hb hd h0.1 rfl (tgt_eq h0.2) k
      · cases h
    · cases h
  · cases h
end SndA
