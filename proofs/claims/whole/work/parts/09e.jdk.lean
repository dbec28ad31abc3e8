/-! soundness: members of the JDK; the counters never fall -/
section SndE
variable {p : Program} {l : Launch} {e : Env} {R : Room} {s : State} {m : MethodId} {args : Array Value} {below : List Frame} {meth : Method} {c : Code} {H : Heap} {locs : List Loc} {cells slots : Nat} {Q : State → Prop}
variable {pc : Nat} {ls : Array Slot} {ad : Nat → Nat} {N0 SL : Nat} {xs : Nat → Int32} {cs : pCs} {D : va_G} {mid c0 : Nat}
theorem stW_tr (ad : Nat → Nat) (r : List Value) : ((r.map (trV ad)).map fun v => v.category).sum = stW r := by
  unfold stW
  rw [List.map_map]
  congr 1
  apply List.map_congr_left
  intro v _
  exact trV_cat ad v
theorem nfw : nativeFrameWords "java/lang/System" "arraycopy" 5 ≤ 80 := by decide +kernel
theorem s_jdk {i : Instr} {st : List Value} {M : pM} {q : List Value × pM} (C : Cx ad N0 SL xs cs D p s m args meth c mid c0) (hW : Wd ad SL xs cs D M H) (hS : va_S (frA N0) s.heap H locs) (hsz : ls.size = c.maxLocals) (h : hJdk (mOw mid) i st M = some q) (hd : decode (mCd mid) pc = .ok (i, ilen i))
    (hf : 10 ≤ R.frames) (hlo : 100 ≤ R.locals) (hcc : cells ≤ R.cells) (hcs : slots ≤ R.slots)
    (k : ∀ (H1 : Heap) (locs1 : List Loc), Wd ad SL xs cs D q.2 H1 → va_S (frA N0) s.heap H1 locs1 → gC q.2.2.2.2 = gC M.2.2.2 → gS q.2.2.2.2 = gS M.2.2.2 → W p l e R s m args below meth c H1 locs1 cells slots Q (F0 m (pc + ilen i) ls (q.1.map (trV ad)))) : W p l e R s m args below meth c H locs cells slots Q (F0 m pc ls (st.map (trV ad))) := by
  obtain ⟨hx, hb, -, -, -, hts, hown, -, hK, hN0, -, hE, had⟩ := C
  have hD := mkW_D (cs := cs) had hW.2.1
  unfold hJdk at h
  split at h
  · split at h
    · rename_i w hl
      split at h
      · rename_i o r
        split at h
        · rename_i hst
          cases h
          obtain ⟨hm, e1, e2⟩ := lkp_mem hl
          have w1 : Cond.methodLink (ownR _) _ objectInit ∈ TBg := mT_ok _ hm
          rw [e1, e2] at w1
          have h8 := stW_tr ad r
          exact W.objInit hx hb hown (hts _ w1) (hts _ wx_oi) (hts _ wx_oc) (g := F0 m pc ls _) rfl hsz rfl hd (by omega) (by show 2 * 0 + _ + 12 ≤ _; rw [h8]; omega) (k H locs hW hS rfl rfl)
        · cases h
      · cases h
    · cases h
  · split at h
    · rename_i w hl
      split at h
      · rename_i y x r
        split at h
        · rename_i hst
          cases h
          obtain ⟨hm, e1, e2⟩ := lkp_mem hl
          have w1 : Cond.methodLink (ownR _) _ Lib.Math.max.name ∈ TBg := mT_ok _ hm
          rw [e1, e2] at w1
          have h8 := stW_tr ad r
          exact va_mmax hx hb hsz.symm hown (hts _ w1) (hts _ wx_maxs) (hts _ wx_mi) (hts _ wx_maxc) (by omega) (by rw [h8]; omega) hcc hcs hd (k H locs hW hS rfl rfl)
        · cases h
      · cases h
    · rename_i w hl
      split at h
      · rename_i y x r
        split at h
        · rename_i hst
          cases h
          obtain ⟨hm, e1, e2⟩ := lkp_mem hl
          have w1 : Cond.methodLink (ownR _) _ Lib.Math.min.name ∈ TBg := mT_ok _ hm
          rw [e1, e2] at w1
          have h8 := stW_tr ad r
          exact va_mmin hx hb hsz.symm hown (hts _ w1) (hts _ wx_mins) (hts _ wx_mi) (hts _ wx_minc) (by omega) (by rw [h8]; omega) hcc hcs hd (k H locs hW hS rfl rfl)
        · cases h
      · cases h
    · rename_i w hl
      split at h
      · rename_i x r
        split at h
        · rename_i hst
          cases h
          obtain ⟨hm, e1, e2⟩ := lkp_mem hl
          have w1 : Cond.methodLink (ownR _) _ Lib.Math.abs.name ∈ TBg := mT_ok _ hm
          rw [e1, e2] at w1
          have h8 := stW_tr ad r
          exact va_mabs hx hb hsz.symm hown (hts _ w1) (hts _ wx_abss) (hts _ wx_mi) (hts _ wx_absc) (by omega) (by rw [h8]; omega) hcc hcs hd (k H locs hW hS rfl rfl)
        · cases h
      · cases h
    · rename_i w hl
      split at h
      · rename_i n dp a sp b r
        split at h
        · rename_i hc
          cases h
          obtain ⟨hst, ha, hb2, h1, h2, h3, h4, h5⟩ := hc
          obtain ⟨hm, e1, e2⟩ := lkp_mem hl
          have w1 : Cond.methodLink (ownR _) _ arraycopyName ∈ TBg := mT_ok _ hm
          rw [e1, e2] at w1
          have h8 := stW_tr ad r
          have hea := mkW_get (ad := ad) (cs := cs) (hW.2.1.lt (i := a) (by omega))
          rw [cellE, if_pos ha] at hea
          have heb := mkW_get (ad := ad) (cs := cs) (hW.2.1.lt (i := b) (by omega))
          rw [cellE, if_pos hb2] at heb
          refine va_copyi (ty := .int) hx hb hsz.symm hown (hts _ w1) (hts _ wx_an) (hts _ wx_as) (hts _ wx_ai) hK hW.1 hD hS b a 0 0 heb hea rfl rfl rfl h1 h2 h3 h4 h5 (fun _ _ => rfl) (by omega) (by rw [h8]; have hw := nfw; omega) hd (fun H1 locs1 hP1 hD1 hS1 => k H1 locs1 ⟨?_, hW.2.1, ?_⟩ hS1 rfl rfl)
          · have hset := mkW_set (ad := ad) (cs := cs) (M := M) (M' := (M.1, va_up M.2.1 a (va_cpy (M.2.1 b) (M.2.1 a) sp.toNatClampNeg dp.toNatClampNeg n.toNatClampNeg), M.2.2)) (o := a) (x := .inl (cs.1, gL M.2.2.2 a, .inl (va_cpy (M.2.1 b) (M.2.1 a) sp.toNatClampNeg dp.toNatClampNeg n.toNatClampNeg))) rfl (by rw [cellE, if_pos ha]; simp only [va_up_self]) (fun j hj => cellE_congr rfl rfl rfl (by simp only [va_up_ne _ _ hj]) rfl rfl)
            rw [hset] at hP1
            exact hP1
          · intro h30
            have : (2000 : Nat) ≠ a := fun q => by subst q; have h9 : gK M.2.2.2 2000 = 30 := h30; omega
            simp only [va_up_ne _ _ this]
            exact hW.2.2 h30
        · cases h
      · cases h
    · cases h
  · cases h
/-- the counters -/
def gLe (M M' : pM) : Prop := gC M.2.2.2 ≤ gC M'.2.2.2 ∧ gS M.2.2.2 ≤ gS M'.2.2.2
theorem gLe.rf (M : pM) : gLe M M := ⟨Nat.le_refl _, Nat.le_refl _⟩
theorem gLe.tr {M M1 M2 : pM} (h : gLe M M1) (h' : gLe M1 M2) : gLe M M2 := ⟨Nat.le_trans h.1 h'.1, Nat.le_trans h.2 h'.2⟩
theorem mOp_le {i : Instr} {st : List Value} {M : pM} {q : List Value × pM} (h : mOp mid i st M = some q) : gLe M q.2 := by
  unfold mOp at h
  split at h
  · unfold hGet at h
    split at h
    · split at h
      · split at h
        · split at h <;> (cases h; exact gLe.rf _)
        · cases h
      · cases h
    · cases h
  · unfold hPut at h
    split at h
    · split at h
      · cases h
      · split at h
        · split at h
          · cases h; exact gLe.rf _
          · cases h
        · split at h
          · cases h; exact ⟨Nat.le_refl _, Nat.le_refl _⟩
          · cases h
        · cases h
    · cases h
  · split at h
    · cases h; exact gLe.rf _
    · split at h
      · rename_i q9 hs
        cases h
        unfold hSt at hs
        split at hs
        · split at hs
          · split at hs
            · cases hs; exact gLe.rf _
            · cases hs
          · split at hs
            · cases hs; exact gLe.rf _
            · cases hs
          · cases hs
        · split at hs
          · split at hs
            · cases hs; exact gLe.rf _
            · cases hs
          · cases hs
        · split at hs
          · split at hs
            · cases hs; exact ⟨Nat.le_refl _, Nat.le_refl _⟩
            · cases hs
          · cases hs
        · cases hs
      · split at h
        · rename_i q9 hs
          cases h
          unfold hNew at hs
          split at hs
          · split at hs
            · split at hs
              · cases hs; exact ⟨Nat.le_succ _, Nat.le_add_right _ _⟩
              · cases hs
            · cases hs
          · split at hs
            · split at hs
              · cases hs; exact ⟨Nat.le_succ _, Nat.le_add_right _ _⟩
              · cases hs
            · cases hs
          · split at hs
            · split at hs
              · cases hs; exact ⟨Nat.le_succ _, Nat.le_add_right _ _⟩
              · cases hs
            · cases hs
          · cases hs
        · split at h
          · cases h; exact gLe.rf _
          · split at h
            · rename_i q9 hs
              cases h
              unfold hJdk at hs
              split at hs
              · split at hs
                · split at hs
                  · split at hs
                    · cases hs; exact gLe.rf _
                    · cases hs
                  · cases hs
                · cases hs
              · split at hs
                · split at hs
                  · split at hs
                    · cases hs; exact gLe.rf _
                    · cases hs
                  · cases hs
                · split at hs
                  · split at hs
                    · cases hs; exact gLe.rf _
                    · cases hs
                  · cases hs
                · split at hs
                  · split at hs
                    · cases hs; exact gLe.rf _
                    · cases hs
                  · cases hs
                · split at hs
                  · split at hs
                    · cases hs; exact gLe.rf _
                    · cases hs
                  · cases hs
                · cases hs
              · cases hs
            · split at h
              · cases h; exact gLe.rf _
              · cases h
theorem exN_le : ∀ (n d mid pc : Nat) (L st : List Value) (M : pM) (r : pR) (M' : pM), exN n d mid pc L st M = some (r, M') → gLe M M' := by
  intro n
  induction n with
  | zero => intro d mid pc L st M r M' h; cases h
  | succ n ih =>
    intro d mid pc L st M r M' h
    unfold exN at h
    split at h
    · cases h
    · split at h
      · exact ih _ _ _ _ _ _ _ _ h
      · split at h
        · exact ih _ _ _ _ _ _ _ _ h
        · split at h
          · exact ih _ _ _ _ _ _ _ _ h
          · split at h
            · exact ih _ _ _ _ _ _ _ _ h
            · split at h
              · rename_i hm; exact (mOp_le hm).tr (ih _ _ _ _ _ _ _ _ h)
              · split at h
                · cases h; exact gLe.rf _
                · split at h
                  · cases h; exact ⟨Nat.le_succ _, Nat.le_add_right _ _⟩
                  · split at h
                    · split at h
                      · cases h
                      split at h
                      · cases h
                      · split at h
                        · rename_i hc; exact (ih _ _ _ _ _ _ _ _ hc).tr (ih _ _ _ _ _ _ _ _ h)
                        · rename_i hc
                          split at h
                          · cases h
                          · split at h
                            · split at h
                              · exact (ih _ _ _ _ _ _ _ _ hc).tr (ih _ _ _ _ _ _ _ _ h)
                              · cases h
                            · split at h
                              · cases h; exact ih _ _ _ _ _ _ _ _ hc
                              · cases h
                        · cases h
                    · cases h
end SndE
