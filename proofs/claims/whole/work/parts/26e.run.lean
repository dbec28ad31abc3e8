/-! a run of a closed memory, with the script beside it -/
section Run26
variable {SL : Nat} {xs : Nat → Int32} {M : pM} {mid pc own a : Nat} {i : Instr} {st : List Value}
def mCh (own : Nat) (i : Instr) (st : List Value) (M : pM) : Option (List Value × pM) := match hLd i st M with
  | some st' => some (st', M)
  | none => match hSt i st M with
    | some q => some q
    | none => match hNew own i st M with
      | some q => some q
      | none => match hLdc own i with
        | some v => some (v :: st, M)
        | none => match hJdk own i st M with
          | some q => some q
          | none => match hStr own i st with
            | some st' => some (st', M)
            | none => none
theorem mOp_ch (h1 : ∀ x, i ≠ .getfield x) (h2 : ∀ x, i ≠ .putfield x) : mOp mid i st M = mCh (mOw mid) i st M := by
  unfold mOp
  split
  · exact absurd rfl (h1 _)
  · exact absurd rfl (h2 _)
  · rfl
theorem mCh_no {i : Instr} {st : List Value} {M : pM} (h1 : hLd i st M = none) (h2 : hSt i st M = none) (h3 : hNew own i st M = none) (h4 : hLdc own i = none) (h5 : hJdk own i st M = none) (h6 : hStr own i st = none) : mCh own i st M = none := by
  unfold mCh
  rw [h1, h2, h3, h4, h5, h6]
theorem ldc_no {v : Value} {M : pM} (h : hLdc own i = some v) : hLd i st M = none ∧ hSt i st M = none ∧ hNew own i st M = none := by
  unfold hLdc at h
  split at h
  · exact ⟨lc_ld, lc_st, rfl⟩
  · exact ⟨lw_ld, lw_st, rfl⟩
  · exact ⟨l2_ld, l2_st, rfl⟩
  · cases h
theorem str_no {r : List Value} {M : pM} (h : hStr own i st = some r) : hLd i st M = none ∧ hSt i st M = none ∧ hNew own i st M = none ∧ hLdc own i = none ∧ hJdk own i st M = none := by
  unfold hStr at h
  split at h
  · exact ⟨iv_ld, iv_st, rfl, rfl, rfl⟩
  · cases h
theorem jdk_no {q : List Value × pM} {M M' : pM} (h : hJdk own i st M' = some q) : hLd i st M = none ∧ hSt i st M = none ∧ hNew own i st M = none ∧ hLdc own i = none := by
  unfold hJdk at h
  split at h
  · exact ⟨ip_ld, ip_st, rfl, rfl⟩
  · exact ⟨is_ld, is_st, rfl, rfl⟩
  · cases h
theorem jdk_pl {q : List Value × pM} (hu : Un M) (h : hJdk own i st M = some q) : hJdk own i st (plM SL xs M) = some (q.1, plM SL xs q.2) ∧ Un q.2 := by
  unfold hJdk at h ⊢
  split at h
  · split at h
    · split at h
      · split at h
        · rename_i hc; cases h; rw [if_pos hc]; exact ⟨rfl, hu⟩
        · cases h
      · cases h
    · cases h
  · split at h
    · split at h
      · split at h
        · rename_i hc; cases h; rw [if_pos hc]; exact ⟨rfl, hu⟩
        · cases h
      · cases h
    · split at h
      · split at h
        · rename_i hc; cases h; rw [if_pos hc]; exact ⟨rfl, hu⟩
        · cases h
      · cases h
    · split at h
      · split at h
        · rename_i hc; cases h; rw [if_pos hc]; exact ⟨rfl, hu⟩
        · cases h
      · cases h
    · split at h
      · split at h
        · rename_i n dp a sp b r hc
          have ha : a ≠ 2000 := un_ne hu hc.2.1 (by decide)
          have hb : b ≠ 2000 := un_ne hu hc.2.2.1 (by decide)
          cases h
          rw [if_pos (by rw [plK ha, plK hb, plL ha, plL hb]; exact hc), plA ha, plA hb]
          refine ⟨?_, hu⟩
          show some (r, ((plM SL xs M).1, va_up (va_up M.2.1 2000 xs) a _, (plM SL xs M).2.2)) = _
          rw [vu_comm _ _ _ (fun e => ha e.symm)]
          rfl
        · cases h
      · cases h
    · cases h
  · cases h
theorem mCh_pl {q : List Value × pM} (hu : Un M) (h : mCh own i st M = some q) : mCh own i st (plM SL xs M) = some (q.1, plM SL xs q.2) ∧ Un q.2 := by
  unfold mCh at h
  split at h
  · rename_i r hl
    cases h
    refine ⟨?_, hu⟩
    unfold mCh
    rw [ld_pl hu hl]
  · split at h
    · rename_i q9 hs
      cases h
      obtain ⟨e1, e2, e3⟩ := st_pl (SL := SL) (xs := xs) hu hs
      refine ⟨?_, e3⟩
      unfold mCh
      rw [e1]
      dsimp only
      rw [e2]
    · split at h
      · rename_i q9 hs
        cases h
        obtain ⟨e1, e2, e3, e4⟩ := new_pl (SL := SL) (xs := xs) hu hs
        refine ⟨?_, e4⟩
        unfold mCh
        rw [e1]
        dsimp only
        rw [e2]
        dsimp only
        rw [e3]
      · split at h
        · rename_i v hs
          cases h
          obtain ⟨e1, e2, e3⟩ := ldc_no (st := st) (M := plM SL xs M) hs
          refine ⟨?_, hu⟩
          unfold mCh
          rw [e1]
          dsimp only
          rw [e2]
          dsimp only
          rw [e3]
          dsimp only
          rw [hs]
        · split at h
          · rename_i q9 hs
            cases h
            obtain ⟨e1, e2, e3, e4⟩ := jdk_no (M := plM SL xs M) hs
            obtain ⟨e5, e6⟩ := jdk_pl (SL := SL) (xs := xs) hu hs
            refine ⟨?_, e6⟩
            unfold mCh
            rw [e1]
            dsimp only
            rw [e2]
            dsimp only
            rw [e3]
            dsimp only
            rw [e4]
            dsimp only
            rw [e5]
          · split at h
            · rename_i r hs
              cases h
              obtain ⟨e1, e2, e3, e4, e5⟩ := str_no (M := plM SL xs M) hs
              refine ⟨?_, hu⟩
              unfold mCh
              rw [e1]
              dsimp only
              rw [e2]
              dsimp only
              rw [e3]
              dsimp only
              rw [e4]
              dsimp only
              rw [e5]
              dsimp only
              rw [hs]
            · cases h
theorem mOp_pl {q : List Value × pM} (hu : Un M) (h : mOp mid i st M = some q) : mOp mid i st (plM SL xs M) = some (q.1, plM SL xs q.2) ∧ Un q.2 := by
  by_cases h1 : ∃ x, i = .getfield x
  · obtain ⟨x, rfl⟩ := h1
    exact get_pl hu h
  · by_cases h2 : ∃ x, i = .putfield x
    · obtain ⟨x, rfl⟩ := h2
      exact put_pl hu h
    · rw [mOp_ch (fun x e => h1 ⟨x, e⟩) (fun x e => h2 ⟨x, e⟩)] at h ⊢
      exact mCh_pl hu h
theorem rOp_no {v : Option Value} (h : rOp mid i st = some v) : ∀ M, mOp mid i st M = none := by
  intro M
  unfold rOp at h
  split at h
  · exact mCh_no (own := mOw mid) (by unfold hLd; split <;> rfl) (by unfold hSt; split <;> rfl) rfl rfl rfl rfl
  · exact mCh_no (own := mOw mid) (by unfold hLd; split <;> rfl) (by unfold hSt; split <;> rfl) rfl rfl rfl rfl
  · exact mCh_no (own := mOw mid) (by unfold hLd; split <;> rfl) (by unfold hSt; split <;> rfl) rfl rfl rfl rfl
  · cases h
theorem xOp_no {e : Nat} (h : xOp mid pc i st = some e) : ∀ M, mOp mid i st M = none := by
  intro M
  unfold xOp at h
  split at h
  · split at h
    · rename_i x e9 hl
      split at h
      · rename_i hc
        refine mCh_no (own := mOw mid) nw_ld nw_st ?_ rfl rfl rfl
        unfold hNew
        dsimp only
        rw [hl]
        exact if_neg (fun k => by have := hc.1; omega)
      · cases h
    · cases h
  · cases h
theorem cOp_no {q : Nat × List Value × List Value} {M' : pM} (h : cOp (mOw mid) i st M' = some q) : ∀ M, mOp mid i st M = none := by
  intro M
  unfold cOp at h
  split at h
  · split at h
    · rename_i x cm na hl
      refine mCh_no (own := mOw mid) is_ld is_st rfl rfl ?_ rfl
      unfold hJdk
      dsimp only
      rw [hl]
      rfl
    · cases h
  · split at h
    · rename_i x cm na hl
      refine mCh_no (own := mOw mid) iv_ld iv_st rfl rfl rfl ?_
      unfold hStr
      dsimp only
      rw [hl]
      rfl
    · cases h
  · split at h
    · rename_i x cm na hl
      refine mCh_no (own := mOw mid) ip_ld ip_st rfl rfl ?_ rfl
      unfold hJdk
      dsimp only
      rw [hl]
      rfl
    · rename_i x cm na hl
      refine mCh_no (own := mOw mid) ip_ld ip_st rfl rfl ?_ rfl
      unfold hJdk
      dsimp only
      rw [hl]
      rfl
    · cases h
  · cases h
theorem cOp_pl {q : Nat × List Value × List Value} (hu : Un M) (h : cOp own i st M = some q) : cOp own i st (plM SL xs M) = some q := by
  unfold cOp at h ⊢
  split at h
  · exact h
  · split at h
    · split at h
      · split at h
        · rename_i hc
          rw [if_pos ⟨by rw [plK (un_ne hu hc.1 (own_ne _))]; exact hc.1, hc.2⟩]
          exact h
        · cases h
      · cases h
    · cases h
  · exact h
  · cases h
theorem cOp_rx {q : Nat × List Value × List Value} {M' : pM} (h : cOp (mOw mid) i st M' = some q) : rOp mid i st = none ∧ xOp mid pc i st = none := by
  unfold cOp at h
  split at h
  · exact ⟨rfl, rfl⟩
  · exact ⟨rfl, rfl⟩
  · exact ⟨rfl, rfl⟩
  · cases h
theorem exN_pl : ∀ (n d mid pc : Nat) (L st : List Value) (M : pM) (r : pR) (M' : pM), exN n d mid pc L st M = some (r, M') → Un M → exN n d mid pc L st (plM SL xs M) = some (r, plM SL xs M') ∧ Un M' := by
  intro n
  induction n with
  | zero => intro d mid pc L st M r M' h; cases h
  | succ n ih =>
    intro d mid pc L st M r M' h hu
    rw [exN] at h ⊢
    split at h
    · cases h
    · rename_i i hi
      split at h
      · exact ih _ _ _ _ _ _ _ _ h hu
      · split at h
        · exact ih _ _ _ _ _ _ _ _ h hu
        · split at h
          · exact ih _ _ _ _ _ _ _ _ h hu
          · split at h
            · exact ih _ _ _ _ _ _ _ _ h hu
            · split at h
              · rename_i q hm
                obtain ⟨e1, e2⟩ := mOp_pl (SL := SL) (xs := xs) hu hm
                rw [e1]
                exact ih _ _ _ _ _ _ _ _ h e2
              · split at h
                · rename_i v hr
                  rw [rOp_no hr]
                  cases h
                  exact ⟨rfl, hu⟩
                · split at h
                  · rename_i v hr
                    rw [xOp_no hr]
                    cases h
                    exact ⟨rfl, hu⟩
                  · split at h
                    · rename_i q hc
                      rw [cOp_no hc, cOp_pl hu hc]
                      dsimp only
                      split at h
                      · cases h
                      · rename_i hn
                        rw [if_neg hn]
                        split at h
                        · cases h
                        · split at h
                          · rename_i hx
                            obtain ⟨e1, e2⟩ := ih _ _ _ _ _ _ _ _ hx hu
                            rw [e1]
                            exact ih _ _ _ _ _ _ _ _ h e2
                          · rename_i hx
                            obtain ⟨e1, e2⟩ := ih _ _ _ _ _ _ _ _ hx hu
                            rw [e1]
                            dsimp only
                            split at h
                            · cases h
                            · rename_i hs
                              rw [if_neg hs]
                              split at h
                              · split at h
                                · exact ih _ _ _ _ _ _ _ _ h e2
                                · cases h
                              · split at h
                                · rename_i he
                                  cases h
                                  exact ⟨if_pos he, e2⟩
                                · cases h
                          · cases h
                    · cases h
/-- the law before its loop -/
def exW : Nat → Nat → Nat → List Value → List Value → pM → Option (List Value × List Value × pM)
  | 0, _, _, _, _, _ => none
  | n + 1, d, pc, L, st, M => if pc = 23 then some (L, st, M) else match (pCode 312).lookup pc with
    | none => none
    | some i => match sOp i st with
      | some st' => exW n d (pc + ilen i) L st' M
      | none => match lOp i L with
        | some v => exW n d (pc + ilen i) L (v :: st) M
        | none => match tOp i L st with
          | some q => exW n d (pc + ilen i) q.1 q.2 M
          | none => match jOp i pc st with
            | some q => exW n d q.1 L q.2 M
            | none => match mOp 312 i st M with
              | some q => exW n d (pc + ilen i) L q.1 q.2
              | none => match cOp (mOw 312) i st M with
                | some q => if mMx q.1 < (entA q.2.1).length then none else match exN n d q.1 0 (entL q.2.1 (mMx q.1)) [] M with
                  | some (.inl v, M') => exW n d (pc + 3) L (v.toList ++ q.2.2) M'
                  | _ => none
                | none => none
theorem exW_ok {Q : pR → pM → Prop} {d : Nat} : ∀ (n pc : Nat) (L st : List Value) (M : pM) (L' st' : List Value) (M' : pM), exW n d pc L st M = some (L', st', M') → Un M → X (d + 1) 312 23 L' st' (plM SL xs M') Q → X (d + 1) 312 pc L st (plM SL xs M) Q := by
  intro n
  induction n with
  | zero => intro pc L st M L' st' M' h; cases h
  | succ n ih =>
    intro pc L st M L' st' M' h hu hX
    rw [exW] at h
    split at h
    · rename_i hp
      cases h
      rw [hp]; exact hX
    · split at h
      · cases h
      · rename_i i hi
        split at h
        · rename_i st9 h0
          rw [X_s hi h0]
          exact ih _ _ _ _ _ _ _ h hu hX
        · rename_i h0
          split at h
          · rename_i v h1
            rw [X_l hi h0 h1]
            exact ih _ _ _ _ _ _ _ h hu hX
          · rename_i h1
            split at h
            · rename_i q h2
              rw [X_t hi h0 h1 h2]
              exact ih _ _ _ _ _ _ _ h hu hX
            · rename_i h2
              split at h
              · rename_i q h3
                rw [X_j hi h0 h1 h2 h3]
                exact ih _ _ _ _ _ _ _ h hu hX
              · rename_i h3
                split at h
                · rename_i q h4
                  obtain ⟨e1, e2⟩ := mOp_pl (SL := SL) (xs := xs) hu h4
                  rw [X_m hi h0 h1 h2 h3 e1]
                  exact ih _ _ _ _ _ _ _ h e2 hX
                · split at h
                  · rename_i q hc
                    split at h
                    · cases h
                    · rename_i hn
                      split at h
                      · rename_i v M9 hx
                        obtain ⟨e1, e2⟩ := exN_pl (SL := SL) (xs := xs) _ _ _ _ _ _ _ _ _ hx hu
                        rw [X_c hi h0 h1 h2 h3 (cOp_no hc _) (cOp_rx (pc := pc) hc).1 (cOp_rx hc).2 (cOp_pl hu hc) hn]
                        exact ⟨n, _, _, e1, ih _ _ _ _ _ _ _ h e2 hX⟩
                      · cases h
                  · cases h
end Run26
