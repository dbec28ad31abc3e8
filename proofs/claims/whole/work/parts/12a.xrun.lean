/-! runs of the pure machine as equations -/
section XRun
/-- from here the run comes to an end with Q -/
def X (d mid pc : Nat) (L st : List Value) (M : pM) (Q : pR → pM → Prop) : Prop := ∃ n r M', exN n d mid pc L st M = some (r, M') ∧ Q r M'
theorem exN_mono1 : ∀ (n d mid pc : Nat) (L st : List Value) (M : pM) (q : pR × pM), exN n d mid pc L st M = some q → exN (n + 1) d mid pc L st M = some q := by
  intro n
  induction n with
  | zero => intro d mid pc L st M q h; cases h
  | succ n ih =>
    intro d mid pc L st M q h
    rw [exN] at h ⊢
    split at h
    · cases h
    · rename_i i hi
      split at h
      · exact ih _ _ _ _ _ _ _ h
      · split at h
        · exact ih _ _ _ _ _ _ _ h
        · split at h
          · exact ih _ _ _ _ _ _ _ h
          · split at h
            · exact ih _ _ _ _ _ _ _ h
            · split at h
              · exact ih _ _ _ _ _ _ _ h
              · split at h
                · exact h
                · split at h
                  · exact h
                  · split at h
                    · split at h
                      · cases h
                      · rename_i hn
                        rw [if_neg hn]
                        split at h
                        · cases h
                        · split at h
                          · rename_i hc
                            rw [ih _ _ _ _ _ _ _ hc]
                            exact ih _ _ _ _ _ _ _ h
                          · rename_i hc
                            rw [ih _ _ _ _ _ _ _ hc]
                            dsimp only
                            split at h
                            · cases h
                            · rename_i hs
                              rw [if_neg hs]
                              split at h
                              · split at h
                                · exact ih _ _ _ _ _ _ _ h
                                · cases h
                              · exact h
                          · cases h
                    · cases h
theorem exN_mono {n k : Nat} (hk : n ≤ k) {d mid pc : Nat} {L st : List Value} {M : pM} {q : pR × pM} (h : exN n d mid pc L st M = some q) : exN k d mid pc L st M = some q := by
  induction k with
  | zero => have : n = 0 := by omega
            subst this; exact h
  | succ k ih =>
    by_cases he : n = k + 1
    · subst he; exact h
    · exact exN_mono1 _ _ _ _ _ _ _ _ (ih (by omega))
theorem X_of {d mid pc pc' : Nat} {L L' st st' : List Value} {M M' : pM} {Q : pR → pM → Prop} (h : ∀ n, exN (n + 1) d mid pc L st M = exN n d mid pc' L' st' M') : X d mid pc L st M Q = X d mid pc' L' st' M' Q := by
  apply propext
  constructor
  · rintro ⟨n, r, M9, h1, hq⟩
    cases n with
    | zero => cases h1
    | succ n => exact ⟨n, r, M9, by rw [← h]; exact h1, hq⟩
  · rintro ⟨n, r, M9, h1, hq⟩
    exact ⟨n + 1, r, M9, by rw [h]; exact h1, hq⟩
variable {d mid pc : Nat} {L st : List Value} {M : pM} {Q : pR → pM → Prop}
theorem X_s {i : Instr} {st' : List Value} (hi : (pCode mid).lookup pc = some i) (hs : sOp i st = some st') : X d mid pc L st M Q = X d mid (pc + ilen i) L st' M Q :=
  X_of (fun n => by rw [exN, hi]; dsimp only; rw [hs])
theorem X_l {i : Instr} {v : Value} (hi : (pCode mid).lookup pc = some i) (h0 : sOp i st = none) (hs : lOp i L = some v) : X d mid pc L st M Q = X d mid (pc + ilen i) L (v :: st) M Q :=
  X_of (fun n => by rw [exN, hi]; dsimp only; rw [h0]; dsimp only; rw [hs])
theorem X_t {i : Instr} {q : List Value × List Value} (hi : (pCode mid).lookup pc = some i) (h0 : sOp i st = none) (h1 : lOp i L = none) (hs : tOp i L st = some q) : X d mid pc L st M Q = X d mid (pc + ilen i) q.1 q.2 M Q :=
  X_of (fun n => by rw [exN, hi]; dsimp only; rw [h0]; dsimp only; rw [h1]; dsimp only; rw [hs])
theorem X_j {i : Instr} {q : Nat × List Value} (hi : (pCode mid).lookup pc = some i) (h0 : sOp i st = none) (h1 : lOp i L = none) (h2 : tOp i L st = none) (hs : jOp i pc st = some q) : X d mid pc L st M Q = X d mid q.1 L q.2 M Q :=
  X_of (fun n => by rw [exN, hi]; dsimp only; rw [h0]; dsimp only; rw [h1]; dsimp only; rw [h2]; dsimp only; rw [hs])
theorem X_m {i : Instr} {q : List Value × pM} (hi : (pCode mid).lookup pc = some i) (h0 : sOp i st = none) (h1 : lOp i L = none) (h2 : tOp i L st = none) (h3 : jOp i pc st = none) (hs : mOp mid i st M = some q) : X d mid pc L st M Q = X d mid (pc + ilen i) L q.1 q.2 Q :=
  X_of (fun n => by rw [exN, hi]; dsimp only; rw [h0]; dsimp only; rw [h1]; dsimp only; rw [h2]; dsimp only; rw [h3]; dsimp only; rw [hs])
theorem X_end {r : pR} {M' : pM} (h : ∀ n, exN (n + 1) d mid pc L st M = some (r, M')) : X d mid pc L st M Q = Q r M' := by
  apply propext
  constructor
  · rintro ⟨n, r9, M9, h1, hq⟩
    cases n with
    | zero => cases h1
    | succ n => rw [h] at h1; cases h1; exact hq
  · intro hq
    exact ⟨1, r, M', h 0, hq⟩
theorem X_r {i : Instr} {v : Option Value} (hi : (pCode mid).lookup pc = some i) (h0 : sOp i st = none) (h1 : lOp i L = none) (h2 : tOp i L st = none) (h3 : jOp i pc st = none) (h4 : mOp mid i st M = none) (hs : rOp mid i st = some v) : X d mid pc L st M Q = Q (.inl v) M :=
  X_end (fun n => by rw [exN, hi]; dsimp only; rw [h0]; dsimp only; rw [h1]; dsimp only; rw [h2]; dsimp only; rw [h3]; dsimp only; rw [h4]; dsimp only; rw [hs])
theorem X_x {i : Instr} {e : Nat} (hi : (pCode mid).lookup pc = some i) (h0 : sOp i st = none) (h1 : lOp i L = none) (h2 : tOp i L st = none) (h3 : jOp i pc st = none) (h4 : mOp mid i st M = none) (h5 : rOp mid i st = none) (hs : xOp mid pc i st = some e) : X d mid pc L st M Q = Q (.inr e) (M.1, M.2.1, M.2.2.1, gThr M.2.2.2) :=
  X_end (fun n => by rw [exN, hi]; dsimp only; rw [h0]; dsimp only; rw [h1]; dsimp only; rw [h2]; dsimp only; rw [h3]; dsimp only; rw [h4]; dsimp only; rw [h5]; dsimp only; rw [hs])
/-- behind a call -/
def XK (d mid pc : Nat) (i : Instr) (L st : List Value) (Q : pR → pM → Prop) : pR → pM → Prop := fun r M => match r with
  | .inl v => X d mid (pc + 3) L (v.toList ++ st) M Q
  | .inr e => if isSp i then False else match hOf (hdl mid) pc e with
    | some h => match stL L h.2 .null with
      | some L' => X d mid h.1 L' [] M Q
      | none => False
    | none => if (hdl mid).isEmpty then Q (.inr e) M else False
theorem X_c {i : Instr} {q : Nat × List Value × List Value} (hi : (pCode mid).lookup pc = some i) (h0 : sOp i st = none) (h1 : lOp i L = none) (h2 : tOp i L st = none) (h3 : jOp i pc st = none) (h4 : mOp mid i st M = none) (h5 : rOp mid i st = none) (h6 : xOp mid pc i st = none) (hs : cOp (mOw mid) i st M = some q) (hn : ¬ mMx q.1 < (entA q.2.1).length) :
    X (d + 1) mid pc L st M Q = X d q.1 0 (entL q.2.1 (mMx q.1)) [] M (XK (d + 1) mid pc i L q.2.2 Q) := by
  have hex : ∀ n, exN (n + 1) (d + 1) mid pc L st M = match exN n d q.1 0 (entL q.2.1 (mMx q.1)) [] M with
      | some (.inl v, M') => exN n (d + 1) mid (pc + 3) L (v.toList ++ q.2.2) M'
      | some (.inr e, M') => if isSp i then none else match hOf (hdl mid) pc e with
        | some h => match stL L h.2 .null with
          | some L' => exN n (d + 1) mid h.1 L' [] M'
          | none => none
        | none => if (hdl mid).isEmpty then some (.inr e, M') else none
      | none => none := fun n => by
    rw [exN, hi]; dsimp only; rw [h0]; dsimp only; rw [h1]; dsimp only; rw [h2]; dsimp only; rw [h3]; dsimp only; rw [h4]; dsimp only; rw [h5]; dsimp only; rw [h6]; dsimp only; rw [hs]; dsimp only; rw [if_neg hn]; rfl
  apply propext
  constructor
  · rintro ⟨n, r9, M9, h, hq⟩
    cases n with
    | zero => cases h
    | succ n =>
      rw [hex] at h
      split at h
      · rename_i v M' hc
        exact ⟨n, _, _, hc, n, r9, M9, h, hq⟩
      · rename_i e M' hc
        refine ⟨n, _, _, hc, ?_⟩
        unfold XK
        dsimp only
        split at h
        · cases h
        · rename_i hsp
          rw [if_neg hsp]
          split at h
          · rename_i hh hho
            split at h
            · rename_i L' hst
              exact ⟨n, r9, M9, h, hq⟩
            · cases h
          · split at h
            · rename_i hem
              cases h
              rw [if_pos hem]
              exact hq
            · cases h
      · cases h
  · rintro ⟨n, r, M', hc, hk⟩
    unfold XK at hk
    cases r with
    | inl v =>
      obtain ⟨n2, r9, M9, h, hq⟩ := hk
      refine ⟨max n n2 + 1, r9, M9, ?_, hq⟩
      rw [hex, exN_mono (Nat.le_max_left n n2) hc]
      exact exN_mono (Nat.le_max_right n n2) h
    | inr e =>
      dsimp only at hk
      split at hk
      · exact hk.elim
      · rename_i hsp
        split at hk
        · rename_i hh hho
          split at hk
          · rename_i L' hst
            obtain ⟨n2, r9, M9, h, hq⟩ := hk
            refine ⟨max n n2 + 1, r9, M9, ?_, hq⟩
            rw [hex, exN_mono (Nat.le_max_left n n2) hc]
            dsimp only
            rw [if_neg hsp, hho]
            dsimp only
            rw [hst]
            exact exN_mono (Nat.le_max_right n n2) h
          · exact hk.elim
        · rename_i hho
          split at hk
          · rename_i hem
            refine ⟨n + 1, .inr e, M', ?_, hk⟩
            rw [hex, hc]
            dsimp only
            rw [if_neg hsp, hho]
            dsimp only
            rw [if_pos hem]
          · exact hk.elim
end XRun
