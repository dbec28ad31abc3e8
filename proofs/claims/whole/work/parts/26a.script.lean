/-! the script's row is never written; it may be put beside a memory -/
section Scr26
def Sc (M M' : pM) : Prop := gK M.2.2.2 2000 = 30 → gK M'.2.2.2 2000 = 30 ∧ M'.2.1 2000 = M.2.1 2000
theorem Sc.rf (M : pM) : Sc M M := fun h => ⟨h, rfl⟩
theorem Sc.tr {M M1 M2 : pM} (h : Sc M M1) (h' : Sc M1 M2) : Sc M M2 := fun k => ⟨(h' (h k).1).1, by rw [(h' (h k).1).2, (h k).2]⟩
theorem vu_ne {α : Type} {f : Nat → α} {k j : Nat} {v : α} (h : j ≠ k) : va_up f k v j = f j := by rw [vup_at, if_neg h]
theorem ne_kind {M : pM} {a k : Nat} (h : gK M.2.2.2 2000 = 30) (ha : gK M.2.2.2 a = k) (hk : k ≠ 30) : 2000 ≠ a := fun e => hk (by rw [← ha, ← e, h])
theorem mOp_sc {mid : Nat} {i : Instr} {st : List Value} {M : pM} {q : List Value × pM} (h : mOp mid i st M = some q) : Sc M q.2 := by
  unfold mOp at h
  split at h
  · unfold hGet at h
    split at h
    · split at h
      · split at h
        · split at h <;> (cases h; exact Sc.rf _)
        · cases h
      · cases h
    · cases h
  · unfold hPut at h
    split at h
    · split at h
      · cases h
      · split at h
        · split at h
          · cases h; exact fun k => ⟨k, rfl⟩
          · cases h
        · split at h
          · cases h; exact fun k => ⟨k, rfl⟩
          · cases h
        · cases h
    · cases h
  · split at h
    · cases h; exact Sc.rf _
    · split at h
      · rename_i q9 hs
        cases h
        unfold hSt at hs
        split at hs
        · split at hs
          · split at hs
            · rename_i hc; cases hs; exact fun k => ⟨k, vu_ne (ne_kind k hc.1 (by decide))⟩
            · cases hs
          · split at hs
            · rename_i hc; cases hs; exact fun k => ⟨k, vu_ne (ne_kind k hc.1 (by decide))⟩
            · cases hs
          · cases hs
        · split at hs
          · split at hs
            · cases hs; exact fun k => ⟨k, rfl⟩
            · cases hs
          · cases hs
        · split at hs
          · split at hs
            · cases hs; exact fun k => ⟨k, rfl⟩
            · cases hs
          · cases hs
        · cases hs
      · split at h
        · rename_i q9 hs
          cases h
          unfold hNew at hs
          split at hs
          · split at hs
            · split at hs
              · rename_i hc; cases hs; exact fun k => ⟨(vu_ne (by omega)).trans k, vu_ne (by omega)⟩
              · cases hs
            · cases hs
          · split at hs
            · split at hs
              · rename_i hc; cases hs; exact fun k => ⟨(vu_ne (by omega)).trans k, rfl⟩
              · cases hs
            · cases hs
          · split at hs
            · split at hs
              · rename_i hc; cases hs; exact fun k => ⟨(vu_ne (by omega)).trans k, rfl⟩
              · cases hs
            · cases hs
          · cases hs
        · split at h
          · cases h; exact Sc.rf _
          · split at h
            · rename_i q9 hs
              cases h
              unfold hJdk at hs
              split at hs
              · split at hs
                · split at hs
                  · split at hs
                    · cases hs; exact Sc.rf _
                    · cases hs
                  · cases hs
                · cases hs
              · split at hs
                · split at hs
                  · split at hs
                    · cases hs; exact Sc.rf _
                    · cases hs
                  · cases hs
                · split at hs
                  · split at hs
                    · cases hs; exact Sc.rf _
                    · cases hs
                  · cases hs
                · split at hs
                  · split at hs
                    · cases hs; exact Sc.rf _
                    · cases hs
                  · cases hs
                · split at hs
                  · split at hs
                    · rename_i hc; cases hs; exact fun k => ⟨k, vu_ne (ne_kind k hc.2.1 (by decide))⟩
                    · cases hs
                  · cases hs
                · cases hs
              · cases hs
            · split at h
              · cases h; exact Sc.rf _
              · cases h
theorem exN_sc : ∀ (n d mid pc : Nat) (L st : List Value) (M : pM) (r : pR) (M' : pM), exN n d mid pc L st M = some (r, M') → Sc M M' := by
  intro n
  induction n with
  | zero => intro d mid pc L st M r M' h; cases h
  | succ n ih =>
    intro d mid pc L st M r M' h
    unfold exN at h
    split at h
    · cases h
    · split at h
      · exact ih _ _ _ _ _ _ _ _ h
      · split at h
        · exact ih _ _ _ _ _ _ _ _ h
        · split at h
          · exact ih _ _ _ _ _ _ _ _ h
          · split at h
            · exact ih _ _ _ _ _ _ _ _ h
            · split at h
              · rename_i hm; exact (mOp_sc hm).tr (ih _ _ _ _ _ _ _ _ h)
              · split at h
                · cases h; exact Sc.rf _
                · split at h
                  · cases h; exact fun k => ⟨k, rfl⟩
                  · split at h
                    · split at h
                      · cases h
                      split at h
                      · cases h
                      · split at h
                        · rename_i hc; exact (ih _ _ _ _ _ _ _ _ hc).tr (ih _ _ _ _ _ _ _ _ h)
                        · rename_i hc
                          split at h
                          · cases h
                          · split at h
                            · split at h
                              · exact (ih _ _ _ _ _ _ _ _ hc).tr (ih _ _ _ _ _ _ _ _ h)
                              · cases h
                            · split at h
                              · cases h; exact ih _ _ _ _ _ _ _ _ hc
                              · cases h
                        · cases h
                    · cases h
/-- a run keeps the script -/
theorem X_scr {d mid pc : Nat} {L st : List Value} {M : pM} {Q : pR → pM → Prop} (hk : gK M.2.2.2 2000 = 30) (h : X d mid pc L st M Q) : X d mid pc L st M (fun r M' => Q r M' ∧ M'.2.1 2000 = M.2.1 2000) := by
  obtain ⟨n, r, M', h1, h2⟩ := h
  exact ⟨n, r, M', h1, h2, (exN_sc n d mid pc L st M r M' h1 hk).2⟩
end Scr26
