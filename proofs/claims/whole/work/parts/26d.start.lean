/-! a script put beside a memory -/
section Put26
variable {SL : Nat} {xs : Nat → Int32} {M : pM} {mid pc own a : Nat} {i : Instr} {st : List Value}
def plM (SL : Nat) (xs : Nat → Int32) (M : pM) : pM := (M.1, va_up M.2.1 2000 xs, M.2.2.1, (gN M.2.2.2, va_up (gK M.2.2.2) 2000 30, va_up (gL M.2.2.2) 2000 SL, gR M.2.2.2, gC M.2.2.2, gS M.2.2.2))
def Un (M : pM) : Prop := gK M.2.2.2 2000 = 900
theorem vu_comm {α : Type} (f : Nat → α) {a b : Nat} (v w : α) (h : a ≠ b) : va_up (va_up f a v) b w = va_up (va_up f b w) a v := by
  funext j
  rw [vup_at, vup_at, vup_at, vup_at]
  by_cases h1 : j = a
  · rw [if_neg (fun e => h (h1.symm.trans e)), if_pos h1, if_pos h1]
  · rw [if_neg h1, if_neg h1]
theorem plK (h : a ≠ 2000) : gK (plM SL xs M).2.2.2 a = gK M.2.2.2 a := vu_ne h
theorem plL (h : a ≠ 2000) : gL (plM SL xs M).2.2.2 a = gL M.2.2.2 a := vu_ne h
theorem plA (h : a ≠ 2000) : (plM SL xs M).2.1 a = M.2.1 a := vu_ne h
theorem un_ne {k : Nat} (hu : Un M) (ha : gK M.2.2.2 a = k) (hk : k ≠ 900) : a ≠ 2000 := fun e => hk (by rw [← ha, e]; exact hu)
theorem fT_lt : fT.all (fun e => decide (e.2.1 < 900)) = true := by decide +kernel
theorem fT_ne {x ci k tag fin : Nat} (h : lkp fT own x = some (ci, k, tag, fin)) : ci ≠ 900 := by
  have := List.all_eq_true.mp fT_lt _ (lkp_mem h).1
  have := of_decide_eq_true this
  dsimp only at this
  omega
theorem own_all : (mts ++ (htl ++ [lwE])).all (fun e => decide (e.2.2.2.2.2.1 < 900)) = true := by decide +kernel
theorem own_ne (k : Nat) : mOw k ≠ 900 := by
  unfold mOw mEnt
  cases h : (mts ++ (htl ++ [lwE])).lookup k with
  | none => decide
  | some r =>
    have := List.all_eq_true.mp own_all _ (lookup_mem _ _ _ h)
    have := of_decide_eq_true this
    dsimp only [Option.getD_some] at this ⊢
    omega
theorem na_ld {t : ArrayType} {M : pM} : hLd (.newarray t) st M = none := by unfold hLd; split <;> rfl
theorem na_st {t : ArrayType} {M : pM} : hSt (.newarray t) st M = none := by unfold hSt; split <;> rfl
theorem an_ld {x : Nat} {M : pM} : hLd (.anewarray x) st M = none := by unfold hLd; split <;> rfl
theorem an_st {x : Nat} {M : pM} : hSt (.anewarray x) st M = none := by unfold hSt; split <;> rfl
theorem nw_ld {x : Nat} {M : pM} : hLd (.new x) st M = none := by unfold hLd; split <;> rfl
theorem nw_st {x : Nat} {M : pM} : hSt (.new x) st M = none := by unfold hSt; split <;> rfl
theorem is_ld {x : Nat} {M : pM} : hLd (.invokestatic x) st M = none := by unfold hLd; split <;> rfl
theorem is_st {x : Nat} {M : pM} : hSt (.invokestatic x) st M = none := by unfold hSt; split <;> rfl
theorem iv_ld {x : Nat} {M : pM} : hLd (.invokevirtual x) st M = none := by unfold hLd; split <;> rfl
theorem iv_st {x : Nat} {M : pM} : hSt (.invokevirtual x) st M = none := by unfold hSt; split <;> rfl
theorem ip_ld {x : Nat} {M : pM} : hLd (.invokespecial x) st M = none := by unfold hLd; split <;> rfl
theorem ip_st {x : Nat} {M : pM} : hSt (.invokespecial x) st M = none := by unfold hSt; split <;> rfl
theorem lc_ld {x : Nat} {M : pM} : hLd (.ldc x) st M = none := by unfold hLd; split <;> rfl
theorem lc_st {x : Nat} {M : pM} : hSt (.ldc x) st M = none := by unfold hSt; split <;> rfl
theorem lw_ld {x : Nat} {M : pM} : hLd (.ldc_w x) st M = none := by unfold hLd; split <;> rfl
theorem lw_st {x : Nat} {M : pM} : hSt (.ldc_w x) st M = none := by unfold hSt; split <;> rfl
theorem l2_ld {x : Nat} {M : pM} : hLd (.ldc2_w x) st M = none := by unfold hLd; split <;> rfl
theorem l2_st {x : Nat} {M : pM} : hSt (.ldc2_w x) st M = none := by unfold hSt; split <;> rfl
theorem get_pl {x : Nat} {q : List Value × pM} (hu : Un M) (h : hGet own x st M = some q) : hGet own x st (plM SL xs M) = some (q.1, plM SL xs q.2) ∧ Un q.2 := by
  unfold hGet at h ⊢
  split at h
  · rename_i ci k tag fin hl
    split at h
    · rename_i o r
      split at h
      · rename_i hk
        have hne := un_ne hu hk (fT_ne hl)
        rw [if_pos (by rw [plK hne]; exact hk)]
        split at h
        · cases h; rename_i ht; rw [if_pos ht]; exact ⟨rfl, hu⟩
        · cases h; rename_i ht; rw [if_neg ht]; exact ⟨rfl, hu⟩
      · cases h
    · cases h
  · cases h
theorem put_pl {x : Nat} {ini : Bool} {q : List Value × pM} (hu : Un M) (h : hPut own x ini st M = some q) : hPut own x ini st (plM SL xs M) = some (q.1, plM SL xs q.2) ∧ Un q.2 := by
  unfold hPut at h ⊢
  split at h
  · rename_i ci k tag fin hl
    split at h
    · cases h
    · rename_i hf
      rw [if_neg hf]
      split at h
      · rename_i v o r
        split at h
        · rename_i hc
          have hne := un_ne hu hc.1 (fT_ne hl)
          rw [if_pos ⟨by rw [plK hne]; exact hc.1, hc.2⟩]
          cases h
          exact ⟨rfl, hu⟩
        · cases h
      · rename_i v o r
        split at h
        · rename_i hc
          have hne := un_ne hu hc.1 (fT_ne hl)
          rw [if_pos ⟨by rw [plK hne]; exact hc.1, hc.2⟩]
          cases h
          exact ⟨rfl, hu⟩
        · cases h
      · cases h
  · cases h
theorem ld_pl {r : List Value} (hu : Un M) (h : hLd i st M = some r) : hLd i st (plM SL xs M) = some r := by
  unfold hLd at h ⊢
  split at h
  · rename_i x a r0
    split at h
    · split at h
      · rename_i hc
        have hne : a ≠ 2000 := by rcases hc.1 with e | e; exact un_ne hu e (by decide); exact un_ne hu e (by decide)
        cases h
        rw [if_pos (by rw [plK hne, plL hne]; exact hc), plA hne]
      · cases h
    · split at h
      · rename_i hc
        have hne : a ≠ 2000 := un_ne hu hc.1 (by decide)
        cases h
        rw [if_pos (by rw [plK hne, plL hne]; exact hc), plA hne]
      · cases h
    · split at h
      · rename_i hc
        have hne : a ≠ 2000 := un_ne hu hc.1 (by decide)
        cases h
        rw [if_pos (by rw [plK hne, plL hne]; exact hc)]
        rfl
      · cases h
    · split at h
      · rename_i hc
        have hne : a ≠ 2000 := un_ne hu hc.1 (by decide)
        cases h
        rw [if_pos (by rw [plK hne, plL hne]; exact hc)]
        rfl
      · cases h
    · cases h
  · rename_i a r0
    split at h
    · split at h
      · rename_i hc
        have hne : a ≠ 2000 := by
          rcases hc with e | e | e | e | e
          · exact un_ne hu e (by decide)
          · exact un_ne hu e (by decide)
          · exact un_ne hu e (by decide)
          · exact un_ne hu e (by decide)
          · exact un_ne hu e (by decide)
        cases h
        rw [if_pos (by rw [plK hne]; exact hc), plL hne]
      · cases h
    · cases h
  · cases h
theorem st_pl {q : List Value × pM} (hu : Un M) (h : hSt i st M = some q) : hLd i st (plM SL xs M) = none ∧ hSt i st (plM SL xs M) = some (q.1, plM SL xs q.2) ∧ Un q.2 := by
  unfold hSt at h
  split at h
  · rename_i v x a r0
    split at h
    · split at h
      · rename_i hc
        have hne : a ≠ 2000 := un_ne hu hc.1 (by decide)
        cases h
        refine ⟨rfl, ?_, hu⟩
        unfold hSt
        dsimp only
        rw [if_pos (by rw [plK hne, plL hne]; exact hc), plA hne]
        show some (r0, ((plM SL xs M).1, va_up (va_up M.2.1 2000 xs) a _, (plM SL xs M).2.2)) = _
        rw [vu_comm _ _ _ (fun e => hne e.symm)]
        rfl
      · cases h
    · split at h
      · rename_i hc
        have hne : a ≠ 2000 := un_ne hu hc.1 (by decide)
        cases h
        refine ⟨rfl, ?_, hu⟩
        unfold hSt
        dsimp only
        rw [if_pos (by rw [plK hne, plL hne]; exact hc), plA hne]
        show some (r0, ((plM SL xs M).1, va_up (va_up M.2.1 2000 xs) a _, (plM SL xs M).2.2)) = _
        rw [vu_comm _ _ _ (fun e => hne e.symm)]
        rfl
      · cases h
    · cases h
  · rename_i v x a r0
    split at h
    · split at h
      · rename_i hc
        have hne : a ≠ 2000 := un_ne hu hc.1 (by decide)
        cases h
        refine ⟨rfl, ?_, hu⟩
        unfold hSt
        dsimp only
        rw [if_pos (by rw [plK hne, plL hne]; exact hc)]
        rfl
      · cases h
    · cases h
  · rename_i v x a r0
    split at h
    · split at h
      · rename_i hc
        have hne : a ≠ 2000 := un_ne hu hc.1 (by decide)
        cases h
        refine ⟨rfl, ?_, hu⟩
        unfold hSt
        dsimp only
        rw [if_pos (by rw [plK hne, plL hne]; exact hc)]
        rfl
      · cases h
    · cases h
  · cases h
theorem gNew_pl {k l sl : Nat} {G : pG} (h : gN G < 900) : (gN (gNew G k l sl), va_up (gK (gNew G k l sl)) 2000 30, va_up (gL (gNew G k l sl)) 2000 SL, gR (gNew G k l sl), gC (gNew G k l sl), gS (gNew G k l sl)) = gNew (gN G, va_up (gK G) 2000 30, va_up (gL G) 2000 SL, gR G, gC G, gS G) k l sl := by
  have e1 := vu_comm (gK G) (a := gN G) (b := 2000) k 30 (by omega)
  have e2 := vu_comm (gL G) (a := gN G) (b := 2000) l SL (by omega)
  show (_, va_up (va_up (gK G) (gN G) k) 2000 30, va_up (va_up (gL G) (gN G) l) 2000 SL, _) = _
  rw [e1, e2]
  rfl
theorem new_pl {q : List Value × pM} (hu : Un M) (h : hNew own i st M = some q) : hLd i st (plM SL xs M) = none ∧ hSt i st (plM SL xs M) = none ∧ hNew own i st (plM SL xs M) = some (q.1, plM SL xs q.2) ∧ Un q.2 := by
  unfold hNew at h
  split at h
  · split at h
    · rename_i n r0
      split at h
      · rename_i hc
        cases h
        refine ⟨na_ld, na_st, ?_, (vu_ne (by omega)).trans hu⟩
        unfold hNew
        dsimp only
        rw [if_pos (show ¬ n < 0 ∧ n.toNatClampNeg ≤ 4096 ∧ arK _ ≠ 0 ∧ gN (plM SL xs M).2.2.2 < 900 ∧ gC (plM SL xs M).2.2.2 = gN (plM SL xs M).2.2.2 from hc)]
        have hlt : gN M.2.2.2 < 900 := hc.2.2.2.1
        unfold plM
        rw [gNew_pl hlt]
        dsimp only
        rw [vu_comm M.2.1 (fun _ => 0) xs (show gN M.2.2.2 ≠ 2000 by omega)]
        rfl
      · cases h
    · cases h
  · split at h
    · rename_i n r0
      split at h
      · rename_i hc
        cases h
        refine ⟨an_ld, an_st, ?_, (vu_ne (by omega)).trans hu⟩
        unfold hNew
        dsimp only
        rw [if_pos (show lkp cT own _ = some 200 ∧ ¬ n < 0 ∧ n.toNatClampNeg ≤ 4096 ∧ gN (plM SL xs M).2.2.2 < 900 ∧ gC (plM SL xs M).2.2.2 = gN (plM SL xs M).2.2.2 from hc)]
        have hlt : gN M.2.2.2 < 900 := hc.2.2.2.1
        unfold plM
        rw [gNew_pl hlt]
        rfl
      · cases h
    · cases h
  · split at h
    · rename_i x ci hl
      split at h
      · rename_i hc
        cases h
        refine ⟨nw_ld, nw_st, ?_, (vu_ne (by omega)).trans hu⟩
        unfold hNew
        dsimp only
        rw [hl]
        dsimp only
        rw [if_pos (show ci < 11 ∧ gN (plM SL xs M).2.2.2 < 900 ∧ gC (plM SL xs M).2.2.2 = gN (plM SL xs M).2.2.2 from hc)]
        have hlt : gN M.2.2.2 < 900 := hc.2.1
        unfold plM
        rw [gNew_pl hlt]
        rfl
      · cases h
    · cases h
  · cases h
end Put26
