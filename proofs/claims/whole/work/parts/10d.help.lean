/-! methods with handlers, called by name -/
section HelpS
variable {p : Program} {l : Launch} {e : Env} {R : Room} {s : State} {m : MethodId} {args : Array Value} {below : List Frame} {meth : Method} {c : Code} {H : Heap} {locs : List Loc} {cells slots : Nat} {Q : State → Prop}
variable {pc : Nat} {ls : Array Slot} {ad : Nat → Nat} {N0 SL : Nat} {xs : Nat → Int32} {cs : pCs} {D : va_G} {mid c0 s0 : Nat}
theorem htl_mts : htl.all (fun q => (mts.lookup q.1).isNone) = true := by decide +kernel
theorem lookup_right {α : Type} : ∀ (T U : List (Nat × α)) (k : Nat), T.lookup k = none → (T ++ U).lookup k = U.lookup k
  | [], _, _, _ => rfl
  | (a, b) :: T, U, k, h => by
    rw [List.cons_append, List.lookup_cons]
    rw [List.lookup_cons] at h
    split at h
    · cases h
    · exact lookup_right T U k h
theorem he_ok {y : Nat} {ent : MethodName × ByteArray × Nat × Option FieldType × Nat × List (Nat × Instr)} (h : htl.lookup y = some ent) : mEnt y = some ent ∧ okHe (y, ent) := by
  have hm := lookup_mem _ _ _ h
  have h1 := List.all_eq_true.mp htl_mts _ hm
  refine ⟨?_, htl_ok _ hm⟩
  unfold mEnt
  rw [lookup_right _ _ _ (Option.isNone_iff_eq_none.mp h1)]
  exact lookup_left _ _ _ _ h
/-- what the handlers' rows are, by program -/
def hRow (y mx : Nat) (h : Nat × Nat × Nat × Nat × Nat × Nat × Nat) : Bool :=
  ((h.2.2.2.1 == 13 && h.2.2.2.2.1 == 100) || (h.2.2.2.1 == 18 && h.2.2.2.2.1 == 101)) && (decide (h.2.2.2.2.2.2 < mx) && match (pCode y).lookup h.2.2.1 with
  | some (.astore_n k) => (k : Nat) == h.2.2.2.2.2.2 && h.2.2.2.2.2.1 == h.2.2.1 + 1
  | some (.astore k) => k == h.2.2.2.2.2.2 && h.2.2.2.2.2.1 == h.2.2.1 + 2
  | _ => false)
theorem htl_rows : htl.all (fun q => (hdl q.1).all (hRow q.1 q.2.2.2.1)) = true := by decide +kernel
theorem lRel.store0 {L L' : List Value} {i : Nat} {w : Value} {ls' : Array Slot} (hs : stL L i .null = some L')
    (h' : lv_has ls' L.length ((i, w) :: (asc ad L).filter (fun q => !(q.1 == i) && !(q.1 + 1 == i && q.2.category == 2)))) : lRel ad L' ls' := by
  unfold stL at hs
  split at hs
  · rename_i hc
    cases hs
    refine ⟨by rw [h'.1, List.length_set], h'.2.1, fun k w hk hn => ?_⟩
    by_cases hki : k = i
    · subst hki
      rw [List.getElem?_set_self hc.1] at hk
      cases hk
      exact absurd rfl hn
    · rw [List.getElem?_set_ne (fun q => hki q.symm)] at hk
      refine h'.2.2 (k, trV ad w) (List.mem_cons_of_mem _ (List.mem_filter.mpr ⟨asc_mem.mpr ⟨w, hk, hn, rfl⟩, ?_⟩))
      by_cases h1 : k + 1 = i
      · subst h1
        have h2 : isLg w = false := by
          have := hc.2
          simp only [isL1] at this
          rw [List.getD_eq_getElem?_getD, hk] at this
          exact this
        have h3 : (trV ad w).category = 1 := by rw [trV_cat]; cases w <;> first | rfl | (cases h2)
        simp [h3]
      · simp [hki, h1]
  · cases hs
/-- the row that takes it, those ahead passed by -/
theorem hOf_split : ∀ (T : List (Nat × Nat × Nat × Nat × Nat × Nat × Nat)) (pc x : Nat) (h : Nat × Nat), hOf T pc x = some h → ∃ pre row suf, T = pre ++ row :: suf ∧ row.1 ≤ pc ∧ pc < row.2.1 ∧ row.2.2.2.2.1 = x ∧ h = (row.2.2.2.2.2.1, row.2.2.2.2.2.2) ∧ ∀ z ∈ pre, (¬ (z.1 ≤ pc ∧ pc < z.2.1)) ∨ (z.2.2.2.2.1 = 101 ∧ x = 100) := by
  intro T
  induction T with
  | nil => intro pc x h hh; cases hh
  | cons r T ih =>
    obtain ⟨fr, to, hp, ct, e0, nx, sl⟩ := r
    intro pc x h hh
    unfold hOf at hh
    split at hh
    · rename_i hc
      split at hh
      · rename_i he
        cases hh
        exact ⟨[], _, T, rfl, hc.1, hc.2, he, rfl, fun z hz => nomatch hz⟩
      · split at hh
        · rename_i he2
          obtain ⟨pre, row, suf, h1, h2, h3, h4, h5, h6⟩ := ih pc x h hh
          refine ⟨(fr, to, hp, ct, e0, nx, sl) :: pre, row, suf, by rw [h1]; rfl, h2, h3, h4, h5, fun z hz => ?_⟩
          rcases List.mem_cons.mp hz with rfl | hz
          · exact Or.inr he2
          · exact h6 z hz
        · cases hh
    · rename_i hc
      obtain ⟨pre, row, suf, h1, h2, h3, h4, h5, h6⟩ := ih pc x h hh
      refine ⟨(fr, to, hp, ct, e0, nx, sl) :: pre, row, suf, by rw [h1]; rfl, h2, h3, h4, h5, fun z hz => ?_⟩
      rcases List.mem_cons.mp hz with rfl | hz
      · exact Or.inl hc
      · exact h6 z hz
end HelpS
