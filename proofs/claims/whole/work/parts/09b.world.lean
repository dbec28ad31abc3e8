/-! the world of the pure memory -/
section SndB
def rfo (ad : Nat → Nat) (n : Nat) : Option Nat := match n with
  | 0 => none
  | k + 1 => some (ad k)
theorem rfo_rf (ad : Nat → Nat) (n : Nat) : va_rf (rfo ad n) = trV ad (pRv n) := by cases n <;> rfl
/-- the classes of rows: int, byte, long, String -/
abbrev pCs : Type := ClassId × ClassId × ClassId × ClassId
def fldV (ad : Nat → Nat) (M : pM) (ci i k : Nat) : Value := if tagOf (clTy ci k) = 1 then trV ad (pRv (gR M.2.2.2 i k)) else .int (M.1 i k)
def flds (ad : Nat → Nat) (M : pM) (ci i : Nat) : List Value := (List.range (clN ci)).map (fldV ad M ci i)
def cellE (ad : Nat → Nat) (cs : pCs) (M : pM) (i : Nat) : va_E :=
  if gK M.2.2.2 i = 20 then .inl (cs.1, gL M.2.2.2 i, .inl (M.2.1 i))
  else if gK M.2.2.2 i = 21 then .inl (cs.2.1, gL M.2.2.2 i, .inl (M.2.1 i))
  else if gK M.2.2.2 i = 22 then .inl (cs.2.2.1, gL M.2.2.2 i, .inr (.inl (M.2.2.1 i)))
  else if gK M.2.2.2 i = 23 then .inl (cs.2.2.2, gL M.2.2.2 i, .inr (.inr (.inr (.inr (fun j => rfo ad (gR M.2.2.2 i j))))))
  else .inr (gK M.2.2.2 i, flds ad M (gK M.2.2.2 i) i)
def mkW (ad : Nat → Nat) (cs : pCs) (M : pM) : va_W := (List.range (gN M.2.2.2)).map (fun i => (ad i, cellE ad cs M i))
theorem mkW_len (ad : Nat → Nat) (cs : pCs) (M : pM) : (mkW ad cs M).length = gN M.2.2.2 := by simp [mkW]
theorem mkW_get {ad : Nat → Nat} {cs : pCs} {M : pM} {i : Nat} (h : i < gN M.2.2.2) : (mkW ad cs M)[i]? = some (ad i, cellE ad cs M i) := by
  simp [mkW, h]
theorem mkW_some {ad : Nat → Nat} {cs : pCs} {M : pM} {i : Nat} {q : Nat × va_E} (h : (mkW ad cs M)[i]? = some q) : i < gN M.2.2.2 ∧ q = (ad i, cellE ad cs M i) := by
  have h1 : i < (mkW ad cs M).length := (List.getElem?_eq_some_iff.mp h).1
  rw [mkW_len] at h1
  rw [mkW_get h1] at h
  exact ⟨h1, (Option.some.inj h).symm⟩
theorem mkW_set {ad : Nat → Nat} {cs : pCs} {M M' : pM} {o : Nat} {x : va_E} (hn : gN M'.2.2.2 = gN M.2.2.2) (ho : cellE ad cs M' o = x) (h : ∀ j, j ≠ o → cellE ad cs M' j = cellE ad cs M j) : (mkW ad cs M).set o (ad o, x) = mkW ad cs M' := by
  apply List.ext_getElem?
  intro j
  rw [List.getElem?_set, mkW_len]
  by_cases hj : j < gN M.2.2.2
  · by_cases hjo : o = j
    · subst hjo
      rw [if_pos rfl, if_pos hj, mkW_get (by rw [hn]; exact hj), ho]
    · rw [if_neg hjo, mkW_get hj, mkW_get (by rw [hn]; exact hj), h j (fun q => hjo q.symm)]
  · have h1 : (mkW ad cs M')[j]? = none := List.getElem?_eq_none (by rw [mkW_len, hn]; omega)
    have h2 : (mkW ad cs M)[j]? = none := List.getElem?_eq_none (by rw [mkW_len]; omega)
    rw [h1]
    by_cases hjo : o = j
    · subst hjo; rw [if_pos rfl, if_neg hj]
    · rw [if_neg hjo, h2]
theorem mkW_app {ad : Nat → Nat} {cs : pCs} {M M' : pM} {x : va_E} (hn : gN M'.2.2.2 = gN M.2.2.2 + 1) (ho : cellE ad cs M' (gN M.2.2.2) = x) (h : ∀ j, j < gN M.2.2.2 → cellE ad cs M' j = cellE ad cs M j) : mkW ad cs M ++ [(ad (gN M.2.2.2), x)] = mkW ad cs M' := by
  unfold mkW
  rw [hn, List.range_succ, List.map_append]
  congr 1
  · apply List.map_congr_left
    intro j hj
    rw [h j (List.mem_range.mp hj)]
  · simp [ho]
/-- the geometry is as it can come about -/
def gOk (G : pG) : Prop := gN G ≤ 900 ∧ (∀ i, gN G ≤ i → 900 ≤ gK G i ∨ (gK G i = 30 ∧ i = 2000)) ∧ (∀ i, i < gN G → gK G i < 11 ∨ gK G i = 20 ∨ gK G i = 21 ∨ gK G i = 22 ∨ gK G i = 23) ∧ gN G ≤ gC G
theorem gOk.lt {G : pG} (h : gOk G) {i : Nat} (hk : gK G i < 11 ∨ gK G i = 20 ∨ gK G i = 21 ∨ gK G i = 22 ∨ gK G i = 23) : i < gN G := by
  apply Nat.lt_of_not_le
  intro q
  rcases h.2.1 i q with h1 | h1 <;> omega
theorem cellE_obj {ad : Nat → Nat} {cs : pCs} {M : pM} {i ci : Nat} (hc : ci < 11) (h : gK M.2.2.2 i = ci) : cellE ad cs M i = .inr (ci, flds ad M ci i) := by
  unfold cellE
  rw [if_neg (by omega), if_neg (by omega), if_neg (by omega), if_neg (by omega), h]
theorem flds_get {ad : Nat → Nat} {M : pM} {ci i k : Nat} (h : k < clN ci) : (flds ad M ci i)[k]? = some (fldV ad M ci i k) := by simp [flds, h]
theorem flds_set {ad : Nat → Nat} {M M' : pM} {ci i k : Nat} {v : Value} (hv : fldV ad M' ci i k = v) (h : ∀ j, j ≠ k → fldV ad M' ci i j = fldV ad M ci i j) : (flds ad M ci i).set k v = flds ad M' ci i := by
  apply List.ext_getElem?
  intro j
  rw [List.getElem?_set]
  have hl : (flds ad M ci i).length = clN ci := by simp [flds]
  rw [hl]
  by_cases hj : j < clN ci
  · by_cases hjk : k = j
    · subst hjk; rw [if_pos rfl, if_pos hj, flds_get hj, hv]
    · rw [if_neg hjk, flds_get hj, flds_get hj, h j (fun q => hjk q.symm)]
  · have h1 : (flds ad M' ci i)[j]? = none := List.getElem?_eq_none (by simp [flds]; omega)
    have h2 : (flds ad M ci i)[j]? = none := List.getElem?_eq_none (by simp [flds]; omega)
    rw [h1]
    by_cases hjk : k = j
    · subst hjk; rw [if_pos rfl, if_neg hj]
    · rw [if_neg hjk, h2]
/-- cells that look alike -/
theorem cellE_congr {ad : Nat → Nat} {cs : pCs} {M M' : pM} {i : Nat} (hk : gK M'.2.2.2 i = gK M.2.2.2 i) (hl : gL M'.2.2.2 i = gL M.2.2.2 i) (hf : M'.1 i = M.1 i) (ha : M'.2.1 i = M.2.1 i) (hj : M'.2.2.1 i = M.2.2.1 i) (hr : gR M'.2.2.2 i = gR M.2.2.2 i) : cellE ad cs M' i = cellE ad cs M i := by
  unfold cellE flds fldV
  rw [hk, hl, hf, ha, hj, hr]
/-- the words of a throw that aren't kept by themselves -/
def xE (U : State) : Prop := va_Nw (.declares (Jvm.Bundle.initS "java/lang/RuntimeException")) U ∧ va_Nw (.declares (Jvm.Bundle.initS "java/lang/Exception")) U ∧ va_Nw (.declares (Jvm.Bundle.initS Jvm.Bundle.tN)) U ∧ va_Nw (.castable "java/lang/IllegalArgumentException" "java/lang/IllegalArgumentException") U ∧ va_Nw (.castable "java/util/NoSuchElementException" "java/util/NoSuchElementException") U ∧ va_Nc "java/lang/IllegalArgumentException" "java/util/NoSuchElementException" U
theorem xE.warm {u U : State} (hW : u.WarmedH U.vm) (h : xE u) : xE U := ⟨va_Nw.warmD hW h.1, va_Nw.warmD hW h.2.1, va_Nw.warmD hW h.2.2.1, va_Nw.warmC hW h.2.2.2.1, va_Nw.warmC hW h.2.2.2.2.1, va_Nc.moved hW.alike h.2.2.2.2.2⟩
theorem xE.same {u U : State} (hv : u.vm = U.vm) (h : xE u) : xE U := ⟨va_Nw.same rfl hv h.1, va_Nw.same rfl hv h.2.1, va_Nw.same rfl hv h.2.2.1, va_Nw.same rfl hv h.2.2.2.1, va_Nw.same rfl hv h.2.2.2.2.1, va_Nc.moved (hv ▸ Vm.Alike.refl u.vm) h.2.2.2.2.2⟩
/-- the private constructors that a nest mate calls -/
def nestE (U : State) : Prop := va_Nw (.methodLinkNest RX7 29 yX4_init "TableTower") U ∧ va_Nw (.methodLinkNest RX5 11 yX0_init "TableTower") U ∧ va_AO "java/lang/String" U ∧ xE U
/-- the constant texts, and the statics that the members of a text read -/
def pStr (ad : Nat → Nat) (N0 : Nat) (U : State) (H : Heap) : Prop :=
  (∀ i : Nat, i < sBy.length → va_O "java/lang/String" (ad (1000 + i)) (fun q => N0 ≤ q) U H ∧ va_OF "java/lang/String" "coder" "B" (.int 0) (ad (1000 + i)) (fun q => N0 ≤ q) U H ∧ va_OF "java/lang/String" "value" "[B" (.ref (ad (1500 + i))) (ad (1000 + i)) (fun q => N0 ≤ q) U H ∧ va_T .byte (ad (1500 + i)) (sBy.getD i []).length (fun j => .int (nI ((sBy.getD i []).getD j 0))) (fun q => N0 ≤ q) U H) ∧
  va_Z "java/lang/String" "COMPACT_STRINGS" "Z" (.int 1) (fun q => N0 ≤ q) U H ∧ va_Zq "jdk/internal/util/Preconditions" "SIOOBE_FORMATTER" "Ljava/util/function/BiFunction;" (fun q => N0 ≤ q) U H
theorem pStr.kept {ad : Nat → Nat} {N0 : Nat} {U : State} {H H1 : Heap} (h : pStr ad N0 U H) (hq : ∀ a : Nat, a < H.size → ¬ N0 ≤ a → H1[a]? = H[a]?) : pStr ad N0 U H1 :=
  ⟨fun i hi => ⟨(h.1 i hi).1.kept hq, (h.1 i hi).2.1.kept hq, (h.1 i hi).2.2.1.kept hq, (h.1 i hi).2.2.2.kept hq⟩, h.2.1.kept hq, h.2.2.kept hq⟩
theorem pStr.moved {ad : Nat → Nat} {N0 : Nat} {u U : State} {H : Heap} (hvm : u.vm.Alike U.vm) (h : pStr ad N0 u H) : pStr ad N0 U H :=
  ⟨fun i hi => ⟨va_O.moved hvm (h.1 i hi).1, va_OF.moved hvm (h.1 i hi).2.1, va_OF.moved hvm (h.1 i hi).2.2.1, va_T.moved hvm (h.1 i hi).2.2.2⟩, va_Z.moved hvm h.2.1, va_Zq.moved hvm h.2.2⟩
/-- what stands below the claim's own cells: texts, statics, the script -/
def pEnv (ad : Nat → Nat) (N0 : Nat) (SL : Nat) (xs : Nat → Int32) (U : State) (H : Heap) : Prop :=
  pStr ad N0 U H ∧
  vx_Zq Jvm.Bundle.tN "UNASSIGNED_STACK" Jvm.Bundle.steD (fun q => N0 ≤ q) U H ∧ vx_Zq Jvm.Bundle.tN "SUPPRESSED_SENTINEL" Jvm.Bundle.listD (fun q => N0 ≤ q) U H ∧
  va_X (ad 2000) SL xs U H ∧ ad 2000 < N0 ∧ (∀ q ∈ kS, vk_R (ownR (q.1 / 10000)) (q.1 % 10000) (sTx.getD q.2 "") (ad (1000 + q.2)) U) ∧ nestE U
theorem pEnv.kept {ad : Nat → Nat} {N0 SL : Nat} {xs : Nat → Int32} {U : State} {H H1 : Heap} (h : pEnv ad N0 SL xs U H) (hz : N0 ≤ H.size) (hq : ∀ a : Nat, a < H.size → ¬ N0 ≤ a → H1[a]? = H[a]?) : pEnv ad N0 SL xs U H1 :=
  ⟨h.1.kept hq, h.2.1.kept hq, h.2.2.1.kept hq, h.2.2.2.1.kept (hq _ (by have := h.2.2.2.2.1; omega) (by have := h.2.2.2.2.1; omega)), h.2.2.2.2⟩
theorem pEnv.warm {ad : Nat → Nat} {N0 SL : Nat} {xs : Nat → Int32} {u U : State} {H : Heap} (hW : u.WarmedH U.vm) (h : pEnv ad N0 SL xs u H) : pEnv ad N0 SL xs U H :=
  ⟨h.1.moved hW.alike, h.2.1.moved hW.alike, h.2.2.1.moved hW.alike, h.2.2.2.1.moved hW.alike, h.2.2.2.2.1, fun q hq => (h.2.2.2.2.2.1 q hq).warm hW, va_Nw.warmM hW h.2.2.2.2.2.2.1, va_Nw.warmM hW h.2.2.2.2.2.2.2.1, va_AO.moved hW.alike h.2.2.2.2.2.2.2.2.1, h.2.2.2.2.2.2.2.2.2.warm hW⟩
theorem pEnv.calling {ad : Nat → Nat} {N0 SL : Nat} {xs : Nat → Int32} {U : State} {H : Heap} {g : JFrame} {mk : MethodId} {a : Array Value} (h : pEnv ad N0 SL xs U H) : pEnv ad N0 SL xs (U.calling g mk a) H :=
  ⟨h.1.moved (u := U) (U := U.calling g mk a) (Vm.Alike.refl U.vm), vx_Zq.moved (u := U) (U := U.calling g mk a) (Vm.Alike.refl U.vm) h.2.1, vx_Zq.moved (u := U) (U := U.calling g mk a) (Vm.Alike.refl U.vm) h.2.2.1, h.2.2.2.1.moved (u := U) (U := U.calling g mk a) (Vm.Alike.refl U.vm), h.2.2.2.2.1, fun q hq => vk_R.same (u := U) (U := U.calling g mk a) rfl (h.2.2.2.2.2.1 q hq), va_Nw.same (u := U) (U := U.calling g mk a) rfl rfl h.2.2.2.2.2.2.1, va_Nw.same (u := U) (U := U.calling g mk a) rfl rfl h.2.2.2.2.2.2.2.1, va_AO.moved (u := U) (U := U.calling g mk a) (Vm.Alike.refl U.vm) h.2.2.2.2.2.2.2.2.1, xE.same (u := U) (U := U.calling g mk a) rfl h.2.2.2.2.2.2.2.2.2⟩
abbrev pTys (cs : pCs) : List (ClassId × FieldType) := [(cs.1, .int), (cs.2.1, .byte), (cs.2.2.1, .long), (cs.2.2.2, .object "java/lang/String")]
/-- the memory M lies in the heap H -/
def Wd (ad : Nat → Nat) (SL : Nat) (xs : Nat → Int32) (cs : pCs) (D : va_G) (M : pM) (H : Heap) : Prop := va_P D vwCl (mkW ad cs M) H ∧ gOk M.2.2.2 ∧ (gK M.2.2.2 2000 = 30 → M.2.1 2000 = xs ∧ gL M.2.2.2 2000 = SL)
theorem mkW_D {ad : Nat → Nat} {N0 : Nat} {cs : pCs} {M : pM} (had : ∀ i, i < 900 → ad i = N0 + i) (h : gOk M.2.2.2) : va_D (fun q => N0 ≤ q) (mkW ad cs M) := by
  refine ⟨fun i j x y hx hy hxy => ?_, fun k x hx => ?_⟩
  · obtain ⟨h1, rfl⟩ := mkW_some hx
    obtain ⟨h2, rfl⟩ := mkW_some hy
    have h3 := h.1
    have e1 := had i (by omega)
    have e2 := had j (by omega)
    have : ad i = ad j := hxy
    omega
  · obtain ⟨h1, rfl⟩ := mkW_some hx
    have h3 := h.1
    show N0 ≤ ad k
    rw [had k (by omega)]
    omega
end SndB
