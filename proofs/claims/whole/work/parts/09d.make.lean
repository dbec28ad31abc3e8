/-! soundness: new cells, constants, members of the JDK -/
section SndD
variable {p : Program} {l : Launch} {e : Env} {R : Room} {s : State} {m : MethodId} {args : Array Value} {below : List Frame} {meth : Method} {c : Code} {H : Heap} {locs : List Loc} {cells slots : Nat} {Q : State → Prop}
variable {pc : Nat} {ls : Array Slot} {ad : Nat → Nat} {N0 SL : Nat} {xs : Nat → Int32} {cs : pCs} {D : va_G} {mid c0 : Nat}
theorem nw_addr {M : pM} {q : Nat} {x : va_E} (had : ∀ i, i < 900 → ad i = N0 + i) (hn : gN M.2.2.2 < 900) (hD : va_D (frA N0) (mkW ad cs M ++ [(q, x)])) (hlt : q < N0 + gN M.2.2.2 + 1) : q = ad (gN M.2.2.2) := by
  have hl : (mkW ad cs M).length = gN M.2.2.2 := mkW_len ad cs M
  have hg : (mkW ad cs M ++ [(q, x)])[gN M.2.2.2]? = some (q, x) := by rw [← hl]; simp
  have h1 : N0 ≤ q := hD.2 _ _ hg
  rw [had _ hn]
  by_cases h2 : q < N0 + gN M.2.2.2
  · have h3 : q - N0 < gN M.2.2.2 := by omega
    have h4 : (mkW ad cs M ++ [(q, x)])[q - N0]? = some (ad (q - N0), cellE ad cs M (q - N0)) := by
      rw [List.getElem?_append_left (by rw [hl]; exact h3)]
      exact mkW_get h3
    have h5 := hD.1 _ _ _ _ h4 hg (by show ad (q - N0) = q; rw [had _ (by omega)]; omega)
    omega
  · omega
theorem gOk_new {G : pG} {k n sl : Nat} (h : gOk G) (hn : gN G < 900) (hk : k < 11 ∨ k = 20 ∨ k = 21 ∨ k = 22 ∨ k = 23) : gOk (gNew G k n sl) := by
  refine ⟨by show gN G + 1 ≤ 900; omega, fun i hi => ?_, fun i hi => ?_, by show gN G + 1 ≤ gC G + 1; have := h.2.2.2; omega⟩
  · have hi2 : gN G + 1 ≤ i := hi
    have e : gK (gNew G k n sl) i = gK G i := va_up_ne _ _ (by omega)
    rw [e]
    exact h.2.1 i (by omega)
  · have hi2 : i < gN G + 1 := hi
    by_cases he : i = gN G
    · subst he
      have e : gK (gNew G k n sl) (gN G) = k := va_up_self _ _ _
      rw [e]
      exact hk
    · have e : gK (gNew G k n sl) i = gK G i := va_up_ne _ _ he
      rw [e]
      exact h.2.2.1 i (by omega)
theorem tag_ok : ∀ c, c < 11 → ∀ k, k < clN c → tagOf (clTy c k) ≠ 3 := by
  intro c hc
  have : c = 0 ∨ c = 1 ∨ c = 2 ∨ c = 3 ∨ c = 4 ∨ c = 5 ∨ c = 6 ∨ c = 7 ∨ c = 8 ∨ c = 9 ∨ c = 10 := by omega
  rcases this with rfl | rfl | rfl | rfl | rfl | rfl | rfl | rfl | rfl | rfl | rfl <;> decide +kernel
/-- the memory behind a new cell, its world -/
theorem Wd_new {M M' : pM} {H1 : Heap} {k n sl : Nat} {x : va_E} (hW : Wd ad SL xs cs D M H) (hn : gN M.2.2.2 < 900) (hk : k < 11 ∨ k = 20 ∨ k = 21 ∨ k = 22 ∨ k = 23) (hG : M'.2.2.2 = gNew M.2.2.2 k n sl)
    (hF : ∀ j, j ≠ gN M.2.2.2 → M'.1 j = M.1 j) (hA : ∀ j, j ≠ gN M.2.2.2 → M'.2.1 j = M.2.1 j) (hJ : ∀ j, j ≠ gN M.2.2.2 → M'.2.2.1 j = M.2.2.1 j) (hx : cellE ad cs M' (gN M.2.2.2) = x)
    (hP : va_P D vwCl (mkW ad cs M ++ [(ad (gN M.2.2.2), x)]) H1) : Wd ad SL xs cs D M' H1 := by
  have hK : ∀ j, j ≠ gN M.2.2.2 → gK M'.2.2.2 j = gK M.2.2.2 j := fun j hj => by rw [hG]; exact va_up_ne _ _ hj
  have hL : ∀ j, j ≠ gN M.2.2.2 → gL M'.2.2.2 j = gL M.2.2.2 j := fun j hj => by rw [hG]; exact va_up_ne _ _ hj
  have hR : ∀ j, j ≠ gN M.2.2.2 → gR M'.2.2.2 j = gR M.2.2.2 j := fun j hj => by rw [hG]; exact va_up_ne _ _ hj
  refine ⟨?_, by rw [hG]; exact gOk_new hW.2.1 hn hk, fun h30 => ?_⟩
  · rw [mkW_app (M' := M') (by rw [hG]; rfl) hx (fun j hj => ?_)] at hP
    · exact hP
    · have hne : j ≠ gN M.2.2.2 := by omega
      exact cellE_congr (hK j hne) (hL j hne) (hF j hne) (hA j hne) (hJ j hne) (hR j hne)
  · have hne : (2000 : Nat) ≠ gN M.2.2.2 := by omega
    rw [hK _ hne] at h30
    rw [hA _ hne, hL _ hne]
    exact hW.2.2 h30
theorem s_new {i : Instr} {st : List Value} {M : pM} {q : List Value × pM} (C : Cx ad N0 SL xs cs D p s m args meth c mid c0) (hW : Wd ad SL xs cs D M H) (hS : va_S (frA N0) s.heap H locs) (h : hNew (mOw mid) i st M = some q) (hd : decode (mCd mid) pc = .ok (i, ilen i))
    (hcn : c0 + cells = gC M.2.2.2) (hcc : gC q.2.2.2.2 ≤ c0 + R.cells) (hcs : slots + (gS q.2.2.2.2 - gS M.2.2.2) ≤ R.slots)
    (k : ∀ (H1 : Heap), Wd ad SL xs cs D q.2 H1 → va_S (frA N0) s.heap H1 locs → gC q.2.2.2.2 = gC M.2.2.2 + 1 → gS M.2.2.2 ≤ gS q.2.2.2.2 → W p l e R s m args below meth c H1 locs (cells + 1) (slots + (gS q.2.2.2.2 - gS M.2.2.2)) Q (F0 m (pc + ilen i) ls (q.1.map (trV ad)))) : W p l e R s m args below meth c H locs cells slots Q (F0 m pc ls (st.map (trV ad))) := by
  obtain ⟨hx, hb, -, -, -, hts, hown, -, hK, hN0, hN1, hE, had⟩ := C
  have hD := mkW_D (cs := cs) had hW.2.1
  have hA : ∀ q, s.heap.size ≤ q → frA N0 q := fun q hq => Nat.le_trans hN0 hq
  -- where a new cell lies
  have addr : ∀ {q9 : Nat} {x9 : va_E} {H1 : Heap}, gN M.2.2.2 < 900 → gC M.2.2.2 = gN M.2.2.2 → va_P D vwCl (mkW ad cs M ++ [(q9, x9)]) H1 → va_D (frA N0) (mkW ad cs M ++ [(q9, x9)]) → H1.size ≤ s.heap.size + (cells + 1) → q9 = ad (gN M.2.2.2) := by
    intro q9 x9 H1 h1 h2 hP1 hD1 hz
    have hg : (mkW ad cs M ++ [(q9, x9)])[gN M.2.2.2]? = some (q9, x9) := by rw [← mkW_len ad cs M]; simp
    have := (hP1 _ _ hg).lt
    have h3 : q9 < H1.size := this
    exact nw_addr had h1 hD1 (by omega)
  unfold hNew at h
  split at h
  · rename_i t
    split at h
    · rename_i n r
      split at h
      · rename_i hc
        cases h
        have hs1 : gS (gNew M.2.2.2 (arK t) n.toNatClampNeg n.toNatClampNeg) - gS M.2.2.2 = n.toNatClampNeg := Nat.add_sub_cancel_left _ _
        have hcc1 : gC M.2.2.2 + 1 ≤ c0 + R.cells := hcc
        rw [show gS (M.1, va_up M.2.1 (gN M.2.2.2) (fun _ => 0), va_up M.2.2.1 (gN M.2.2.2) (fun _ => 0), gNew M.2.2.2 (arK t) n.toNatClampNeg n.toNatClampNeg).2.2.2 - gS M.2.2.2 = n.toNatClampNeg from hs1] at hcs k
        have hk2 : ∀ (H1 : Heap), Wd ad SL xs cs D (M.1, va_up M.2.1 (gN M.2.2.2) (fun _ => 0), va_up M.2.2.1 (gN M.2.2.2) (fun _ => 0), gNew M.2.2.2 (arK t) n.toNatClampNeg n.toNatClampNeg) H1 → va_S (frA N0) s.heap H1 locs → W p l e R s m args below meth c H1 locs (cells + 1) (slots + n.toNatClampNeg) Q (F0 m (pc + 2) ls (.ref (ad (gN M.2.2.2)) :: r.map (trV ad))) :=
          fun H1 h1 h2 => k H1 h1 h2 rfl (Nat.le_add_right _ _)
        cases t <;> first | exact absurd rfl hc.2.2.1 | skip
        · refine va_newa (atype := .byte) (a0 := (n.toNatClampNeg, .inl (fun _ => 0))) hx hb (hts _ wx_abyte) rfl hK hW.1 hD hS hA (fun cA => rfl) hc.1 rfl (by have := hc.2.1; show _ * 1 ≤ _; omega) (by omega) hcs hd (fun q9 cA H1 hK1 hP1 hD1 hS1 => W.sized (fun hz => ?_))
          have e1 := addr hc.2.2.2.1 hc.2.2.2.2 hP1 hD1 hz
          subst e1
          have e2 : cA = cs.2.1 := by
            have g1 : s.vm.findClass ("[" ++ (FieldType.byte).toString) = some cA := (hK1.2 4 _ rfl).2
            have g2 : s.vm.findClass ("[" ++ (FieldType.byte).toString) = some cs.2.1 := (hK.2 1 _ rfl).2
            exact Option.some.inj (g1.symm.trans g2)
          subst e2
          refine hk2 H1 (Wd_new hW hc.2.2.2.1 (Or.inr (Or.inr (Or.inl rfl))) rfl (fun j hj => rfl) (fun j hj => va_up_ne _ _ hj) (fun j hj => va_up_ne _ _ hj) ?_ hP1) hS1
          simp only [cellE, gNew, gK, gL, va_up_self, arK]
          simp
        · refine va_newa (atype := .int) (a0 := (n.toNatClampNeg, .inl (fun _ => 0))) hx hb (hts _ wx_aint) rfl hK hW.1 hD hS hA (fun cA => rfl) hc.1 rfl (by have := hc.2.1; show _ * 4 ≤ _; omega) (by omega) hcs hd (fun q9 cA H1 hK1 hP1 hD1 hS1 => W.sized (fun hz => ?_))
          have e1 := addr hc.2.2.2.1 hc.2.2.2.2 hP1 hD1 hz
          subst e1
          have e2 : cA = cs.1 := by
            have g1 : s.vm.findClass ("[" ++ (FieldType.int).toString) = some cA := (hK1.2 4 _ rfl).2
            have g2 : s.vm.findClass ("[" ++ (FieldType.int).toString) = some cs.1 := (hK.2 0 _ rfl).2
            exact Option.some.inj (g1.symm.trans g2)
          subst e2
          refine hk2 H1 (Wd_new hW hc.2.2.2.1 (Or.inr (Or.inl rfl)) rfl (fun j hj => rfl) (fun j hj => va_up_ne _ _ hj) (fun j hj => va_up_ne _ _ hj) ?_ hP1) hS1
          simp only [cellE, gNew, gK, gL, va_up_self, arK]
          simp
        · refine va_newa (atype := .long) (a0 := (n.toNatClampNeg, .inr (.inl (fun _ => 0)))) hx hb (hts _ wx_along) rfl hK hW.1 hD hS hA (fun cA => rfl) hc.1 rfl (by have := hc.2.1; show _ * 8 ≤ _; omega) (by omega) hcs hd (fun q9 cA H1 hK1 hP1 hD1 hS1 => W.sized (fun hz => ?_))
          have e1 := addr hc.2.2.2.1 hc.2.2.2.2 hP1 hD1 hz
          subst e1
          have e2 : cA = cs.2.2.1 := by
            have g1 : s.vm.findClass ("[" ++ (FieldType.long).toString) = some cA := (hK1.2 4 _ rfl).2
            have g2 : s.vm.findClass ("[" ++ (FieldType.long).toString) = some cs.2.2.1 := (hK.2 2 _ rfl).2
            exact Option.some.inj (g1.symm.trans g2)
          subst e2
          refine hk2 H1 (Wd_new hW hc.2.2.2.1 (Or.inr (Or.inr (Or.inr (Or.inl rfl)))) rfl (fun j hj => rfl) (fun j hj => va_up_ne _ _ hj) (fun j hj => va_up_ne _ _ hj) ?_ hP1) hS1
          simp only [cellE, gNew, gK, gL, va_up_self, arK]
          simp
      · cases h
    · cases h
  · rename_i x
    split at h
    · rename_i n r
      split at h
      · rename_i hc
        cases h
        obtain ⟨hm, e1, e2⟩ := lkp_mem hc.1
        have w1 := cT_ok _ hm
        unfold okC at w1
        dsimp only at w1
        rw [e1, e2] at w1
        have hs1 : gS (gNew M.2.2.2 23 n.toNatClampNeg n.toNatClampNeg) - gS M.2.2.2 = n.toNatClampNeg := Nat.add_sub_cancel_left _ _
        have hcc1 : gC M.2.2.2 + 1 ≤ c0 + R.cells := hcc
        rw [show gS (M.1, M.2.1, M.2.2.1, gNew M.2.2.2 23 n.toNatClampNeg n.toNatClampNeg).2.2.2 - gS M.2.2.2 = n.toNatClampNeg from hs1] at hcs k
        refine va_newq (own := ownR (mOw mid)) (C := "java/lang/String") hx hb hown (hts _ w1) hE.2.2.2.2.2.2.2.2.1 hK hW.1 hD hS hA hc.2.1 rfl (by have := hc.2.2.1; omega) (by omega) hcs hd (fun q9 cA H1 hK1 hP1 hD1 hS1 => W.sized (fun hz => ?_))
        have e1 := addr hc.2.2.2.1 hc.2.2.2.2 hP1 hD1 hz
        subst e1
        have e2 : cA = cs.2.2.2 := by
          obtain ⟨_, _, _, _, _, g1⟩ := (hK1.2 4 _ rfl).2
          obtain ⟨_, _, _, _, _, g2⟩ := (hK.2 3 _ rfl).2
          exact Option.some.inj (g1.symm.trans g2)
        subst e2
        refine k H1 (Wd_new hW hc.2.2.2.1 (Or.inr (Or.inr (Or.inr (Or.inr rfl)))) rfl (fun j hj => rfl) (fun j hj => rfl) (fun j hj => rfl) ?_ hP1) hS1 rfl (Nat.le_add_right _ _)
        simp only [cellE, gNew, gK, gL, gR, va_up_self]
        simp [rfo]
      · cases h
    · cases h
  · rename_i x
    split at h
    · rename_i ci hl
      split at h
      · rename_i hc
        cases h
        obtain ⟨hm, e1, e2⟩ := lkp_mem hl
        have w1 := cT_ok _ hm
        unfold okC at w1
        dsimp only at w1
        have e3 : xcN ci = ownR ci := by
          have hci := hc.1
          unfold xcN
          split <;> first | omega | rfl
        rw [e1, e2, e3] at w1
        have hs1 : gS (gNew M.2.2.2 ci 0 (clN ci)) - gS M.2.2.2 = clN ci := Nat.add_sub_cancel_left _ _
        have hcc1 : gC M.2.2.2 + 1 ≤ c0 + R.cells := hcc
        rw [show gS (va_up M.1 (gN M.2.2.2) (fun _ => 0), M.2.1, M.2.2.1, gNew M.2.2.2 ci 0 (clN ci)).2.2.2 - gS M.2.2.2 = clN ci from hs1] at hcs k
        refine va_new (own := ownR (mOw mid)) (C := ownR ci) (T := clT ci) (N := clN ci) (fs := (List.range (clN ci)).map (fun k => if tagOf (clTy ci k) = 1 then .null else .int 0)) hx hb hts (uw_all ci hc.1) (clTy ci) (clTy_ok ci hc.1) hown (hts _ w1) (hts _ (wi_all ci hc.1).1) (hts _ (wi_all ci hc.1).2) hK hW.1 hD hS hA (vwCl_at ci hc.1) (fun j hj => ?_) (by omega) hcs hd (fun q9 H1 hP1 hD1 hS1 => W.sized (fun hz => ?_))
        · have ht := tag_ok ci hc.1 j hj
          simp only [vp_V, List.getD_eq_getElem?_getD, List.getElem?_map, List.getElem?_range hj, Option.map_some, Option.getD_some]
          revert ht
          cases clTy ci j <;> intro ht <;> first | rfl | exact absurd rfl ht
        · have e1 := addr hc.2.1 hc.2.2 hP1 hD1 hz
          subst e1
          refine k H1 (Wd_new hW hc.2.1 (Or.inl hc.1) rfl (fun j hj => va_up_ne _ _ hj) (fun j hj => rfl) (fun j hj => rfl) ?_ hP1) hS1 rfl (Nat.le_add_right _ _)
          rw [cellE_obj (M := (va_up M.1 (gN M.2.2.2) (fun _ => 0), M.2.1, M.2.2.1, gNew M.2.2.2 ci 0 (clN ci))) (i := gN M.2.2.2) hc.1 (va_up_self (gK M.2.2.2) (gN M.2.2.2) ci)]
          unfold flds
          congr 2
          apply List.map_congr_left
          intro k9 _
          simp only [fldV, gNew, gR, va_up_self, pRv, trV]
      · cases h
    · cases h
  · cases h
theorem vm_ldcSW {cc : ByteArray} {rest : List Value} (hexec : p.tables.exec = Jvm.exec) (hb : c.code = cc) {own tx : String} {index q : Nat} (hown : s.vm.findClass own = some m.cls) (hZ : vk_R own index tx q s) (hdg : decode cc pc = .ok (.ldc_w index, 3))
    (k : W p l e R s m args below meth c H locs cells slots Q (F0 m (pc + 3) ls (.ref q :: rest))) : W p l e R s m args below meth c H locs cells slots Q (F0 m pc ls rest) := by
  intro T hT X
  obtain ⟨t, a1, b1⟩ := k T hT X
  exact ⟨t, X.ldcStringW hexec hown (text := tx) (a := q) hZ.1 hZ.2 (g := F0 m pc ls rest) rfl (by rw [hb]; exact hdg) t a1, b1⟩
theorem s_ldc {i : Instr} {st : List Value} {v : Value} (C : Cx ad N0 SL xs cs D p s m args meth c mid c0) (h : hLdc (mOw mid) i = some v) (hd : decode (mCd mid) pc = .ok (i, ilen i))
    (k : W p l e R s m args below meth c H locs cells slots Q (F0 m (pc + ilen i) ls ((v :: st).map (trV ad)))) : W p l e R s m args below meth c H locs cells slots Q (F0 m pc ls (st.map (trV ad))) := by
  obtain ⟨hx, hb, -, -, -, hts, hown, -, hK, hN0, -, hE, had⟩ := C
  unfold hLdc at h
  split at h
  · split at h
    · rename_i v9 hl
      cases h
      obtain ⟨hm, e1, e2⟩ := lkp_mem hl
      have w1 := kI_ok _ hm
      dsimp only at w1
      rw [e1, e2] at w1
      exact lv_ldc hx hb hown (hts _ w1) hd k
    · split at h
      · rename_i s9 hl
        cases h
        obtain ⟨hm, e1, e2⟩ := lkp_mem hl
        have w1 := hE.2.2.2.2.2.1 _ hm
        dsimp only at w1
        rw [e1, e2] at w1
        exact va_ldcS hx hb hown w1 hd k
      · cases h
  · split at h
    · rename_i v9 hl
      cases h
      obtain ⟨hm, e1, e2⟩ := lkp_mem hl
      have w1 := kI_ok _ hm
      dsimp only at w1
      rw [e1, e2] at w1
      exact lv_ldcw hx hb hown (hts _ w1) hd k
    · split at h
      · rename_i s9 hl
        cases h
        obtain ⟨hm, e1, e2⟩ := lkp_mem hl
        have w1 := hE.2.2.2.2.2.1 _ hm
        dsimp only at w1
        rw [e1, e2] at w1
        exact vm_ldcSW hx hb hown w1 hd k
      · cases h
  · split at h
    · rename_i v9 hl
      cases h
      obtain ⟨hm, e1, e2⟩ := lkp_mem hl
      have w1 := kJ_ok _ hm
      dsimp only at w1
      rw [e1, e2] at w1
      exact lv_ldc2 hx hb hown (hts _ w1) hd k
    · cases h
  · cases h
end SndD
