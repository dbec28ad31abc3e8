/-! soundness of what touches the memory -/
section SndC
variable {p : Program} {l : Launch} {e : Env} {R : Room} {s : State} {m : MethodId} {args : Array Value} {below : List Frame} {meth : Method} {c : Code} {H : Heap} {locs : List Loc} {cells slots : Nat} {Q : State → Prop}
variable {pc : Nat} {ls : Array Slot} {ad : Nat → Nat} {N0 SL : Nat} {xs : Nat → Int32} {cs : pCs} {D : va_G} {mid c0 : Nat}
/-- what a method's body stands on -/
def Cx (ad : Nat → Nat) (N0 SL : Nat) (xs : Nat → Int32) (cs : pCs) (D : va_G) (p : Program) (s : State) (m : MethodId) (args : Array Value) (meth : Method) (c : Code) (mid c0 : Nat) : Prop :=
  p.tables.exec = Jvm.exec ∧ c.code = mCd mid ∧ c.maxLocals = mMx mid ∧ meth.sig.returnType = mRt mid ∧ meth.locks = false ∧ (∀ w ∈ TBg, w.before args s = true) ∧ s.vm.findClass (ownR (mOw mid)) = some m.cls ∧
  (isIni mid = true → meth.name = "<init>") ∧ va_K D vwCl (pTys cs) s ∧ N0 ≤ s.heap.size ∧ s.heap.size ≤ N0 + c0 ∧ pEnv ad N0 SL xs s s.heap ∧ (∀ i, i < 900 → ad i = N0 + i)
abbrev frA (N0 : Nat) : Nat → Prop := fun q => N0 ≤ q
theorem gOk.scr {G : pG} (h : gOk G) {a : Nat} (h30 : gK G a = 30) : a = 2000 := by
  by_cases hlt : a < gN G
  · rcases h.2.2.1 a hlt with h1 | h1 | h1 | h1 | h1 <;> omega
  · rcases h.2.1 a (by omega) with h1 | h1
    · omega
    · exact h1.2
theorem sid_of {v n : Nat} (h1 : 1000 ≤ v) (h2 : v < 1000 + n) : ∃ w, w < n ∧ 1000 + w = v := ⟨v - 1000, by omega, by omega⟩
theorem W.sized {g : JFrame} (k : H.size ≤ s.heap.size + cells → W p l e R s m args below meth c H locs cells slots Q g) : W p l e R s m args below meth c H locs cells slots Q g := by
  intro T hT X
  obtain ⟨-, -, h3, -⟩ := X.same
  exact k (by rw [← hT]; exact h3) T hT X
theorem s_get {x : Nat} {st : List Value} {M : pM} {q : List Value × pM} (C : Cx ad N0 SL xs cs D p s m args meth c mid c0) (hW : Wd ad SL xs cs D M H) (h : hGet (mOw mid) x st M = some q) (hd : decode (mCd mid) pc = .ok (.getfield x, 3))
    (k : q.2 = M → W p l e R s m args below meth c H locs cells slots Q (F0 m (pc + 3) ls (q.1.map (trV ad)))) : W p l e R s m args below meth c H locs cells slots Q (F0 m pc ls (st.map (trV ad))) := by
  obtain ⟨hx, hb, -, -, -, hts, hown, -, hK, -, -, -, -⟩ := C
  unfold hGet at h
  split at h
  · rename_i ci kk tag fin hl
    obtain ⟨hm, e1, e2⟩ := lkp_mem hl
    obtain ⟨w1, w2, w3, w4, -, w6⟩ := fT_ok _ hm
    dsimp only at w1 w2 w3 w4 w6
    rw [e1, e2] at w1
    split at h
    · rename_i o r
      split at h
      · rename_i hk
        have ho : o < gN M.2.2.2 := hW.2.1.lt (Or.inl (by omega))
        have he := mkW_get (ad := ad) (cs := cs) ho
        rw [cellE_obj w2 hk] at he
        have hv := flds_get (ad := ad) (M := M) (i := o) w3
        have hq : q.1.map (trV ad) = fldV ad M ci o kk :: r.map (trV ad) ∧ q.2 = M := by
          unfold fldV
          rw [w4]
          split at h
          · rename_i ht; cases h; rw [if_pos ht]; exact ⟨rfl, rfl⟩
          · rename_i ht; cases h; rw [if_neg ht]; exact ⟨rfl, rfl⟩
        refine va_get (own := ownR (mOw mid)) (ref := (clT ci kk).1) (C := ownR ci) (T := clT ci) (N := clN ci) hx hb hts (uw_all ci w2) hown hK hW.1 o he (vwCl_at ci w2) kk w3 (hts _ w1) (fun _ h => h) hv hd ?_
        have hk2 := k hq.2
        rw [hq.1] at hk2
        exact hk2
      · cases h
    · cases h
  · cases h
theorem narB {v : Int32} (h : v = 0 ∨ v = 1) : narrow .boolean (.int v) = .int v ∧ fits .boolean (.int v) = true := by
  rcases h with rfl | rfl <;> decide
theorem s_put {x : Nat} {st : List Value} {M : pM} {q : List Value × pM} (C : Cx ad N0 SL xs cs D p s m args meth c mid c0) (hW : Wd ad SL xs cs D M H) (hS : va_S (frA N0) s.heap H locs) (h : hPut (mOw mid) x (isIni mid) st M = some q) (hd : decode (mCd mid) pc = .ok (.putfield x, 3))
    (k : ∀ (H1 : Heap) (locs1 : List Loc), Wd ad SL xs cs D q.2 H1 → va_S (frA N0) s.heap H1 locs1 → gC q.2.2.2.2 = gC M.2.2.2 → gS q.2.2.2.2 = gS M.2.2.2 → W p l e R s m args below meth c H1 locs1 cells slots Q (F0 m (pc + 3) ls (q.1.map (trV ad)))) : W p l e R s m args below meth c H locs cells slots Q (F0 m pc ls (st.map (trV ad))) := by
  obtain ⟨hx, hb, -, -, -, hts, hown, hini, hK, -, -, -, had⟩ := C
  unfold hPut at h
  split at h
  · rename_i ci kk tag fin hl
    obtain ⟨hm, e1, e2⟩ := lkp_mem hl
    obtain ⟨w1, w2, w3, w4, w5, w6⟩ := fT_ok _ hm
    dsimp only at w1 w2 w3 w4 w5 w6
    rw [e1, e2] at w1
    split at h
    · cases h
    · rename_i hfin
      -- one store, whatever its kind
      have main : ∀ (o : Nat) (r : List Value) (v : Value) (M' : pM), q = (r, M') → gK M.2.2.2 o = ci → narrow (clTy ci kk) v = v → fits (clTy ci kk) v = true → gN M'.2.2.2 = gN M.2.2.2 → gC M'.2.2.2 = gC M.2.2.2 → gS M'.2.2.2 = gS M.2.2.2 → gK M'.2.2.2 = gK M.2.2.2 → gL M'.2.2.2 = gL M.2.2.2 →
          fldV ad M' ci o kk = v → (∀ j, j ≠ kk → fldV ad M' ci o j = fldV ad M ci o j) → (∀ j, j ≠ o → M'.1 j = M.1 j ∧ gR M'.2.2.2 j = gR M.2.2.2 j) → M'.2.1 = M.2.1 → M'.2.2.1 = M.2.2.1 →
          W p l e R s m args below meth c H locs cells slots Q (F0 m pc ls (v :: .ref (ad o) :: r.map (trV ad))) := by
        intro o r v M' hq hk hn hf hN hC hSl hKK hLL hv1 hv2 hoth hA hJ
        subst hq
        have ho : o < gN M.2.2.2 := hW.2.1.lt (Or.inl (by omega))
        have he := mkW_get (ad := ad) (cs := cs) ho
        rw [cellE_obj w2 hk] at he
        have hset : (mkW ad cs M).set o (ad o, .inr (ci, (flds ad M ci o).set kk v)) = mkW ad cs M' := by
          refine mkW_set hN ?_ (fun j hj => ?_)
          · rw [cellE_obj w2 (by rw [hKK]; exact hk), flds_set hv1 hv2]
          · exact cellE_congr (by rw [hKK]) (by rw [hLL]) (hoth j hj).1 (by rw [hA]) (by rw [hJ]) (hoth j hj).2
        have hD := mkW_D (cs := cs) had hW.2.1
        have hok : gOk M'.2.2.2 := by
          unfold gOk
          rw [hN, hC, hKK]
          exact hW.2.1
        have hsc : gK M'.2.2.2 2000 = 30 → M'.2.1 2000 = xs ∧ gL M'.2.2.2 2000 = SL := by rw [hKK, hLL, hA]; exact hW.2.2
        have hlen : kk < (flds ad M ci o).length := by simp [flds]; exact w3
        by_cases hfi : fin = 1
        · have hii : isIni mid = true ∧ ci = mOw mid := by
            have h1 : ¬ (isIni mid = false ∨ ci ≠ mOw mid) := fun q => hfin ⟨hfi, q⟩
            cases hi : isIni mid with
            | true => exact ⟨rfl, Decidable.byContradiction fun q => h1 (Or.inr q)⟩
            | false => exact absurd (Or.inl hi) h1
          refine va_putF (own := ownR (mOw mid)) (ref := (clT ci kk).1) (C := ownR ci) (T := clT ci) (N := clN ci) hx hb hts (uw_all ci w2) (clTy ci) (clTy_ok ci w2) (clNm ci w2) hown hK hW.1 hD hS o he (vwCl_at ci w2) kk w3 (hts _ w1) (fun _ h => h) (by rw [w5, hfi]; rfl) (hini hii.1) (by rw [w6, hii.2]) (clTy_ok ci w2 kk w3) hn hf hlen hd (fun H1 locs1 hP1 hD1 hS1 => ?_)
          rw [hset] at hP1
          exact k H1 locs1 ⟨hP1, hok, hsc⟩ hS1 hC hSl
        · refine va_put (own := ownR (mOw mid)) (ref := (clT ci kk).1) (C := ownR ci) (T := clT ci) (N := clN ci) hx hb hts (uw_all ci w2) (clTy ci) (clTy_ok ci w2) (clNm ci w2) hown hK hW.1 hD hS o he (vwCl_at ci w2) kk w3 (hts _ w1) (fun _ h => h) (by rw [w5]; simp [hfi]) (clTy_ok ci w2 kk w3) hn hf hlen hd (fun H1 locs1 hP1 hD1 hS1 => ?_)
          rw [hset] at hP1
          exact k H1 locs1 ⟨hP1, hok, hsc⟩ hS1 hC hSl
      split at h
      · rename_i v o r
        split at h
        · rename_i hc
          cases h
          have ht1 : ¬ tagOf (clTy ci kk) = 1 := by rw [w4]; omega
          have hnf : narrow (clTy ci kk) (.int v) = .int v ∧ fits (clTy ci kk) (.int v) = true := by
            rcases hc.2 with h0 | ⟨h2, hb2⟩
            · rw [h0] at w4
              revert w4
              cases clTy ci kk <;> intro w4 <;> first | exact ⟨rfl, rfl⟩ | (simp [tagOf] at w4)
            · rw [h2] at w4
              revert w4
              cases clTy ci kk <;> intro w4 <;> first | exact narB hb2 | (simp [tagOf] at w4)
          refine main o r (.int v) _ rfl hc.1 hnf.1 hnf.2 rfl rfl rfl rfl rfl ?_ ?_ ?_ rfl rfl
          · simp only [fldV, if_neg ht1, va_up_self]
          · intro j hj; simp only [fldV, va_up_self, va_up_ne _ _ hj]
          · intro j hj; exact ⟨by simp only [va_up_ne _ _ hj], rfl⟩
        · cases h
      · rename_i v o r
        split at h
        · rename_i hc
          cases h
          have ht1 : tagOf (clTy ci kk) = 1 := by rw [w4]; exact hc.2.1
          have hnf : narrow (clTy ci kk) (.ref (ad v)) = .ref (ad v) ∧ fits (clTy ci kk) (.ref (ad v)) = true := by
            revert ht1
            cases clTy ci kk <;> intro ht1 <;> first | exact ⟨rfl, rfl⟩ | (simp [tagOf] at ht1)
          refine main o r (.ref (ad v)) _ rfl hc.1 hnf.1 hnf.2 rfl rfl rfl rfl rfl ?_ ?_ ?_ rfl rfl
          · simp only [fldV, if_pos ht1, gSetR, gR, va_up_self, pRv, trV]
          · intro j hj; simp only [fldV, gSetR, gR, va_up_self, va_up_ne _ _ hj]
          · intro j hj; exact ⟨rfl, by simp only [gSetR, gR, va_up_ne _ _ hj]⟩
        · cases h
      · cases h
  · cases h
theorem s_ld {i : Instr} {st st' : List Value} {M : pM} (C : Cx ad N0 SL xs cs D p s m args meth c mid c0) (hW : Wd ad SL xs cs D M H) (hS : va_S (frA N0) s.heap H locs) (h : hLd i st M = some st') (hd : decode (mCd mid) pc = .ok (i, ilen i))
    (k : W p l e R s m args below meth c H locs cells slots Q (F0 m (pc + ilen i) ls (st'.map (trV ad)))) : W p l e R s m args below meth c H locs cells slots Q (F0 m pc ls (st.map (trV ad))) := by
  obtain ⟨hx, hb, -, -, -, hts, hown, -, hK, hN0, -, hE, -⟩ := C
  unfold hLd at h
  split at h
  · rename_i x a r
    split at h
    · split at h
      · rename_i hc
        cases h
        rcases hc.1 with h20 | h30
        · have he := mkW_get (ad := ad) (cs := cs) (hW.2.1.lt (i := a) (by omega))
          rw [cellE, if_pos h20] at he
          exact va_iald hx hb hK hW.1 a 0 he rfl (inB_in hc.2) hd k
        · have ha : a = 2000 := hW.2.1.scr h30
          subst ha
          have hs := hW.2.2 h30
          have hin := inB_in hc.2
          rw [hs.2] at hin
          rw [hs.1] at k
          exact va_sld hx hb hE.2.2.2.1 (by have := hE.2.2.2.2.1; omega) (by have := hE.2.2.2.2.1; show ¬ N0 ≤ ad 2000; omega) hS hin hd k
      · cases h
    · split at h
      · rename_i hc
        cases h
        have he := mkW_get (ad := ad) (cs := cs) (hW.2.1.lt (i := a) (by omega))
        rw [cellE, if_neg (by omega), if_pos hc.1] at he
        exact va_bald hx hb hK hW.1 a 1 he rfl (inB_in hc.2) hd k
      · cases h
    · split at h
      · rename_i hc
        cases h
        have he := mkW_get (ad := ad) (cs := cs) (hW.2.1.lt (i := a) (by omega))
        rw [cellE, if_neg (by omega), if_neg (by omega), if_pos hc.1] at he
        exact va_lald hx hb hK hW.1 a 2 he rfl (inB_in hc.2) hd k
      · cases h
    · split at h
      · rename_i hc
        cases h
        have he := mkW_get (ad := ad) (cs := cs) (hW.2.1.lt (i := a) (by omega))
        rw [cellE, if_neg (by omega), if_neg (by omega), if_neg (by omega), if_pos hc.1] at he
        refine va_aldq (C := "java/lang/String") hx hb hK hW.1 a 3 he rfl (inB_in hc.2) hd ?_
        rw [rfo_rf]
        exact k
      · cases h
    · cases h
  · rename_i a r
    split at h
    · split at h
      · rename_i hc
        cases h
        have hlt : gK M.2.2.2 a = 30 ∨ a < gN M.2.2.2 := by
          rcases hc with h1 | h1 | h1 | h1 | h1
          · exact Or.inr (hW.2.1.lt (by omega))
          · exact Or.inr (hW.2.1.lt (by omega))
          · exact Or.inr (hW.2.1.lt (by omega))
          · exact Or.inr (hW.2.1.lt (by omega))
          · exact Or.inl h1
        rcases hlt with h30 | hlt
        · have ha : a = 2000 := hW.2.1.scr h30
          subst ha
          have hs := hW.2.2 h30
          rw [hs.2] at k
          exact va_slen hx hb hE.2.2.2.1 (by have := hE.2.2.2.2.1; omega) (by have := hE.2.2.2.2.1; show ¬ N0 ≤ ad 2000; omega) hS hd k
        · have he := mkW_get (ad := ad) (cs := cs) hlt
          by_cases h20 : gK M.2.2.2 a = 20
          · rw [cellE, if_pos h20] at he
            exact va_alen hx hb hK hW.1 a 0 he rfl rfl hd k
          · by_cases h21 : gK M.2.2.2 a = 21
            · rw [cellE, if_neg h20, if_pos h21] at he
              exact va_alen hx hb hK hW.1 a 1 he rfl rfl hd k
            · by_cases h22 : gK M.2.2.2 a = 22
              · rw [cellE, if_neg h20, if_neg h21, if_pos h22] at he
                exact va_alen hx hb hK hW.1 a 2 he rfl rfl hd k
              · have h23 : gK M.2.2.2 a = 23 := by have := hW.2.1.2.2.1 a hlt; omega
                rw [cellE, if_neg h20, if_neg h21, if_neg h22, if_pos h23] at he
                exact va_alen hx hb hK hW.1 a 3 he rfl rfl hd k
      · cases h
    · cases h
  · cases h
theorem upd_up (f : Nat → Int32) (k : Nat) (x : Int32) : upd f k x = va_up f k x := rfl
theorem updL_up (f : Nat → Int64) (k : Nat) (x : Int64) : vp_updL f k x = va_up f k x := rfl
theorem rfo_up (ad : Nat → Nat) (f : Nat → Nat) (k v : Nat) : va_up (fun j => rfo ad (f j)) k (some (ad v)) = fun j => rfo ad (va_up f k (v + 1) j) := by
  funext j
  by_cases h : j = k
  · subst h; simp [va_up, rfo]
  · simp [va_up, h]
theorem s_st {i : Instr} {st : List Value} {M : pM} {q : List Value × pM} (C : Cx ad N0 SL xs cs D p s m args meth c mid c0) (hW : Wd ad SL xs cs D M H) (hS : va_S (frA N0) s.heap H locs) (h : hSt i st M = some q) (hd : decode (mCd mid) pc = .ok (i, ilen i))
    (k : ∀ (H1 : Heap) (locs1 : List Loc), Wd ad SL xs cs D q.2 H1 → va_S (frA N0) s.heap H1 locs1 → gC q.2.2.2.2 = gC M.2.2.2 → gS q.2.2.2.2 = gS M.2.2.2 → W p l e R s m args below meth c H1 locs1 cells slots Q (F0 m (pc + ilen i) ls (q.1.map (trV ad)))) : W p l e R s m args below meth c H locs cells slots Q (F0 m pc ls (st.map (trV ad))) := by
  obtain ⟨hx, hb, -, -, -, hts, hown, -, hK, hN0, -, hE, had⟩ := C
  have hD := mkW_D (cs := cs) had hW.2.1
  unfold hSt at h
  split at h
  · rename_i v x a r
    split at h
    · split at h
      · rename_i hc
        cases h
        have he := mkW_get (ad := ad) (cs := cs) (hW.2.1.lt (i := a) (by omega))
        rw [cellE, if_pos hc.1] at he
        refine va_iast hx hb hK hW.1 hD hS a 0 he rfl (inB_in hc.2) hd (fun H1 locs1 hP1 hD1 hS1 => k H1 locs1 ⟨?_, hW.2.1, ?_⟩ hS1 rfl rfl)
        · rw [upd_up] at hP1
          have hset := mkW_set (ad := ad) (cs := cs) (M := M) (M' := (M.1, va_up M.2.1 a (va_up (M.2.1 a) x.toNatClampNeg v), M.2.2)) (o := a) (x := .inl (cs.1, gL M.2.2.2 a, .inl (va_up (M.2.1 a) x.toNatClampNeg v))) rfl (by rw [cellE, if_pos hc.1]; simp only [va_up_self]) (fun j hj => cellE_congr rfl rfl rfl (by simp only [va_up_ne _ _ hj]) rfl rfl)
          rw [hset] at hP1
          exact hP1
        · intro h30
          have : (2000 : Nat) ≠ a := fun q => by subst q; have h9 : gK M.2.2.2 2000 = 30 := h30; omega
          simp only [va_up_ne _ _ this]
          exact hW.2.2 h30
      · cases h
    · split at h
      · rename_i hc
        cases h
        have he := mkW_get (ad := ad) (cs := cs) (hW.2.1.lt (i := a) (by omega))
        rw [cellE, if_neg (by omega), if_pos hc.1] at he
        refine va_bast hx hb hK hW.1 hD hS a 1 he rfl (inB_in hc.2) hd (fun H1 locs1 hP1 hD1 hS1 => k H1 locs1 ⟨?_, hW.2.1, ?_⟩ hS1 rfl rfl)
        · rw [upd_up] at hP1
          have hset := mkW_set (ad := ad) (cs := cs) (M := M) (M' := (M.1, va_up M.2.1 a (va_up (M.2.1 a) x.toNatClampNeg (vp_nar .byte v)), M.2.2)) (o := a) (x := .inl (cs.2.1, gL M.2.2.2 a, .inl (va_up (M.2.1 a) x.toNatClampNeg (vp_nar .byte v)))) rfl (by rw [cellE, if_neg (by have h9 := hc.1; show ¬ gK M.2.2.2 a = 20; omega), if_pos hc.1]; simp only [va_up_self]) (fun j hj => cellE_congr rfl rfl rfl (by simp only [va_up_ne _ _ hj]) rfl rfl)
          rw [hset] at hP1
          exact hP1
        · intro h30
          have : (2000 : Nat) ≠ a := fun q => by subst q; have h9 : gK M.2.2.2 2000 = 30 := h30; omega
          simp only [va_up_ne _ _ this]
          exact hW.2.2 h30
      · cases h
    · cases h
  · rename_i v x a r
    split at h
    · split at h
      · rename_i hc
        cases h
        have he := mkW_get (ad := ad) (cs := cs) (hW.2.1.lt (i := a) (by omega))
        rw [cellE, if_neg (by omega), if_neg (by omega), if_pos hc.1] at he
        refine va_last hx hb hK hW.1 hD hS a 2 he rfl (inB_in hc.2) hd (fun H1 locs1 hP1 hD1 hS1 => k H1 locs1 ⟨?_, hW.2.1, hW.2.2⟩ hS1 rfl rfl)
        rw [updL_up] at hP1
        have hset := mkW_set (ad := ad) (cs := cs) (M := M) (M' := (M.1, M.2.1, va_up M.2.2.1 a (va_up (M.2.2.1 a) x.toNatClampNeg v), M.2.2.2)) (o := a) (x := .inl (cs.2.2.1, gL M.2.2.2 a, .inr (.inl (va_up (M.2.2.1 a) x.toNatClampNeg v)))) rfl (by rw [cellE, if_neg (by have h9 := hc.1; show ¬ gK M.2.2.2 a = 20; omega), if_neg (by have h9 := hc.1; show ¬ gK M.2.2.2 a = 21; omega), if_pos hc.1]; simp only [va_up_self]) (fun j hj => cellE_congr rfl rfl rfl rfl (by simp only [va_up_ne _ _ hj]) rfl)
        rw [hset] at hP1
        exact hP1
      · cases h
    · cases h
  · rename_i v x a r
    split at h
    · split at h
      · rename_i hc
        cases h
        have he := mkW_get (ad := ad) (cs := cs) (hW.2.1.lt (i := a) (by omega))
        rw [cellE, if_neg (by omega), if_neg (by omega), if_neg (by omega), if_pos hc.1] at he
        have hany : va_Any "java/lang/String" s H (ad v) := by
          obtain ⟨w9, hw1, hw2⟩ := sid_of hc.2.2.1 hc.2.2.2
          obtain ⟨cell, h1, h2, h3, -⟩ := ((hE.1.1 w9 hw1).1).kept hS.2.1
          rw [hw2] at h1
          obtain ⟨kC, hkC, -⟩ := Vm.findClass_spec h3
          refine ⟨cell, h1, h2, ⟨kC, hkC⟩, fun comp hcomp => ?_⟩
          rw [h3] at hcomp
          cases hcomp
          obtain ⟨kA, comp2, g1, g2, g3, g4⟩ := (hK.2 3 _ rfl).2
          rw [h3] at g3
          cases g3
          exact Vm.assignable_self _ _
        refine va_astqM hx hb hK hW.1 hD hS a 3 he rfl hany (inB_in hc.2.1) hd (fun H1 locs1 hP1 hD1 hS1 => k H1 locs1 ⟨?_, ?_, ?_⟩ hS1 rfl rfl)
        · rw [rfo_up] at hP1
          have hset := mkW_set (ad := ad) (cs := cs) (M := M) (M' := (M.1, M.2.1, M.2.2.1, gSetR M.2.2.2 a x.toNatClampNeg (v + 1))) (o := a) (x := .inl (cs.2.2.2, gL M.2.2.2 a, .inr (.inr (.inr (.inr (fun j => rfo ad (va_up (gR M.2.2.2 a) x.toNatClampNeg (v + 1) j))))))) rfl (by
            have K9 : gK (gSetR M.2.2.2 a x.toNatClampNeg (v + 1)) a = 23 := hc.1
            rw [cellE]
            dsimp only
            rw [if_neg (by rw [K9]; decide), if_neg (by rw [K9]; decide), if_neg (by rw [K9]; decide), if_pos K9]
            simp only [gSetR, gR, gL, va_up_self]) (fun j hj => cellE_congr rfl rfl rfl rfl rfl (by simp only [gSetR, gR, va_up_ne _ _ hj]))
          rw [hset] at hP1
          exact hP1
        · exact hW.2.1
        · exact hW.2.2
      · cases h
    · cases h
  · cases h
end SndC
