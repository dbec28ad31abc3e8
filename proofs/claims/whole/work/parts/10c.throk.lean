/-! throws of the class's own go through on the machine -/
section ThrOkS
variable {l : Launch} {ad : Nat → Nat} {N0 SL : Nat} {xs : Nat → Int32} {cs : pCs} {D : va_G}
abbrev iaeN : String := "java/lang/IllegalArgumentException"
abbrev nseN : String := "java/util/NoSuchElementException"
abbrev iaeW : List Cond := vx_atS RX9 92 iaeN ["java/lang/RuntimeException", "java/lang/Exception"]
abbrev nseW : List Cond := (xAt13 RX9 161 nseN "java/lang/RuntimeException" ["java/lang/Exception"]).filter vx_no
theorem iaeW_t : ∀ w ∈ iaeW, w ∈ lw_tbl := by decide +kernel
theorem nseW_t : ∀ w ∈ nseW, w ∈ lw_tbl := by decide +kernel
theorem iaeW_n : iaeW.filter (fun w => !goodWord w) = [.declares (Jvm.Bundle.initS "java/lang/RuntimeException"), .declares (Jvm.Bundle.initS "java/lang/Exception"), .declares (Jvm.Bundle.initS Jvm.Bundle.tN), .castable iaeN iaeN] := by decide +kernel
theorem nseW_n : nseW.filter (fun w => !goodWord w) = [.declares (Jvm.Bundle.initS "java/lang/RuntimeException"), .declares (Jvm.Bundle.initS "java/lang/Exception"), .declares (Jvm.Bundle.initS Jvm.Bundle.tN)] := by decide +kernel
theorem iaeW_o : ∀ w ∈ iaeW, vx_ot w = true := by decide +kernel
theorem nseW_o : ∀ w ∈ nseW, vx_ot w = true := by decide +kernel
theorem iaeW_b {args : Array Value} {s : State} (hts : ∀ w ∈ TBg, w.before args s = true) (hE : xE s) : ∀ w ∈ iaeW, w.before args s = true := by
  refine vx_hat (fun w hw => ?_) (B := iaeW.filter (fun w => !goodWord w)) (fun w hw => hw) (fun w hw => ?_)
  · have h := List.mem_filter.mp hw
    exact hts w (tb_mem (iaeW_t w h.1) h.2)
  · rw [iaeW_n] at hw
    simp only [List.mem_cons, List.not_mem_nil, or_false] at hw
    rcases hw with rfl | rfl | rfl | rfl
    · exact va_Nw.use rfl hE.1
    · exact va_Nw.use rfl hE.2.1
    · exact va_Nw.use rfl hE.2.2.1
    · exact va_Nw.use rfl hE.2.2.2.1
theorem nseW_b {args : Array Value} {s : State} (hts : ∀ w ∈ TBg, w.before args s = true) (hE : xE s) : ∀ w ∈ nseW, w.before args s = true := by
  refine vx_hat (fun w hw => ?_) (B := nseW.filter (fun w => !goodWord w)) (fun w hw => hw) (fun w hw => ?_)
  · have h := List.mem_filter.mp hw
    exact hts w (tb_mem (nseW_t w h.1) h.2)
  · rw [nseW_n] at hw
    simp only [List.mem_cons, List.not_mem_nil, or_false] at hw
    rcases hw with rfl | rfl | rfl
    · exact va_Nw.use rfl hE.1
    · exact va_Nw.use rfl hE.2.1
    · exact va_Nw.use rfl hE.2.2.1
theorem Wd_thr {M : pM} {H t : Heap} (hW : Wd ad SL xs cs D M H) (h : ∀ q : Nat, q < H.size → t[q]? = H[q]?) : Wd ad SL xs cs D (M.1, M.2.1, M.2.2.1, gThr M.2.2.2) t := by
  refine ⟨fun k q hq => ?_, ⟨hW.2.1.1, hW.2.1.2.1, hW.2.1.2.2.1, by have := hW.2.1.2.2.2; show gN M.2.2.2 ≤ gC M.2.2.2 + 1; omega⟩, hW.2.2⟩
  have h1 := hW.1 k q hq
  exact h1.kept (h _ h1.lt)
theorem code1 {mid pc : Nat} {i : Instr} (h : (pCode mid).lookup pc = some i) (hw : isSw i = false) : decode (mCd mid) pc = .ok (i, ilen i) := by
  obtain ⟨len, hd, hl⟩ := code_ok h
  rcases hl with rfl | h9
  · exact hd
  · rw [hw] at h9; cases h9
set_option maxHeartbeats 4000000 in
theorem thr_ok (hl : l.stackTraces = false) : ThrOk l ad N0 SL xs cs D := by
  intro d y M M' r p e s m args below meth c C hnx i st1 e1 pc1 ls1 H1 locs1 cells1 slots1 M1 hr hi hx hM hW hS hc hs hsz
  obtain ⟨hx9, hb, -, -, hlk, hts, hown, -, -, hN0, -, hE, -⟩ := C
  unfold xOp at hx
  split at hx
  · rename_i x
    split at hx
    · rename_i e0 hl0
      split at hx
      · rename_i hcnd
        cases hx
        obtain ⟨h1, h2, h3, h4, h5⟩ := hcnd
        obtain ⟨hm, k1, k2⟩ := lkp_mem hl0
        have w1 := cT_ok _ hm
        unfold okC at w1
        dsimp only at w1
        rw [k1, k2, h3] at w1
        rw [h3] at hown
        have d0 := code1 hi rfl
        have d3 := code1 h4 rfl
        have hxE : xE s := hE.2.2.2.2.2.2.2.2.2
        have h8 := stW_tr ad st1
        have eC : gC M'.2.2.2 = gC M1.2.2.2 + 1 := by rw [hM]; rfl
        have eS : gS M'.2.2.2 = gS M1.2.2.2 + 6 := by rw [hM]; rfl
        have hXC : ∀ (E : String), E = xcN e1 → ∀ t : State, s.vm.Alike t.vm → H1.size ≤ t.heap.size → (∀ q : Nat, q < H1.size → t.heap[q]? = H1[q]?) → pXC ad N0 SL xs cs D r M' E s t := by
          intro E hE9 t _ hz hk
          refine ⟨⟨e1, hr, hE9⟩, by rw [hM]; exact Wd_thr hW hk, Nat.le_trans hS.1 hz, fun q hq hn => ?_⟩
          rw [hk q (Nat.lt_of_lt_of_le hq hS.1)]
          exact hS.2.1 q hq hn
        unfold xTl at h5
        split at h5
        · rename_i z h6
          simp only [Bool.and_eq_true, decide_eq_true_eq] at h5
          obtain ⟨g1, g2, g3⟩ := h5
          obtain ⟨sid, hsid⟩ := Option.isSome_iff_exists.mp g1
          obtain ⟨hm2, k3, k4⟩ := lkp_mem hsid
          have hstr := hE.2.2.2.2.2.1 _ hm2
          dsimp only at hstr
          rw [k3, k4] at hstr
          have d4 := code1 h6 rfl
          have d6 := code1 g2 rfl
          have d9 := code1 g3 rfl
          rcases h1 with rfl | rfl
          · exact vx_throwS (A := frA N0) (own := RX9) (cls := iaeN) (names := ["java/lang/RuntimeException", "java/lang/Exception"]) hx9 hb hl hown (by decide) (by decide) (hts _ w1) (hts _ wx_ie) hstr (iaeW_b hts hxE) (List.forall_mem_cons.mpr ⟨rfl, List.forall_mem_cons.mpr ⟨rfl, iaeW_o⟩⟩) hE.2.1 hE.2.2.1 hS hsz d0 d3 d4 d6 d9 (fun x hx => (hnx x hx).elim) (by show 2 + 3 < d + 10; omega) (by rw [h8]; show _ + (13 * 3 + 43) ≤ 64 * (d + 1) + 100; omega) (by show cells1 + 1 ≤ gC M'.2.2.2 - gC M.2.2.2; omega) (by show slots1 + 6 ≤ gS M'.2.2.2 - gS M.2.2.2; omega) hlk (hXC _ rfl) hS.2.2 (by omega) (by omega)
          · exact th13S (A := frA N0) (own := RX9) (cls := nseN) (Y0 := "java/lang/RuntimeException") (names := ["java/lang/Exception"]) hx9 hb hl hown (by decide) (by decide) (by decide) (hts _ w1) (hts _ wx_ne) hstr (nseW_b hts hxE) (List.forall_mem_cons.mpr ⟨rfl, List.forall_mem_cons.mpr ⟨rfl, nseW_o⟩⟩) hE.2.1 hE.2.2.1 hS hsz d0 d3 d4 d6 d9 (fun x hx => (hnx x hx).elim) (by show 1 + 1 + 3 < d + 10; omega) (by rw [h8]; show _ + (13 * 3 + 43) ≤ 64 * (d + 1) + 100; omega) (by show cells1 + 1 ≤ gC M'.2.2.2 - gC M.2.2.2; omega) (by show slots1 + 6 ≤ gS M'.2.2.2 - gS M.2.2.2; omega) hlk (hXC _ rfl) hS.2.2 (by omega) (by omega)
        · rename_i z h6
          simp only [Bool.and_eq_true, decide_eq_true_eq] at h5
          obtain ⟨g1, g2, g3⟩ := h5
          obtain ⟨sid, hsid⟩ := Option.isSome_iff_exists.mp g1
          obtain ⟨hm2, k3, k4⟩ := lkp_mem hsid
          have hstr := hE.2.2.2.2.2.1 _ hm2
          dsimp only at hstr
          rw [k3, k4] at hstr
          have d4 := code1 h6 rfl
          have d6 := code1 g2 rfl
          have d9 := code1 g3 rfl
          rcases h1 with rfl | rfl
          · exact vx_throwSW (A := frA N0) (own := RX9) (cls := iaeN) (names := ["java/lang/RuntimeException", "java/lang/Exception"]) hx9 hb hl hown (by decide) (by decide) (hts _ w1) (hts _ wx_ie) hstr (iaeW_b hts hxE) (List.forall_mem_cons.mpr ⟨rfl, List.forall_mem_cons.mpr ⟨rfl, iaeW_o⟩⟩) hE.2.1 hE.2.2.1 hS hsz d0 d3 d4 d6 d9 (fun x hx => (hnx x hx).elim) (by show 2 + 3 < d + 10; omega) (by rw [h8]; show _ + (13 * 3 + 43) ≤ 64 * (d + 1) + 100; omega) (by show cells1 + 1 ≤ gC M'.2.2.2 - gC M.2.2.2; omega) (by show slots1 + 6 ≤ gS M'.2.2.2 - gS M.2.2.2; omega) hlk (hXC _ rfl) hS.2.2 (by omega) (by omega)
          · exact th13SW (A := frA N0) (own := RX9) (cls := nseN) (Y0 := "java/lang/RuntimeException") (names := ["java/lang/Exception"]) hx9 hb hl hown (by decide) (by decide) (by decide) (hts _ w1) (hts _ wx_ne) hstr (nseW_b hts hxE) (List.forall_mem_cons.mpr ⟨rfl, List.forall_mem_cons.mpr ⟨rfl, nseW_o⟩⟩) hE.2.1 hE.2.2.1 hS hsz d0 d3 d4 d6 d9 (fun x hx => (hnx x hx).elim) (by show 1 + 1 + 3 < d + 10; omega) (by rw [h8]; show _ + (13 * 3 + 43) ≤ 64 * (d + 1) + 100; omega) (by show cells1 + 1 ≤ gC M'.2.2.2 - gC M.2.2.2; omega) (by show slots1 + 6 ≤ gS M'.2.2.2 - gS M.2.2.2; omega) hlk (hXC _ rfl) hS.2.2 (by omega) (by omega)
        · cases h5
      · cases hx
    · cases hx
  · cases hx
end ThrOkS
