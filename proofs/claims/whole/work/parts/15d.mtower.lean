/-! the reference's tower -/
section MTower
variable {d : Nat} {F A : Nat → Nat → Int32} {J : Nat → Nat → Int64} {G : pG} {Q : pR → pM → Prop} {SL p q t l : Nat} {K : Nat → Nat → Int} {n h : Nat} {ord : Nat → Nat} {ml wd ln : Nat → Int} {yr : Int}
theorem m_213 (hG : Geo G SL p q) (hT : MTn F A K n) (hW : MTw F A n h ord ml wd ln yr) (hl : l < h) (hQ : Q (.inl (some (.int (zI (loadZ K h ord ml l))))) (F, A, J, G)) : X d 213 0 [.ref 68, .int (zI (l : Int)), .null, .null] [] (F, A, J, G) Q := by
  obtain ⟨hK, hwm, e0, e1, e2, a0, a1, a2, a3⟩ := hT
  obtain ⟨hw, f1, f2, b0, b1, b2, b3⟩ := hW
  have h10 : h ≤ 10 := Nat.le_trans hw.1 hK.1
  have h10' := hK.1
  have hol := hw.2.1 l hl
  refine t_213_0 hG ?_
  rw [zI_clamp (by omega), b0 l hl, zI_clamp (by omega), b1 _ hol, zN_1]
  refine ⟨zN_in (by omega) (by decide), zN_in (by omega) (by decide), ?_⟩
  have := up_indF (a := l + 1) (h := h) (P := fun j => X d 213 16 [.ref 68, .int (zI (l : Int)), .int (zI (ml (ord l) + sm (fun k => K 1 (ord k) + ml (ord k)) (l + 1) (j - (l + 1)))), .int (zI (j : Int))] [] (F, A, J, G) Q) (by omega) ?_ ?_
  · rw [Nat.sub_self, sm, Int.add_zero] at this
    exact this
  · refine t_213_16 hG ⟨fun e => ?_, fun _ => hQ⟩
    rw [f1, zN_lt (by omega) (by omega)] at e
    omega
  · intro j haj hj ih
    have hoj := hw.2.1 j hj
    refine t_213_16 hG ⟨fun _ => ?_, fun e => ?_⟩
    · rw [zI_clamp (by omega), b0 j hj, zI_clamp (by omega), b1 _ hoj, a1 _ hoj, zI_add, zI_add, zN_1]
      refine ⟨zN_in (by omega) (by decide), zN_in (by omega) (by decide), zN_in (by omega) (by decide), ?_⟩
      have es := sm_last (fun k => K 1 (ord k) + ml (ord k)) (j - (l + 1)) (l + 1)
      rw [show l + 1 + (j - (l + 1)) = j by omega, show j - (l + 1) + 1 = j + 1 - (l + 1) by omega] at es
      rw [Int.add_assoc, ← es]
      exact ih
    · rw [f1, zN_lt (by omega) (by omega)] at e
      omega
theorem m_215 (hG : Geo G SL p q) (hT : MTn F A K n) (hW : MTw F A n h ord ml wd ln yr) (hl : l < h) (hQ : Q (.inl (some (.int (zI (tltZ K ord wd ln l))))) (F, A, J, G)) : X (d + 1) 215 0 [.ref 68, .int (zI (l : Int)), .null, .null] [] (F, A, J, G) Q := by
  obtain ⟨hK, hwm, e0, e1, e2, a0, a1, a2, a3⟩ := hT
  obtain ⟨hw, f1, f2, b0, b1, b2, b3⟩ := hW
  have h10 : h ≤ 10 := Nat.le_trans hw.1 hK.1
  have h10' := hK.1
  refine t_215_0 hG ?_
  refine up_ind (h := l + 1) (P := fun j => X (d + 1) 215 4 [.ref 68, .int (zI (l : Int)), .int (zI (sm (fun k => trnZ K ln wd (ord k)) 0 j)), .int (zI (j : Int))] [] (F, A, J, G) Q) ?_ ?_
  · refine t_215_4 hG ⟨fun _ => hQ, fun e => ?_⟩
    rw [zN_lt (by omega) (by omega)] at e
    omega
  · intro j hj ih
    have hoj := hw.2.1 j (by omega)
    refine t_215_4 hG ⟨fun e => ?_, fun _ => ?_⟩
    · rw [zN_lt (by omega) (by omega)] at e
      omega
    · rw [zI_clamp (by omega), b0 j (by omega), zI_clamp (by omega), a0 _ hoj, b2 _ hoj, b3 _ hoj, trn_z hK hoj, zI_add, zN_1]
      refine ⟨zN_in (by omega) (by decide), zN_in (by omega) (by decide), ?_⟩
      have es := sm_last (fun k => trnZ K ln wd (ord k)) j 0
      rw [Nat.zero_add] at es
      rw [← es]
      exact ih
theorem top_z (h10 : h ≤ 10) (hl : l < h) : decide (zI (l : Int) = zI (h : Int) - 1) = topB h l := by
  unfold topB
  rw [zZ_s1]
  refine decide_eq_decide.mpr ?_
  rw [zI_eq (by omega) (by omega) (by omega) (by omega)]
  omega
theorem m_214 (hG : Geo G SL p q) (hT : MTn F A K n) (hW : MTw F A n h ord ml wd ln yr) (hl : l < h) (hQ : Q (.inl (some (.int (zI (carZ K yr (ord l) (topB h l)))))) (F, A, J, G)) : X (d + 2) 214 0 [.ref 68, .int (zI (l : Int))] [] (F, A, J, G) Q := by
  obtain ⟨hK, hwm, e0, e1, e2, a0, a1, a2, a3⟩ := hT
  obtain ⟨hw, f1, f2, b0, b1, b2, b3⟩ := hW
  have h10 : h ≤ 10 := Nat.le_trans hw.1 hK.1
  have h10' := hK.1
  have hol := hw.2.1 l hl
  have hk := (hK.2.1 _ hol).1
  have ec : (zI (l : Int)).toNatClampNeg = l := zI_clamp (by omega)
  have ec2 : (zI ((ord l : Nat) : Int)).toNatClampNeg = ord l := zI_clamp (by omega)
  refine c_214 hG (zN_in (by omega) (by decide)) ?_ ?_ hwm ?_
  · rw [ec, b0 l hl]; exact zN_in (by omega) (by decide)
  · rw [ec, b0 l hl, ec2, a0 _ hol, zI_inB (by omega) (by omega)]; omega
  · rw [ec, b0 l hl, ec2, a0 _ hol, a2 _ hol, f2, f1, top_z h10 hl, car_z hK hol hw.2.2.2.2]; exact hQ
theorem m_216 (hG : Geo G SL p q) (hT : MTn F A K n) (hW : MTw F A n h ord ml wd ln yr) (hl : l < h) (hQ : Q (.inl (some (.int (bI (hldZ K h ord ml wd ln yr l))))) (F, A, J, G)) : X (d + 3) 216 0 [.ref 68, .int (zI (l : Int))] [] (F, A, J, G) Q := by
  have hT' := hT
  have hW' := hW
  obtain ⟨hK, hwm, e0, e1, e2, a0, a1, a2, a3⟩ := hT
  obtain ⟨hw, f1, f2, b0, b1, b2, b3⟩ := hW
  have h10 : h ≤ 10 := Nat.le_trans hw.1 hK.1
  have h10' := hK.1
  have h40 := hK.2.2.1
  have hol := hw.2.1 l hl
  have hk := (hK.2.1 _ hol).1
  have ec : (zI (l : Int)).toNatClampNeg = l := zI_clamp (by omega)
  have ec2 : (zI ((ord l : Nat) : Int)).toNatClampNeg = ord l := zI_clamp (by omega)
  have hlb := load_b hK hw hl
  have hcb := car_b (top := topB h l) hK hol hw.2.2.2.2
  have htb := tlt_b hK hw hl
  refine t_216_0 hG (m_213 hG hT' hW' hl (k_216_5 hG ?_))
  rw [ec, b0 l hl, ec2, a0 _ hol, a2 _ hol, f2, f1, top_z h10 hl, car_z hK hol hw.2.2.2.2]
  refine ⟨zN_in (by omega) (by decide), zN_in (by omega) (by decide), ?_, hwm, fun e => ?_, fun e => ?_⟩
  · rw [zI_inB (by omega) (by omega)]; omega
  · rw [zI_lt (by omega) (by omega) (by omega) (by omega)] at e
    rw [show hldZ K h ord ml wd ln yr l = false by unfold hldZ; rw [decide_eq_false (by omega)]; rfl] at hQ
    exact hQ
  · rw [zI_lt (by omega) (by omega) (by omega) (by omega)] at e
    refine m_215 hG hT' hW' hl (k_216_18 hG ?_)
    rw [e1, zI_jabs (by omega) (by omega), zI_lt (by omega) (by omega) (by omega) (by omega)]
    refine ⟨fun e' => ?_, fun e' => ?_⟩
    · rw [show hldZ K h ord ml wd ln yr l = false by unfold hldZ; rw [decide_eq_false (p := (((tltZ K ord wd ln l).natAbs : Int) ≤ K 4 0)) (by omega), Bool.and_false]] at hQ
      exact hQ
    · rw [show hldZ K h ord ml wd ln yr l = true by unfold hldZ; rw [decide_eq_true (p := (((tltZ K ord wd ln l).natAbs : Int) ≤ K 4 0)) (by omega), decide_eq_true (by omega)]; rfl] at hQ
      exact hQ
theorem m_217 (hG : Geo G SL p q) (hT : MTn F A K n) (hW : MTw F A n h ord ml wd ln yr) (hQ : Q (.inl (some (.int (zI (brkZ K h ord ml wd ln yr))))) (F, A, J, G)) : X (d + 4) 217 0 [.ref 68, .null] [] (F, A, J, G) Q := by
  have h10 : h ≤ 10 := Nat.le_trans hW.1.1 hT.1.1
  have f1 := hW.2.1
  refine t_217_0 hG ?_
  refine fs_ind (p := fun l => !hldZ K h ord ml wd ln yr l) (h := h) (P := fun r => Q (.inl (some (.int (zI r)))) (F, A, J, G)) (R := fun j => X (d + 4) 217 2 [.ref 68, .int (zI (j : Int))] [] (F, A, J, G) Q) hQ (fun hq => ?_) (fun j hj hp hr => ?_)
  · refine t_217_2 hG ⟨fun e => ?_, fun _ => hq⟩
    rw [f1, zN_lt (by omega) (by omega)] at e
    omega
  · refine t_217_2 hG ⟨fun _ => m_216 hG hT hW hj (k_217_15 hG ⟨fun e => ?_, fun e => ?_⟩), fun e => ?_⟩
    · refine hp ?_
      cases hb : hldZ K h ord ml wd ln yr j
      · rfl
      · rw [hb] at e; exact absurd e (by decide)
    · rw [zN_1]
      refine hr ?_
      cases hb : hldZ K h ord ml wd ln yr j
      · rw [hb] at e; exact absurd rfl e
      · rfl
    · rw [f1, zN_lt (by omega) (by omega)] at e
      omega
theorem m_218 (hG : Geo G SL p q) (hT : MTn F A K n) (hW : MTw F A n h ord ml wd ln yr) (hQ : Q (.inl (some (.int (bI (stdB K h ord ml wd ln yr))))) (F, A, J, G)) : X (d + 5) 218 0 [.ref 68] [] (F, A, J, G) Q := by
  have h10 : h ≤ 10 := Nat.le_trans hW.1.1 hT.1.1
  have hb := brk_b (K := K) (h := h) (ord := ord) (ml := ml) (wd := wd) (ln := ln) (yr := yr)
  refine t_218_0 hG (m_217 hG hT hW (k_218_4 hG ⟨fun e => ?_, fun e => ?_⟩))
  · rw [zm1, zI_eq (by omega) (by omega) (by omega) (by omega)] at e
    rw [show stdB K h ord ml wd ln yr = true from decide_eq_true e] at hQ
    exact hQ
  · rw [zm1, zI_eq (by omega) (by omega) (by omega) (by omega)] at e
    rw [show stdB K h ord ml wd ln yr = false from decide_eq_false e] at hQ
    exact hQ
theorem m_219 (hG : Geo G SL p q) (hT : MTn F A K n) (hW : MTw F A n h ord ml wd ln yr) (hQ : Q (.inl (some (.int (zI (morZ K h ord ml wd ln yr))))) (F, A, J, G)) : X (d + 6) 219 0 [.ref 68, .null, .null] [] (F, A, J, G) Q := by
  have hT' := hT
  have hW' := hW
  obtain ⟨hK, hwm, e0, e1, e2, a0, a1, a2, a3⟩ := hT
  obtain ⟨hw, f1, f2, b0, b1, b2, b3⟩ := hW
  have h10 : h ≤ 10 := Nat.le_trans hw.1 hK.1
  have h10' := hK.1
  refine t_219_0 hG (m_218 hG hT' hW' (k_219_4 hG ⟨fun e => ?_, fun e => ?_⟩))
  · unfold stdB at e
    unfold morZ at hQ
    by_cases hb : brkZ K h ord ml wd ln yr = -1
    · rw [decide_eq_true hb] at e; exact absurd e (by decide)
    · rw [if_neg hb] at hQ; exact hQ
  · unfold stdB at e
    unfold morZ at hQ
    by_cases hb : brkZ K h ord ml wd ln yr = -1
    · rw [if_pos hb] at hQ
      refine up_ind (h := h) (P := fun j => X (d + 6) 219 15 [.ref 68, .int (zI (mnZ (slkZ K h ord ml yr) j 0 9999)), .int (zI (j : Int))] [] (F, A, J, G) Q) ?_ ?_
      · refine t_219_15 hG ⟨fun e => ?_, fun _ => hQ⟩
        rw [f1, zN_lt (by omega) (by omega)] at e
        omega
      · intro j hj ih
        have hoj := hw.2.1 j hj
        have hk := (hK.2.1 _ hoj).1
        refine t_219_15 hG ⟨fun _ => ?_, fun e => ?_⟩
        · rw [zI_clamp (by omega), b0 j hj, zI_clamp (by omega), a0 _ hoj, a2 _ hoj, f2, f1, top_z h10 hj, car_z hK hoj hw.2.2.2.2]
          refine ⟨zN_in (by omega) (by decide), zN_in (by omega) (by decide), ?_, hwm, m_213 hG hT' hW' hj (k_219_34 hG ?_)⟩
          · rw [zI_inB (by omega) (by omega)]; omega
          · have hs := slk_b hK hw hj
            have h1 := mnZ_le (slkZ K h ord ml yr) j 0 9999
            have h2 := mnZ_ge (slkZ K h ord ml yr) (-70000) j 0 9999 (fun i h1 h2 => (slk_b hK hw (by omega)).1) (by omega)
            have es : carZ K yr (ord j) (topB h j) - loadZ K h ord ml j = slkZ K h ord ml yr j := rfl
            rw [zI_sub, es, zI_jmin (by omega) (by omega) (by omega) (by omega), zN_1]
            have el := mnZ_last (slkZ K h ord ml yr) j 0 9999
            rw [Nat.zero_add] at el
            rw [← el]
            exact ih
        · rw [f1, zN_lt (by omega) (by omega)] at e
          omega
    · rw [decide_eq_false hb] at e; exact absurd rfl e
end MTower
