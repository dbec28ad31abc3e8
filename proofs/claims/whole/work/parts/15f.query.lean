/-! full ones, the hungriest, the crookedest -/
section QueryA
def fulB (K : Nat → Nat → Int) (ord : Nat → Nat) (ml : Nat → Int) : Nat → Nat
  | 0 => 0
  | k + 1 => if ml (ord k) < K 3 (ord k) then fulB K ord ml k else fulB K ord ml k ||| 2 ^ ord k
def hunZ (K : Nat → Nat → Int) (n h : Nat) (ord : Nat → Nat) (ml : Nat → Int) : Nat → Int × Int := amx (fun i => (bst ord h).testBit i) (fun i => K 3 i - ml i) 0
def croZ (K : Nat → Nat → Int) (ord : Nat → Nat) (wd ln : Nat → Int) : Nat → Int := crk (fun l => ((tltZ K ord wd ln l).natAbs : Int))
variable {d : Nat} {F A : Nat → Nat → Int32} {J : Nat → Nat → Int64} {G : pG} {Q : pR → pM → Prop} {SL p q t l : Nat} {K : Nat → Nat → Int} {n h : Nat} {ord : Nat → Nat} {ml wd ln : Nat → Int} {yr : Int}
theorem isLgi (x : Int32) : isLg (.int x) = false := rfl
theorem c_93 (hG : Geo G SL p q) (ht : Tw t) (hT : CTn F A K n) (hW : CTw t F A n h ord ml wd ln yr) (hQ : Q (.inl (some (.int (zI ((fulB K ord ml h : Nat) : Int))))) (F, A, J, G)) : X d 93 0 [.ref t, .null, .null, .null] [] (F, A, J, G) Q := by
  obtain ⟨hK, e0, e1, e2, a0, a1, a2, a3⟩ := hT
  obtain ⟨hw, f1, f2, b0, b1, b2, b3⟩ := hW
  have h10 : h ≤ 10 := Nat.le_trans hw.1 hK.1
  have h10' := hK.1
  refine t_93_0 hG ht ?_
  refine up_ind (h := h) (P := fun j => ∀ v, X d 93 4 [.ref t, .int (zI ((fulB K ord ml j : Nat) : Int)), .int (zI (j : Int)), v] [] (F, A, J, G) Q) ?_ ?_ _
  · intro v
    refine t_93_4 hG ht ⟨fun e => ?_, fun _ => hQ⟩
    rw [f1, zN_lt (by omega) (by omega)] at e
    omega
  · intro j hj ih v
    have hoj := hw.2.1 j hj
    have hm := (hw.2.2.2.1 _ hoj).1
    have hk := (hK.2.1 _ hoj).2.2.2
    refine t_93_4 hG ht ⟨fun _ => ?_, fun e => ?_⟩
    · rw [zI_clamp (by omega), b0 j hj, zI_clamp (by omega), b1 _ hoj, a3 _ hoj, shl_z _ (by omega), zN_or, zN_1, zI_lt (by omega) (by omega) (by omega) (by omega)]
      refine ⟨zN_in (by omega) (by decide), zN_in (by omega) (by decide), fun e => ?_, fun e => ?_⟩
      · have := ih (.int (zI (ord j : Int)))
        rw [fulB, if_pos e] at this
        exact this
      · have := ih (.int (zI (ord j : Int)))
        rw [fulB, if_neg e] at this
        exact this
    · rw [f1, zN_lt (by omega) (by omega)] at e
      omega
theorem m_220 (hG : Geo G SL p q) (hT : MTn F A K n) (hW : MTw F A n h ord ml wd ln yr) (hQ : Q (.inl (some (.int (zI ((fulB K ord ml h : Nat) : Int))))) (F, A, J, G)) : X d 220 0 [.ref 68, .null, .null] [] (F, A, J, G) Q := by
  obtain ⟨hK, hwm, e0, e1, e2, a0, a1, a2, a3⟩ := hT
  obtain ⟨hw, f1, f2, b0, b1, b2, b3⟩ := hW
  have h10 : h ≤ 10 := Nat.le_trans hw.1 hK.1
  have h10' := hK.1
  refine t_220_0 hG ?_
  refine up_ind (h := h) (P := fun j => X d 220 4 [.ref 68, .int (zI ((fulB K ord ml j : Nat) : Int)), .int (zI (j : Int))] [] (F, A, J, G) Q) ?_ ?_
  · refine t_220_4 hG ⟨fun e => ?_, fun _ => hQ⟩
    rw [f1, zN_lt (by omega) (by omega)] at e
    omega
  · intro j hj ih
    have hoj := hw.2.1 j hj
    have hm := (hw.2.2.2.1 _ hoj).1
    have hk := (hK.2.1 _ hoj).2.2.2
    refine t_220_4 hG ⟨fun _ => ?_, fun e => ?_⟩
    · rw [zI_clamp (by omega), b0 j hj, zI_clamp (by omega), b1 _ hoj, a3 _ hoj, shl_z _ (by omega), zN_or, zN_1, zI_lt (by omega) (by omega) (by omega) (by omega), Int32.or_zero]
      refine ⟨zN_in (by omega) (by decide), zN_in (by omega) (by decide), zN_in (by omega) (by decide), fun e => ?_, fun e => ?_⟩
      · rw [fulB, if_pos e] at ih
        exact ih
      · rw [fulB, if_neg e] at ih
        exact ih
    · rw [f1, zN_lt (by omega) (by omega)] at e
      omega
theorem hB_z (h10 : h ≤ 10) : hB (zI (h : Int)) = true := by rw [← zI_nI]; exact hB_nI h10
theorem c_94 (hG : Geo G SL p q) (ht : Tw t) (hT : CTn F A K n) (hW : CTw t F A n h ord ml wd ln yr) (hQ : Q (.inl (some (.int (zI (hunZ K n h ord ml n).1)))) (F, A, J, G)) : X (d + 1) 94 0 [.ref t, .null, .null, .null, .null, .null] [] (F, A, J, G) Q := by
  obtain ⟨hK, e0, e1, e2, a0, a1, a2, a3⟩ := hT
  obtain ⟨hw, f1, f2, b0, b1, b2, b3⟩ := hW
  have h10 : h ≤ 10 := Nat.le_trans hw.1 hK.1
  have h10' := hK.1
  have hbs : bst ord h < 1024 := bst_lt ord 10 h (fun l hl => by have := hw.2.1 l hl; omega)
  refine t_94_0 hG ht ?_
  rw [f1, bits_z h10 b0 (fun l hl => by have := hw.2.1 l hl; omega)]
  refine ⟨hB_z h10, ?_⟩
  refine up_ind (h := n) (P := fun j => ∀ v, X (d + 1) 94 12 [.ref t, .int (zI (hunZ K n h ord ml j).1), .int (zI (hunZ K n h ord ml j).2), .int (zI ((bst ord h : Nat) : Int)), .int (zI (j : Int)), v] [] (F, A, J, G) Q) ?_ ?_ _
  · intro v
    refine t_94_12 hG ht ⟨fun e => ?_, fun _ => hQ⟩
    rw [e0, zN_lt (by omega) (by omega)] at e
    omega
  · intro j hj ih v
    have hm := (hw.2.2.2.1 _ hj).1
    have hk := (hK.2.1 _ hj).2.2.2
    have hb := amx_b2 (p := fun i => (bst ord h).testBit i) (f := fun i => K 3 i - ml i) (m0 := 0) (b := 99) (by decide) j (fun i hi _ => by have := (hw.2.2.2.1 _ (show i < n by omega)).1; have := (hK.2.1 _ (show i < n by omega)).2.2.2; omega)
    have hb' : 0 ≤ (hunZ K n h ord ml j).2 ∧ (hunZ K n h ord ml j).2 ≤ 99 := hb
    refine t_94_12 hG ht ⟨fun _ => ?_, fun e => ?_⟩
    · rw [zI_clamp (by omega), b1 _ hj, a3 _ hj, shr_0 hbs (by omega), zI_sub, zN_1, zI_lt (by omega) (by omega) (by omega) (by omega)]
      have hi := ih (.int (zI (K 3 j - ml j)))
      rw [hunZ, amx] at hi
      refine ⟨zN_in (by omega) (by decide), fun e => ?_, fun e => ⟨fun e' => ?_, fun e' => ?_⟩⟩
      · rw [if_neg (fun q => by rw [e] at q; exact absurd q.1 (by decide))] at hi
        exact hi
      · rw [if_pos ⟨by simpa using e, e'⟩] at hi
        exact hi
      · rw [if_neg (fun q => e' q.2)] at hi
        exact hi
    · rw [e0, zN_lt (by omega) (by omega)] at e
      omega
theorem MTw_code (v : Int32) : MTw (wF F 68 3 v) A n h ord ml wd ln yr = MTw F A n h ord ml wd ln yr := by
  unfold MTw; rw [wF_cell (by decide), wF_cell (by decide)]
theorem m_265 (hG : Geo G SL p q) (hT : MTn F A K n) (hW : MTw F A n h ord ml wd ln yr) (hQ : Q (.inl (some (.int (zI (hunZ K n h ord ml n).1)))) (wF F 68 3 0, A, J, G)) : X (d + 1) 265 0 [.ref 68, .null, .null, .null] [] (F, A, J, G) Q := by
  obtain ⟨hK, hwm, e0, e1, e2, a0, a1, a2, a3⟩ := hT
  obtain ⟨hw, f1, f2, b0, b1, b2, b3⟩ := hW
  have h10 : h ≤ 10 := Nat.le_trans hw.1 hK.1
  have h10' := hK.1
  refine t_265_0 hG ?_
  have f1' : wF F 68 3 0 68 28 = zI (h : Int) := by rw [wF_cell (by decide)]; exact f1
  refine up_ind (h := n) (P := fun j => X (d + 1) 265 11 [.ref 68, .int (zI (hunZ K n h ord ml j).1), .int (zI (hunZ K n h ord ml j).2), .int (zI (j : Int))] [] (wF F 68 3 0, A, J, G) Q) ?_ ?_
  · refine t_265_11 hG ⟨fun e => ?_, fun _ => hQ⟩
    rw [e0, zN_lt (by omega) (by omega)] at e
    omega
  · intro j hj ih
    have hm := (hw.2.2.2.1 _ hj).1
    have hk := (hK.2.1 _ hj).2.2.2
    have hb := amx_b2 (p := fun i => (bst ord h).testBit i) (f := fun i => K 3 i - ml i) (m0 := 0) (b := 99) (by decide) j (fun i hi _ => by have := (hw.2.2.2.1 _ (show i < n by omega)).1; have := (hK.2.1 _ (show i < n by omega)).2.2.2; omega)
    have hb' : 0 ≤ (hunZ K n h ord ml j).2 ∧ (hunZ K n h ord ml j).2 ≤ 99 := hb
    have hlb := lvZ_b (ord := ord) (h := h) (z := (j : Int))
    have hln := lvZ_none (ord := ord) (h := h) (i := j)
    refine t_265_11 hG ⟨fun _ => ?_, fun e => ?_⟩
    · rw [f1', lv_z (by omega) (by omega) h10 b0 (fun l hl => by have := hw.2.1 l hl; omega), zI_clamp (by omega), b1 _ hj, a3 _ hj, zI_sub, zN_1, zm1, zI_eq (by omega) (by omega) (by omega) (by omega), zI_lt (by omega) (by omega) (by omega) (by omega), hln]
      rw [hunZ, amx] at ih
      refine ⟨hB_z h10, fun e => ?_, fun e => ⟨zN_in (by omega) (by decide), zN_in (by omega) (by decide), fun e' => ?_, fun e' => ?_⟩⟩
      · rw [if_neg (fun q => by rw [e] at q; exact absurd q.1 (by decide))] at ih
        exact ih
      · rw [if_pos ⟨by simpa using e, e'⟩] at ih
        exact ih
      · rw [if_neg (fun q => e' q.2)] at ih
        exact ih
    · rw [e0, zN_lt (by omega) (by omega)] at e
      omega
theorem crk_i {f : Nat → Int} {j : Nat} (h : ¬ crk f j = -1) : ∃ b : Nat, b < j ∧ crk f j = (b : Int) := by
  have := crk_b f j
  exact ⟨(crk f j).toNat, by omega, by omega⟩
theorem c_95 (hG : Geo G SL p q) (ht : Tw t) (hT : CTn F A K n) (hW : CTw t F A n h ord ml wd ln yr) (hQ : ∀ A', FrT t A A' → Wgd t A' K h ord ml wd ln yr → Q (.inl (some (.int (zI (croZ K ord wd ln h))))) (F, A', J, G)) : X (d + 3) 95 0 [.ref t, .null, .null] [] (F, A, J, G) Q := by
  have hK := hT.1
  have hw := hW.1
  have h10 : h ≤ 10 := Nat.le_trans hW.1.1 hT.1.1
  have f1 := hW.2.1
  refine t_95_0 hG ht (c_84 hG ht hT hW (fun A' hf hg => k_95_4 hG ht ?_))
  have hq := hQ A' hf hg
  obtain ⟨g5, g6, g7⟩ := hg
  refine up_ind (h := h) (P := fun j => X (d + 3) 95 8 [.ref t, .int (zI (croZ K ord wd ln j)), .int (zI (j : Int))] [] (F, A', J, G) Q) ?_ ?_
  · refine t_95_8 hG ht ⟨fun e => ?_, fun _ => hq⟩
    rw [f1, zN_lt (by omega) (by omega)] at e
    omega
  · intro j hj ih
    have hb := crk_b (fun l => ((tltZ K ord wd ln l).natAbs : Int)) j
    have hb' : -1 ≤ croZ K ord wd ln j ∧ croZ K ord wd ln j < j ∧ (0 < j → 0 ≤ croZ K ord wd ln j) := hb
    rw [croZ, crk] at ih
    refine t_95_8 hG ht ⟨fun _ => ⟨fun e => ?_, fun e => ?_⟩, fun e => ?_⟩
    · rw [zm1, zI_eq (by omega) (by omega) (by omega) (by omega)] at e
      rw [zN_1]
      unfold croZ at e
      rw [if_pos (Or.inl e)] at ih
      exact ih
    · rw [zm1, zI_eq (by omega) (by omega) (by omega) (by omega)] at e
      obtain ⟨b, hbj, hbe⟩ := crk_i (f := fun l => ((tltZ K ord wd ln l).natAbs : Int)) (j := j) e
      have hbe' : croZ K ord wd ln j = (b : Int) := hbe
      have t1 := tlt_b (l := b) hK hw (by omega)
      have t2 := tlt_b (l := j) hK hw hj
      rw [hbe, Int.toNat_natCast] at ih
      rw [hbe', zI_clamp (by omega), zI_clamp (by omega), g7 b (by omega), g7 j hj, zI_jabs (by omega) (by omega), zI_jabs (by omega) (by omega), zI_lt (by omega) (by omega) (by omega) (by omega), zN_1]
      refine ⟨zN_in (by omega) (by decide), zN_in (by omega) (by decide), fun e' => ?_, fun e' => ?_⟩
      · rw [if_pos (Or.inr e')] at ih
        exact ih
      · rw [if_neg (fun q => q.elim (fun q => by omega) e')] at ih
        exact ih
    · rw [f1, zN_lt (by omega) (by omega)] at e
      omega
theorem m_272 (hG : Geo G SL p q) (hT : MTn F A K n) (hW : MTw F A n h ord ml wd ln yr) (hQ : Q (.inl (some (.int (zI (croZ K ord wd ln h))))) (wF F 68 3 0, A, J, G)) : X (d + 2) 272 0 [.ref 68, .null, .null] [] (F, A, J, G) Q := by
  have hK := hT.1
  have hw := hW.1
  have h10 : h ≤ 10 := Nat.le_trans hW.1.1 hT.1.1
  have f1 := hW.2.1
  have hT' : MTn (wF F 68 3 0) A K n := hT
  have hW' : MTw (wF F 68 3 0) A n h ord ml wd ln yr := by rw [MTw_code]; exact hW
  have f1' := hW'.2.1
  refine t_272_0 hG ?_
  refine up_ind (h := h) (P := fun j => X (d + 2) 272 9 [.ref 68, .int (zI (croZ K ord wd ln j)), .int (zI (j : Int))] [] (wF F 68 3 0, A, J, G) Q) ?_ ?_
  · refine t_272_9 hG ⟨fun e => ?_, fun _ => hQ⟩
    rw [f1', zN_lt (by omega) (by omega)] at e
    omega
  · intro j hj ih
    have hb := crk_b (fun l => ((tltZ K ord wd ln l).natAbs : Int)) j
    have hb' : -1 ≤ croZ K ord wd ln j ∧ croZ K ord wd ln j < j ∧ (0 < j → 0 ≤ croZ K ord wd ln j) := hb
    rw [croZ, crk] at ih
    refine t_272_9 hG ⟨fun _ => ⟨fun e => ?_, fun e => ?_⟩, fun e => ?_⟩
    · rw [zm1, zI_eq (by omega) (by omega) (by omega) (by omega)] at e
      rw [zN_1]
      unfold croZ at e
      rw [if_pos (Or.inl e)] at ih
      exact ih
    · rw [zm1, zI_eq (by omega) (by omega) (by omega) (by omega)] at e
      obtain ⟨b, hbj, hbe⟩ := crk_i (f := fun l => ((tltZ K ord wd ln l).natAbs : Int)) (j := j) e
      have hbe' : croZ K ord wd ln j = (b : Int) := hbe
      have t1 := tlt_b (l := b) hK hw (by omega)
      have t2 := tlt_b (l := j) hK hw hj
      rw [hbe, Int.toNat_natCast] at ih
      rw [hbe']
      refine m_215 hG hT' hW' hj (k_272_27 hG (m_215 hG hT' hW' (show b < h by omega) (k_272_35 hG ?_)))
      rw [zI_jabs (by omega) (by omega), zI_jabs (by omega) (by omega), zI_lt (by omega) (by omega) (by omega) (by omega), zN_1]
      refine ⟨fun e' => ?_, fun e' => ?_⟩
      · rw [if_pos (Or.inr e')] at ih
        exact ih
      · rw [if_neg (fun q => q.elim (fun q => by omega) e')] at ih
        exact ih
    · rw [f1', zN_lt (by omega) (by omega)] at e
      omega
end QueryA
