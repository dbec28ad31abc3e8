/-! the reference: calls that ask what would be -/
section MQueryA
variable {d : Nat} {F A F' A' F'' A'' : Nat → Nat → Int32} {J : Nat → Nat → Int64} {G : pG} {Q : pR → pM → Prop} {SL p q t a na b i : Nat} {K : Nat → Nat → Int} {n h : Nat} {ord ord' : Nat → Nat} {ml wd ln ml' wd' ln' : Nat → Int} {yr z y : Int}
theorem wF_wF (A : Nat → Nat → Int32) (o k : Nat) (v w : Int32) : wF (wF A o k v) o k w = wF A o k w := by
  funext o' k'
  rw [wF_at, wF_at, wF_at]
  by_cases e : o' = o ∧ k' = k
  · rw [if_pos e, if_pos e]
  · rw [if_neg e, if_neg e, if_neg e]
theorem wF_id {A : Nat → Nat → Int32} {o k : Nat} {v : Int32} (hv : A o k = v) : wF A o k v = A := by
  funext o' k'
  rw [wF_at]
  by_cases e : o' = o ∧ k' = k
  · rw [if_pos e, e.1, e.2, hv]
  · rw [if_neg e]
theorem wF_comm {A : Nat → Nat → Int32} {o k o' k' : Nat} {v w : Int32} (hne : ¬ (o = o' ∧ k = k')) : wF (wF A o k v) o' k' w = wF (wF A o' k' w) o k v := by
  funext x y
  rw [wF_at, wF_at, wF_at, wF_at]
  by_cases e : x = o ∧ y = k
  · rw [if_pos e, if_pos e, if_neg (fun q => hne ⟨e.1.symm.trans q.1, e.2.symm.trans q.2⟩)]
  · rw [if_neg e, if_neg e]
theorem inR_z (hz : -2147483648 ≤ z ∧ z < 2147483648) (hn : n ≤ 10) : inR (zI z) (zI (n : Int)) = decide (0 ≤ z ∧ z < n) := by
  unfold inR
  rw [z0]
  have e1 : (zI z < zI 0) = (z < 0) := zI_lt hz.1 hz.2 (by decide) (by decide)
  have e2 : (zI z < zI (n : Int)) = (z < n) := zI_lt hz.1 hz.2 (by omega) (by omega)
  by_cases h1 : z < 0
  · rw [decide_eq_true (e1.mpr h1), decide_eq_false (p := 0 ≤ z ∧ z < n) (by omega)]; rfl
  · rw [decide_eq_false (fun q => h1 (e1.mp q))]
    by_cases h2 : z < n
    · rw [decide_eq_true (e2.mpr h2), decide_eq_true (p := 0 ≤ z ∧ z < n) (by omega)]; rfl
    · rw [decide_eq_false (fun q => h2 (e2.mp q)), decide_eq_false (p := 0 ≤ z ∧ z < n) (by omega)]; rfl
theorem inL_z {a b : Int} {x y : Int64} (hx : x = (zI a).toInt64) (hy : y = (zI b).toInt64) (hz : -2147483648 ≤ z ∧ z < 2147483648) (ha : -2147483648 ≤ a ∧ a < 2147483648) (hb : -2147483648 ≤ b ∧ b < 2147483648) : inL (zI z).toInt64 x y = decide (a ≤ z ∧ z ≤ b) := by
  unfold inL
  rw [hx, hy]
  have e1 : ((zI z).toInt64 < (zI a).toInt64) = (z < a) := by rw [toI64_lt, zI_lt hz.1 hz.2 ha.1 ha.2]
  have e2 : ((zI b).toInt64 < (zI z).toInt64) = (b < z) := by rw [toI64_lt, zI_lt hb.1 hb.2 hz.1 hz.2]
  by_cases h1 : z < a
  · rw [decide_eq_true (e1.mpr h1), decide_eq_false (p := a ≤ z ∧ z ≤ b) (by omega)]; rfl
  · rw [decide_eq_false (fun q => h1 (e1.mp q))]
    by_cases h2 : b < z
    · rw [decide_eq_true (e2.mpr h2), decide_eq_false (p := a ≤ z ∧ z ≤ b) (by omega)]; rfl
    · rw [decide_eq_false (fun q => h2 (e2.mp q)), decide_eq_true (p := a ≤ z ∧ z ≤ b) (by omega)]; rfl
/-- is it a table of the tower -/
theorem lvi_z (hz : -2147483648 ≤ z ∧ z < 2147483648) (h10 : n ≤ 10) (hW : MTw F A n h ord ml wd ln yr) : lvI (A 81) (zI (h : Int)) (zI z) = zI (lvZ ord h z) := by
  have := hW.1.1
  exact lv_z hz.1 hz.2 (by omega) hW.2.2.2.1 (fun l hl => by have := hW.1.2.1 l hl; omega)
theorem upZ_up (f : Nat → Int) (i : Nat) (v w : Int) : upZ (upZ f i v) i w = upZ f i w := by
  funext j; unfold upZ; split <;> rfl
theorem upZ_id (f : Nat → Int) (i : Nat) : upZ f i (f i) = f := by
  funext j; unfold upZ; split
  · rename_i h; rw [h]
  · rfl
theorem upZ_same (f : Nat → Int) (i : Nat) (v : Int) : upZ f i v i = v := if_pos rfl
theorem upZ_ne (f : Nat → Int) {i j : Nat} (v : Int) (h : j ≠ i) : upZ f i v j = f j := if_neg h
theorem MTw_meal {v : Int} (hv : 0 ≤ v ∧ v ≤ 6000) (hW : MTw F A n h ord ml wd ln yr) : MTw F (wF A 82 i (zI v)) n h ord (upZ ml i v) wd ln yr := by
  obtain ⟨hw, f1, f2, b0, b1, b2, b3⟩ := hW
  refine ⟨upZ_ok hv hw, f1, f2, ?_, fun j hj => ?_, ?_, ?_⟩
  · rw [wF_row (by decide)]; exact b0
  · rw [wF_at]
    unfold upZ
    by_cases e : j = i
    · rw [if_pos ⟨rfl, e⟩, if_pos e]
    · rw [if_neg (fun q => e q.2), if_neg e]; exact b1 j hj
  · rw [wF_row (by decide)]; exact b2
  · rw [wF_row (by decide)]; exact b3
theorem MTw_wdg {v : Int} (hv : -9 ≤ v ∧ v ≤ 9) (hW : MTw F A n h ord ml wd ln yr) : MTw F (wF A 83 i (zI v)) n h ord ml (upZ wd i v) ln yr := by
  obtain ⟨hw, f1, f2, b0, b1, b2, b3⟩ := hW
  refine ⟨⟨hw.1, hw.2.1, hw.2.2.1, fun j hj => ⟨(hw.2.2.2.1 j hj).1, ?_, (hw.2.2.2.1 j hj).2.2⟩, hw.2.2.2.2⟩, f1, f2, ?_, ?_, fun j hj => ?_, ?_⟩
  · unfold upZ; split
    · exact hv
    · exact (hw.2.2.2.1 j hj).2.1
  · rw [wF_row (by decide)]; exact b0
  · rw [wF_row (by decide)]; exact b1
  · rw [wF_at]
    unfold upZ
    by_cases e : j = i
    · rw [if_pos ⟨rfl, e⟩, if_pos e]
    · rw [if_neg (fun q => e q.2), if_neg e]; exact b2 j hj
  · rw [wF_row (by decide)]; exact b3
theorem MTw_lean {v : Int} (hv : -9 ≤ v ∧ v ≤ 9) (hW : MTw F A n h ord ml wd ln yr) : MTw F (wF A 84 i (zI v)) n h ord ml wd (upZ ln i v) yr := by
  obtain ⟨hw, f1, f2, b0, b1, b2, b3⟩ := hW
  refine ⟨⟨hw.1, hw.2.1, hw.2.2.1, fun j hj => ⟨(hw.2.2.2.1 j hj).1, (hw.2.2.2.1 j hj).2.1, ?_⟩, hw.2.2.2.2⟩, f1, f2, ?_, ?_, ?_, fun j hj => ?_⟩
  · unfold upZ; split
    · exact hv
    · exact (hw.2.2.2.1 j hj).2.2
  · rw [wF_row (by decide)]; exact b0
  · rw [wF_row (by decide)]; exact b1
  · rw [wF_row (by decide)]; exact b2
  · rw [wF_at]
    unfold upZ
    by_cases e : j = i
    · rw [if_pos ⟨rfl, e⟩, if_pos e]
    · rw [if_neg (fun q => e q.2), if_neg e]; exact b3 j hj
theorem MTw_yr {v : Int} (hv : 0 ≤ v ∧ v ≤ 1200) (hW : MTw F A n h ord ml wd ln yr) : MTw (wF F 68 29 (zI v)) A n h ord ml wd ln v := by
  obtain ⟨hw, f1, f2, b0, b1, b2, b3⟩ := hW
  refine ⟨⟨hw.1, hw.2.1, hw.2.2.1, hw.2.2.2.1, hv⟩, ?_, wF_same _ _ _ _, b0, b1, b2, b3⟩
  rw [wF_cell (by decide)]; exact f1
theorem m_262 (hG : Geo G SL p q) (hT : MTn F A K n) (hW : MTw F A n h ord ml wd ln yr) (hz : -2147483648 ≤ z ∧ z < 2147483648) (hy : -2147483648 ≤ y ∧ y < 2147483648) (hml : ∀ i, i < n → ml i ≤ 999)
    (hb1 : lvZ ord h z = -1 ∨ ¬ (0 ≤ z ∧ z < n) → ∀ r, Q (.inl (some (.int r))) (wF F 68 3 1, A, J, G)) (hb2 : ¬ lvZ ord h z = -1 → (0 ≤ z ∧ z < n) → ¬ (0 ≤ y ∧ y ≤ 99) → ∀ r, Q (.inl (some (.int r))) (wF F 68 3 2, A, J, G))
    (hok : ∀ i : Nat, z = i → i < n → (0 ≤ y ∧ y ≤ 99) → ¬ lvZ ord h z = -1 → Q (.inl (some (.int (zI (brkZ K h ord (upZ ml i (ml i + y)) wd ln yr))))) (wF F 68 3 0, A, J, G)) : X (d + 5) 262 0 [.ref 68, .int (zI z), .int (zI y), .null] [] (F, A, J, G) Q := by
  have h10 := hT.1.1
  have hh := hW.1.1
  have f1 := hW.2.1
  have hW0 : MTw (wF F 68 3 0) A n h ord ml wd ln yr := by rw [MTw_code]; exact hW
  have f1' := hW0.2.1
  have hlb := lvZ_b (ord := ord) (h := h) (z := z)
  refine t_262_0 hG ?_
  rw [hT.2.2.1, f1', inR_z hz h10, lvi_z hz h10 hW0, inL_z (x := 0) (y := 99) (a := 0) (b := 99) rfl rfl hy (by decide) (by decide), zm1, zI_eq (by omega) (by omega) (by omega) (by omega), wF_wF, wF_wF]
  simp only [decide_eq_true_eq, decide_eq_false_iff_not]
  refine ⟨hB_z h10, fun e1 => ⟨hB_z (by omega), fun e2 => hb1 (Or.inl e2) _, fun e2 => ⟨fun e3 => ?_, fun e3 => hb2 e2 e1 e3 _⟩⟩, fun e1 => hb1 (Or.inr e1) _⟩
  obtain ⟨i, rfl⟩ : ∃ i : Nat, z = i := ⟨z.toNat, by omega⟩
  have hi : i < n := by omega
  have hm := (hW.1.2.2.2.1 i hi).1
  have hm9 := hml i hi
  rw [zI_clamp (by omega), hW.2.2.2.2.1 i hi, zI_add]
  refine ⟨zN_in (by omega) (by decide), m_217 hG hT (MTw_meal (by omega) hW0) (k_262_60 hG ?_)⟩
  rw [zI_clamp (by omega), wF_same, zI_sub, wF_wF, show ml i + y - y = ml i by omega, wF_id (hW.2.2.2.2.1 i hi)]
  refine ⟨zN_in (by omega) (by decide), hok i rfl hi e3 e2⟩
theorem m_257 (hG : Geo G SL p q) (hT : MTn F A K n) (hW : MTw F A n h ord ml wd ln yr) (hz : -2147483648 ≤ z ∧ z < 2147483648) (hyr : yr ≤ 999)
    (hb1 : ¬ (0 ≤ z ∧ z ≤ 99) → ∀ r, Q (.inl (some (.int r))) (wF F 68 3 1, A, J, G))
    (hok : (0 ≤ z ∧ z ≤ 99) → Q (.inl (some (.int (zI (brkZ K h ord ml wd ln (yr + z)))))) (wF F 68 3 0, A, J, G)) : X (d + 5) 257 0 [.ref 68, .int (zI z), .null] [] (F, A, J, G) Q := by
  have hy := hW.1.2.2.2.2
  have hW0 : MTw (wF F 68 3 0) A n h ord ml wd ln yr := by rw [MTw_code]; exact hW
  refine t_257_0 hG ?_
  rw [hW.2.2.1, inL_z (x := 0) (y := 99) (a := 0) (b := 99) rfl rfl hz (by decide) (by decide), wF_wF]
  simp only [decide_eq_true_eq, decide_eq_false_iff_not]
  refine ⟨fun e => ?_, fun e => hb1 e _⟩
  rw [zI_add]
  refine m_217 hG hT (MTw_yr (by omega) hW0) (k_257_37 hG ?_)
  rw [wF_same, zI_sub, wF_wF, show yr + z - z = yr by omega, wF_id (hW0.2.2.1)]
  exact hok e
theorem m_256 (hG : Geo G SL p q) (hT : MTn F A K n) (hW : MTw F A n h ord ml wd ln yr) (hyr : yr ≤ 999) (hQ : Q (.inl (some (.int (zI (whnZ K h ord ml wd ln yr))))) (wF F 68 3 0, A, J, G)) : X (d + 6) 256 0 [.ref 68, .null, .null, .null] [] (F, A, J, G) Q := by
  have hy := hW.1.2.2.2.2
  have hW0 : MTw (wF F 68 3 0) A n h ord ml wd ln yr := by rw [MTw_code]; exact hW
  refine t_256_0 hG ?_
  rw [hW.2.2.1]
  have hend : ∀ F1, (∃ v, F1 = wF (wF F 68 3 0) 68 29 v) → wF F1 68 29 (zI yr) = wF F 68 3 0 := by
    rintro F1 ⟨v, rfl⟩
    rw [wF_wF, wF_id hW0.2.2.1]
  refine fs_ind (p := fun y => !stdB K h ord ml wd ln (yr + y)) (h := 100) (P := fun r => Q (.inl (some (.int (zI r)))) (wF F 68 3 0, A, J, G)) (R := fun j => ∀ F1, (∃ v, F1 = wF (wF F 68 3 0) 68 29 v) → X (d + 6) 256 14 [.ref 68, .int (zI yr), .int (-1), .int (zI (j : Int))] [] (F1, A, J, G) Q) hQ (fun hq => ?_) (fun j hj hp hr => ?_) _ ⟨zI yr, (wF_id hW0.2.2.1).symm⟩
  · intro F1 hF
    refine t_256_14 hG ⟨fun _ => ?_, fun e => ?_⟩
    · rw [hend F1 hF]; exact hq
    · exact absurd (show (99 : Int32) < zI ((100 : Nat) : Int) by decide) e
  · intro F1 hF
    refine t_256_14 hG ⟨fun e => ?_, fun _ => ⟨fun _ => ?_, fun e => absurd rfl e⟩⟩
    · rw [show (99 : Int32) = zI 99 from rfl, zI_lt (by omega) (by omega) (by omega) (by omega)] at e
      omega
    · rw [zI_add]
      have hF2 : wF F1 68 29 (zI (yr + j)) = wF (wF F 68 3 0) 68 29 (zI (yr + j)) := by
        obtain ⟨v, rfl⟩ := hF
        rw [wF_wF]
      rw [hF2]
      refine m_218 hG hT (MTw_yr (by omega) hW0) (k_256_36 hG ⟨fun e => ?_, fun e => ?_⟩)
      · have hs : stdB K h ord ml wd ln (yr + j) = false := by
          cases hb : stdB K h ord ml wd ln (yr + j)
          · rfl
          · rw [hb] at e; exact absurd e (by decide)
        have hq := hp (by rw [hs]; rfl)
        refine t_256_14 hG ⟨fun _ => ?_, fun _ => ⟨fun e => ?_, fun _ => ?_⟩⟩
        · rw [hend _ ⟨_, rfl⟩]; exact hq
        · rw [zm1, zI_eq (by omega) (by omega) (by omega) (by omega)] at e
          omega
        · rw [hend _ ⟨_, rfl⟩]; exact hq
      · have hs : stdB K h ord ml wd ln (yr + j) = true := by
          cases hb : stdB K h ord ml wd ln (yr + j)
          · rw [hb] at e; exact absurd rfl e
          · rfl
        rw [zN_1]
        exact hr (by rw [hs]; rfl) _ ⟨_, rfl⟩
/-- rows kept, changed, laid back -/
theorem un_scr {F1 A1 A2 A3 : Nat → Nat → Int32} (h1 : ∀ i, i ≠ 88 → A1 i = A i) (hp : Pkd A1 88 0 F A) (h2 : ∀ i, (i < 81 ∨ 84 < i) → A2 i = A1 i) (h3 : ∀ i, (i < 81 ∨ 84 < i) → A3 i = A2 i) (h4 : ∀ j, j < 10 → A3 81 j = A2 88 (0 + 3 + j) ∧ A3 82 j = A2 88 (0 + 13 + j) ∧ A3 83 j = A2 88 (0 + 23 + j) ∧ A3 84 j = A2 88 (0 + 33 + j)) (hF : ∀ i, i ≠ 68 → F1 i = F i) (hF2 : ∀ k, (k = 13 ∨ k = 22 ∨ k = 31 ∨ k = 32 ∨ (50 ≤ k ∧ k ≤ 52)) → F1 68 k = F 68 k) : MScr F A (UnF F1 A2 88 0) A3 := by
  obtain ⟨p1, p2, p3, p4⟩ := hp
  refine ⟨fun i hi => ?_, fun k hk => ?_, fun i e1 e2 e3 => ?_, fun i e1 e2 j hj => ?_⟩
  · unfold UnF; rw [wF_row hi, wF_row hi, wF_row hi]; exact hF i hi
  · unfold UnF
    rw [h2 88 (by omega), p1, p2, p3]
    by_cases k28 : k = 28
    · subst k28; rw [wF_cell (by decide), wF_cell (by decide), wF_same]
    · by_cases k29 : k = 29
      · subst k29; rw [wF_cell (by decide), wF_same]
      · by_cases k30 : k = 30
        · subst k30; rw [wF_same]
        · rw [wF_cell k30, wF_cell k29, wF_cell k28]; exact hF2 k (by omega)
  · rw [h3 i e1, h2 i e1, h1 i (by omega)]
  · have q4 := h4 j hj
    have p5 := p4 j hj
    rw [h2 88 (by omega)] at q4
    have : i = 81 ∨ i = 82 ∨ i = 83 ∨ i = 84 := by omega
    rcases this with rfl | rfl | rfl | rfl
    · rw [q4.1]; exact p5.1
    · rw [q4.2.1]; exact p5.2.1
    · rw [q4.2.2.1]; exact p5.2.2.1
    · rw [q4.2.2.2]; exact p5.2.2.2
end MQueryA
