/-! the class acts: change, wedge, saw, years, supper, undo -/
section HistD
variable {d : Nat} {F A F' A' F'' A'' : Nat → Nat → Int32} {J : Nat → Nat → Int64} {G : pG} {Q : pR → pM → Prop} {SL p q t k n h i a b : Nat} {s s' u : Sn} {hs : Nat → Sn} {r : Nat → Int} {x1 x2 x3 x4 : Int32} {ord : Nat → Nat} {z : Int} {ml : Nat → Int} {K : Nat → Nat → Int} {cd : Nat → Int} {cl : Nat} {fd : Int}
theorem c_66 (hG : Geo G SL p q) (h10 : n ≤ 10) (hH : CHs 22 F A n k hs) (hS : CSt 27 F A n (hs k)) (ha : a < sH (hs k)) (hb : b < sH (hs k)) (hR : a = b → Q (.inl (some (.int 0))) (F, wF A 26 1 (A 26 1 + 1), J, G)) (hQ : a ≠ b → ∀ F' A', CAct F A F' A' n k hs (chaS (hs k) a b) → Q (.inl (some (.int 1))) (F', A', J, G)) : X (d + 2) 66 0 [.ref 21, .int (zI (a : Int)), .int (zI (b : Int))] [] (F, A, J, G) Q := by
  have hH0 := hH
  obtain ⟨h1, h2, h3, h4⟩ := hH
  obtain ⟨⟨hw, f1, f2, b0, b1, b2, b3⟩, f3⟩ := hS
  have hn := hw.1
  have hk := h3 k (Nat.le_refl _)
  refine t_66n_0 hG ?_
  rw [zI_eq (by omega) (by omega) (by omega) (by omega)]
  refine ⟨fun e => c_63a hG (k_66n_10 hG (hR (by omega))), fun e => t_81_0 hG (Or.inl rfl) ?_⟩
  have hab : a ≠ b := by omega
  rw [zI_clamp (by omega), zI_clamp (by omega)]
  have hok : SOk n (chaS (hs k) a b) := ⟨swp_ok ha hb hw, hk.2.1, hk.2.2⟩
  refine ⟨zN_in (by omega) (by decide), zN_in (by omega) (by decide), k_66n_22 hG (c_73 hG h1 h2 (fun F2 A2 q1 q2 q3 q4 q5 => k_66n_30 hG ?_))⟩
  obtain ⟨r, r0, r1, r2, r3, rr⟩ := row_of (a0 := 2) (a1 := (a : Int)) (a2 := (b : Int)) (a3 := 0) q5
  refine hQ hab F2 A2 ⟨⟨fun i i1 i2 i3 i4 => q1 i i2 i3, ?_, q2, q3, fun i i1 i2 i3 => ?_⟩, CHs_push (r := r) hH0 hok q4 (fun c hc => ?_) rr ?_ ?_, CSt_of hok (SEq.rf _) ?_ ?_ ?_ (fun l hl => ?_) (fun i hi => ?_) (fun i hi => ?_) (fun i hi => ?_)⟩
  · rw [q1 18 (by decide) (by decide)]
  · rw [q5.1 i i2, wF_row (by omega), wF_row (by omega)]
  · rw [q5.2.1 c hc, wF_row (by decide), wF_row (by decide)]
  · refine ⟨by omega, fun e => by omega, fun e => by omega, fun _ => ⟨⟨by omega, ?_⟩, by omega, ?_⟩, fun e => by omega⟩
    · show r 1 < ((sH (hs k) : Nat) : Int)
      omega
    · show r 2 < ((sH (hs k) : Nat) : Int)
      omega
  · unfold unS
    rw [if_neg (by omega), if_neg (by omega), if_pos r0, r1, r2, show ((a : Int)).toNat = a from rfl, show ((b : Int)).toNat = b from rfl]
    refine ⟨rfl, fun l hl => ?_, fun _ _ => ⟨rfl, rfl, rfl⟩, rfl, rfl⟩
    show sO (hs k) l = swpO (swpO (sO (hs k)) a b) a b l
    rw [swpO_swp hab]
  · rw [q1 27 (by decide) (by decide)]; exact f1
  · rw [q1 27 (by decide) (by decide)]; exact f2
  · rw [q1 27 (by decide) (by decide)]; exact f3
  · have hl' : l < sH (hs k) := hl
    show _ = zI ((swpO (sO (hs k)) a b l : Nat) : Int)
    rw [q5.1 _ (by decide), wF_at, wF_at]
    unfold swpO
    by_cases e1 : l = b
    · rw [if_pos ⟨rfl, e1⟩, if_pos e1]; exact b0 a ha
    · rw [if_neg (fun q => e1 q.2), if_neg e1]
      by_cases e2 : l = a
      · rw [if_pos ⟨rfl, e2⟩, if_pos e2]; exact b0 b hb
      · rw [if_neg (fun q => e2 q.2), if_neg e2]; exact b0 l hl'
  · rw [q5.1 _ (by decide), wF_row (by decide), wF_row (by decide)]; exact b1 i hi
  · rw [q5.1 _ (by decide), wF_row (by decide), wF_row (by decide)]; exact b2 i hi
  · rw [q5.1 _ (by decide), wF_row (by decide), wF_row (by decide)]; exact b3 i hi
theorem upZ_b {f : Nat → Int} {lo hi : Int} (hf : ∀ j, j < n → lo ≤ f j ∧ f j ≤ hi) (hv : lo ≤ z ∧ z ≤ hi) : ∀ j, j < n → lo ≤ upZ f i z j ∧ upZ f i z j ≤ hi := fun j hj => by
  unfold upZ
  split
  · exact hv
  · exact hf j hj
theorem upZ_bk (f : Nat → Int) (v w : Int) (hw : w = f i) (j : Nat) : f j = upZ (upZ f i v) i w j := by
  unfold upZ
  by_cases e : j = i
  · rw [if_pos e, e, hw]
  · rw [if_neg e, if_neg e]
theorem wdg_ok (hk : SOk n s) (hz : -9 ≤ z ∧ z ≤ 9) : SOk n (wdgS s i z) := by
  obtain ⟨⟨t1, t2, t3, t4, t5⟩, k2, k3⟩ := hk
  exact ⟨⟨t1, t2, t3, fun j hj => ⟨(t4 j hj).1, upZ_b (n := n) (fun j hj => (t4 j hj).2.1) hz j hj, (t4 j hj).2.2⟩, t5⟩, k2, k3⟩
theorem saw_ok (hk : SOk n s) (hz : -9 ≤ z ∧ z ≤ 9) : SOk n (sawS s i z) := by
  obtain ⟨⟨t1, t2, t3, t4, t5⟩, k2, k3⟩ := hk
  exact ⟨⟨t1, t2, t3, fun j hj => ⟨(t4 j hj).1, (t4 j hj).2.1, upZ_b (n := n) (fun j hj => (t4 j hj).2.2) hz j hj⟩, t5⟩, k2, k3⟩
theorem c_67 (hG : Geo G SL p q) (h10 : n ≤ 10) (hi : i < n) (hz : -2147483648 ≤ z ∧ z < 2147483648) (hH : CHs 22 F A n k hs) (hS : CSt 27 F A n (hs k)) (hR : ¬ (-9 ≤ z ∧ z ≤ 9) → Q (.inl (some (.int (-99)))) (F, wF A 26 1 (A 26 1 + 1), J, G)) (hQ : (-9 ≤ z ∧ z ≤ 9) → ∀ F' A', CAct F A F' A' n k hs (wdgS (hs k) i z) → Q (.inl (some (.int (zI (sW (hs k) i))))) (F', A', J, G)) : X (d + 2) 67 0 [.ref 21, .int (zI (i : Int)), .int (zI z), .null] [] (F, A, J, G) Q := by
  have hH0 := hH
  obtain ⟨h1, h2, h3, h4⟩ := hH
  obtain ⟨⟨hw, f1, f2, b0, b1, b2, b3⟩, f3⟩ := hS
  have hk := h3 k (Nat.le_refl _)
  refine t_67n_0 hG ?_
  rw [show (-9 : Int32) = zI (-9) from rfl, show (9 : Int32) = zI 9 from rfl, zI_lt hz.1 hz.2 (by decide) (by decide), zI_lt (by decide) (by decide) hz.1 hz.2, zI_clamp (by omega), show A 30 i = zI (sW (hs k) i) from b2 i hi]
  refine ⟨fun e => c_63a hG (k_67n_17 hG (hR (by omega))), fun e => ⟨fun e1 => c_63a hG (k_67n_17 hG (hR (by omega))), fun e1 => ⟨zN_in (by omega) (by decide), c_73 hG h1 h2 (fun F2 A2 q1 q2 q3 q4 q5 => k_67n_49 hG ?_)⟩⟩⟩
  have hok : SOk n (wdgS (hs k) i z) := wdg_ok hk (by omega)
  obtain ⟨r, r0, r1, r2, r3, rr⟩ := row_of (a0 := 3) (a1 := (i : Int)) (a2 := sW (hs k) i) (a3 := 0) q5
  refine hQ (by omega) F2 A2 ⟨⟨fun i i1 i2 i3 i4 => q1 i i2 i3, ?_, q2, q3, fun i i1 i2 i3 => ?_⟩, CHs_push (r := r) hH0 hok q4 (fun c hc => ?_) rr ?_ ?_, CSt_of hok (SEq.rf _) ?_ ?_ ?_ (fun l hl => ?_) (fun j hj => ?_) (fun j hj => ?_) (fun j hj => ?_)⟩
  · rw [q1 18 (by decide) (by decide)]
  · rw [q5.1 i i2, wF_row (by omega)]
  · rw [q5.2.1 c hc, wF_row (by decide)]
  · exact ⟨by omega, fun e => by omega, fun e => by omega, fun e => by omega, fun _ => by omega⟩
  · unfold unS
    rw [if_neg (by omega), if_neg (by omega), if_neg (by omega), if_pos r0, r1, r2, show ((i : Int)).toNat = i from rfl]
    exact ⟨rfl, fun l hl => rfl, fun j _ => ⟨rfl, upZ_bk _ _ _ rfl j, rfl⟩, rfl, rfl⟩
  · rw [q1 27 (by decide) (by decide)]; exact f1
  · rw [q1 27 (by decide) (by decide)]; exact f2
  · rw [q1 27 (by decide) (by decide)]; exact f3
  · rw [q5.1 _ (by decide), wF_row (by decide)]; exact b0 l hl
  · rw [q5.1 _ (by decide), wF_row (by decide)]; exact b1 j hj
  · show A2 30 j = zI (upZ (sW (hs k)) i z j)
    rw [q5.1 _ (by decide), wF_at]
    unfold upZ
    by_cases e1 : j = i
    · rw [if_pos ⟨rfl, e1⟩, if_pos e1]
    · rw [if_neg (fun q => e1 q.2), if_neg e1]; exact b2 j hj
  · rw [q5.1 _ (by decide), wF_row (by decide)]; exact b3 j hj
theorem c_68 (hG : Geo G SL p q) (h10 : n ≤ 10) (hi : i < n) (hz : -2147483648 ≤ z ∧ z < 2147483648) (hH : CHs 22 F A n k hs) (hS : CSt 27 F A n (hs k)) (hR : ¬ (-9 ≤ z ∧ z ≤ 9) → Q (.inl (some (.int (-99)))) (F, wF A 26 1 (A 26 1 + 1), J, G)) (hQ : (-9 ≤ z ∧ z ≤ 9) → ∀ F' A', CAct F A F' A' n k hs (sawS (hs k) i z) → Q (.inl (some (.int (zI (sL (hs k) i))))) (F', A', J, G)) : X (d + 2) 68 0 [.ref 21, .int (zI (i : Int)), .int (zI z), .null] [] (F, A, J, G) Q := by
  have hH0 := hH
  obtain ⟨h1, h2, h3, h4⟩ := hH
  obtain ⟨⟨hw, f1, f2, b0, b1, b2, b3⟩, f3⟩ := hS
  have hk := h3 k (Nat.le_refl _)
  refine t_68n_0 hG ?_
  rw [show (-9 : Int32) = zI (-9) from rfl, show (9 : Int32) = zI 9 from rfl, zI_lt hz.1 hz.2 (by decide) (by decide), zI_lt (by decide) (by decide) hz.1 hz.2, zI_clamp (by omega), show A 31 i = zI (sL (hs k) i) from b3 i hi]
  refine ⟨fun e => c_63a hG (k_68n_17 hG (hR (by omega))), fun e => ⟨fun e1 => c_63a hG (k_68n_17 hG (hR (by omega))), fun e1 => ⟨zN_in (by omega) (by decide), c_73 hG h1 h2 (fun F2 A2 q1 q2 q3 q4 q5 => k_68n_49 hG ?_)⟩⟩⟩
  have hok : SOk n (sawS (hs k) i z) := saw_ok hk (by omega)
  obtain ⟨r, r0, r1, r2, r3, rr⟩ := row_of (a0 := 4) (a1 := (i : Int)) (a2 := sL (hs k) i) (a3 := 0) q5
  refine hQ (by omega) F2 A2 ⟨⟨fun i i1 i2 i3 i4 => q1 i i2 i3, ?_, q2, q3, fun i i1 i2 i3 => ?_⟩, CHs_push (r := r) hH0 hok q4 (fun c hc => ?_) rr ?_ ?_, CSt_of hok (SEq.rf _) ?_ ?_ ?_ (fun l hl => ?_) (fun j hj => ?_) (fun j hj => ?_) (fun j hj => ?_)⟩
  · rw [q1 18 (by decide) (by decide)]
  · rw [q5.1 i i2, wF_row (by omega)]
  · rw [q5.2.1 c hc, wF_row (by decide)]
  · exact ⟨by omega, fun e => by omega, fun e => by omega, fun e => by omega, fun _ => by omega⟩
  · unfold unS
    rw [if_neg (by omega), if_neg (by omega), if_neg (by omega), if_neg (by omega), if_pos r0, r1, r2, show ((i : Int)).toNat = i from rfl]
    exact ⟨rfl, fun l hl => rfl, fun j _ => ⟨rfl, rfl, upZ_bk _ _ _ rfl j⟩, rfl, rfl⟩
  · rw [q1 27 (by decide) (by decide)]; exact f1
  · rw [q1 27 (by decide) (by decide)]; exact f2
  · rw [q1 27 (by decide) (by decide)]; exact f3
  · rw [q5.1 _ (by decide), wF_row (by decide)]; exact b0 l hl
  · rw [q5.1 _ (by decide), wF_row (by decide)]; exact b1 j hj
  · rw [q5.1 _ (by decide), wF_row (by decide)]; exact b2 j hj
  · show A2 31 j = zI (upZ (sL (hs k)) i z j)
    rw [q5.1 _ (by decide), wF_at]
    unfold upZ
    by_cases e1 : j = i
    · rw [if_pos ⟨rfl, e1⟩, if_pos e1]
    · rw [if_neg (fun q => e1 q.2), if_neg e1]; exact b3 j hj
theorem yrs_ok (hk : SOk n s) (hz : 1 ≤ z) (h9 : sY s + z ≤ 999) : SOk n (yrsS s z) := by
  obtain ⟨⟨t1, t2, t3, t4, t5⟩, k2, k3⟩ := hk
  refine ⟨⟨t1, t2, t3, t4, ?_⟩, k2, h9⟩
  show 0 ≤ sY s + z ∧ sY s + z ≤ 1200
  omega
theorem c_70 (hG : Geo G SL p q) (hz : -2147483648 ≤ z ∧ z < 2147483648) (hH : CHs 22 F A n k hs) (hS : CSt 27 F A n (hs k)) (hR : ¬ (1 ≤ z ∧ z ≤ 30 ∧ sY (hs k) + z ≤ 999) → Q (.inl (some (.int (-1)))) (F, wF A 26 1 (A 26 1 + 1), J, G)) (hQ : (1 ≤ z ∧ z ≤ 30 ∧ sY (hs k) + z ≤ 999) → ∀ F' A', CAct F A F' A' n k hs (yrsS (hs k) z) → Q (.inl (some (.int (zI (sY (hs k) + z))))) (F', A', J, G)) : X (d + 2) 70 0 [.ref 21, .int (zI z)] [] (F, A, J, G) Q := by
  have hH0 := hH
  obtain ⟨h1, h2, h3, h4⟩ := hH
  obtain ⟨⟨hw, f1, f2, b0, b1, b2, b3⟩, f3⟩ := hS
  have hk := h3 k (Nat.le_refl _)
  have hy := hw.2.2.2.2
  refine t_70n_0 hG ?_
  rw [f2, show (1 : Int32) = zI 1 from rfl, show (30 : Int32) = zI 30 from rfl, show (999 : Int32) = zI 999 from rfl, zI_lt hz.1 hz.2 (by decide) (by decide), zI_lt (by decide) (by decide) hz.1 hz.2, zI_add]
  refine ⟨fun e => c_63a hG (k_70n_31 hG (hR (by omega))), fun e => ⟨fun e1 => c_63a hG (k_70n_31 hG (hR (by omega))), fun e1 => ?_⟩⟩
  rw [zI_lt (by omega) (by omega) (by omega) (by omega)]
  refine ⟨fun e2 => c_63a hG (k_70n_31 hG (hR (by omega))), fun e2 => c_73 hG h1 (by rw [wF_row (by decide)]; exact h2) (fun F2 A2 q1 q2 q3 q4 q5 => k_70n_54 hG ?_)⟩
  have hok : SOk n (yrsS (hs k) z) := yrs_ok hk (by omega) (by omega)
  obtain ⟨r, r0, r1, r2, r3, rr⟩ := row_of (a0 := 6) (a1 := z) (a2 := 0) (a3 := 0) q5
  have q27 : F2 27 = wF F 27 2 (zI (sY (hs k) + z)) 27 := q1 27 (by decide) (by decide)
  rw [show F2 27 2 = zI (sY (hs k) + z) by rw [q27, wF_same]]
  refine hQ (by omega) F2 A2 ⟨⟨fun i i1 i2 i3 i4 => ?_, ?_, fun c hc => ?_, q3, fun i i1 i2 i3 => q5.1 i i2⟩, CHs_push (r := r) hH0 hok q4 (fun c hc => q5.2.1 c hc) rr ?_ ?_, CSt_of hok (SEq.rf _) ?_ ?_ ?_ (fun l hl => ?_) (fun j hj => ?_) (fun j hj => ?_) (fun j hj => ?_)⟩
  · rw [q1 i i2 i3, wF_row i4]
  · rw [q1 18 (by decide) (by decide), wF_row (by decide)]
  · rw [q2 c hc, wF_row (by decide)]
  · exact ⟨by omega, fun e => by omega, fun e => by omega, fun e => by omega, fun e => by omega⟩
  · unfold unS
    rw [if_neg (by omega), if_neg (by omega), if_neg (by omega), if_neg (by omega), if_neg (by omega), if_neg (by omega), r1]
    refine ⟨rfl, fun l hl => rfl, fun j _ => ⟨rfl, rfl, rfl⟩, ?_, rfl⟩
    show sY (hs k) = sY (hs k) + z - z
    omega
  · rw [q27, wF_cell (by decide)]; exact f1
  · rw [q27, wF_same]; rfl
  · rw [q27, wF_cell (by decide)]; exact f3
  · rw [q5.1 _ (by decide)]; exact b0 l hl
  · rw [q5.1 _ (by decide)]; exact b1 j hj
  · rw [q5.1 _ (by decide)]; exact b2 j hj
  · rw [q5.1 _ (by decide)]; exact b3 j hj
theorem c_71 (hG : Geo G SL p q) (h10 : n ≤ 10) (hH : CHs 22 F A n k hs) (hS : CSt 27 F A n (hs k)) (hR : k = 0 → Q (.inl (some (.int (-1)))) (F, A, J, G)) (hQ : ∀ j, k = j + 1 → ∀ F' A', CFr F A F' A' → CHs 22 F' A' n j hs → CSt 27 F' A' n (hs j) → Q (.inl (some (.int (zI (j : Int))))) (F', A', J, G)) : X (d + 3) 71 0 [.ref 21] [] (F, A, J, G) Q := by
  cases k with
  | zero => exact t_71n_0 hG (c_4z hG (by rw [hH.2.1]; rfl) (k_71n_11 hG ⟨fun _ => hR rfl, fun e => absurd rfl e⟩))
  | succ j =>
    refine t_71n_0 hG (c_4 hG h10 hH hS (fun F2 A2 q1 q2 q3 q4 => k_71n_11 hG ⟨fun e => absurd e (by decide), fun _ => ?_⟩))
    rw [q3]
    refine hQ j rfl _ _ ⟨fun i i1 i2 i3 i4 => ?_, ?_, fun c hc => ?_, wF_same _ _ _ _, fun i i1 i2 i3 => q2 i i3⟩ ?_ ?_
    · rw [wF_row i2, q1 i i3 i4]
    · rw [wF_row (by decide), q1 18 (by decide) (by decide)]
    · rw [wF_cell hc, q1 21 (by decide) (by decide)]
    · obtain ⟨g1, g2, g3, g4⟩ := hH
      refine ⟨by omega, by rw [wF_row (by decide)]; exact q3, fun i hi => g3 i (by omega), fun i hi => ?_⟩
      rw [q2 (22 + 1) (by decide)]
      exact g4 i (by omega)
    · unfold CSt CTw at q4 ⊢
      rw [wF_row (by decide)]
      exact q4
theorem sup_ok {m : Nat → Int} {c : Int} (hk : SOk n s) (hm : ∀ i, i < n → 0 ≤ m i ∧ m i ≤ 999) : SOk n (supS s m c) := by
  obtain ⟨⟨t1, t2, t3, t4, t5⟩, k2, k3⟩ := hk
  exact ⟨⟨t1, t2, t3, fun j hj => ⟨⟨(hm j hj).1, by have := hm j hj; show m j ≤ 6000; omega⟩, (t4 j hj).2⟩, t5⟩, fun j hj => (hm j hj).2, k3⟩
theorem c_69 (hG : Geo G SL p q) (hT : CTn F A K n) (hR : CRl F A cd cl) (hx : 0 ≤ fd ∧ fd ≤ 999) (hH : CHs 22 F A n k hs) (hS : CSt 27 F A n (hs k)) (hQ : ∀ F' A', CAct F A F' A' n k hs (supS (hs k) (svZ K cd cl (sH (hs k)) (sO (hs k)) fd (sM (hs k)) (sH (hs k))) (lfZ K cd cl (sH (hs k)) (sO (hs k)) fd (sH (hs k)))) → Q (.inl (some (.int (zI (lfZ K cd cl (sH (hs k)) (sO (hs k)) fd (sH (hs k))))))) (F', A', J, G)) : X (d + 4) 69 0 [.ref 21, .int (zI fd)] [] (F, A, J, G) Q := by
  have hH0 := hH
  have h10 := hT.1.1
  obtain ⟨h1, h2, h3, h4⟩ := hH
  obtain ⟨⟨hw, f1, f2, b0, b1, b2, b3⟩, f3⟩ := hS
  have hk := h3 k (Nat.le_refl _)
  have hkN : 1 ≤ kN k ∧ kN k ≤ 40 := by unfold kN; split <;> omega
  refine t_69n_0 hG (t_3n_0 hG (c_2 hG h1 h2 (fun F1 A1 q1 q4 q5 => k_3n_11 hG ?_)))
  have ad : (F1 22 0 - 1) * 14 + 4 = zI ((14 * (kN k - 1) + 4 : Nat) : Int) := by rw [q4, show (1 : Int32) = zI 1 from rfl, zI_sub, show (14 : Int32) = zI 14 from rfl, zI_mul, show (4 : Int32) = zI 4 from rfl, zI_add, show ((kN k : Nat) : Int) - 1 = ((kN k - 1 : Nat) : Int) by omega, show ((kN k - 1 : Nat) : Int) * 14 + 4 = ((14 * (kN k - 1) + 4 : Nat) : Int) by omega]
  rw [ad, zI_clamp (n := 14 * (kN k - 1) + 4) (by omega), kap10, kap0, zI_lt0 (by omega)]
  refine ⟨⟨by decide, by omega, by decide, by omega, by omega⟩, k_69n_11 hG ?_⟩
  have hcA : ∀ i, i ≠ 23 → cpR A1 23 29 0 (14 * (kN k - 1) + 4) 10 i = A i := fun i hi => by
    unfold cpR va_up
    rw [if_neg hi]
    exact q5.1 i hi
  have hF1 : ∀ i, i ≠ 21 → i ≠ 22 → wF F1 21 6 1 i = F i := fun i i1 i2 => by rw [wF_row i1, q1 i i2]
  have hT1 : CTn (wF F1 21 6 1) (cpR A1 23 29 0 (14 * (kN k - 1) + 4) 10) K n := by
    unfold CTn at hT ⊢
    rw [hF1 12 (by decide) (by decide), hcA 13 (by decide), hcA 14 (by decide), hcA 15 (by decide), hcA 17 (by decide)]
    exact hT
  have hW1 : CTw 27 (wF F1 21 6 1) (cpR A1 23 29 0 (14 * (kN k - 1) + 4) 10) n (sH (hs k)) (sO (hs k)) (sM (hs k)) (sW (hs k)) (sL (hs k)) (sY (hs k)) := by
    refine ⟨hw, by rw [hF1 27 (by decide) (by decide)]; exact f1, by rw [hF1 27 (by decide) (by decide)]; exact f2, fun l hl => ?_, fun i hi => ?_, fun i hi => ?_, fun i hi => ?_⟩
    · rw [hcA _ (by decide)]; exact b0 l hl
    · rw [hcA _ (by decide)]; exact b1 i hi
    · rw [hcA _ (by decide)]; exact b2 i hi
    · rw [hcA _ (by decide)]; exact b3 i hi
  have hR1 : CRl (wF F1 21 6 1) (cpR A1 23 29 0 (14 * (kN k - 1) + 4) 10) cd cl := by
    unfold CRl at hR ⊢
    rw [hF1 18 (by decide) (by decide), hcA 19 (by decide)]
    exact hR
  refine c_90 hG (Or.inl rfl) hT1 hW1 hR1 hx (fun F2 A2 p1 p2 p3 p4 => k_69n_28 hG ?_)
  have hok : SOk n (supS (hs k) (svZ K cd cl (sH (hs k)) (sO (hs k)) fd (sM (hs k)) (sH (hs k))) (lfZ K cd cl (sH (hs k)) (sO (hs k)) fd (sH (hs k)))) := sup_ok hk (fun i hi => ⟨(sv_b (n := n) hx (fun i hi => (hw.2.2.2.1 i hi).1) _ i hi).1, sv_9 (n := n) hx hk.2.1 _ i hi⟩)
  obtain ⟨w1, w2, w3, w4, w5, w6, w7⟩ := p4
  have e23 : A2 23 = cpR A1 23 29 0 (14 * (kN k - 1) + 4) 10 23 := p3 23 (by decide) (by decide)
  have c23 : ∀ c, cpR A1 23 29 0 (14 * (kN k - 1) + 4) 10 23 c = if 14 * (kN k - 1) + 4 ≤ c ∧ c < 14 * (kN k - 1) + 4 + 10 then A1 29 (c - (14 * (kN k - 1) + 4)) else A1 23 c := fun c => by
    unfold cpR va_up va_cpy
    rw [if_pos rfl]
    by_cases e : 14 * (kN k - 1) + 4 ≤ c ∧ c < 14 * (kN k - 1) + 4 + 10
    · rw [if_pos e, if_pos e]
      congr 1
      omega
    · rw [if_neg e, if_neg e]
  have hrow : ∃ r : Nat → Int, r 0 = 5 ∧ r 1 = sC (hs k) ∧ (∀ i, i < n → r (4 + i) = sM (hs k) i) ∧ ∀ c, c < 14 → A2 23 (14 * (kN k - 1) + c) = zI (r c) := by
    refine ⟨fun c => if c = 0 then 5 else if c = 1 then sC (hs k) else if 4 ≤ c ∧ c < 4 + n then sM (hs k) (c - 4) else (A2 23 (14 * (kN k - 1) + c)).toInt, rfl, rfl, fun i hi => ?_, fun c hc => ?_⟩
    · show (if 4 + i = 0 then 5 else if 4 + i = 1 then sC (hs k) else if 4 ≤ 4 + i ∧ 4 + i < 4 + n then sM (hs k) (4 + i - 4) else _) = _
      rw [if_neg (by omega), if_neg (by omega), if_pos (by omega), show 4 + i - 4 = i by omega]
    · show _ = zI (if c = 0 then 5 else if c = 1 then sC (hs k) else if 4 ≤ c ∧ c < 4 + n then sM (hs k) (c - 4) else (A2 23 (14 * (kN k - 1) + c)).toInt)
      by_cases e0 : c = 0
      · subst e0
        rw [if_pos rfl, e23, c23, if_neg (by omega)]
        exact q5.2.2.1
      · rw [if_neg e0]
        by_cases e1 : c = 1
        · subst e1
          rw [if_pos rfl, e23, c23, if_neg (by omega)]
          exact q5.2.2.2.1.trans f3
        · rw [if_neg e1]
          by_cases e2 : 4 ≤ c ∧ c < 4 + n
          · rw [if_pos e2, e23, c23, if_pos (by omega), q5.1 29 (by decide), show 14 * (kN k - 1) + c - (14 * (kN k - 1) + 4) = c - 4 by omega]
            exact b1 (c - 4) (by omega)
          · rw [if_neg e2]; exact (Int32.ofInt_toInt _).symm
  obtain ⟨r, r0, r1, r4, rr⟩ := hrow
  refine hQ _ _ ⟨⟨fun i i1 i2 i3 i4 => ?_, ?_, fun c hc => ?_, ?_, fun i i1 i2 i3 => ?_⟩, CHs_push (r := r) hH0 hok ?_ (fun c hc => ?_) rr ?_ ?_, CSt_of hok (SEq.rf _) ?_ ?_ ?_ (fun l hl => ?_) (fun j hj => ?_) (fun j hj => ?_) (fun j hj => ?_)⟩
  · rw [wF_row i4, p1 i i1, hF1 i i2 i3]
  · rw [wF_row (by decide), p2, hF1 18 (by decide) (by decide)]
  · rw [wF_row (by decide), p1 21 (by decide), wF_cell hc, q1 21 (by decide)]
  · rw [wF_row (by decide), p1 21 (by decide), wF_same]
  · rw [p3 i i1 (by omega), hcA i i2]
  · rw [wF_row (by decide), p1 22 (by decide), wF_row (by decide), q4]
  · rw [e23, c23, if_neg (by omega)]
    exact q5.2.1 c hc
  · exact ⟨by omega, fun e => by omega, fun e => by omega, fun e => by omega, fun e => by omega⟩
  · unfold unS
    rw [if_neg (by omega), if_neg (by omega), if_neg (by omega), if_neg (by omega), if_neg (by omega), if_pos r0, r1]
    exact ⟨rfl, fun l hl => rfl, fun j hj => ⟨(r4 j hj).symm, rfl, rfl⟩, rfl, rfl⟩
  · rw [wF_cell (by decide)]; exact w2
  · rw [wF_cell (by decide)]; exact w3
  · rw [wF_same]; rfl
  · exact w4 l hl
  · exact w5 j hj
  · exact w6 j hj
  · exact w7 j hj
end HistD
