/-! the class acts -/
section HistC
def putS (s : Sn) (i a : Nat) : Sn := mS (sH s + 1) (insO (sO s) i a) (sM s) (sW s) (sL s) (sY s) (sC s)
def takS (s : Sn) (i l : Nat) : Sn := mS (sH s - 1) (remO (sO s) l) (upZ (sM s) i 0) (sW s) (sL s) (sY s) (sC s)
def chaS (s : Sn) (a b : Nat) : Sn := mS (sH s) (swpO (sO s) a b) (sM s) (sW s) (sL s) (sY s) (sC s)
def wdgS (s : Sn) (i : Nat) (v : Int) : Sn := mS (sH s) (sO s) (sM s) (upZ (sW s) i v) (sL s) (sY s) (sC s)
def sawS (s : Sn) (i : Nat) (v : Int) : Sn := mS (sH s) (sO s) (sM s) (sW s) (upZ (sL s) i v) (sY s) (sC s)
def supS (s : Sn) (m : Nat → Int) (c : Int) : Sn := mS (sH s) (sO s) m (sW s) (sL s) (sY s) c
def yrsS (s : Sn) (z : Int) : Sn := mS (sH s) (sO s) (sM s) (sW s) (sL s) (sY s + z) (sC s)
def CFr (F A F' A' : Nat → Nat → Int32) : Prop := (∀ i, i ≠ 18 → i ≠ 21 → i ≠ 22 → i ≠ 27 → F' i = F i) ∧ F' 18 1 = F 18 1 ∧ (∀ c, c ≠ 6 → F' 21 c = F 21 c) ∧ F' 21 6 = 1 ∧ (∀ i, i ≠ 20 → i ≠ 23 → (i < 28 ∨ 31 < i) → A' i = A i)
def CAct (F A F' A' : Nat → Nat → Int32) (n k : Nat) (hs : Nat → Sn) (s' : Sn) : Prop := CFr F A F' A' ∧ CHs 22 F' A' n (kN k) (puH k hs s') ∧ CSt 27 F' A' n s'
variable {d : Nat} {F A F' A' F'' A'' : Nat → Nat → Int32} {J : Nat → Nat → Int64} {G : pG} {Q : pR → pM → Prop} {SL p q t k n h i a b : Nat} {s s' u : Sn} {hs : Nat → Sn} {r : Nat → Int} {x1 x2 x3 x4 : Int32} {ord : Nat → Nat} {z : Int} {ml : Nat → Int}
theorem c_63 (hG : Geo G SL p q) {j : Nat} (hj : j < 3) (hQ : Q (.inl (some (.int (-1)))) (F, wF A 26 j (A 26 j + 1), J, G)) : X d 63 0 [.ref 21, .int (zI (j : Int))] [] (F, A, J, G) Q := by
  refine t_63_0 hG ?_
  rw [zI_clamp (by omega)]
  exact ⟨zN_in (by omega) (by decide), hQ⟩
theorem c_63a (hG : Geo G SL p q) (hQ : Q (.inl (some (.int (-1)))) (F, wF A 26 1 (A 26 1 + 1), J, G)) : X d 63 0 [.ref 21, .int 1] [] (F, A, J, G) Q := c_63 (j := 1) hG (by decide) hQ
theorem put_un {i a : Nat} (ha : a ≤ sH s) : SEq n s (mS (sH (putS s i a) - 1) (remO (sO (putS s i a)) a) (sM (putS s i a)) (sW (putS s i a)) (sL (putS s i a)) (sY (putS s i a)) (sC (putS s i a))) := by
  refine ⟨?_, fun l hl => ?_, fun _ _ => ⟨rfl, rfl, rfl⟩, rfl, rfl⟩
  · show sH s = sH s + 1 - 1
    omega
  · show sO s l = remO (insO (sO s) i a) a l
    unfold remO insO
    by_cases e : l < a
    · rw [if_pos e, if_pos e]
    · rw [if_neg e, if_neg (by omega), if_neg (by omega)]; rfl
theorem lv_not {i : Nat} (hl : lvZ ord h (i : Int) = -1) : ∀ l, l < h → ord l ≠ i := fun l h1 h2 => by
  have := (lvZ_none (ord := ord) (h := h) (i := i)).1 hl
  have h3 := (bst_bit ord i h).2 ⟨l, h1, h2⟩
  rw [this] at h3
  exact absurd h3 (by decide)
/-- a table is put on -/
theorem c_64 (hG : Geo G SL p q) (h10 : n ≤ 10) (hi : i < n) (hz : -2147483648 ≤ z ∧ z < 2147483648) (hH : CHs 22 F A n k hs) (hS : CSt 27 F A n (hs k)) (hR : (lvZ (sO (hs k)) (sH (hs k)) (i : Int) ≠ -1 ∨ z < 0 ∨ sH (hs k) < z) → Q (.inl (some (.int (-1)))) (F, wF A 26 1 (A 26 1 + 1), J, G)) (hQ : ∀ a : Nat, z = (a : Int) → a ≤ sH (hs k) → lvZ (sO (hs k)) (sH (hs k)) (i : Int) = -1 → ∀ F' A', CAct F A F' A' n k hs (putS (hs k) i a) → Q (.inl (some (.int (zI ((sH (hs k) + 1 : Nat) : Int))))) (F', A', J, G)) : X (d + 2) 64 0 [.ref 21, .int (zI (i : Int)), .int (zI z)] [] (F, A, J, G) Q := by
  have hH0 := hH
  obtain ⟨h1, h2, h3, h4⟩ := hH
  obtain ⟨⟨hw, f1, f2, b0, b1, b2, b3⟩, f3⟩ := hS
  have hn := hw.1
  have hk := h3 k (Nat.le_refl _)
  have lv : lvI (A 28) (F 27 1) (zI (i : Int)) = zI (lvZ (sO (hs k)) (sH (hs k)) (i : Int)) := by rw [f1]; exact lv_z (by omega) (by omega) (by omega) b0 (fun l hl => by have := hw.2.1 l hl; omega)
  have lb := lvZ_b (ord := sO (hs k)) (h := sH (hs k)) (z := (i : Int))
  refine t_64n_0 hG ?_
  rw [lv, f1, hB_z (by omega), zI_eqm (by omega), zI_lt0 hz, zI_lt (by omega) (by omega) hz.1 hz.2]
  refine ⟨rfl, fun e => ⟨fun e1 => c_63a hG (k_64n_32 hG (hR (Or.inr (Or.inl e1)))), fun e1 => ⟨fun e2 => c_63a hG (k_64n_32 hG (hR (Or.inr (Or.inr e2)))), fun e2 => ?_⟩⟩, fun e => c_63a hG (k_64n_32 hG (hR (Or.inl e)))⟩
  obtain ⟨a, ha, ea⟩ := zI_at (m := sH (hs k) + 1) (z := z) (by omega)
  have hlt : sH (hs k) < n := inj_lt hw.2.1 hw.2.2.1 hi (lv_not e)
  have hok : SOk n (putS (hs k) i a) := ⟨ins_ok (by omega) hi (by omega) (lv_not e) hw, hk.2.1, hk.2.2⟩
  have hQ1 := hQ a ea (by omega) e
  rw [ea]
  refine c_79 hG (Or.inl rfl) (h := sH (hs k)) (by omega) f1 (by omega) (fun A1 g1 g2 => k_64n_42 hG (c_73 hG h1 (by rw [wF_row (by decide)]; exact h2) (fun F2 A2 q1 q2 q3 q4 q5 => k_64n_50 hG ?_)))
  have q27 : F2 27 = wF F 27 1 (zI ((sH (hs k) + 1 : Nat) : Int)) 27 := q1 27 (by decide) (by decide)
  rw [show F2 27 1 = zI ((sH (hs k) + 1 : Nat) : Int) by rw [q27, wF_same]]
  obtain ⟨r, r0, r1, r2, r3, rr⟩ := row_of (a0 := 0) (a1 := (a : Int)) (a2 := 0) (a3 := 0) q5
  refine hQ1 F2 A2 ⟨⟨fun i i1 i2 i3 i4 => ?_, ?_, fun c hc => ?_, q3, fun i i1 i2 i3 => ?_⟩, CHs_push (r := r) hH0 hok q4 (fun c hc => ?_) rr ?_ ?_, CSt_of hok (SEq.rf _) ?_ ?_ ?_ (fun l hl => ?_) (fun i hi => ?_) (fun i hi => ?_) (fun i hi => ?_)⟩
  · rw [q1 i i2 i3, wF_row i4]
  · rw [q1 18 (by decide) (by decide), wF_row (by decide)]
  · rw [q2 c hc, wF_row (by decide)]
  · rw [q5.1 i i2, g1 i (by omega)]
  · rw [q5.2.1 c hc, g1 23 (by decide)]
  · refine ⟨by omega, fun _ => ⟨by omega, ?_⟩, fun e => by omega, fun e => by omega, fun e => by omega⟩
    show r 1 < ((sH (hs k) + 1 : Nat) : Int)
    omega
  · unfold unS
    rw [if_pos r0, r1, show ((a : Int)).toNat = a from rfl]
    exact put_un (by omega)
  · rw [q27, wF_same]; rfl
  · rw [q27, wF_cell (by decide)]; exact f2
  · rw [q27, wF_cell (by decide)]; exact f3
  · have hl' : l < sH (hs k) + 1 := hl
    rw [q5.1 _ (by decide), g2 l hl']
    show _ = zI ((insO (sO (hs k)) _ a l : Nat) : Int)
    unfold insO
    by_cases e1 : l < a
    · rw [if_pos e1, if_pos e1]; exact b0 l (by omega)
    · rw [if_neg e1, if_neg e1]
      by_cases e2 : l = a
      · rw [if_pos e2, if_pos e2]
      · rw [if_neg e2, if_neg e2]; exact b0 (l - 1) (by omega)
  · rw [q5.1 _ (by decide), g1 _ (by decide)]; exact b1 i hi
  · rw [q5.1 _ (by decide), g1 _ (by decide)]; exact b2 i hi
  · rw [q5.1 _ (by decide), g1 _ (by decide)]; exact b3 i hi
theorem lvz_at' {l : Nat} (hl : lvZ ord h (i : Int) = (l : Int)) : l < h ∧ ord l = i := by
  have := (fsB_some (p := fun l => decide ((ord l : Int) = (i : Int))) h 0 l).1 hl
  have h3 := of_decide_eq_true this.2.2.1
  exact ⟨by omega, by omega⟩
theorem tak_un {i l : Nat} (hl : l < sH s) (he : sO s l = i) : SEq n s (mS (sH (takS s i l) + 1) (insO (sO (takS s i l)) i l) (upZ (sM (takS s i l)) i (sM s i)) (sW (takS s i l)) (sL (takS s i l)) (sY (takS s i l)) (sC (takS s i l))) := by
  refine ⟨?_, fun j hj => ?_, fun j _ => ⟨?_, rfl, rfl⟩, rfl, rfl⟩
  · show sH s = sH s - 1 + 1
    omega
  · show sO s j = if j < l then remO (sO s) l j else if j = l then i else remO (sO s) l (j - 1)
    by_cases e : j < l
    · rw [if_pos e]; unfold remO; rw [if_pos e]
    · rw [if_neg e]
      by_cases e2 : j = l
      · rw [if_pos e2, e2, he]
      · rw [if_neg e2]; unfold remO; rw [if_neg (by omega), show j - 1 + 1 = j by omega]
  · show sM s j = upZ (upZ (sM s) i 0) i (sM s i) j
    unfold upZ
    by_cases e : j = i
    · rw [if_pos e, e]
    · rw [if_neg e, if_neg e]
/-- a table is taken -/
theorem c_65 (hG : Geo G SL p q) (h10 : n ≤ 10) (hi : i < n) (hH : CHs 22 F A n k hs) (hS : CSt 27 F A n (hs k)) (hR : lvZ (sO (hs k)) (sH (hs k)) (i : Int) = -1 → Q (.inl (some (.int (-1)))) (F, wF A 26 1 (A 26 1 + 1), J, G)) (hQ : ∀ l : Nat, lvZ (sO (hs k)) (sH (hs k)) (i : Int) = (l : Int) → ∀ F' A', CAct F A F' A' n k hs (takS (hs k) i l) → Q (.inl (some (.int (zI (l : Int))))) (F', A', J, G)) : X (d + 2) 65 0 [.ref 21, .int (zI (i : Int)), .null] [] (F, A, J, G) Q := by
  have hH0 := hH
  obtain ⟨h1, h2, h3, h4⟩ := hH
  obtain ⟨⟨hw, f1, f2, b0, b1, b2, b3⟩, f3⟩ := hS
  have hn := hw.1
  have hk := h3 k (Nat.le_refl _)
  have lv : lvI (A 28) (F 27 1) (zI (i : Int)) = zI (lvZ (sO (hs k)) (sH (hs k)) (i : Int)) := by rw [f1]; exact lv_z (by omega) (by omega) (by omega) b0 (fun l hl => by have := hw.2.1 l hl; omega)
  have lb := lvZ_b (ord := sO (hs k)) (h := sH (hs k)) (z := (i : Int))
  refine t_65n_0 hG ?_
  rw [lv, f1, hB_z (by omega), zI_eqm (by omega)]
  refine ⟨rfl, fun e => c_63a hG (k_65n_19 hG (hR e)), fun e => ⟨zN_in (by omega) (by decide), ?_⟩⟩
  obtain ⟨l, hl0, el⟩ := zI_at (m := sH (hs k)) (z := lvZ (sO (hs k)) (sH (hs k)) (i : Int)) (by omega)
  obtain ⟨hl, hol⟩ := lvz_at' el
  have hm := hw.2.2.2.1 i hi
  have hok : SOk n (takS (hs k) i l) := by
    have hr := rem_ok (a := l) hl hw
    refine ⟨⟨hr.1, hr.2.1, hr.2.2.1, fun j hj => ⟨?_, (hw.2.2.2.1 j hj).2⟩, hr.2.2.2.2⟩, fun j hj => ?_, hk.2.2⟩
    · show 0 ≤ upZ (sM (hs k)) i 0 j ∧ upZ (sM (hs k)) i 0 j ≤ 6000
      unfold upZ
      split
      · exact ⟨by decide, by decide⟩
      · exact (hw.2.2.2.1 j hj).1
    · show upZ (sM (hs k)) i 0 j ≤ 999
      unfold upZ
      split
      · decide
      · exact hk.2.1 j hj
  have hQ1 := hQ l el
  rw [el, zI_clamp (by omega), show A 29 i = zI (sM (hs k) i) from b1 i hi]
  refine c_73 hG h1 h2 (fun F2 A2 q1 q2 q3 q4 q5 => k_65n_36 hG (c_80 hG (Or.inl rfl) (h := sH (hs k)) (ord := sO (hs k)) (by omega) (by rw [q1 27 (by decide) (by decide)]; exact f1) (fun l hl => by rw [q5.1 _ (by decide)]; exact b0 l hl) hl (fun A3 g1 g2 => k_65n_44 hG ?_)))
  rw [zI_clamp (by omega)]
  obtain ⟨r, r0, r1, r2, r3, rr⟩ := row_of (a0 := 1) (a1 := (i : Int)) (a2 := (l : Int)) (a3 := sM (hs k) i) q5
  have hA23 : wF A3 29 i 0 23 = A2 23 := by rw [wF_row (by decide), g1 23 (by decide)]
  refine ⟨zN_in (by omega) (by decide), hQ1 _ _ ⟨⟨fun i i1 i2 i3 i4 => ?_, ?_, fun c hc => ?_, ?_, fun i i1 i2 i3 => ?_⟩, CHs_push (r := r) hH0 hok ?_ (fun c hc => ?_) (fun c hc => ?_) ?_ ?_, CSt_of hok (SEq.rf _) ?_ ?_ ?_ (fun l hl => ?_) (fun j hj => ?_) (fun i hi => ?_) (fun i hi => ?_)⟩⟩
  · rw [wF_row i4, q1 i i2 i3]
  · rw [wF_row (by decide), q1 18 (by decide) (by decide)]
  · rw [wF_row (by decide), q2 c hc]
  · rw [wF_row (by decide), q3]
  · rw [wF_row (by omega), g1 i (by omega), q5.1 i i2]
  · rw [wF_row (by decide), q4]
  · rw [hA23, q5.2.1 c hc]
  · rw [hA23]; exact rr c hc
  · refine ⟨by omega, fun e => by omega, fun _ => ⟨by omega, ⟨by omega, ?_⟩, ?_⟩, fun e => by omega, fun e => by omega⟩
    · show r 2 ≤ ((sH (hs k) - 1 : Nat) : Int)
      omega
    · show sH (hs k) - 1 < n
      omega
  · unfold unS
    rw [if_neg (by omega), if_pos r0, r1, r2, r3, show ((l : Int)).toNat = l from rfl, show ((i : Int)).toNat = i from rfl]
    exact tak_un hl hol
  · rw [wF_same]; rfl
  · rw [wF_cell (by decide), q1 27 (by decide) (by decide)]; exact f2
  · rw [wF_cell (by decide), q1 27 (by decide) (by decide)]; exact f3
  · rw [wF_row (by decide)]; exact g2 l hl
  · show wF A3 29 i 0 29 j = zI (upZ (sM (hs k)) i 0 j)
    rw [wF_at]
    unfold upZ
    by_cases e1 : j = i
    · rw [if_pos ⟨rfl, e1⟩, if_pos e1]; rfl
    · rw [if_neg (fun q => e1 q.2), if_neg e1, g1 _ (by decide), q5.1 _ (by decide)]; exact b1 j hj
  · rw [wF_row (by decide), g1 _ (by decide), q5.1 _ (by decide)]; exact b2 i hi
  · rw [wF_row (by decide), g1 _ (by decide), q5.1 _ (by decide)]; exact b3 i hi
end HistC
