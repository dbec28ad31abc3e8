/-! what is kept of the acts: as snapshots -/
section HistA
def Sn : Type := Nat × (Nat → Nat) × (Nat → Int) × (Nat → Int) × (Nat → Int) × Int × Int
def mS (h : Nat) (o : Nat → Nat) (m w l : Nat → Int) (y c : Int) : Sn := (h, o, m, w, l, y, c)
def sH (s : Sn) : Nat := s.1
def sO (s : Sn) : Nat → Nat := s.2.1
def sM (s : Sn) : Nat → Int := s.2.2.1
def sW (s : Sn) : Nat → Int := s.2.2.2.1
def sL (s : Sn) : Nat → Int := s.2.2.2.2.1
def sY (s : Sn) : Int := s.2.2.2.2.2.1
def sC (s : Sn) : Int := s.2.2.2.2.2.2
def SOk (n : Nat) (s : Sn) : Prop := TwOk n (sH s) (sO s) (sM s) (sW s) (sL s) (sY s) ∧ (∀ i, i < n → sM s i ≤ 999) ∧ sY s ≤ 999
def SEq (n : Nat) (s s' : Sn) : Prop := sH s = sH s' ∧ (∀ l, l < sH s → sO s l = sO s' l) ∧ (∀ i, i < n → sM s i = sM s' i ∧ sW s i = sW s' i ∧ sL s i = sL s' i) ∧ sY s = sY s' ∧ sC s = sC s'
def CSt (t : Nat) (F A : Nat → Nat → Int32) (n : Nat) (s : Sn) : Prop := CTw t F A n (sH s) (sO s) (sM s) (sW s) (sL s) (sY s) ∧ F t 3 = zI (sC s)
def MSt (F A : Nat → Nat → Int32) (n : Nat) (s : Sn) : Prop := MTw F A n (sH s) (sO s) (sM s) (sW s) (sL s) (sY s) ∧ F 68 30 = zI (sC s)
/-- a row of the class undoes so -/
def unS (r : Nat → Int) (s : Sn) : Sn :=
  if r 0 = 0 then mS (sH s - 1) (remO (sO s) (r 1).toNat) (sM s) (sW s) (sL s) (sY s) (sC s)
  else if r 0 = 1 then mS (sH s + 1) (insO (sO s) (r 1).toNat (r 2).toNat) (upZ (sM s) (r 1).toNat (r 3)) (sW s) (sL s) (sY s) (sC s)
  else if r 0 = 2 then mS (sH s) (swpO (sO s) (r 1).toNat (r 2).toNat) (sM s) (sW s) (sL s) (sY s) (sC s)
  else if r 0 = 3 then mS (sH s) (sO s) (sM s) (upZ (sW s) (r 1).toNat (r 2)) (sL s) (sY s) (sC s)
  else if r 0 = 4 then mS (sH s) (sO s) (sM s) (sW s) (upZ (sL s) (r 1).toNat (r 2)) (sY s) (sC s)
  else if r 0 = 5 then mS (sH s) (sO s) (fun i => r (4 + i)) (sW s) (sL s) (sY s) (r 1)
  else mS (sH s) (sO s) (sM s) (sW s) (sL s) (sY s - r 1) (sC s)
def UOk (n : Nat) (r : Nat → Int) (s : Sn) : Prop := (0 ≤ r 0 ∧ r 0 ≤ 6) ∧ (r 0 = 0 → 0 ≤ r 1 ∧ r 1 < sH s) ∧ (r 0 = 1 → (0 ≤ r 1 ∧ r 1 < n) ∧ (0 ≤ r 2 ∧ r 2 ≤ sH s) ∧ sH s < n) ∧ (r 0 = 2 → (0 ≤ r 1 ∧ r 1 < sH s) ∧ (0 ≤ r 2 ∧ r 2 < sH s)) ∧ (r 0 = 3 ∨ r 0 = 4 → 0 ≤ r 1 ∧ r 1 < n)
def CHs (o : Nat) (F A : Nat → Nat → Int32) (n k : Nat) (hs : Nat → Sn) : Prop := k ≤ 40 ∧ F o 0 = zI (k : Int) ∧ (∀ j, j ≤ k → SOk n (hs j)) ∧ ∀ j, j < k → ∃ r : Nat → Int, (∀ c, c < 14 → A (o + 1) (14 * j + c) = zI (r c)) ∧ UOk n r (hs (j + 1)) ∧ SEq n (hs j) (unS r (hs (j + 1)))
def MHr (row : Nat → Int32) (b n : Nat) (s : Sn) : Prop := row b = zI (sH s : Int) ∧ row (b + 1) = zI (sY s) ∧ row (b + 2) = zI (sC s) ∧ (∀ l, l < sH s → row (b + 3 + l) = zI (sO s l : Int)) ∧ ∀ i, i < n → row (b + 13 + i) = zI (sM s i) ∧ row (b + 23 + i) = zI (sW s i) ∧ row (b + 33 + i) = zI (sL s i)
def MHs (row : Nat → Int32) (n k : Nat) (hs : Nat → Sn) : Prop := k ≤ 40 ∧ (∀ j, j ≤ k → SOk n (hs j)) ∧ ∀ j, j < k → MHr row (43 * j) n (hs j)
variable {d : Nat} {F A F' A' : Nat → Nat → Int32} {J : Nat → Nat → Int64} {G : pG} {Q : pR → pM → Prop} {SL p q t k n : Nat} {s s' u : Sn} {hs : Nat → Sn} {r : Nat → Int}
theorem SEq.sy (h : SEq n s s') : SEq n s' s := ⟨h.1.symm, fun l hl => (h.2.1 l (by rw [h.1]; exact hl)).symm, fun i hi => ⟨(h.2.2.1 i hi).1.symm, (h.2.2.1 i hi).2.1.symm, (h.2.2.1 i hi).2.2.symm⟩, h.2.2.2.1.symm, h.2.2.2.2.symm⟩
theorem SEq.rf (s : Sn) : SEq n s s := ⟨rfl, fun _ _ => rfl, fun _ _ => ⟨rfl, rfl, rfl⟩, rfl, rfl⟩
theorem CSt_of (hk : SOk n s') (he : SEq n s' u) (f1 : F t 1 = zI (sH u : Int)) (f2 : F t 2 = zI (sY u)) (f3 : F t 3 = zI (sC u)) (b0 : ∀ l, l < sH u → A (t + 1) l = zI (sO u l : Int)) (b1 : ∀ i, i < n → A (t + 2) i = zI (sM u i)) (b2 : ∀ i, i < n → A (t + 3) i = zI (sW u i)) (b3 : ∀ i, i < n → A (t + 4) i = zI (sL u i)) : CSt t F A n s' := by
  obtain ⟨e1, e2, e3, e4, e5⟩ := he
  refine ⟨⟨hk.1, by rw [e1]; exact f1, by rw [e4]; exact f2, fun l hl => ?_, fun i hi => ?_, fun i hi => ?_, fun i hi => ?_⟩, by rw [e5]; exact f3⟩
  · rw [e2 l hl]; exact b0 l (by rw [← e1]; exact hl)
  · rw [(e3 i hi).1]; exact b1 i hi
  · rw [(e3 i hi).2.1]; exact b2 i hi
  · rw [(e3 i hi).2.2]; exact b3 i hi
theorem MSt_of (hk : SOk n s') (he : SEq n s' u) (f1 : F 68 28 = zI (sH u : Int)) (f2 : F 68 29 = zI (sY u)) (f3 : F 68 30 = zI (sC u)) (b0 : ∀ l, l < sH u → A 81 l = zI (sO u l : Int)) (b1 : ∀ i, i < n → A 82 i = zI (sM u i)) (b2 : ∀ i, i < n → A 83 i = zI (sW u i)) (b3 : ∀ i, i < n → A 84 i = zI (sL u i)) : MSt F A n s' := by
  obtain ⟨e1, e2, e3, e4, e5⟩ := he
  refine ⟨⟨hk.1, by rw [e1]; exact f1, by rw [e4]; exact f2, fun l hl => ?_, fun i hi => ?_, fun i hi => ?_, fun i hi => ?_⟩, by rw [e5]; exact f3⟩
  · rw [e2 l hl]; exact b0 l (by rw [← e1]; exact hl)
  · rw [(e3 i hi).1]; exact b1 i hi
  · rw [(e3 i hi).2.1]; exact b2 i hi
  · rw [(e3 i hi).2.2]; exact b3 i hi
theorem zI_at {z : Int} {m : Nat} (h : 0 ≤ z ∧ z < m) : ∃ a : Nat, a < m ∧ z = (a : Int) := ⟨z.toNat, by omega, by omega⟩
theorem kap10 : (10 : Int32).toNatClampNeg = 10 := rfl
theorem kap0 : (0 : Int32).toNatClampNeg = 0 := rfl
/-- the last act is undone -/
theorem c_4 (hG : Geo G SL p q) (h10 : n ≤ 10) (hH : CHs 22 F A n (k + 1) hs) (hS : CSt 27 F A n (hs (k + 1))) (hQ : ∀ F' A', (∀ i, i ≠ 22 → i ≠ 27 → F' i = F i) → (∀ i, (i < 28 ∨ 31 < i) → A' i = A i) → F' 22 0 = zI (k : Int) → CSt 27 F' A' n (hs k) → Q (.inl (some (.int 1))) (F', A', J, G)) : X (d + 2) 4 0 [.ref 22, .ref 27, .null, .null, .null] [] (F, A, J, G) Q := by
  obtain ⟨h1, h2, h3, h4⟩ := hH
  obtain ⟨r, hr, hu, he⟩ := h4 k (by omega)
  have hk := h3 k (by omega)
  have hk1 := h3 (k + 1) (by omega)
  obtain ⟨⟨hw, f1, f2, b0, b1, b2, b3⟩, f3⟩ := hS
  have hn := hw.1
  have fm : F 22 0 - 1 = zI (k : Int) := by rw [h2, zZ_s1, show ((k + 1 : Nat) : Int) - 1 = (k : Int) by omega]
  have ad : (F 22 0 - 1) * 14 = zI ((14 * k : Nat) : Int) := by rw [fm, show (14 : Int32) = zI 14 from rfl, zI_mul, show (k : Int) * 14 = ((14 * k : Nat) : Int) by omega]
  have a1 : zI ((14 * k : Nat) : Int) + 1 = zI ((14 * k + 1 : Nat) : Int) := by rw [show (1 : Int32) = zI ((1 : Nat) : Int) from rfl, zN_add]
  have a2 : zI ((14 * k : Nat) : Int) + 2 = zI ((14 * k + 2 : Nat) : Int) := by rw [show (2 : Int32) = zI ((2 : Nat) : Int) from rfl, zN_add]
  have a3 : zI ((14 * k : Nat) : Int) + 3 = zI ((14 * k + 3 : Nat) : Int) := by rw [show (3 : Int32) = zI ((3 : Nat) : Int) from rfl, zN_add]
  have a4 : zI ((14 * k : Nat) : Int) + 4 = zI ((14 * k + 4 : Nat) : Int) := by rw [show (4 : Int32) = zI ((4 : Nat) : Int) from rfl, zN_add]
  have r0 : A 23 (14 * k) = zI (r 0) := hr 0 (by omega)
  have r1 : A 23 (14 * k + 1) = zI (r 1) := hr 1 (by omega)
  have r2 : A 23 (14 * k + 2) = zI (r 2) := hr 2 (by omega)
  have r3 : A 23 (14 * k + 3) = zI (r 3) := hr 3 (by omega)
  obtain ⟨u0, u1, u2, u3, u4⟩ := hu
  have hF0 : ∀ i, i ≠ 22 → wF F 22 0 (zI (k : Int)) i = F i := fun i hi => wF_row hi
  refine t_4n_0 hG ?_
  rw [ad, fm, a1, a2, a3, zI_clamp (n := 14 * k) (by omega), zI_clamp (n := 14 * k + 1) (by omega), zI_clamp (n := 14 * k + 2) (by omega), zI_clamp (n := 14 * k + 3) (by omega), r0, r1, r2, r3]
  refine ⟨fun _ => ⟨zN_in (by omega) (by decide), zN_in (by omega) (by decide), zN_in (by omega) (by decide), fun e => ?_, fun e => ⟨zN_in (by omega) (by decide), ?_⟩, fun e => ?_, fun e => ?_, fun e => ?_, fun e => ?_, fun e => ?_⟩, fun e => ?_⟩
  · rw [zI_eq0 (by omega)] at e
    obtain ⟨a, ha, ea⟩ := zI_at (u1 e)
    have eu : unS r (hs (k + 1)) = mS (sH (hs (k + 1)) - 1) (remO (sO (hs (k + 1))) (r 1).toNat) (sM (hs (k + 1))) (sW (hs (k + 1))) (sL (hs (k + 1))) (sY (hs (k + 1))) (sC (hs (k + 1))) := by unfold unS; rw [if_pos e]
    rw [eu, ea, show ((a : Int)).toNat = a from rfl] at he
    rw [ea]
    refine c_80 hG (Or.inl rfl) (by omega) (by rw [hF0 27 (by decide)]; exact f1) b0 ha (fun A1 g1 g2 => k_4n_97 hG (hQ _ _ (fun i i1 i2 => ?_) (fun i hi => g1 i (by omega)) ?_ (CSt_of hk he ?_ ?_ ?_ g2 (fun i hi => ?_) (fun i hi => ?_) (fun i hi => ?_))))
    · rw [wF_row i2, wF_row i1]
    · rw [wF_row (by decide), wF_same]
    · rw [wF_same]; rfl
    · rw [wF_cell (by decide), hF0 27 (by decide)]; exact f2
    · rw [wF_cell (by decide), hF0 27 (by decide)]; exact f3
    · rw [g1 _ (by decide)]; exact b1 i hi
    · rw [g1 _ (by decide)]; exact b2 i hi
    · rw [g1 _ (by decide)]; exact b3 i hi
  · rw [zI_eq1 (by omega)] at e
    obtain ⟨v1, v2, v3⟩ := u2 e
    obtain ⟨i0, hi0, ei⟩ := zI_at v1
    obtain ⟨a, ha, ea⟩ := zI_at (m := sH (hs (k + 1)) + 1) (z := r 2) (by omega)
    have eu : unS r (hs (k + 1)) = mS (sH (hs (k + 1)) + 1) (insO (sO (hs (k + 1))) (r 1).toNat (r 2).toNat) (upZ (sM (hs (k + 1))) (r 1).toNat (r 3)) (sW (hs (k + 1))) (sL (hs (k + 1))) (sY (hs (k + 1))) (sC (hs (k + 1))) := by unfold unS; rw [if_neg (by omega), if_pos e]
    rw [eu, ei, ea, show ((a : Int)).toNat = a from rfl, show ((i0 : Int)).toNat = i0 from rfl] at he
    rw [ei, ea]
    refine t_5_0 hG (c_79 hG (Or.inl rfl) (h := sH (hs (k + 1))) (by omega) (by rw [hF0 27 (by decide)]; exact f1) (by omega) (fun A1 g1 g2 => k_5_6 hG ?_))
    rw [zI_clamp (by omega)]
    refine ⟨zN_in (by omega) (by decide), k_4n_115 hG (hQ _ _ (fun i i1 i2 => ?_) (fun i hi => ?_) ?_ (CSt_of hk he ?_ ?_ ?_ (fun l hl => ?_) (fun i hi => ?_) (fun i hi => ?_) (fun i hi => ?_)))⟩
    · rw [wF_row i2, wF_row i1]
    · rw [wF_row (by omega)]; exact g1 i (by omega)
    · rw [wF_row (by decide), wF_same]
    · rw [wF_same]; rfl
    · rw [wF_cell (by decide), hF0 27 (by decide)]; exact f2
    · rw [wF_cell (by decide), hF0 27 (by decide)]; exact f3
    · have hl' : l < sH (hs (k + 1)) + 1 := hl
      rw [wF_row (by decide), g2 l hl']
      show _ = zI ((insO (sO (hs (k + 1))) i0 a l : Nat) : Int)
      unfold insO
      by_cases e1 : l < a
      · rw [if_pos e1, if_pos e1]; exact b0 l (by omega)
      · rw [if_neg e1, if_neg e1]
        by_cases e2 : l = a
        · rw [if_pos e2, if_pos e2]
        · rw [if_neg e2, if_neg e2]; exact b0 (l - 1) (by omega)
    · show wF A1 29 i0 (zI (r 3)) 29 i = zI (upZ (sM (hs (k + 1))) i0 (r 3) i)
      rw [wF_at]
      unfold upZ
      by_cases e1 : i = i0
      · rw [if_pos ⟨rfl, e1⟩, if_pos e1]
      · rw [if_neg (fun q => e1 q.2), if_neg e1, g1 _ (by decide)]; exact b1 i hi
    · rw [wF_row (by decide), g1 _ (by decide)]; exact b2 i hi
    · rw [wF_row (by decide), g1 _ (by decide)]; exact b3 i hi
  · rw [show (2 : Int32) = zI 2 from rfl, zI_eq (by omega) (by omega) (by omega) (by omega)] at e
    obtain ⟨v1, v2⟩ := u3 e
    obtain ⟨a, ha, ea⟩ := zI_at v1
    obtain ⟨b, hb, eb⟩ := zI_at v2
    have eu : unS r (hs (k + 1)) = mS (sH (hs (k + 1))) (swpO (sO (hs (k + 1))) (r 1).toNat (r 2).toNat) (sM (hs (k + 1))) (sW (hs (k + 1))) (sL (hs (k + 1))) (sY (hs (k + 1))) (sC (hs (k + 1))) := by unfold unS; rw [if_neg (by omega), if_neg (by omega), if_pos e]
    rw [eu, ea, eb, show ((a : Int)).toNat = a from rfl, show ((b : Int)).toNat = b from rfl] at he
    rw [ea, eb]
    refine t_81_0 hG (Or.inl rfl) ?_
    rw [zI_clamp (by omega), zI_clamp (by omega)]
    refine ⟨zN_in (by omega) (by decide), zN_in (by omega) (by decide), k_4n_125 hG (hQ _ _ (fun i i1 _ => wF_row i1) (fun i hi => ?_) (wF_same _ _ _ _) (CSt_of hk he ?_ ?_ ?_ (fun l hl => ?_) (fun i hi => ?_) (fun i hi => ?_) (fun i hi => ?_)))⟩
    · rw [wF_row (by omega), wF_row (by omega)]
    · rw [hF0 27 (by decide)]; exact f1
    · rw [hF0 27 (by decide)]; exact f2
    · rw [hF0 27 (by decide)]; exact f3
    · have hl' : l < sH (hs (k + 1)) := hl
      show _ = zI ((swpO (sO (hs (k + 1))) a b l : Nat) : Int)
      rw [wF_at, wF_at]
      unfold swpO
      by_cases e1 : l = b
      · rw [if_pos ⟨rfl, e1⟩, if_pos e1]; exact b0 a ha
      · rw [if_neg (fun q => e1 q.2), if_neg e1]
        by_cases e2 : l = a
        · rw [if_pos ⟨rfl, e2⟩, if_pos e2]; exact b0 b hb
        · rw [if_neg (fun q => e2 q.2), if_neg e2]; exact b0 l hl'
    · rw [wF_row (by decide), wF_row (by decide)]; exact b1 i hi
    · rw [wF_row (by decide), wF_row (by decide)]; exact b2 i hi
    · rw [wF_row (by decide), wF_row (by decide)]; exact b3 i hi
  · rw [show (3 : Int32) = zI 3 from rfl, zI_eq (by omega) (by omega) (by omega) (by omega)] at e
    obtain ⟨i0, hi0, ei⟩ := zI_at (u4 (Or.inl e))
    have eu : unS r (hs (k + 1)) = mS (sH (hs (k + 1))) (sO (hs (k + 1))) (sM (hs (k + 1))) (upZ (sW (hs (k + 1))) (r 1).toNat (r 2)) (sL (hs (k + 1))) (sY (hs (k + 1))) (sC (hs (k + 1))) := by unfold unS; rw [if_neg (by omega), if_neg (by omega), if_neg (by omega), if_pos e]
    rw [eu, ei, show ((i0 : Int)).toNat = i0 from rfl] at he
    rw [ei, zI_clamp (by omega)]
    refine ⟨zN_in (by omega) (by decide), hQ _ _ (fun i i1 _ => wF_row i1) (fun i hi => ?_) (wF_same _ _ _ _) (CSt_of hk he ?_ ?_ ?_ (fun l hl => ?_) (fun i hi => ?_) (fun i hi => ?_) (fun i hi => ?_))⟩
    · rw [wF_row (by omega)]
    · rw [hF0 27 (by decide)]; exact f1
    · rw [hF0 27 (by decide)]; exact f2
    · rw [hF0 27 (by decide)]; exact f3
    · rw [wF_row (by decide)]; exact b0 l hl
    · rw [wF_row (by decide)]; exact b1 i hi
    · show wF A 30 i0 (zI (r 2)) 30 i = zI (upZ (sW (hs (k + 1))) i0 (r 2) i)
      rw [wF_at]
      unfold upZ
      by_cases e1 : i = i0
      · rw [if_pos ⟨rfl, e1⟩, if_pos e1]
      · rw [if_neg (fun q => e1 q.2), if_neg e1]; exact b2 i hi
    · rw [wF_row (by decide)]; exact b3 i hi
  · rw [show (4 : Int32) = zI 4 from rfl, zI_eq (by omega) (by omega) (by omega) (by omega)] at e
    obtain ⟨i0, hi0, ei⟩ := zI_at (u4 (Or.inr e))
    have eu : unS r (hs (k + 1)) = mS (sH (hs (k + 1))) (sO (hs (k + 1))) (sM (hs (k + 1))) (sW (hs (k + 1))) (upZ (sL (hs (k + 1))) (r 1).toNat (r 2)) (sY (hs (k + 1))) (sC (hs (k + 1))) := by unfold unS; rw [if_neg (by omega), if_neg (by omega), if_neg (by omega), if_neg (by omega), if_pos e]
    rw [eu, ei, show ((i0 : Int)).toNat = i0 from rfl] at he
    rw [ei, zI_clamp (by omega)]
    refine ⟨zN_in (by omega) (by decide), hQ _ _ (fun i i1 _ => wF_row i1) (fun i hi => ?_) (wF_same _ _ _ _) (CSt_of hk he ?_ ?_ ?_ (fun l hl => ?_) (fun i hi => ?_) (fun i hi => ?_) (fun i hi => ?_))⟩
    · rw [wF_row (by omega)]
    · rw [hF0 27 (by decide)]; exact f1
    · rw [hF0 27 (by decide)]; exact f2
    · rw [hF0 27 (by decide)]; exact f3
    · rw [wF_row (by decide)]; exact b0 l hl
    · rw [wF_row (by decide)]; exact b1 i hi
    · rw [wF_row (by decide)]; exact b2 i hi
    · show wF A 31 i0 (zI (r 2)) 31 i = zI (upZ (sL (hs (k + 1))) i0 (r 2) i)
      rw [wF_at]
      unfold upZ
      by_cases e1 : i = i0
      · rw [if_pos ⟨rfl, e1⟩, if_pos e1]
      · rw [if_neg (fun q => e1 q.2), if_neg e1]; exact b3 i hi
  · rw [show (5 : Int32) = zI 5 from rfl, zI_eq (by omega) (by omega) (by omega) (by omega)] at e
    have eu : unS r (hs (k + 1)) = mS (sH (hs (k + 1))) (sO (hs (k + 1))) (fun i => r (4 + i)) (sW (hs (k + 1))) (sL (hs (k + 1))) (sY (hs (k + 1))) (r 1) := by unfold unS; rw [if_neg (by omega), if_neg (by omega), if_neg (by omega), if_neg (by omega), if_neg (by omega), if_pos e]
    rw [eu] at he
    refine t_6_0 hG ?_
    rw [a1, a4, zI_clamp (n := 14 * k + 1) (by omega), zI_clamp (n := 14 * k + 4) (by omega), kap10, kap0, r1, zI_lt0 (by omega)]
    refine ⟨zN_in (by omega) (by decide), ⟨by omega, by decide, by decide, by omega, by omega⟩, k_4n_156 hG (hQ _ _ (fun i i1 i2 => ?_) (fun i hi => ?_) ?_ (CSt_of hk he ?_ ?_ ?_ (fun l hl => ?_) (fun i hi => ?_) (fun i hi => ?_) (fun i hi => ?_)))⟩
    · rw [wF_row i2, wF_row i1]
    · unfold cpR va_up; rw [if_neg (by omega)]
    · rw [wF_row (by decide), wF_same]
    · rw [wF_cell (by decide), hF0 27 (by decide)]; exact f1
    · rw [wF_cell (by decide), hF0 27 (by decide)]; exact f2
    · rw [wF_same]; rfl
    · unfold cpR va_up; rw [if_neg (by decide)]; exact b0 l hl
    · have : cpR A 29 23 (14 * k + 4) 0 10 (27 + 2) i = A 23 (14 * k + (4 + i)) := by
        unfold cpR va_up va_cpy
        rw [if_pos (by decide), if_pos ⟨by omega, by omega⟩]
        congr 1
        omega
      rw [this]
      exact hr (4 + i) (by omega)
    · unfold cpR va_up; rw [if_neg (by decide)]; exact b2 i hi
    · unfold cpR va_up; rw [if_neg (by decide)]; exact b3 i hi
  · rw [zI_toInt (by omega) (by omega)] at e
    have e6 : r 0 = 6 := by omega
    have eu : unS r (hs (k + 1)) = mS (sH (hs (k + 1))) (sO (hs (k + 1))) (sM (hs (k + 1))) (sW (hs (k + 1))) (sL (hs (k + 1))) (sY (hs (k + 1)) - r 1) (sC (hs (k + 1))) := by unfold unS; rw [if_neg (by omega), if_neg (by omega), if_neg (by omega), if_neg (by omega), if_neg (by omega), if_neg (by omega)]
    rw [eu] at he
    refine hQ _ _ (fun i i1 i2 => ?_) (fun i hi => rfl) ?_ (CSt_of hk he ?_ ?_ ?_ (fun l hl => b0 l hl) (fun i hi => b1 i hi) (fun i hi => b2 i hi) (fun i hi => b3 i hi))
    · rw [wF_row i2, wF_row i1]
    · rw [wF_row (by decide), wF_same]
    · rw [wF_cell (by decide), hF0 27 (by decide)]; exact f1
    · rw [wF_same, f2, zI_sub]; rfl
    · rw [wF_cell (by decide), hF0 27 (by decide)]; exact f3
  · rw [h2, z0, zI_lt (by omega) (by omega) (by omega) (by omega)] at e
    omega
theorem c_4z (hG : Geo G SL p q) (hH : F 22 0 = 0) (hQ : Q (.inl (some (.int 0))) (F, A, J, G)) : X (d + 2) 4 0 [.ref 22, .ref 27, .null, .null, .null] [] (F, A, J, G) Q := by
  refine t_4n_0 hG ⟨fun e => ?_, fun _ => hQ⟩
  rw [hH] at e
  exact absurd e (by decide)
end HistA
