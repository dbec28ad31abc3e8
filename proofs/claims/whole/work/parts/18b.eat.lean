/-! suppers -/
section EatZ
variable {d : Nat} {F A F' A' F'' A'' : Nat → Nat → Int32} {J : Nat → Nat → Int64} {G : pG} {Q : pR → pM → Prop} {SL p q t a na b i l f : Nat} {K : Nat → Nat → Int} {n h : Nat} {ord ord' : Nat → Nat} {ml wd ln ml' wd' ln' : Nat → Int} {yr z y v τ x fd : Int} {cd : Nat → Int} {cl : Nat} {vs vs' : Nat → Int32}
theorem evF_congr (hv : ∀ k, k < 6 → vs k = vs' k) : ∀ i, evF cd vs i = evF cd vs' i
  | 0 => rfl
  | i + 1 => by
    rw [evF, evF, evF_congr hv i]
    by_cases h1 : 0 ≤ cd i
    · rw [if_pos h1, if_pos h1]
    · rw [if_neg h1, if_neg h1]
      by_cases h2 : -6 ≤ cd i
      · rw [if_pos h2, if_pos h2, hv _ (by omega)]
      · rw [if_neg h2, if_neg h2]
def vsZ (K : Nat → Nat → Int) (h : Nat) (ord : Nat → Nat) (l : Nat) (x : Int) : Nat → Int32 := fun k => if k = 0 then zI (l : Int) else if k = 1 then zI (K 3 (ord l)) else if k = 2 then zI x else if k = 3 then zI (K 0 (ord l)) else if k = 4 then zI ((h : Int) - 1 - l) else zI (K 1 (ord l))
def tkZ (K : Nat → Nat → Int) (cd : Nat → Int) (cl h : Nat) (ord : Nat → Nat) (l : Nat) (x : Int) : Int := max 0 (min x (if cl = 0 then K 3 (ord l) else (evF cd (vsZ K h ord l x) cl 0).toInt))
def lfZ (K : Nat → Nat → Int) (cd : Nat → Int) (cl h : Nat) (ord : Nat → Nat) (fd : Int) : Nat → Int
  | 0 => fd
  | j + 1 => lfZ K cd cl h ord fd j - tkZ K cd cl h ord j (lfZ K cd cl h ord fd j)
def svZ (K : Nat → Nat → Int) (cd : Nat → Int) (cl h : Nat) (ord : Nat → Nat) (fd : Int) (ml : Nat → Int) : Nat → Nat → Int
  | 0 => ml
  | j + 1 => upZ (svZ K cd cl h ord fd ml j) (ord j) (tkZ K cd cl h ord j (lfZ K cd cl h ord fd j))
theorem tk_b (hx : 0 ≤ x) : 0 ≤ tkZ K cd cl h ord l x ∧ tkZ K cd cl h ord l x ≤ x := by unfold tkZ; omega
theorem lf_b (hx : 0 ≤ fd) : ∀ j, 0 ≤ lfZ K cd cl h ord fd j ∧ lfZ K cd cl h ord fd j ≤ fd
  | 0 => ⟨hx, Int.le_refl _⟩
  | j + 1 => by
    have h1 := lf_b hx j
    have h2 := tk_b (K := K) (cd := cd) (cl := cl) (h := h) (ord := ord) (l := j) h1.1
    rw [lfZ]
    omega
theorem sv_at (hinj : ∀ l l', l < h → l' < h → ord l = ord l' → l = l') : ∀ j, j ≤ h → ∀ l, l < j → svZ K cd cl h ord fd ml j (ord l) = tkZ K cd cl h ord l (lfZ K cd cl h ord fd l)
  | 0, _, l, hl => absurd hl (Nat.not_lt_zero l)
  | j + 1, hj, l, hl => by
    rw [svZ]
    by_cases e : l = j
    · subst e; rw [upZ_same]
    · rw [upZ_ne _ _ (fun q => e (hinj l j (by omega) (by omega) q)), sv_at hinj j (by omega) l (by omega)]
theorem sv_b (hx : 0 ≤ fd ∧ fd ≤ 999) (hm : ∀ i, i < n → 0 ≤ ml i ∧ ml i ≤ 6000) : ∀ j i, i < n → 0 ≤ svZ K cd cl h ord fd ml j i ∧ svZ K cd cl h ord fd ml j i ≤ 6000
  | 0, i, hi => hm i hi
  | j + 1, i, hi => by
    have h1 := sv_b hx hm j i hi
    have h2 := lf_b (K := K) (cd := cd) (cl := cl) (h := h) (ord := ord) hx.1 j
    have h3 := tk_b (K := K) (cd := cd) (cl := cl) (h := h) (ord := ord) (l := j) h2.1
    rw [svZ]
    unfold upZ
    split
    · omega
    · exact h1
theorem sv_9 (hx : 0 ≤ fd ∧ fd ≤ 999) (hm : ∀ i, i < n → ml i ≤ 999) : ∀ j i, i < n → svZ K cd cl h ord fd ml j i ≤ 999
  | 0, i, hi => hm i hi
  | j + 1, i, hi => by
    have h1 := sv_9 hx hm j i hi
    have h2 := lf_b (K := K) (cd := cd) (cl := cl) (h := h) (ord := ord) hx.1 j
    have h3 := tk_b (K := K) (cd := cd) (cl := cl) (h := h) (ord := ord) (l := j) h2.1
    rw [svZ]
    unfold upZ
    split
    · omega
    · exact h1
theorem mm_z (hx : 0 ≤ x ∧ x ≤ 999) (r : Int32) : jmax 0 (jmin (zI x) r) = zI (max 0 (min x r.toInt)) := by
  have h1 := r.le_toInt
  have h2 := r.toInt_lt
  have hr : r = zI r.toInt := (Int32.ofInt_toInt r).symm
  rw [show jmin (zI x) r = jmin (zI x) (zI r.toInt) by rw [← hr], zI_jmin (by omega) (by omega) (by omega) (by omega), z0, zI_jmax (by omega) (by omega) (by omega) (by omega)]
theorem c_92 (hG : Geo G SL p q) (ht : Tw t) (hT : CTn F A K n) (hW : CTw t F A n h ord ml wd ln yr) (hR : CRl F A cd cl) (hl : l < h) (hx : 0 ≤ x ∧ x ≤ 999) (hQ : ∀ F' A', (∀ i, i ≠ 18 → F' i = F i) → F' 18 1 = F 18 1 → (∀ i, i ≠ 20 → A' i = A i) → Q (.inl (some (.int (zI (tkZ K cd cl h ord l x))))) (F', A', J, G)) : X (d + 2) 92 0 [.ref t, .int (zI (l : Int)), .int (zI x), .null, .null] [] (F, A, J, G) Q := by
  obtain ⟨hK, e0, e1, e2, a0, a1, a2, a3⟩ := hT
  obtain ⟨hw, f1, f2, b0, b1, b2, b3⟩ := hW
  have h10 : h ≤ 10 := Nat.le_trans hw.1 hK.1
  have h10' := hK.1
  have hol := hw.2.1 l hl
  have hk := (hK.2.1 _ hol).2.2.2
  refine t_92_0 hG ht ?_
  rw [zI_clamp (n := l) (by omega), b0 l hl, zI_clamp (n := ord l) (by omega), a3 _ hol, a0 _ hol, a1 _ hol, f1, zZ_s1, zI_sub, hR.2.2.1]
  refine ⟨zN_in (by omega) (by decide), fun e => ⟨zN_in (by omega) (by decide), ?_⟩, fun e => ⟨zN_in (by omega) (by decide), ?_⟩⟩
  · have hc6 := hR.1
    rw [zI_eq0 (by omega)] at e
    have hq := hQ F A (fun _ _ => rfl) rfl (fun _ _ => rfl)
    unfold tkZ at hq
    rw [if_pos (by omega)] at hq
    rw [zI_jmin (by omega) (by omega) (by omega) (by omega)]
    rw [show max 0 (min x (K 3 (ord l))) = min x (K 3 (ord l)) by omega] at hq
    exact hq
  · have hc6 := hR.1
    rw [zI_eq0 (by omega)] at e
    have hF1 : ∀ i, i ≠ 18 → (wF (wF (wF (wF (wF (wF F 18 2 (zI (l : Int))) 18 3 (zI (K 3 (ord l)))) 18 4 (zI x)) 18 5 (zI (K 0 (ord l)))) 18 6 (zI ((h : Int) - 1 - l))) 18 7 (zI (K 1 (ord l)))) i = F i := fun i hi => by
      rw [wF_row hi, wF_row hi, wF_row hi, wF_row hi, wF_row hi, wF_row hi]
    have hF11 : (wF (wF (wF (wF (wF (wF F 18 2 (zI (l : Int))) 18 3 (zI (K 3 (ord l)))) 18 4 (zI x)) 18 5 (zI (K 0 (ord l)))) 18 6 (zI ((h : Int) - 1 - l))) 18 7 (zI (K 1 (ord l)))) 18 1 = F 18 1 := by
      rw [wF_cell (by decide), wF_cell (by decide), wF_cell (by decide), wF_cell (by decide), wF_cell (by decide), wF_cell (by decide)]
    have hvs : ∀ k, k < 6 → (wF (wF (wF (wF (wF (wF F 18 2 (zI (l : Int))) 18 3 (zI (K 3 (ord l)))) 18 4 (zI x)) 18 5 (zI (K 0 (ord l)))) 18 6 (zI ((h : Int) - 1 - l))) 18 7 (zI (K 1 (ord l)))) 18 (2 + k) = vsZ K h ord l x k := fun k hk => by
      have : k = 0 ∨ k = 1 ∨ k = 2 ∨ k = 3 ∨ k = 4 ∨ k = 5 := by omega
      rcases this with rfl | rfl | rfl | rfl | rfl | rfl
      · rw [wF_cell (by decide), wF_cell (by decide), wF_cell (by decide), wF_cell (by decide), wF_cell (by decide), wF_same]; rfl
      · rw [wF_cell (by decide), wF_cell (by decide), wF_cell (by decide), wF_cell (by decide), wF_same]; rfl
      · rw [wF_cell (by decide), wF_cell (by decide), wF_cell (by decide), wF_same]; rfl
      · rw [wF_cell (by decide), wF_cell (by decide), wF_same]; rfl
      · rw [wF_cell (by decide), wF_same]; rfl
      · rw [wF_same]; rfl
    generalize (wF (wF (wF (wF (wF (wF F 18 2 (zI (l : Int))) 18 3 (zI (K 3 (ord l)))) 18 4 (zI x)) 18 5 (zI (K 0 (ord l)))) 18 6 (zI ((h : Int) - 1 - l))) 18 7 (zI (K 1 (ord l)))) = F1 at hF1 hF11 hvs
    have hR1 : CRl F1 A cd cl := ⟨hR.1, hR.2.1, by rw [hF11]; exact hR.2.2.1, hR.2.2.2⟩
    refine c_55 hG hR1 (by omega) (fun F2 A2 hF2 hF2' hA2 => k_92_112 hG ht ?_)
    have hq := hQ F2 A2 (fun i hi => by rw [hF2 i hi]; exact hF1 i hi) (by rw [hF2' 1 (by decide)]; exact hF11) hA2
    unfold tkZ at hq
    rw [if_neg (by omega)] at hq
    rw [evF_congr hvs, mm_z hx]
    exact hq
theorem c_90 (hG : Geo G SL p q) (ht : Tw t) (hT : CTn F A K n) (hW : CTw t F A n h ord ml wd ln yr) (hR : CRl F A cd cl) (hx : 0 ≤ fd ∧ fd ≤ 999) (hQ : ∀ F' A', (∀ i, i ≠ 18 → F' i = F i) → F' 18 1 = F 18 1 → (∀ i, i ≠ 20 → i ≠ t + 2 → A' i = A i) → CTw t F' A' n h ord (svZ K cd cl h ord fd ml h) wd ln yr → Q (.inl (some (.int (zI (lfZ K cd cl h ord fd h))))) (F', A', J, G)) : X (d + 3) 90 0 [.ref t, .int (zI fd), .null, .null, .null] [] (F, A, J, G) Q := by
  have h10' := hT.1.1
  have h10 : h ≤ 10 := Nat.le_trans hW.1.1 hT.1.1
  have hT0 := ht
  unfold Tw at hT0
  refine t_90_0 hG ht ?_
  refine up_ind (h := h) (P := fun j => ∀ F1 A1 v, (∀ i, i ≠ 18 → F1 i = F i) → F1 18 1 = F 18 1 → (∀ i, i ≠ 20 → i ≠ t + 2 → A1 i = A i) → CTw t F1 A1 n h ord (svZ K cd cl h ord fd ml j) wd ln yr → X (d + 3) 90 4 [.ref t, .int (zI fd), .int (zI (lfZ K cd cl h ord fd j)), .int (zI (j : Int)), v] [] (F1, A1, J, G) Q) ?_ ?_ F A .null (fun _ _ => rfl) rfl (fun _ _ _ => rfl) hW
  · intro F1 A1 v hF hF2 hA hW1
    refine t_90_4 hG ht ⟨fun e => ?_, fun _ => hQ F1 A1 hF hF2 hA hW1⟩
    rw [hW1.2.1, zN_lt (by omega) (by omega)] at e
    omega
  · intro j hj ih F1 A1 v hF hF2 hA hW1
    have hT1 : CTn F1 A1 K n := by
      unfold CTn at hT ⊢
      rw [hF 12 (by decide), hA 13 (by decide) (by omega), hA 14 (by decide) (by omega), hA 15 (by decide) (by omega), hA 17 (by decide) (by omega)]; exact hT
    have hR1 : CRl F1 A1 cd cl := ⟨hR.1, hR.2.1, by rw [hF2]; exact hR.2.2.1, by rw [hA 19 (by decide) (by omega)]; exact hR.2.2.2⟩
    have hlf := lf_b (K := K) (cd := cd) (cl := cl) (h := h) (ord := ord) hx.1 j
    have htk := tk_b (K := K) (cd := cd) (cl := cl) (h := h) (ord := ord) (l := j) hlf.1
    have hoj := hW.1.2.1 j hj
    refine t_90_4 hG ht ⟨fun _ => ?_, fun e => ?_⟩
    · rw [zI_clamp (n := j) (by omega), hW1.2.2.2.1 j hj]
      refine ⟨zN_in (by omega) (by decide), c_92 hG ht hT1 hW1 hR1 hj (by omega) (fun F2 A2 hF3 hF4 hA2 => k_90_32 hG ht ?_)⟩
      rw [zI_clamp (n := ord j) (by omega), wF_same, zI_sub, zN_1]
      refine ⟨zN_in (by omega) (by decide), zN_in (by omega) (by decide), ih _ _ _ (fun i hi => by rw [hF3 i hi]; exact hF i hi) (hF4.trans hF2) (fun i h1 h2 => by rw [wF_row h2, hA2 i h1]; exact hA i h1 h2) ?_⟩
      have hW2 : CTw t F2 A2 n h ord (svZ K cd cl h ord fd ml j) wd ln yr := by
        unfold CTw at hW1 ⊢
        rw [hF3 t (by omega), hA2 (t + 1) (by omega), hA2 (t + 2) (by omega), hA2 (t + 3) (by omega), hA2 (t + 4) (by omega)]; exact hW1
      exact CTw_meal (by omega) hW2
    · rw [hW1.2.1, zN_lt (by omega) (by omega)] at e
      omega
def filP (K : Nat → Nat → Int) (cd : Nat → Int) (cl h : Nat) (ord : Nat → Nat) (fd : Int) (j : Nat) : Bool := decide (tkZ K cd cl h ord j (lfZ K cd cl h ord fd j) < K 3 (ord j))
def filB (K : Nat → Nat → Int) (cd : Nat → Int) (cl h : Nat) (ord : Nat → Nat) (fd : Int) : Bool := decide (fsB (filP K cd cl h ord fd) h 0 = -1)
def faiZ (K : Nat → Nat → Int) (cd : Nat → Int) (cl h : Nat) (ord : Nat → Nat) : Int := fsB (fun e => filB K cd cl h ord (e : Int)) 1000 0
theorem c_91 (hG : Geo G SL p q) (hT : CTn F A K n) (hW : CTw 27 F A n h ord ml wd ln yr) (hR : CRl F A cd cl) (hx : 0 ≤ fd ∧ fd ≤ 999) (hQ : ∀ F' A', CScr F A F' A' → Q (.inl (some (.int (bI (filB K cd cl h ord fd))))) (F', A', J, G)) : X (d + 3) 91 0 [.ref 27, .int (zI fd), .null, .null, .null] [] (F, A, J, G) Q := by
  have h10' := hT.1.1
  have h10 : h ≤ 10 := Nat.le_trans hW.1.1 hT.1.1
  refine t_91_0 hG tw27 ?_
  unfold filB at hQ
  refine fs_ind (p := filP K cd cl h ord fd) (h := h) (P := fun r => ∀ F' A', CScr F A F' A' → Q (.inl (some (.int (bI (decide (r = -1)))))) (F', A', J, G)) (R := fun j => ∀ F1 A1 v, CScr F A F1 A1 → X (d + 3) 91 4 [.ref 27, .int (zI fd), .int (zI (lfZ K cd cl h ord fd j)), .int (zI (j : Int)), v] [] (F1, A1, J, G) Q) hQ (fun hq F1 A1 v hs => ?_) (fun j hj hp hn F1 A1 v hs => ?_) F A _ CScr.rfl
  · have hW1 := CTw_scr hs hW
    refine t_91_4 hG tw27 ⟨fun e => ?_, fun _ => hq F1 A1 hs⟩
    rw [hW1.2.1, zN_lt (by omega) (by omega)] at e
    omega
  · have hW1 := CTw_scr hs hW
    have hT1 := CTn_scr hs hT
    have hR1 : CRl F1 A1 cd cl := ⟨hR.1, hR.2.1, by rw [hs.2.1]; exact hR.2.2.1, by rw [hs.2.2 19 (by decide) (by decide) (by decide)]; exact hR.2.2.2⟩
    have hlf := lf_b (K := K) (cd := cd) (cl := cl) (h := h) (ord := ord) hx.1 j
    have htk := tk_b (K := K) (cd := cd) (cl := cl) (h := h) (ord := ord) (l := j) hlf.1
    have hoj := hW.1.2.1 j hj
    have hk := (hT.1.2.1 _ hoj).2.2.2
    refine t_91_4 hG tw27 ⟨fun _ => c_92 hG tw27 hT1 hW1 hR1 hj (by omega) (fun F2 A2 hF3 hF4 hA2 => k_91_18 hG tw27 ?_), fun e => ?_⟩
    · have hs2 : CScr F1 A1 F2 A2 := ⟨fun i h1 _ => hF3 i h1, hF4, fun i h1 _ _ => hA2 i h1⟩
      have hW2 := CTw_scr hs2 hW1
      have hT2 := CTn_scr hs2 hT1
      have a28 : A2 28 j = zI (ord j : Int) := hW2.2.2.2.1 j hj
      rw [zI_clamp (n := j) (by omega), show (27 + 1) = 28 from rfl, a28, zI_clamp (n := ord j) (by omega), hT2.2.2.2.2.2.2.2 _ hoj, zI_sub, zN_1, zI_lt (by omega) (by omega) (by omega) (by omega)]
      refine ⟨zN_in (by omega) (by decide), zN_in (by omega) (by decide), fun e => ?_, fun e => ?_⟩
      · have := hp (decide_eq_true e) F2 A2 (hs.tr hs2)
        rw [decide_eq_false (by omega)] at this
        exact this
      · exact hn (decide_eq_false e) F2 A2 _ (hs.tr hs2)
    · rw [hW1.2.1, zN_lt (by omega) (by omega)] at e
      omega
theorem CRl_scr (hs : CScr F A F' A') (hR : CRl F A cd cl) : CRl F' A' cd cl := ⟨hR.1, hR.2.1, by rw [hs.2.1]; exact hR.2.2.1, by rw [hs.2.2 19 (by decide) (by decide) (by decide)]; exact hR.2.2.2⟩
theorem c_114 (hG : Geo G SL p q) (hT : CTn F A K n) (hW : CTw 27 F A n h ord ml wd ln yr) (hR : CRl F A cd cl) (hQ : ∀ F' A', CScr F A F' A' → Q (.inl (some (.int (zI (faiZ K cd cl h ord))))) (F', A', J, G)) : X (d + 4) 114 0 [.ref 49, .null] [] (F, A, J, G) Q := by
  refine t_114_0 hG ?_
  refine fs_ind (p := fun e => filB K cd cl h ord (e : Int)) (h := 1000) (P := fun r => ∀ F' A', CScr F A F' A' → Q (.inl (some (.int (zI r)))) (F', A', J, G)) (R := fun j => ∀ F1 A1, CScr F A F1 A1 → X (d + 4) 114 2 [.ref 49, .int (zI (j : Int))] [] (F1, A1, J, G) Q) hQ (fun hq F1 A1 hs => ?_) (fun j hj hp hn F1 A1 hs => ?_) F A CScr.rfl
  · refine t_114_2 hG ⟨fun _ => hq F1 A1 hs, fun e => absurd (show (999 : Int32) < zI ((1000 : Nat) : Int) by decide) e⟩
  · refine t_114_2 hG ⟨fun e => ?_, fun _ => c_91 hG (CTn_scr hs hT) (CTw_scr hs hW) (CRl_scr hs hR) (by omega) (fun F2 A2 hs2 => k_114_17 hG ⟨fun e => ?_, fun e => ?_⟩)⟩
    · rw [show (999 : Int32) = zI 999 from rfl, zI_lt (by omega) (by omega) (by omega) (by omega)] at e
      omega
    · rw [zN_1]
      refine hn ?_ F2 A2 (hs.tr hs2)
      cases hb : filB K cd cl h ord (j : Int)
      · rfl
      · rw [hb] at e; exact absurd e (by decide)
    · refine hp ?_ F2 A2 (hs.tr hs2)
      cases hb : filB K cd cl h ord (j : Int)
      · rw [hb] at e; exact absurd rfl e
      · rfl
def topZ (K : Nat → Nat → Int) (cd : Nat → Int) (cl h : Nat) (ord : Nat → Nat) (fd : Int) : Int := if h = 0 then -1 else tkZ K cd cl h ord (h - 1) (lfZ K cd cl h ord fd (h - 1))
theorem c_113 (hG : Geo G SL p q) (hT : CTn F A K n) (hW : CTw 27 F A n h ord ml wd ln yr) (hR : CRl F A cd cl) (hx : 0 ≤ fd ∧ fd ≤ 999) (hQ : ∀ F' A', CScr F A F' A' → Q (.inl (some (.int (zI (topZ K cd cl h ord fd))))) (F', A', J, G)) : X (d + 4) 113 0 [.ref 49, .int (zI fd)] [] (F, A, J, G) Q := by
  have h10' := hT.1.1
  have h10 : h ≤ 10 := Nat.le_trans hW.1.1 hT.1.1
  refine t_113_0 hG ?_
  rw [hW.2.1, zI_eq0 (by omega)]
  unfold topZ at hQ
  refine ⟨fun e => ?_, fun e => ?_⟩
  · rw [if_pos (by omega)] at hQ; exact hQ F A CScr.rfl
  · rw [if_neg (by omega)] at hQ
    have hs1 := bec_scr (F := F) (A := A)
    refine c_90 hG tw53 (CTn_scr hs1 hT) (bec_tw h10' hW) (CRl_scr hs1 hR) hx (fun F2 A2 hF hF2 hA hW2 => k_113_31 hG ?_)
    have hoh := hW.1.2.1 (h - 1) (by omega)
    have a54 : A2 54 (h - 1) = zI (ord (h - 1) : Int) := hW2.2.2.2.1 (h - 1) (by omega)
    have a55 : A2 55 (ord (h - 1)) = zI (svZ K cd cl h ord fd ml h (ord (h - 1))) := hW2.2.2.2.2.1 _ hoh
    rw [hW2.2.1, zZ_s1, show (h : Int) - 1 = ((h - 1 : Nat) : Int) by omega, zI_clamp (n := h - 1) (by omega), a54, zI_clamp (n := ord (h - 1)) (by omega), a55, sv_at hW.1.2.2.1 h (Nat.le_refl _) (h - 1) (by omega)]
    refine ⟨zN_in (by omega) (by decide), zN_in (by omega) (by decide), hQ F2 A2 (hs1.tr ⟨fun i h1 _ => hF i h1, hF2, fun i h1 _ h3 => hA i h1 (by omega)⟩)⟩
end EatZ
