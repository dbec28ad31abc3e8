/-! which leg -/
section SeenZ
variable {d : Nat} {F A F' A' F'' A'' : Nat → Nat → Int32} {J : Nat → Nat → Int64} {G : pG} {Q : pR → pM → Prop} {SL p q t a na b i l f : Nat} {K : Nat → Nat → Int} {n h : Nat} {ord ord' : Nat → Nat} {ml wd ln ml' wd' ln' : Nat → Int} {yr z y v : Int} {s : Nat} {sl : Nat → Nat} {st : Nat → Int}
def SnOk (s : Nat) (sl : Nat → Nat) (st : Nat → Int) : Prop := s ≤ 8 ∧ (∀ k, k < s → sl k < 10) ∧ (∀ k, k < s → -99 ≤ st k ∧ st k ≤ 99)
def CSn (F A : Nat → Nat → Int32) (s : Nat) (sl : Nat → Nat) (st : Nat → Int) : Prop := SnOk s sl st ∧ F 21 2 = zI (s : Int) ∧ (∀ k, k < s → A 24 k = zI (sl k : Int)) ∧ (∀ k, k < s → A 25 k = zI (st k))
def MSn (F A : Nat → Nat → Int32) (s : Nat) (sl : Nat → Nat) (st : Nat → Int) : Prop := SnOk s sl st ∧ F 68 32 = zI (s : Int) ∧ (∀ k, k < s → A 94 k = zI (sl k : Int)) ∧ (∀ k, k < s → A 95 k = zI (st k))
def asB (K : Nat → Nat → Int) (h : Nat) (ord : Nat → Nat) (wd ln : Nat → Int) (s : Nat) (sl : Nat → Nat) (st : Nat → Int) : Bool := decide (fsB (fun k => !(decide (sl k < h) && decide (tltZ K ord wd ln (sl k) = st k))) s 0 = -1)
def mbB (K : Nat → Nat → Int) (h : Nat) (ord : Nat → Nat) (wd ln : Nat → Int) (s : Nat) (sl : Nat → Nat) (st : Nat → Int) (e : Nat) : Bool := decide (¬ ((e % 19 : Nat) : Int) - 9 = ln (ord (e / 19))) && asB K h ord wd (upZ ln (ord (e / 19)) (((e % 19 : Nat) : Int) - 9)) s sl st
theorem mbB_at {k : Nat} (hk : k < 19) : mbB K h ord wd ln s sl st (19 * l + k) = (decide (¬ (k : Int) - 9 = ln (ord l)) && asB K h ord wd (upZ ln (ord l) ((k : Int) - 9)) s sl st) := by
  unfold mbB
  rw [(e_div (l := l) hk).1, (e_div (l := l) hk).2]
def shZ (K : Nat → Nat → Int) (ord : Nat → Nat) (ln : Nat → Int) (f : Nat) (v : Int) : Int := timZ (K 0 (ord f)) * (v - ln (ord f))
theorem smt_up (hinj : ∀ l l', l < h → l' < h → ord l = ord l' → l = l') (hf : f < h) : ∀ m, m ≤ h → sm (fun k => trnZ K (upZ ln (ord f) v) wd (ord k)) 0 m = sm (fun k => trnZ K ln wd (ord k)) 0 m + (if f < m then shZ K ord ln f v else 0)
  | 0, _ => by simp [sm]
  | m + 1, hm => by
    have ih := smt_up hinj hf m (by omega)
    rw [sm_last, sm_last, ih, Nat.zero_add]
    by_cases e : m = f
    · subst e
      rw [if_neg (Nat.lt_irrefl _), if_pos (by omega)]
      unfold trnZ shZ
      rw [upZ_same, show v + wd (ord m) = (ln (ord m) + wd (ord m)) + (v - ln (ord m)) by omega, Int.mul_add]
      omega
    · have : ord m ≠ ord f := fun q => e (hinj m f (by omega) hf q)
      have e2 : trnZ K (upZ ln (ord f) v) wd (ord m) = trnZ K ln wd (ord m) := by unfold trnZ; rw [upZ_ne _ _ this]
      rw [e2]
      by_cases e3 : f < m
      · rw [if_pos e3, if_pos (by omega)]; omega
      · rw [if_neg e3, if_neg (by omega)]; omega
theorem tlt_up (hw : TwOk n h ord ml wd ln yr) (hf : f < h) (hl : l < h) : tltZ K ord wd (upZ ln (ord f) v) l = tltZ K ord wd ln l + (if f ≤ l then shZ K ord ln f v else 0) := by
  unfold tltZ
  rw [smt_up hw.2.2.1 hf (l + 1) (by omega)]
  congr 1
  by_cases e : f ≤ l
  · rw [if_pos e, if_pos (by omega)]
  · rw [if_neg e, if_neg (by omega)]
theorem sh_b (hK : TnOk K n) (hw : TwOk n h ord ml wd ln yr) (hf : f < h) (hv : -9 ≤ v ∧ v ≤ 9) : -36 ≤ shZ K ord ln f v ∧ shZ K ord ln f v ≤ 36 := by
  have := (hw.2.2.2.1 _ (hw.2.1 f hf)).2.2
  unfold shZ timZ
  split <;> omega
/-- all that is seen is so, with tilts from f on more by x -/
theorem c_16 {x : Int} {P : Nat → Bool} (hG : Geo G SL p q) (hT : CTn F A K n) (hW : CTw 27 F A n h ord ml wd ln yr) (hS : CSn F A s sl st) (hg : Wgd 27 A K h ord ml wd ln yr) (hf : f < 10) (hx : -36 ≤ x ∧ x ≤ 36)
    (hP : ∀ k, k < s → P k = !(decide (sl k < h) && decide (tltZ K ord wd ln (sl k) + (if f ≤ sl k then x else 0) = st k)))
    (hQ : Q (.inl (some (.int (bI (decide (fsB P s 0 = -1)))))) (F, A, J, G)) : X d 16 0 [.ref 66, .int (zI (f : Int)), .int (zI x), .null, .null, .null, .null] [] (F, A, J, G) Q := by
  have h10' := hT.1.1
  have h10 : h ≤ 10 := Nat.le_trans hW.1.1 hT.1.1
  have h8 := hS.1.1
  refine t_16_0 hG ?_
  refine fs_ind (p := P) (h := s) (P := fun r => Q (.inl (some (.int (bI (decide (r = -1)))))) (F, A, J, G)) (R := fun j => ∀ v5 v6, X d 16 11 [.ref 66, .int (zI (f : Int)), .int (zI x), .ref 27, .int (zI (j : Int)), v5, v6] [] (F, A, J, G) Q) hQ (fun hq v5 v6 => ?_) (fun j hj hp hn v5 v6 => ?_) _ _
  · refine t_16_11 hG ⟨fun e => ?_, fun _ => hq⟩
    rw [hS.2.1, zN_lt (by omega) (by omega)] at e
    omega
  · have hsl := hS.1.2.1 j hj
    have hst := hS.1.2.2 j hj
    have hp' : P j = true → Q (.inl (some (.int 0))) (F, A, J, G) := fun e => by
      have := hp e
      rw [decide_eq_false (by omega)] at this
      exact this
    have hPj := hP j hj
    refine t_16_11 hG ⟨fun _ => ?_, fun e => ?_⟩
    · rw [zI_clamp (n := j) (by omega), hS.2.2.1 j hj, hS.2.2.2 j hj, hW.2.1, zI_clamp (n := sl j) (by omega), zN_lt (by omega) (by omega), zN_lt (by omega) (by omega), zN_1]
      refine ⟨zN_in (by omega) (by decide), fun e1 => ⟨zN_in (by omega) (by decide), ?_⟩, fun e1 => ?_⟩
      · have ht : A 34 (sl j) = zI (tltZ K ord wd ln (sl j)) := hg.2.2 _ e1
        have htb := tlt_b hT.1 hW.1 e1
        rw [decide_eq_true e1, Bool.true_and] at hPj
        rw [ht, zI_add, show zI (tltZ K ord wd ln (sl j)) + 0 = zI (tltZ K ord wd ln (sl j) + 0) by rw [z0, zI_add], zI_eq (by omega) (by omega) (by omega) (by omega), zI_eq (by omega) (by omega) (by omega) (by omega)]
        refine ⟨fun e2 => ?_, fun e2 => ?_⟩
        · rw [if_neg (by omega)] at hPj
          exact ⟨fun e3 => hn (by rw [hPj, decide_eq_true e3]; rfl) _ _, fun e3 => hp' (by rw [hPj, decide_eq_false e3]; rfl)⟩
        · rw [if_pos (by omega)] at hPj
          exact ⟨fun e3 => hn (by rw [hPj, decide_eq_true e3]; rfl) _ _, fun e3 => hp' (by rw [hPj, decide_eq_false e3]; rfl)⟩
      · exact hp' (by rw [hPj, decide_eq_false e1]; rfl)
    · rw [hS.2.1, zN_lt (by omega) (by omega)] at e
      omega
theorem c_14 {k : Nat} (hG : Geo G SL p q) (hT : CTn F A K n) (hW : CTw 27 F A n h ord ml wd ln yr) (hS : CSn F A s sl st) (hg : Wgd 27 A K h ord ml wd ln yr) (hl : l < h) (hk : k < 19) (hQ : Q (.inl (some (.int (bI (mbB K h ord wd ln s sl st (19 * l + k)))))) (F, A, J, G)) : X (d + 2) 14 0 [.ref 66, .int (zI (l : Int)), .int (zI ((k : Int) - 9))] [] (F, A, J, G) Q := by
  have h10' := hT.1.1
  have h10 : h ≤ 10 := Nat.le_trans hW.1.1 hT.1.1
  have hol := hW.1.2.1 l hl
  have hlb := (hW.1.2.2.2.1 _ hol).2.2
  have hk0 := (hT.1.2.1 _ hol).1
  rw [mbB_at hk] at hQ
  have a28 : A 28 l = zI (ord l : Int) := hW.2.2.2.1 l hl
  have a31 : A 31 (ord l) = zI (ln (ord l)) := hW.2.2.2.2.2.2 _ hol
  refine t_14_0 hG ?_
  rw [zI_clamp (n := l) (by omega), a28, zI_clamp (n := ord l) (by omega), a31, hT.2.2.2.2.1 _ hol, ltm_z hk0.1 hk0.2, zI_sub, zI_mul, zI_eq (by omega) (by omega) (by omega) (by omega)]
  refine ⟨zN_in (by omega) (by decide), zN_in (by omega) (by decide), fun e => ?_, fun e => ?_⟩
  · rw [decide_eq_false (fun q => q e)] at hQ; exact hQ
  · rw [decide_eq_true e, Bool.true_and] at hQ
    refine c_16 (P := fun k' => !(decide (sl k' < h) && decide (tltZ K ord wd (upZ ln (ord l) ((k : Int) - 9)) (sl k') = st k'))) hG hT hW hS hg (by omega) (sh_b hT.1 hW.1 hl (by omega)) (fun k' hk' => ?_) (k_14_38 hG ⟨fun e2 => ?_, fun e2 => ?_⟩)
    · by_cases e1 : sl k' < h
      · rw [tlt_up hW.1 hl e1]; rfl
      · rw [decide_eq_false e1]; rfl
    · unfold asB at hQ
      cases hb : decide (fsB (fun k' => !(decide (sl k' < h) && decide (tltZ K ord wd (upZ ln (ord l) ((k : Int) - 9)) (sl k') = st k'))) s 0 = -1)
      · rw [hb] at hQ; exact hQ
      · rw [hb] at e2; exact absurd e2 (by decide)
    · unfold asB at hQ
      cases hb : decide (fsB (fun k' => !(decide (sl k' < h) && decide (tltZ K ord wd (upZ ln (ord l) ((k : Int) - 9)) (sl k') = st k'))) s 0 = -1)
      · rw [hb] at e2; exact absurd rfl e2
      · rw [hb] at hQ; exact hQ
theorem CSn_scr (hs : CScr F A F' A') (hS : CSn F A s sl st) : CSn F' A' s sl st := by
  unfold CSn at hS ⊢
  rw [hs.1 21 (by decide) (by decide), hs.2.2 24 (by decide) (by decide) (by decide), hs.2.2 25 (by decide) (by decide) (by decide)]
  exact hS
theorem c_8 (hG : Geo G SL p q) (hT : CTn F A K n) (hW : CTw 27 F A n h ord ml wd ln yr) (hS : CSn F A s sl st) (hQ : ∀ A', CScr F A F A' → Q (.inl (some (.int (bI (asB K h ord wd ln s sl st))))) (F, A', J, G)) : X (d + 3) 8 0 [.ref 66] [] (F, A, J, G) Q := by
  refine t_8_0 hG (c_84 hG tw27 hT hW (fun A1 hf hg => k_8_10 hG ?_))
  have hs := FrT_scr27 (F := F) hf
  refine c_16 (f := 0) (x := 0) (P := fun k' => !(decide (sl k' < h) && decide (tltZ K ord wd ln (sl k') = st k'))) hG (CTn_scr hs hT) (CTw_scr hs hW) (CSn_scr hs hS) hg (by decide) (by decide) (fun k' _ => ?_) (k_8_16 hG ⟨bI_01 _, hQ A1 hs⟩)
  rw [if_pos (Nat.zero_le _), Int.add_zero]
/-- how many; the first -/
theorem c_9 (hG : Geo G SL p q) (hT : CTn F A K n) (hW : CTw 27 F A n h ord ml wd ln yr) (hS : CSn F A s sl st) (hQ : ∀ A', CScr F A F A' → Q (.inl (some (.int (zI ((flt id (mbB K h ord wd ln s sl st) (19 * h)).length : Int))))) (F, A', J, G)) : X (d + 3) 9 0 [.ref 66, .null, .null, .null, .null] [] (F, A, J, G) Q := by
  have h10 : h ≤ 10 := Nat.le_trans hW.1.1 hT.1.1
  refine t_9_0 hG (c_84 hG tw27 hT hW (fun A1 hf hg => k_9_12 hG ?_))
  have hs := FrT_scr27 (F := F) hf
  have hT1 := CTn_scr hs hT
  have hW1 := CTw_scr hs hW
  have hS1 := CSn_scr hs hS
  refine up_ind (h := h) (P := fun l => ∀ v, X (d + 3) 9 16 [.ref 66, .ref 27, .int (zI ((flt id (mbB K h ord wd ln s sl st) (19 * l)).length : Int)), .int (zI (l : Int)), v] [] (F, A1, J, G) Q) ?_ ?_ _
  · intro v
    refine t_9_16 hG ⟨fun e => ?_, fun _ => hQ A1 hs⟩
    rw [hW1.2.1, zN_lt (by omega) (by omega)] at e
    omega
  · intro l hl ih v
    refine t_9_16 hG ⟨fun _ => ?_, fun e => ?_⟩
    · refine up_ind (h := 19) (P := fun k => X (d + 3) 9 28 [.ref 66, .ref 27, .int (zI ((flt id (mbB K h ord wd ln s sl st) (19 * l + k)).length : Int)), .int (zI (l : Int)), .int (zI ((k : Int) - 9))] [] (F, A1, J, G) Q) ?_ ?_
      · refine t_9_28 hG ⟨fun _ => ?_, fun e => absurd (show (9 : Int32) < zI (((19 : Nat) : Int) - 9) by decide) e⟩
        rw [zN_1]; exact ih _
      · intro k hk ih2
        refine t_9_28 hG ⟨fun e => ?_, fun _ => c_14 hG hT1 hW1 hS1 hg hl hk (k_9_43 hG ?_)⟩
        · rw [show (9 : Int32) = zI 9 from rfl, zI_lt (by omega) (by omega) (by omega) (by omega)] at e
          omega
        · rw [zZ_1, show (k : Int) - 9 + 1 = ((k + 1 : Nat) : Int) - 9 by omega, zN_1, z0, zI_add, Int.add_zero]
          rw [show 19 * l + (k + 1) = (19 * l + k) + 1 by omega, flt] at ih2
          refine ⟨fun e => ?_, fun e => ?_⟩
          · cases hb : mbB K h ord wd ln s sl st (19 * l + k)
            · rw [show id (19 * l + k) = 19 * l + k from rfl, hb, if_neg (by decide)] at ih2; exact ih2
            · rw [hb] at e; exact absurd e (by decide)
          · cases hb : mbB K h ord wd ln s sl st (19 * l + k)
            · rw [hb] at e; exact absurd rfl e
            · rw [show id (19 * l + k) = 19 * l + k from rfl, hb, if_pos rfl, List.length_append] at ih2; exact ih2
    · rw [hW1.2.1, zN_lt (by omega) (by omega)] at e
      omega
theorem c_10 (hG : Geo G SL p q) (hT : CTn F A K n) (hW : CTw 27 F A n h ord ml wd ln yr) (hS : CSn F A s sl st) (hQ : ∀ A', CScr F A F A' → Q (.inl (some (.int (zI (owA ord (fsB (mbB K h ord wd ln s sl st) (19 * h) 0)))))) (F, A', J, G)) : X (d + 3) 10 0 [.ref 66, .null, .null, .null] [] (F, A, J, G) Q := by
  have h10' := hT.1.1
  have h10 : h ≤ 10 := Nat.le_trans hW.1.1 hT.1.1
  refine t_10_0 hG (c_84 hG tw27 hT hW (fun A1 hf hg => k_10_12 hG ?_))
  have hs := FrT_scr27 (F := F) hf
  have hT1 := CTn_scr hs hT
  have hW1 := CTw_scr hs hW
  have hS1 := CSn_scr hs hS
  have outer : ∀ m l, l + m = h → Q (.inl (some (.int (zI (owA ord (fsB (mbB K h ord wd ln s sl st) (19 * m) (19 * l))))))) (F, A1, J, G) → ∀ v, X (d + 3) 10 14 [.ref 66, .ref 27, .int (zI (l : Int)), v] [] (F, A1, J, G) Q := by
    intro m
    induction m with
    | zero =>
      intro l hl hq v
      refine t_10_14 hG ⟨fun e => ?_, fun _ => hq⟩
      rw [hW1.2.1, zN_lt (by omega) (by omega)] at e
      omega
    | succ m ih =>
      intro l hl hq v
      have hol := hW.1.2.1 l (by omega)
      have a28 : A1 28 l = zI (ord l : Int) := hW1.2.2.2.1 l (by omega)
      refine t_10_14 hG ⟨fun _ => ?_, fun e => ?_⟩
      · have inner : ∀ k' k, k + k' = 19 → Q (.inl (some (.int (zI (owA ord (fsB (mbB K h ord wd ln s sl st) (k' + 19 * m) (19 * l + k))))))) (F, A1, J, G) → X (d + 3) 10 25 [.ref 66, .ref 27, .int (zI (l : Int)), .int (zI ((k : Int) - 9))] [] (F, A1, J, G) Q := by
          intro k'
          induction k' with
          | zero =>
            intro k hk hq
            refine t_10_25 hG ⟨fun _ => ?_, fun e => ?_⟩
            · rw [zN_1]
              refine ih (l + 1) (by omega) ?_ _
              rw [Nat.zero_add, show 19 * l + k = 19 * (l + 1) by omega] at hq
              exact hq
            · rw [show (9 : Int32) = zI 9 from rfl, zI_lt (by omega) (by omega) (by omega) (by omega)] at e
              omega
          | succ k' ih2 =>
            intro k hk hq
            rw [show k' + 1 + 19 * m = (k' + 19 * m) + 1 by omega, fsB] at hq
            refine t_10_25 hG ⟨fun e => ?_, fun _ => c_14 hG hT1 hW1 hS1 hg (by omega) (show k < 19 by omega) (k_10_37 hG ?_)⟩
            · rw [show (9 : Int32) = zI 9 from rfl, zI_lt (by omega) (by omega) (by omega) (by omega)] at e
              omega
            · rw [zZ_1, show (k : Int) - 9 + 1 = ((k + 1 : Nat) : Int) - 9 by omega, zI_clamp (n := l) (by omega), a28, show (100 : Int32) = zI 100 from rfl, show (50 : Int32) = zI 50 from rfl, zI_mul, zI_add, zI_add]
              refine ⟨fun e => ?_, fun e => ⟨zN_in (by omega) (by decide), ?_⟩⟩
              · cases hb : mbB K h ord wd ln s sl st (19 * l + k)
                · rw [hb, if_neg (by decide)] at hq; exact ih2 (k + 1) (by omega) hq
                · rw [hb] at e; exact absurd e (by decide)
              · cases hb : mbB K h ord wd ln s sl st (19 * l + k)
                · rw [hb] at e; exact absurd rfl e
                · rw [hb, if_pos rfl, owA_n, (e_div (l := l) (k := k) (by omega)).1, (e_div (l := l) (k := k) (by omega)).2] at hq; exact hq
        exact inner 19 0 rfl (by rw [show 19 * (m + 1) = 19 + 19 * m by omega] at hq; exact hq)
      · rw [hW1.2.1, zN_lt (by omega) (by omega)] at e
        omega
  exact outer h 0 (by omega) (hQ A1 hs) _
end SeenZ
