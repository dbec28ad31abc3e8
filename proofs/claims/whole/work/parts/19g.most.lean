/-! the most -/
section MostZ
variable {d : Nat} {F A F' A' : Nat → Nat → Int32} {J : Nat → Nat → Int64} {G : pG} {Q : pR → pM → Prop} {SL p q : Nat} {K : Nat → Nat → Int} {n h S b t : Nat} {ord : Nat → Nat} {ml wd ln : Nat → Int} {yr z y : Int} {od : Nat → Nat}
def IsMs (od : Nat → Nat) (N M : Nat) : Prop := 0 < od M ∧ M < N ∧ ∀ e, e < N → 0 < od e → pcn e ≤ pcn M ∧ (pcn e = pcn M → M ≤ e)
theorem ms_unique {N M M' : Nat} (h1 : IsMs od N M) (h2 : IsMs od N M') : M = M' := by
  have a := h1.2.2 M' h2.2.1 h2.1
  have b := h2.2.2 M h1.2.1 h1.1
  have c := a.2 (by omega)
  have e := b.2 (by omega)
  omega
def odZ (K : Nat → Nat → Int) (n : Nat) (ml wd ln : Nat → Int) (yr : Int) (S : Nat) : Nat := WY (ftB K n ml wd ln yr 0 0 S) n S 0
theorem od_0 : odZ K n ml wd ln yr 0 = 1 := WY_self
theorem pcn_0 : pcn 0 = 0 := by decide
theorem cn_10 (S : Nat) : cn (fun t => S.testBit t) 10 = pcn S := by
  have hb : ∀ k, (if S.testBit k = true then 1 else 0) = S / 2 ^ k % 2 := fun k => by
    rw [Nat.testBit_eq_decide_div_mod_eq]
    by_cases e : S / 2 ^ k % 2 = 1
    · rw [decide_eq_true e, if_pos rfl, e]
    · rw [decide_eq_false e, if_neg (by decide)]
      have : S / 2 ^ k % 2 < 2 := Nat.mod_lt _ (by decide)
      generalize S / 2 ^ k % 2 = u at e this
      omega
  simp only [cn, hb]
  unfold pcn
  simp only [Nat.reducePow, Nat.div_one, Nat.zero_add]
  generalize S % 2 = a0
  generalize S / 2 % 2 = a1
  generalize S / 4 % 2 = a2
  generalize S / 8 % 2 = a3
  generalize S / 16 % 2 = a4
  generalize S / 32 % 2 = a5
  generalize S / 64 % 2 = a6
  generalize S / 128 % 2 = a7
  generalize S / 256 % 2 = a8
  generalize S / 512 % 2 = a9
  omega
theorem cn_more {q : Nat → Bool} : ∀ k, (∀ i, n ≤ i → i < n + k → q i = false) → cn q (n + k) = cn q n
  | 0, _ => rfl
  | k + 1, h => by
    rw [show n + (k + 1) = (n + k) + 1 by omega, cn, cn_more k (fun i h1 h2 => h i h1 (by omega)), h (n + k) (by omega) (by omega)]
    rfl
theorem pcn_cn (h10 : n ≤ 10) (hS : S < 2 ^ n) : cn (frB S 0) n = pcn S := by
  have h1 : cn (frB S 0) n = cn (fun t => S.testBit t) n := cn_congr n (fun i _ => by unfold frB; rw [Nat.zero_testBit]; simp)
  have h2 := cn_more (n := n) (q := fun t => S.testBit t) (10 - n) (fun i h1 _ => Nat.testBit_lt_two_pow (Nat.lt_of_lt_of_le hS (Nat.pow_le_pow_right (by decide) h1)))
  rw [show n + (10 - n) = 10 by omega, cn_10] at h2
  rw [h1, h2]
/-- which table comes next in the first row -/
def rwP1 (K : Nat → Nat → Int) (n : Nat) (ml wd ln : Nat → Int) (yr : Int) (S p t : Nat) : Bool := frB S p t && (ftB K n ml wd ln yr 0 0 S p t && decide (0 < WY (ftB K n ml wd ln yr 0 0 S) n S (p ||| 2 ^ t)))
def rwT (K : Nat → Nat → Int) (n : Nat) (ml wd ln : Nat → Int) (yr : Int) (S p : Nat) : Nat := (fsB (rwP1 K n ml wd ln yr S p) n 0).toNat
def rwP (K : Nat → Nat → Int) (n : Nat) (ml wd ln : Nat → Int) (yr : Int) (S : Nat) : Nat → Nat
  | 0 => 0
  | l + 1 => rwP K n ml wd ln yr S l ||| 2 ^ rwT K n ml wd ln yr S (rwP K n ml wd ln yr S l)
theorem sN_pos {f : Nat → Nat} : ∀ k, 0 < sN f k → ∃ i, i < k ∧ 0 < f i
  | 0, h => absurd h (Nat.lt_irrefl 0)
  | k + 1, h => by
    rw [sN] at h
    by_cases e : 0 < f k
    · exact ⟨k, by omega, e⟩
    · obtain ⟨i, h1, h2⟩ := sN_pos (f := f) k (by omega)
      exact ⟨i, by omega, h2⟩
theorem rw_next (hS : S < 2 ^ n) (hp : b &&& S = b) (hne : b ≠ S) (hw : 0 < WY (ftB K n ml wd ln yr 0 0 S) n S b) : fsB (rwP1 K n ml wd ln yr S b) n 0 = (rwT K n ml wd ln yr S b : Int) ∧ rwT K n ml wd ln yr S b < n ∧ rwP1 K n ml wd ln yr S b (rwT K n ml wd ln yr S b) = true ∧ ∀ i, i < rwT K n ml wd ln yr S b → rwP1 K n ml wd ln yr S b i = false := by
  rw [WY_step hS hp hne] at hw
  obtain ⟨t, ht, hf⟩ := sN_pos n hw
  have hpt : rwP1 K n ml wd ln yr S b t = true := by
    unfold rwP1
    split at hf
    · rename_i hc
      rw [hc.1, hc.2, decide_eq_true hf]; rfl
    · omega
  have hne1 : ¬ fsB (rwP1 K n ml wd ln yr S b) n 0 = -1 := fun q => by
    rw [fsB_none] at q
    rw [q t (by omega) (by omega)] at hpt
    exact absurd hpt (by decide)
  have hge := fsB_ge (rwP1 K n ml wd ln yr S b) n 0
  have he : fsB (rwP1 K n ml wd ln yr S b) n 0 = (rwT K n ml wd ln yr S b : Int) := by unfold rwT; omega
  obtain ⟨h1, h2, h3, h4⟩ := (fsB_some n 0 _).mp he
  exact ⟨he, by omega, h3, fun i hi => h4 i (by omega) hi⟩
/-- the row goes up -/
theorem rw_inv (h10 : n ≤ 10) (hS : S < 2 ^ n) (hw : 0 < odZ K n ml wd ln yr S) : ∀ l, l ≤ pcn S → rwP K n ml wd ln yr S l &&& S = rwP K n ml wd ln yr S l ∧ cn (frB S (rwP K n ml wd ln yr S l)) n + l = pcn S ∧ 0 < WY (ftB K n ml wd ln yr 0 0 S) n S (rwP K n ml wd ln yr S l)
  | 0, _ => ⟨Nat.zero_and S, pcn_cn h10 hS, hw⟩
  | l + 1, hl => by
    obtain ⟨h1, h2, h3⟩ := rw_inv h10 hS hw l (by omega)
    have hne : rwP K n ml wd ln yr S l ≠ S := fun q => by
      have h0 : cn (frB S (rwP K n ml wd ln yr S l)) n = 0 := by
        rw [q]
        have h1 : cn (frB S S) n = cn (fun _ => false) n := cn_congr n (fun i _ => by unfold frB; cases S.testBit i <;> rfl)
        rw [h1]
        have : ∀ k, cn (fun _ => false) k = 0 := fun k => by
          induction k with
          | zero => rfl
          | succ k ih => rw [cn, ih]; rfl
        exact this n
      omega
    obtain ⟨-, ht, hp, -⟩ := rw_next hS h1 hne h3
    unfold rwP1 at hp
    rw [Bool.and_eq_true, Bool.and_eq_true, decide_eq_true_eq] at hp
    rw [rwP]
    exact ⟨sub_or h1 hp.1, by have := fr_next ht hp.1; omega, hp.2.2⟩
theorem rw_ne (h10 : n ≤ 10) (hS : S < 2 ^ n) (hw : 0 < odZ K n ml wd ln yr S) {l : Nat} (hl : l < pcn S) : rwP K n ml wd ln yr S l ≠ S := fun q => by
  obtain ⟨h1, h2, h3⟩ := rw_inv h10 hS hw l (by omega)
  have h0 : cn (frB S (rwP K n ml wd ln yr S l)) n = 0 := by
    rw [q]
    have h1 : cn (frB S S) n = cn (fun _ => false) n := cn_congr n (fun i _ => by unfold frB; cases S.testBit i <;> rfl)
    rw [h1]
    have : ∀ k, cn (fun _ => false) k = 0 := fun k => by
      induction k with
      | zero => rfl
      | succ k ih => rw [cn, ih]; rfl
    exact this n
  omega
theorem rw_end (h10 : n ≤ 10) (hS : S < 2 ^ n) (hw : 0 < odZ K n ml wd ln yr S) : rwP K n ml wd ln yr S (pcn S) = S := by
  obtain ⟨h1, h2, h3⟩ := rw_inv h10 hS hw (pcn S) (Nat.le_refl _)
  exact fr_eq hS h1 (by omega)
theorem pcn_le {e : Nat} : pcn e ≤ 10 := by unfold pcn; omega
theorem pcn_n (h10 : n ≤ 10) (hS : S < 2 ^ n) : pcn S ≤ n := by rw [← pcn_cn h10 hS]; exact cn_le n
/-- the class looks for it -/
theorem c_20 (hG : Geo G SL p q) (hT : CTn F A K n) (hW : CTw 27 F A n h ord ml wd ln yr) (hM : Sms A 63 K n ml wd ln) (hQ : ∀ F' A' M, IsMs (odZ K n ml wd ln yr) (2 ^ n) M → (∀ i, i ≠ 61 → F' i = F i) → (∀ k, k < 7 → F' 61 k = F 61 k) → (∀ i, i ≠ 65 → A' i = A i) → Q (.inl (some (.int (zI (M : Int))))) (F', A', J, G)) : X (d + 5) 20 0 [.ref 61, .null, .null] [] (F, A, J, G) Q := by
  have h10' := hT.1.1
  have hn2 : 2 ^ n ≤ 1024 := Nat.pow_le_pow_right (n := 2) (by decide) h10'
  have hn1 : 0 < 2 ^ n := Nat.two_pow_pos n
  have fr : ∀ F1 A1, (∀ i, i ≠ 61 → F1 i = F i) → (∀ i, i ≠ 65 → A1 i = A i) → CTn F1 A1 K n ∧ CTw 27 F1 A1 n h ord ml wd ln yr ∧ Sms A1 63 K n ml wd ln := fun F1 A1 hF1 hA1 => by
    refine ⟨?_, ?_, ?_⟩
    · unfold CTn at hT ⊢
      rw [hF1 12 (by decide), hA1 13 (by decide), hA1 14 (by decide), hA1 15 (by decide), hA1 17 (by decide)]; exact hT
    · unfold CTw at hW ⊢
      rw [hF1 27 (by decide), hA1 (27 + 1) (by decide), hA1 (27 + 2) (by decide), hA1 (27 + 3) (by decide), hA1 (27 + 4) (by decide)]; exact hW
    · unfold Sms at hM ⊢
      rw [hA1 63 (by decide), hA1 (63 + 1) (by decide)]; exact hM
  refine t_20_0 hG ?_
  rw [hT.2.1]
  refine dn_ind (h := n) (P := fun m => ∀ F1 A1 v, (∀ i, i ≠ 61 → F1 i = F i) → (∀ k, k < 7 → F1 61 k = F 61 k) → (∀ i, i ≠ 65 → A1 i = A i) → (∀ e, e < 2 ^ n → m < pcn e → odZ K n ml wd ln yr e = 0) → X (d + 5) 20 8 [.ref 61, .int (zI (m : Int)), v] [] (F1, A1, J, G) Q) ?_ ?_ F A _ (fun _ _ => rfl) (fun _ _ => rfl) (fun _ _ => rfl) (fun e he hp => by have := pcn_n h10' he; omega)
  · intro F1 A1 v hF hF2 hA hz
    refine t_20_8 hG ⟨fun e => absurd e (by decide), fun _ => hQ F1 A1 0 ⟨by rw [od_0]; decide, hn1, fun e he ho => ?_⟩ hF hF2 hA⟩
    rw [pcn_0]
    have : ¬ 0 < pcn e := fun q => by have := hz e he q; omega
    exact ⟨by omega, fun _ => Nat.zero_le _⟩
  · intro m hm ih F1 A1 v hF hF2 hA hz
    refine t_20_8 hG ⟨fun _ => ?_, fun e => ?_⟩
    · refine up_ind (h := 2 ^ n) (P := fun r => ∀ F1 A1, (∀ i, i ≠ 61 → F1 i = F i) → (∀ k, k < 7 → F1 61 k = F 61 k) → (∀ i, i ≠ 65 → A1 i = A i) → (∀ e, e < r → pcn e = m + 1 → odZ K n ml wd ln yr e = 0) → X (d + 5) 20 14 [.ref 61, .int (zI ((m + 1 : Nat) : Int)), .int (zI (r : Int))] [] (F1, A1, J, G) Q) ?_ ?_ F1 A1 hF hF2 hA (fun e he => absurd he (Nat.not_lt_zero e))
      · intro F1 A1 hF hF2 hA hz2
        refine t_20_14 hG ⟨fun _ => ?_, fun e => ?_⟩
        · rw [zZ_m1, show ((m + 1 : Nat) : Int) - 1 = (m : Int) by omega]
          refine ih F1 A1 _ hF hF2 hA (fun e he hp => ?_)
          by_cases hc : pcn e = m + 1
          · exact hz2 e he hc
          · exact hz e he (by omega)
        · rw [hF 12 (by decide), hT.2.1, shl_z n (by omega), zZ_s1, zI_lt (by omega) (by omega) (by omega) (by omega)] at e
          omega
      · intro r hr ih2 F1 A1 hF hF2 hA hz2
        obtain ⟨hT1, hW1, hM1⟩ := fr F1 A1 hF hA
        have hpr : pcn r ≤ 10 := pcn_le
        refine t_20_14 hG ⟨fun e => ?_, fun _ => ⟨zN_in (by omega) (by decide), ?_⟩⟩
        · rw [hT1.2.1, shl_z n (by omega), zZ_s1, zI_lt (by omega) (by omega) (by omega) (by omega)] at e
          omega
        · rw [zI_clamp (n := r) (by omega), zI_nI, zN_eq (by omega) (by omega), zN_1]
          refine ⟨fun e => c_23 (li := 0) (se := 0) hG hT1 hW1 hM1 hr (by decide) (by decide) (fun F2 A2 g1 g2 _ g4 _ => k_20_40 hG ?_), fun e => ih2 F1 A1 hF hF2 hA (fun e2 he2 hp2 => ?_)⟩
          · have hod : WY (ftB K n ml wd ln yr 0 0 r) n r 0 = odZ K n ml wd ln yr r := rfl
            have hol : odZ K n ml wd ln yr r ≤ 3628800 := WY_le h10'
            rw [hod, show ((0 : Int32) < zI ((odZ K n ml wd ln yr r : Nat) : Int)) = (0 < odZ K n ml wd ln yr r) by rw [show (0 : Int32) = zI ((0 : Nat) : Int) from rfl, zN_lt (by omega) (by omega)], zN_1]
            have q1 : ∀ i, i ≠ 61 → F2 i = F i := fun i hi => by rw [g1 i hi]; exact hF i hi
            have q2 : ∀ k, k < 7 → F2 61 k = F 61 k := fun k hk => by rw [g2 k hk]; exact hF2 k hk
            have q3 : ∀ i, i ≠ 65 → A2 i = A i := fun i hi => by rw [g4 i hi]; exact hA i hi
            refine ⟨fun e2 => hQ F2 A2 r ⟨e2, hr, fun e3 he3 ho3 => ?_⟩ q1 q2 q3, fun e2 => ih2 F2 A2 q1 q2 q3 (fun e3 he3 hp3 => ?_)⟩
            · have h1 : ¬ m + 1 < pcn e3 := fun q => by have := hz e3 he3 q; omega
              refine ⟨by omega, fun h2 => Nat.le_of_not_lt (fun q => ?_)⟩
              have := hz2 e3 q (by omega)
              omega
            · by_cases hc : e3 = r
              · subst hc; omega
              · exact hz2 e3 (by omega) hp3
          · by_cases hc : e2 = r
            · subst hc; exact absurd hp2 e
            · exact hz2 e2 (by omega) hp2
    · exact absurd (show (0 : Int32) < zI ((m + 1 : Nat) : Int) by rw [show (0 : Int32) = zI ((0 : Nat) : Int) from rfl, zN_lt (by omega) (by omega)]; omega) e
theorem c_21 (hG : Geo G SL p q) (hT : CTn F A K n) (hW : CTw 27 F A n h ord ml wd ln yr) (hM : Sms A 63 K n ml wd ln) (h3 : CSt3 F S 0 0) (hS : S < 2 ^ n) (hw : 0 < odZ K n ml wd ln yr S) (h65 : ∀ s, s &&& S = s → A 65 s = zI ((WY (ftB K n ml wd ln yr 0 0 S) n S s : Nat) : Int)) (hQ : ∀ A', (∀ i, i ≠ 62 → A' i = A i) → (∀ l, l < pcn S → A' 62 l = zI ((rwT K n ml wd ln yr S (rwP K n ml wd ln yr S l) : Nat) : Int)) → Q (.inl none) (F, A', J, G)) : X (d + 3) 21 0 [.ref 61, .null, .null, .null, .null, .null] [] (F, A, J, G) Q := by
  have h10' := hT.1.1
  have hn2 : 2 ^ n ≤ 1024 := Nat.pow_le_pow_right (n := 2) (by decide) h10'
  have hpS : pcn S ≤ 10 := pcn_le
  have fr : ∀ A1, (∀ i, i ≠ 62 → A1 i = A i) → CTn F A1 K n ∧ CTw 27 F A1 n h ord ml wd ln yr ∧ Sms A1 63 K n ml wd ln := fun A1 hA1 => by
    refine ⟨?_, ?_, ?_⟩
    · unfold CTn at hT ⊢
      rw [hA1 13 (by decide), hA1 14 (by decide), hA1 15 (by decide), hA1 17 (by decide)]; exact hT
    · unfold CTw at hW ⊢
      rw [hA1 (27 + 1) (by decide), hA1 (27 + 2) (by decide), hA1 (27 + 3) (by decide), hA1 (27 + 4) (by decide)]; exact hW
    · unfold Sms at hM ⊢
      rw [hA1 63 (by decide), hA1 (63 + 1) (by decide)]; exact hM
  refine t_21_0 hG ?_
  refine up_ind (h := pcn S) (P := fun l => ∀ A1 v3 v4 v5, (∀ i, i ≠ 62 → A1 i = A i) → (∀ l', l' < l → A1 62 l' = zI ((rwT K n ml wd ln yr S (rwP K n ml wd ln yr S l') : Nat) : Int)) → X (d + 3) 21 4 [.ref 61, .int (zI ((rwP K n ml wd ln yr S l : Nat) : Int)), .int (zI (l : Int)), v3, v4, v5] [] (F, A1, J, G) Q) ?_ ?_ A .null .null .null (fun _ _ => rfl) (fun l hl => absurd hl (Nat.not_lt_zero l))
  · intro A1 v3 v4 v5 hA hr
    rw [rw_end h10' hS hw]
    refine t_21_4 hG ⟨fun _ => ⟨fun _ => hQ A1 hA hr, fun e => absurd h3.1.symm e⟩, fun _ => hQ A1 hA hr⟩
  · intro l hl ih A1 v3 v4 v5 hA hr
    obtain ⟨hT1, hW1, hM1⟩ := fr A1 hA
    obtain ⟨i1, i2, i3⟩ := rw_inv h10' hS hw l (by omega)
    have hne := rw_ne h10' hS hw hl
    obtain ⟨n1, n2, n3, n4⟩ := rw_next hS i1 hne i3
    have hbS : rwP K n ml wd ln yr S l ≤ S := by rw [← i1]; exact Nat.and_le_right
    have ih' := fun A1 v3 v4 v5 => ih A1 v3 v4 v5
    simp only [rwP] at ih'
    generalize hb : rwP K n ml wd ln yr S l = b at i1 i3 hne n1 n2 n3 n4 hbS ih'
    generalize hrt : rwT K n ml wd ln yr S b = T at n1 n2 n3 n4 ih'
    refine t_21_4 hG ⟨fun _ => ⟨fun e => ?_, fun _ => ?_⟩, fun e => ?_⟩
    · rw [h3.1, zN_eq (by omega) (by omega)] at e; exact absurd e hne
    · rw [hT.2.1, zZ_s1]
      have hxl : S ^^^ (S &&& b) ≤ S := rmv_le' S _
      have hx1 : ∀ t, (zI ((S ^^^ (S &&& b) : Nat) : Int) &&& zI ((2 ^ t : Nat) : Int) = 0) = (t < 10 → frB S b t = false) ∨ True := fun _ => Or.inr trivial
      refine dn_ind (h := n) (P := fun j => ∀ (tb : Nat) v5, (j ≤ T → tb = T) → X (d + 3) 21 31 [.ref 61, .int (zI (b : Int)), .int (zI (l : Int)), .int (zI (tb : Int)), .int (zI ((j : Int) - 1)), v5] [] (F, A1, J, G) Q) ?_ ?_ 0 v5 (fun q => by omega)
      · intro tb v5 htb
        have htT := htb (Nat.zero_le _)
        subst htT
        refine t_21_31 hG ⟨fun _ => ?_, fun e => absurd (show zI (((0 : Nat) : Int) - 1) < 0 by decide) e⟩
        rw [shl_z tb (by omega), zN_or, zI_clamp (n := l) (by omega), zN_1]
        refine ⟨zN_in (by omega) (by decide), ih' _ _ _ _ (fun i hi => by rw [wF_row hi]; exact hA i hi) (fun l' hl' => ?_)⟩
        rw [wF_at]
        by_cases el : l' = l
        · rw [if_pos ⟨rfl, el⟩, el, hb, hrt]
        · rw [if_neg (fun q => el q.2)]; exact hr l' (by omega)
      · intro j hj ihj tb v5 htb
        have ex : zI (((j + 1 : Nat) : Int) - 1) = zI (j : Int) := by congr 1; omega
        rw [ex]
        refine t_21_31 hG ⟨fun e => ?_, fun _ => ?_⟩
        · rw [zI_lt0 (by omega)] at e; omega
        · rw [h3.1, zN_andn, shl_z j (by omega), li_bit (by omega) (by omega), fr_bit, zZ_m1]
          refine ⟨fun e => ihj tb _ (fun q => ?_), fun e => ?_⟩
          · by_cases ej : j = T
            · subst ej
              unfold rwP1 at n3
              rw [e, Bool.false_and] at n3; exact absurd n3 (by decide)
            · exact htb (by omega)
          · have hf : frB S b j = true := by simpa using e
            have hor := sub_or i1 hf
            have hwl := WY_le (ft := ftB K n ml wd ln yr 0 0 S) (S := S) (p := b ||| 2 ^ j) h10'
            refine c_25 (li := 0) (se := 0) hG hT1 hW1 hM1 h3 hS i1 (by decide) (by decide) hf hj (by rw [hA 65 (by decide)]; exact h65 _ hor) hwl (k_21_71 hG ?_)
            have hv : (if ftB K n ml wd ln yr 0 0 S b j = true then WY (ftB K n ml wd ln yr 0 0 S) n S (b ||| 2 ^ j) else 0) ≤ 3628800 := by split; exact hwl; decide
            have hpos : ((0 : Int32) < zI ((if ftB K n ml wd ln yr 0 0 S b j = true then WY (ftB K n ml wd ln yr 0 0 S) n S (b ||| 2 ^ j) else 0 : Nat) : Int)) = (rwP1 K n ml wd ln yr S b j = true) := by
              rw [show (0 : Int32) = zI ((0 : Nat) : Int) from rfl, zN_lt (by omega) (by omega)]
              unfold rwP1
              rw [hf, Bool.true_and, Bool.and_eq_true, decide_eq_true_eq]
              by_cases hc : ftB K n ml wd ln yr 0 0 S b j = true
              · rw [if_pos hc]; exact propext ⟨fun q => ⟨hc, q⟩, fun q => q.2⟩
              · rw [if_neg hc]; exact propext ⟨fun q => absurd q (Nat.lt_irrefl 0), fun q => absurd q.1 hc⟩
            rw [hpos, zZ_m1]
            refine ⟨fun e2 => ihj j _ (fun q => ?_), fun e2 => ihj tb _ (fun q => ?_)⟩
            · by_cases ej : j = T
              · exact ej
              · rw [n4 j (by omega)] at e2; exact absurd e2 (by decide)
            · by_cases ej : j = T
              · rw [ej] at e2; exact absurd n3 e2
              · exact htb (by omega)
    · exact absurd (show zI (l : Int) < 10 by rw [show (10 : Int32) = zI ((10 : Nat) : Int) from rfl, zN_lt (by omega) (by omega)]; omega) e
end MostZ
