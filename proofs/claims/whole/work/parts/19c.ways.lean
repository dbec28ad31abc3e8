/-! orders: what is reckoned -/
section WaysZ
variable {K : Nat → Nat → Int} {n h S p t w s : Nat} {ord : Nat → Nat} {ml wd ln : Nat → Int} {yr : Int} {ft : Nat → Nat → Bool} {f g : Nat → Int}
theorem sm_sub {a b c : Nat → Int} : ∀ n s, (∀ i, s ≤ i → i < s + n → a i = b i - c i) → sm a s n = sm b s n - sm c s n
  | 0, _, _ => by simp [sm]
  | n + 1, s, h => by
    rw [sm, sm, sm, sm_sub n (s + 1) (fun i h1 h2 => h i (by omega) (by omega)), h s (by omega) (by omega)]
    omega
theorem sm_upd {a b : Nat → Int} : ∀ n, t < n → (∀ i, i ≠ t → a i = b i) → sm a 0 n = sm b 0 n + (a t - b t)
  | 0, ht, _ => absurd ht (Nat.not_lt_zero t)
  | n + 1, ht, h => by
    rw [sm_last, sm_last, Nat.zero_add]
    by_cases e : t = n
    · subst e
      rw [sm_congr (g := b) t 0 (fun i _ h2 => h i (by omega))]
      omega
    · rw [sm_upd n (by omega) h, h n (fun q => e q.symm)]
      omega
def smS (f : Nat → Int) (S n : Nat) : Int := sm (fun i => if S.testBit i = true then f i else 0) 0 n
theorem smS_0 : smS f 0 n = 0 := by
  unfold smS
  have h1 := sm_le (fun i => if (0 : Nat).testBit i = true then f i else 0) 0 n 0 (fun k _ _ => by rw [Nat.zero_testBit]; simp)
  have h2 := sm_ge (fun i => if (0 : Nat).testBit i = true then f i else 0) 0 n 0 (fun k _ _ => by rw [Nat.zero_testBit]; simp)
  omega
theorem smS_or (hb : p.testBit t = false) (ht : t < n) : smS f (p ||| 2 ^ t) n = smS f p n + f t := by
  unfold smS
  rw [sm_upd (a := fun i => if (p ||| 2 ^ t).testBit i = true then f i else 0) (b := fun i => if p.testBit i = true then f i else 0) n ht (fun i hi => by
    rw [Nat.testBit_or, Nat.testBit_two_pow, decide_eq_false (fun q => hi q.symm), Bool.or_false])]
  rw [hb, Nat.testBit_or, Nat.testBit_two_pow, decide_eq_true rfl, Bool.or_true]
  simp
theorem smS_sub (hs : ∀ i, w.testBit i = true → S.testBit i = true) : smS f (S ^^^ (S &&& w)) n = smS f S n - smS f w n := by
  unfold smS
  refine sm_sub n 0 (fun i _ _ => ?_)
  have := hs i
  rw [Nat.testBit_xor, Nat.testBit_and]
  cases hS : S.testBit i <;> cases hw : w.testBit i
  · simp
  · rw [hw, hS] at this; exact absurd (this rfl) (by decide)
  · simp
  · simp
theorem smS_b {lo hi : Int} (hlo : lo ≤ 0) (hhi : 0 ≤ hi) (hf : ∀ i, i < n → lo ≤ f i ∧ f i ≤ hi) : lo * n ≤ smS f S n ∧ smS f S n ≤ hi * n := by
  unfold smS
  refine ⟨sm_ge _ _ _ _ (fun k _ hk => ?_), sm_le _ _ _ _ (fun k _ hk => ?_)⟩
  · split
    · exact (hf k (by omega)).1
    · exact hlo
  · split
    · exact (hf k (by omega)).2
    · exact hhi
def wtF (K : Nat → Nat → Int) (ml : Nat → Int) (i : Nat) : Int := K 1 i + ml i
theorem wt_b (hK : TnOk K n) (hw : TwOk n h ord ml wd ln yr) (S : Nat) : 0 ≤ smS (wtF K ml) S n ∧ smS (wtF K ml) S n ≤ 61000 := by
  have := smS_b (S := S) (n := n) (f := wtF K ml) (lo := 0) (hi := 6099) (by decide) (by decide) (fun i hi => by
    have h1 := (hK.2.1 i hi).2.1
    have h2 := (hw.2.2.2.1 i hi).1
    unfold wtF; omega)
  have h10 := hK.1
  omega
theorem tl_b (hK : TnOk K n) (hw : TwOk n h ord ml wd ln yr) (S : Nat) : -360 ≤ smS (trnZ K ln wd) S n ∧ smS (trnZ K ln wd) S n ≤ 360 := by
  have := smS_b (S := S) (n := n) (f := trnZ K ln wd) (lo := -36) (hi := 36) (by decide) (by decide) (fun i hi => trn_b hw hi)
  have h10 := hK.1
  omega
/-- whether a table may come next -/
def ftB (K : Nat → Nat → Int) (n : Nat) (ml wd ln : Nat → Int) (yr : Int) (li se S p t : Nat) : Bool := ((!(li.testBit t)) || decide (se ≤ pcn p)) && (decide (smS (wtF K ml) S n - smS (wtF K ml) (p ||| 2 ^ t) n + ml t ≤ carZ K yr t (decide (p ||| 2 ^ t = S))) && decide (((smS (trnZ K ln wd) (p ||| 2 ^ t) n).natAbs : Int) ≤ K 4 0))
def cn (q : Nat → Bool) : Nat → Nat
  | 0 => 0
  | k + 1 => cn q k + if q k = true then 1 else 0
theorem cn_congr {q r : Nat → Bool} : ∀ k, (∀ i, i < k → q i = r i) → cn q k = cn r k
  | 0, _ => rfl
  | k + 1, h => by rw [cn, cn, cn_congr k (fun i hi => h i (by omega)), h k (by omega)]
theorem cn_upd {q r : Nat → Bool} : ∀ k, t < k → (∀ i, i ≠ t → q i = r i) → q t = true → r t = false → cn q k = cn r k + 1
  | 0, ht, _, _, _ => absurd ht (Nat.not_lt_zero t)
  | k + 1, ht, h, h1, h2 => by
    rw [cn, cn]
    by_cases e : t = k
    · subst e
      rw [cn_congr t (fun i hi => h i (by omega)), h1, h2]
      simp
    · rw [cn_upd k (by omega) h h1 h2, h k (fun q => e q.symm)]
      omega
theorem cn_0 {q : Nat → Bool} : ∀ k, cn q k = 0 → ∀ i, i < k → q i = false
  | 0, _, i, hi => absurd hi (Nat.not_lt_zero i)
  | k + 1, h, i, hi => by
    rw [cn] at h
    by_cases e : i = k
    · subst e
      cases hq : q i
      · rfl
      · rw [hq, if_pos rfl] at h; omega
    · exact cn_0 k (by omega) i (by omega)
theorem cn_le {q : Nat → Bool} : ∀ k, cn q k ≤ k
  | 0 => Nat.le_refl _
  | k + 1 => by
    have := cn_le (q := q) k
    rw [cn]; split <;> omega
def sN (f : Nat → Nat) : Nat → Nat
  | 0 => 0
  | k + 1 => sN f k + f k
theorem sN_congr {f g : Nat → Nat} : ∀ k, (∀ i, i < k → f i = g i) → sN f k = sN g k
  | 0, _ => rfl
  | k + 1, h => by rw [sN, sN, sN_congr k (fun i hi => h i (by omega)), h k (by omega)]
theorem sN_le {f : Nat → Nat} {q : Nat → Bool} {m : Nat} : ∀ k, (∀ i, i < k → f i ≤ if q i = true then m else 0) → sN f k ≤ cn q k * m
  | 0, _ => by simp [sN, cn]
  | k + 1, h => by
    have h1 := sN_le k (fun i hi => h i (by omega))
    have h2 := h k (by omega)
    rw [sN, cn, Nat.add_mul]
    split at h2
    · rw [if_pos ‹_›]; omega
    · rw [if_neg ‹_›]; omega
theorem sN_mono {f : Nat → Nat} : ∀ k j, j ≤ k → sN f j ≤ sN f k
  | 0, j, h => by rw [show j = 0 by omega]; exact Nat.le_refl _
  | k + 1, j, h => by
    by_cases e : j = k + 1
    · rw [e]; exact Nat.le_refl _
    · rw [sN]; have := sN_mono (f := f) k j (by omega); omega
theorem sN_0 {f : Nat → Nat} : ∀ k, (∀ i, i < k → f i = 0) → sN f k = 0
  | 0, _ => rfl
  | k + 1, h => by rw [sN, sN_0 k (fun i hi => h i (by omega)), h k (by omega)]
def frB (S p t : Nat) : Bool := S.testBit t && !p.testBit t
def wyZ (ft : Nat → Nat → Bool) (n S : Nat) : Nat → Nat → Nat
  | 0, _ => 1
  | k + 1, p => sN (fun t => if frB S p t = true ∧ ft p t = true then wyZ ft n S k (p ||| 2 ^ t) else 0) n
def WY (ft : Nat → Nat → Bool) (n S p : Nat) : Nat := wyZ ft n S (cn (frB S p) n) p
theorem fr_next (ht : t < n) (hf : frB S p t = true) : cn (frB S p) n = cn (frB S (p ||| 2 ^ t)) n + 1 := by
  refine cn_upd n ht (fun i hi => ?_) hf ?_
  · unfold frB
    rw [Nat.testBit_or, Nat.testBit_two_pow, decide_eq_false (fun q => hi q.symm), Bool.or_false]
  · unfold frB
    rw [Nat.testBit_or, Nat.testBit_two_pow, decide_eq_true rfl, Bool.or_true, Bool.not_true, Bool.and_false]
theorem fr_eq (hS : S < 2 ^ n) (hp : p &&& S = p) (h0 : cn (frB S p) n = 0) : p = S := Nat.eq_of_testBit_eq (fun i => by
  have h1 : p.testBit i = true → S.testBit i = true := fun h => by rw [← hp, Nat.testBit_and, Bool.and_eq_true] at h; exact h.2
  by_cases e : i < n
  · have h2 := cn_0 n h0 i e
    unfold frB at h2
    cases ha : p.testBit i <;> cases hb : S.testBit i
    · rfl
    · rw [ha, hb] at h2; exact absurd h2 (by decide)
    · rw [h1 ha] at hb; exact absurd hb (by decide)
    · rfl
  · have hs : S.testBit i = false := Nat.testBit_lt_two_pow (Nat.lt_of_lt_of_le hS (Nat.pow_le_pow_right (by decide) (by omega)))
    rw [hs]
    cases ha : p.testBit i
    · rfl
    · rw [h1 ha] at hs; exact absurd hs (by decide))
theorem WY_self : WY ft n S S = 1 := by
  unfold WY
  have : cn (frB S S) n = 0 := by
    have h1 : cn (frB S S) n = cn (fun _ => false) n := cn_congr n (fun i _ => by unfold frB; cases S.testBit i <;> rfl)
    rw [h1]
    have : ∀ k, cn (fun _ => false) k = 0 := fun k => by
      induction k with
      | zero => rfl
      | succ k ih => rw [cn, ih]; rfl
    exact this n
  rw [this]; rfl
theorem WY_step (hS : S < 2 ^ n) (hp : p &&& S = p) (hne : p ≠ S) : WY ft n S p = sN (fun t => if frB S p t = true ∧ ft p t = true then WY ft n S (p ||| 2 ^ t) else 0) n := by
  have h0 : cn (frB S p) n ≠ 0 := fun h0 => hne (fr_eq hS hp h0)
  obtain ⟨k, hk⟩ : ∃ k, cn (frB S p) n = k + 1 := ⟨cn (frB S p) n - 1, by omega⟩
  unfold WY
  rw [hk, wyZ]
  refine sN_congr n (fun t ht => ?_)
  by_cases hc : frB S p t = true ∧ ft p t = true
  · rw [if_pos hc, if_pos hc]
    have := fr_next ht hc.1
    rw [show cn (frB S (p ||| 2 ^ t)) n = k by omega]
  · rw [if_neg hc, if_neg hc]
def fct : Nat → Nat
  | 0 => 1
  | k + 1 => (k + 1) * fct k
theorem fct_mono : ∀ k, 1 ≤ fct k
  | 0 => Nat.le_refl _
  | k + 1 => by
    have := fct_mono k
    rw [fct]
    exact Nat.le_trans this (Nat.le_mul_of_pos_left _ (by omega))
theorem wy_le : ∀ k p, cn (frB S p) n = k → wyZ ft n S k p ≤ fct k
  | 0, _, _ => Nat.le_refl _
  | k + 1, p, hc => by
    rw [wyZ, fct]
    have h1 := sN_le (f := fun t => if frB S p t = true ∧ ft p t = true then wyZ ft n S k (p ||| 2 ^ t) else 0) (q := frB S p) (m := fct k) n (fun t ht => by
      by_cases hf : frB S p t = true
      · rw [if_pos hf]
        split
        · exact wy_le k _ (by have := fr_next ht hf; omega)
        · exact Nat.zero_le _
      · rw [if_neg hf, if_neg (fun q => hf q.1)]; exact Nat.zero_le _)
    rw [hc] at h1
    exact h1
theorem fct_le (h : n ≤ 10) : fct n ≤ 3628800 := by
  have : n = 0 ∨ n = 1 ∨ n = 2 ∨ n = 3 ∨ n = 4 ∨ n = 5 ∨ n = 6 ∨ n = 7 ∨ n = 8 ∨ n = 9 ∨ n = 10 := by omega
  rcases this with rfl | rfl | rfl | rfl | rfl | rfl | rfl | rfl | rfl | rfl | rfl <;> decide
theorem WY_le (h10 : n ≤ 10) : WY ft n S p ≤ 3628800 := Nat.le_trans (wy_le _ _ rfl) (fct_le (Nat.le_trans (cn_le n) h10))
theorem sub_or (hp : p &&& S = p) (hf : frB S p t = true) : (p ||| 2 ^ t) &&& S = p ||| 2 ^ t := Nat.eq_of_testBit_eq (fun i => by
  unfold frB at hf
  rw [Bool.and_eq_true] at hf
  have h1 : p.testBit i = true → S.testBit i = true := fun h => by rw [← hp, Nat.testBit_and, Bool.and_eq_true] at h; exact h.2
  rw [Nat.testBit_and, Nat.testBit_or, Nat.testBit_two_pow]
  by_cases e : t = i
  · subst e; rw [hf.1, decide_eq_true rfl]; simp
  · rw [decide_eq_false e, Bool.or_false]
    cases ha : p.testBit i
    · rfl
    · rw [h1 ha]; rfl)
/-- where all of them lean too far, there is no order -/
theorem WY_bad (hS : S < 2 ^ n) (hbad : ∀ p t, p ||| 2 ^ t = S → ft p t = false) : ∀ k p, cn (frB S p) n = k → p &&& S = p → p ≠ S → WY ft n S p = 0
  | 0, p, hc, hp, hne => absurd (fr_eq hS hp hc) hne
  | k + 1, p, hc, hp, hne => by
    rw [WY_step hS hp hne]
    refine sN_0 n (fun t ht => ?_)
    by_cases hcc : frB S p t = true ∧ ft p t = true
    · rw [if_pos hcc]
      by_cases e : p ||| 2 ^ t = S
      · rw [hbad p t e] at hcc; exact absurd hcc.2 (by decide)
      · exact WY_bad hS hbad k _ (by have := fr_next ht hcc.1; omega) (sub_or hp hcc.1) e
    · rw [if_neg hcc]
theorem rmv_le' (S w : Nat) : S ^^^ (S &&& w) ≤ S := by
  have h1 : (S ^^^ (S &&& w)) &&& S = S ^^^ (S &&& w) := Nat.eq_of_testBit_eq (fun i => by
    rw [Nat.testBit_and, Nat.testBit_xor, Nat.testBit_and]
    cases S.testBit i <;> cases w.testBit i <;> rfl)
  rw [← h1]
  exact Nat.and_le_right
/-- subsets downwards -/
theorem land2 (a b : Nat) {x y : Nat} (hx : x < 2) (hy : y < 2) : (2 * a + x) &&& (2 * b + y) = 2 * (a &&& b) + x * y := Nat.eq_of_testBit_eq (fun i => by
  cases i with
  | zero =>
    rw [Nat.testBit_and, Nat.testBit_zero, Nat.testBit_zero, Nat.testBit_zero]
    have hx' : x = 0 ∨ x = 1 := by omega
    have hy' : y = 0 ∨ y = 1 := by omega
    rw [show (2 * a + x) % 2 = x by omega, show (2 * b + y) % 2 = y by omega]
    rcases hx' with rfl | rfl <;> rcases hy' with rfl | rfl <;> simp <;> omega
  | succ i =>
    have hxy : x * y < 2 := by
      have hx' : x = 0 ∨ x = 1 := by omega
      rcases hx' with rfl | rfl <;> omega
    rw [Nat.testBit_and, Nat.testBit_succ, Nat.testBit_succ, Nat.testBit_succ, show (2 * a + x) / 2 = a by omega, show (2 * b + y) / 2 = b by omega, show (2 * (a &&& b) + x * y) / 2 = a &&& b by omega, Nat.testBit_and])
theorem bit_dec (a : Nat) : ∃ a' x, x < 2 ∧ a = 2 * a' + x := ⟨a / 2, a % 2, by omega, by omega⟩
theorem sub_pred : ∀ k S p s : Nat, S < 2 ^ k → p &&& S = p → s &&& S = s → s < p → s ≤ (p - 1) &&& S
  | 0, S, p, s, hS, hp, _, hsp => by
    have : S = 0 := by simp at hS; exact hS
    rw [this, Nat.and_zero] at hp
    omega
  | k + 1, S, p, s, hS, hp, hs, hsp => by
    obtain ⟨S', x, hx, rfl⟩ := bit_dec S
    obtain ⟨p', y, hy, rfl⟩ := bit_dec p
    obtain ⟨s', c, hc, rfl⟩ := bit_dec s
    rw [land2 _ _ hy hx] at hp
    rw [land2 _ _ hc hx] at hs
    have hyx : y * x < 2 := by
      have hx' : x = 0 ∨ x = 1 := by omega
      rcases hx' with rfl | rfl <;> omega
    have hcx : c * x < 2 := by
      have hx' : x = 0 ∨ x = 1 := by omega
      rcases hx' with rfl | rfl <;> omega
    have hp' : p' &&& S' = p' := by omega
    have hs' : s' &&& S' = s' := by omega
    have hy1 : y * x = y := by omega
    have hc1 : c * x = c := by omega
    have hy' : y = 0 ∨ y = 1 := by omega
    rcases hy' with rfl | rfl
    · have ih := sub_pred k S' p' s' (by rw [Nat.pow_succ] at hS; omega) hp' hs' (by omega)
      rw [show 2 * p' + 0 - 1 = 2 * (p' - 1) + 1 by omega, land2 _ _ (by decide) hx, Nat.one_mul]
      have hx' : x = 0 ∨ x = 1 := by omega
      rcases hx' with rfl | rfl <;> omega
    · rw [show 2 * p' + 1 - 1 = 2 * p' + 0 by omega, land2 _ _ (by decide) hx, hp', Nat.zero_mul]
      omega
end WaysZ
