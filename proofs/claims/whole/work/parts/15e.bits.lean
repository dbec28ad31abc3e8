/-! sets as bits; folds -/
section BitsZ
theorem zN_or (a b : Nat) : zI (a : Int) ||| zI (b : Int) = zI ((a ||| b : Nat) : Int) := by
  rw [← zI_nI, ← zI_nI, ← zI_nI]
  exact Int32.toBitVec_inj.1 (by simp [nI, Int32.toBitVec_or, Int32.toBitVec_ofNat'])
theorem zN_and (a b : Nat) : zI (a : Int) &&& zI (b : Int) = zI ((a &&& b : Nat) : Int) := by
  rw [← zI_nI, ← zI_nI, ← zI_nI]
  exact Int32.toBitVec_inj.1 (by simp [nI, Int32.toBitVec_and, Int32.toBitVec_ofNat'])
theorem zN_xor (a b : Nat) : zI (a : Int) ^^^ zI (b : Int) = zI ((a ^^^ b : Nat) : Int) := by
  rw [← zI_nI, ← zI_nI, ← zI_nI]
  exact Int32.toBitVec_inj.1 (by simp [nI, Int32.toBitVec_xor, Int32.toBitVec_ofNat'])
theorem and_not_x (x y : Int32) : x &&& (y ^^^ (-1)) = x ^^^ (x &&& y) := by
  refine Int32.toBitVec_inj.1 ?_
  have h1 : (-1 : Int32).toBitVec = BitVec.allOnes 32 := by decide
  rw [Int32.toBitVec_and, Int32.toBitVec_xor, Int32.toBitVec_xor, Int32.toBitVec_and, h1]
  ext i hi
  simp only [BitVec.getElem_and, BitVec.getElem_xor, BitVec.getElem_allOnes]
  cases x.toBitVec[i] <;> cases y.toBitVec[i] <;> rfl
theorem zN_andn (a b : Nat) : zI (a : Int) &&& (zI (b : Int) ^^^ (-1)) = zI ((a ^^^ (a &&& b) : Nat) : Int) := by
  rw [and_not_x, zN_and, zN_xor]
theorem shl_z : ∀ i : Nat, i < 11 → ((1 : Int32) <<< (zI (i : Int) &&& 31)) = zI ((2 ^ i : Nat) : Int) := by decide +kernel
theorem shr_z : ∀ a : Nat, a < 1024 → ∀ i : Nat, i < 10 → ((zI (a : Int) >>> (zI (i : Int) &&& 31)) &&& 1) = zI ((if a.testBit i then 1 else 0 : Nat) : Int) := by decide +kernel
theorem shr_0 {a i : Nat} (ha : a < 1024) (hi : i < 10) : (((zI (a : Int) >>> (zI (i : Int) &&& 31)) &&& 1) = 0) = (a.testBit i = false) := by
  rw [shr_z a ha i hi]
  cases a.testBit i <;> simp <;> decide
theorem isO_z {a i : Nat} (ha : a < 1024) (hi : i < 10) : isO (zI (a : Int)) (zI (i : Int)) = a.testBit i := by
  unfold isO
  rw [shr_z a ha i hi]
  cases a.testBit i <;> decide
/-- the tables of a row as bits -/
def bst (ord : Nat → Nat) : Nat → Nat
  | 0 => 0
  | k + 1 => bst ord k ||| 2 ^ ord k
theorem bst_lt (ord : Nat → Nat) (n : Nat) : ∀ k, (∀ l, l < k → ord l < n) → bst ord k < 2 ^ n
  | 0, _ => Nat.two_pow_pos n
  | k + 1, h => by
    rw [bst]
    exact Nat.or_lt_two_pow (bst_lt ord n k (fun l hl => h l (by omega))) (Nat.pow_lt_pow_right (by omega) (h k (by omega)))
theorem bst_bit (ord : Nat → Nat) (i : Nat) : ∀ k, (bst ord k).testBit i = true ↔ ∃ l, l < k ∧ ord l = i
  | 0 => by simp [bst]
  | k + 1 => by
    rw [bst, Nat.testBit_or, Bool.or_eq_true, bst_bit ord i k, Nat.testBit_two_pow]
    constructor
    · rintro (⟨l, h1, h2⟩ | h)
      · exact ⟨l, by omega, h2⟩
      · exact ⟨k, by omega, by simpa using h⟩
    · rintro ⟨l, h1, h2⟩
      by_cases hl : l = k
      · exact Or.inr (by subst hl; simpa using h2)
      · exact Or.inl ⟨l, by omega, h2⟩
theorem two_le {n i : Nat} (h : n ≤ 10) (hi : i < 2 ^ n) : i < 1024 := Nat.lt_of_lt_of_le hi (Nat.pow_le_pow_right (n := 2) (by decide) h)
theorem orS_z {row : Nat → Int32} {ord : Nat → Nat} : ∀ k j, (∀ l, l < j + k → row l = zI (ord l : Int) ∧ ord l < 10) → orS row k j (zI ((bst ord j : Nat) : Int)) = zI ((bst ord (j + k) : Nat) : Int)
  | 0, j, _ => rfl
  | k + 1, j, h => by
    have h1 := h j (by omega)
    rw [orS, h1.1, shl_z _ (by omega), zN_or]
    have := orS_z k (j + 1) (fun l hl => h l (by omega))
    rw [bst] at this
    rw [this, show j + 1 + k = j + (k + 1) by omega]
theorem bits_z {row : Nat → Int32} {ord : Nat → Nat} {h : Nat} (h10 : h ≤ 10) (hr : ∀ l, l < h → row l = zI (ord l : Int)) (ho : ∀ l, l < h → ord l < 10) : bitsI row (zI (h : Int)) = zI ((bst ord h : Nat) : Int) := by
  unfold bitsI
  rw [zI_clamp (by omega)]
  have := orS_z (row := row) (ord := ord) h 0 (fun l hl => ⟨hr l (by omega), ho l (by omega)⟩)
  rw [Nat.zero_add] at this
  exact this
/-- the level of a table -/
def lvZ (ord : Nat → Nat) (h : Nat) (z : Int) : Int := fsB (fun l => decide ((ord l : Int) = z)) h 0
theorem fstS_z {row : Nat → Int32} {ord : Nat → Nat} {z : Int} (h1 : -2147483648 ≤ z) (h2 : z < 2147483648) : ∀ k j, j + k ≤ 10 → (∀ l, l < j + k → row l = zI (ord l : Int) ∧ ord l < 10) → fstS row (zI z) k j = zI (fsB (fun l => decide ((ord l : Int) = z)) k j)
  | 0, j, _, _ => rfl
  | k + 1, j, hj, h => by
    have h3 := h j (by omega)
    have h4 := fstS_z h1 h2 k (j + 1) (by omega) (fun l hl => h l (by omega))
    have he : (zI (ord j : Int) = zI z) = ((ord j : Int) = z) := zI_eq (by omega) (by omega) h1 h2
    rw [fstS, fsB, h3.1, h4, zI_nI]
    by_cases e : (ord j : Int) = z
    · rw [if_pos (he.mpr e), if_pos (decide_eq_true e)]
    · rw [if_neg (fun q => e (he.mp q)), if_neg (by rw [decide_eq_true_eq]; exact e)]
theorem lv_z {row : Nat → Int32} {ord : Nat → Nat} {h : Nat} {z : Int} (h1 : -2147483648 ≤ z) (h2 : z < 2147483648) (h10 : h ≤ 10) (hr : ∀ l, l < h → row l = zI (ord l : Int)) (ho : ∀ l, l < h → ord l < 10) : lvI row (zI (h : Int)) (zI z) = zI (lvZ ord h z) := by
  unfold lvI lvZ
  rw [zI_clamp (by omega)]
  exact fstS_z h1 h2 h 0 (by omega) (fun l hl => ⟨hr l (by omega), ho l (by omega)⟩)
theorem fsB_none {p : Nat → Bool} : ∀ k j, fsB p k j = -1 ↔ ∀ i, j ≤ i → i < j + k → p i = false
  | 0, j => by simp [fsB]; intro i h1 h2; omega
  | k + 1, j => by
    rw [fsB]
    constructor
    · intro h i h1 h2
      split at h
      · omega
      · by_cases e : i = j
        · subst e; simpa using ‹¬ p _ = true›
        · exact (fsB_none k (j + 1)).mp h i (by omega) (by omega)
    · intro h
      rw [h j (by omega) (by omega), if_neg (by decide)]
      exact (fsB_none k (j + 1)).mpr (fun i h1 h2 => h i (by omega) (by omega))
theorem fsB_some {p : Nat → Bool} : ∀ k j (r : Nat), fsB p k j = (r : Int) ↔ (j ≤ r ∧ r < j + k ∧ p r = true ∧ ∀ i, j ≤ i → i < r → p i = false)
  | 0, j, r => by
    simp only [fsB]
    constructor
    · intro h; omega
    · rintro ⟨h1, h2, -⟩; omega
  | k + 1, j, r => by
    rw [fsB]
    constructor
    · intro h
      split at h
      · rename_i hp
        have : j = r := by omega
        subst this
        exact ⟨by omega, by omega, hp, fun i h1 h2 => by omega⟩
      · rename_i hp
        obtain ⟨h1, h2, h3, h4⟩ := (fsB_some k (j + 1) r).mp h
        refine ⟨by omega, by omega, h3, fun i h5 h6 => ?_⟩
        by_cases e : i = j
        · subst e; simpa using hp
        · exact h4 i (by omega) h6
    · rintro ⟨h1, h2, h3, h4⟩
      by_cases e : r = j
      · subst e; rw [if_pos h3]
      · rw [h4 j (by omega) (by omega), if_neg (by decide)]
        exact (fsB_some k (j + 1) r).mpr ⟨by omega, by omega, h3, fun i h5 h6 => h4 i (by omega) h6⟩
theorem lvZ_b {ord : Nat → Nat} {h : Nat} {z : Int} : lvZ ord h z = -1 ∨ (0 ≤ lvZ ord h z ∧ lvZ ord h z < h) := by
  have := fsB_ge (fun l => decide ((ord l : Int) = z)) h 0
  unfold lvZ
  omega
theorem lvZ_none {ord : Nat → Nat} {h i : Nat} : lvZ ord h (i : Int) = -1 ↔ (bst ord h).testBit i = false := by
  unfold lvZ
  rw [fsB_none, ← Bool.not_eq_true, bst_bit]
  constructor
  · rintro h1 ⟨l, h2, h3⟩
    have := h1 l (by omega) (by omega)
    rw [decide_eq_false_iff_not] at this
    omega
  · intro h1 l h2 h3
    rw [decide_eq_false_iff_not]
    intro h4
    exact h1 ⟨l, by omega, by omega⟩
/-- the one with most -/
def amx (p : Nat → Bool) (f : Nat → Int) (m0 : Int) : Nat → Int × Int
  | 0 => (-1, m0)
  | k + 1 => if p k = true ∧ (amx p f m0 k).2 < f k then ((k : Int), f k) else amx p f m0 k
theorem amx_b1 (p : Nat → Bool) (f : Nat → Int) (m0 : Int) : ∀ k, -1 ≤ (amx p f m0 k).1 ∧ (amx p f m0 k).1 < k
  | 0 => by simp [amx]
  | k + 1 => by
    have := amx_b1 p f m0 k
    rw [amx]
    split
    · dsimp only; omega
    · omega
theorem amx_b2 {p : Nat → Bool} {f : Nat → Int} {m0 b : Int} (hm : m0 ≤ b) : ∀ k, (∀ i, i < k → p i = true → f i ≤ b) → m0 ≤ (amx p f m0 k).2 ∧ (amx p f m0 k).2 ≤ b
  | 0, _ => by simp [amx]; exact hm
  | k + 1, h => by
    have h1 := amx_b2 hm k (fun i hi => h i (by omega))
    rw [amx]
    split
    · rename_i e
      have := h k (by omega) e.1
      dsimp only; omega
    · exact h1
theorem amx_congr {p p' : Nat → Bool} {f f' : Nat → Int} {m0 : Int} : ∀ k, (∀ i, i < k → p i = p' i) → (∀ i, i < k → p i = true → f i = f' i) → amx p f m0 k = amx p' f' m0 k
  | 0, _, _ => rfl
  | k + 1, h1, h2 => by
    rw [amx, amx, amx_congr k (fun i hi => h1 i (by omega)) (fun i hi => h2 i (by omega)), h1 k (by omega)]
    by_cases e : p' k = true
    · rw [h2 k (by omega) (by rw [h1 k (by omega)]; exact e)]
    · rw [if_neg (fun q => e q.1), if_neg (fun q => e q.1)]
/-- the first with most, by itself -/
def crk (f : Nat → Int) : Nat → Int
  | 0 => -1
  | k + 1 => if crk f k = -1 ∨ f (crk f k).toNat < f k then (k : Int) else crk f k
theorem crk_b (f : Nat → Int) : ∀ k, -1 ≤ crk f k ∧ crk f k < k ∧ (0 < k → 0 ≤ crk f k)
  | 0 => by simp [crk]
  | k + 1 => by
    have := crk_b f k
    rw [crk]
    split <;> omega
end BitsZ
