/-! what is reckoned, in whole numbers -/
section SpecZ
theorem zN_lt {a b : Nat} (ha : a < 2147483648) (hb : b < 2147483648) : (zI (a : Int) < zI (b : Int)) = (a < b) := by
  rw [zI_lt (by omega) (by omega) (by omega) (by omega)]; exact propext Int.ofNat_lt
theorem zN_eq {a b : Nat} (ha : a < 2147483648) (hb : b < 2147483648) : (zI (a : Int) = zI (b : Int)) = (a = b) := by
  rw [zI_eq (by omega) (by omega) (by omega) (by omega)]; exact propext Int.ofNat_inj
theorem zN_in {a n : Nat} (h : a < n) (hn : n < 2147483648) : inB (zI (a : Int)) n = true := by
  rw [zI_inB (by omega) (by omega)]; omega
theorem zN_1 (a : Nat) : zI (a : Int) + 1 = zI ((a + 1 : Nat) : Int) := by
  rw [show (1 : Int32) = zI 1 from rfl, zI_add]; rfl
theorem zZ_1 (a : Int) : zI a + 1 = zI (a + 1) := by
  rw [show (1 : Int32) = zI 1 from rfl, zI_add]
theorem zZ_m1 (a : Int) : zI a + (-1) = zI (a - 1) := by
  rw [show (-1 : Int32) = zI (-1) from rfl, zI_add]; rfl
theorem zZ_s1 (a : Int) : zI a - 1 = zI (a - 1) := by
  rw [show (1 : Int32) = zI 1 from rfl, zI_sub]
def wormZ (k : Int) : Int := if k = 0 then 3 else if k = 1 then 1 else 2
def timZ (k : Int) : Int := if k = 3 then 2 else 1
/-- what a table carries -/
def carZ (K : Nat → Nat → Int) (yr : Int) (i : Nat) (top : Bool) : Int := max 0 ((if K 0 i = 2 ∧ top = false then K 2 i / 2 else K 2 i) - yr * wormZ (K 0 i))
/-- how it leans -/
def trnZ (K : Nat → Nat → Int) (ln wd : Nat → Int) (i : Nat) : Int := timZ (K 0 i) * (ln i + wd i)
def sm (f : Nat → Int) : Nat → Nat → Int
  | _, 0 => 0
  | a, n + 1 => f a + sm f (a + 1) n
theorem sm_last (f : Nat → Int) : ∀ n a, sm f a (n + 1) = sm f a n + f (a + n)
  | 0, a => by simp [sm]
  | n + 1, a => by
    rw [sm, sm_last f n (a + 1), sm, show a + 1 + n = a + (n + 1) by omega]
    omega
theorem sm_le (f : Nat → Int) (b : Int) : ∀ n a, (∀ k, a ≤ k → k < a + n → f k ≤ b) → sm f a n ≤ b * n
  | 0, a, _ => by simp [sm]
  | n + 1, a, h => by
    have h1 := sm_le f b n (a + 1) (fun k h1 h2 => h k (by omega) (by omega))
    have h2 := h a (by omega) (by omega)
    rw [sm, show ((n + 1 : Nat) : Int) = (n : Int) + 1 from rfl, Int.mul_add]
    omega
theorem sm_ge (f : Nat → Int) (b : Int) : ∀ n a, (∀ k, a ≤ k → k < a + n → b ≤ f k) → b * n ≤ sm f a n
  | 0, a, _ => by simp [sm]
  | n + 1, a, h => by
    have h1 := sm_ge f b n (a + 1) (fun k h1 h2 => h k (by omega) (by omega))
    have h2 := h a (by omega) (by omega)
    rw [sm, show ((n + 1 : Nat) : Int) = (n : Int) + 1 from rfl, Int.mul_add]
    omega
theorem sm_congr {f g : Nat → Int} : ∀ n a, (∀ k, a ≤ k → k < a + n → f k = g k) → sm f a n = sm g a n
  | 0, a, _ => rfl
  | n + 1, a, h => by rw [sm, sm, h a (by omega) (by omega), sm_congr n (a + 1) (fun k h1 h2 => h k (by omega) (by omega))]
/-- the first place that is so, of k from j on; -1 -/
def fsB (p : Nat → Bool) : Nat → Nat → Int
  | 0, _ => -1
  | k + 1, j => if p j = true then (j : Int) else fsB p k (j + 1)
theorem fsB_ge (p : Nat → Bool) : ∀ k j, fsB p k j = -1 ∨ ((j : Int) ≤ fsB p k j ∧ fsB p k j < (j + k : Nat))
  | 0, j => Or.inl rfl
  | k + 1, j => by
    rw [fsB]
    split
    · omega
    · have := fsB_ge p k (j + 1); omega
theorem fsB_congr {p q : Nat → Bool} : ∀ k j, (∀ i, j ≤ i → i < j + k → p i = q i) → fsB p k j = fsB q k j
  | 0, j, _ => rfl
  | k + 1, j, h => by rw [fsB, fsB, h j (by omega) (by omega), fsB_congr k (j + 1) (fun i h1 h2 => h i (by omega) (by omega))]
/-- the least of acc and k values from j on -/
def mnZ (f : Nat → Int) : Nat → Nat → Int → Int
  | 0, _, acc => acc
  | k + 1, j, acc => mnZ f k (j + 1) (min acc (f j))
theorem mnZ_congr {f g : Nat → Int} : ∀ k j acc, (∀ i, j ≤ i → i < j + k → f i = g i) → mnZ f k j acc = mnZ g k j acc
  | 0, j, _, _ => rfl
  | k + 1, j, acc, h => by rw [mnZ, mnZ, h j (by omega) (by omega), mnZ_congr k (j + 1) _ (fun i h1 h2 => h i (by omega) (by omega))]
theorem mnZ_le (f : Nat → Int) : ∀ k j acc, mnZ f k j acc ≤ acc
  | 0, _, _ => Int.le_refl _
  | k + 1, j, acc => by rw [mnZ]; have := mnZ_le f k (j + 1) (min acc (f j)); omega
theorem mnZ_ge (f : Nat → Int) (b : Int) : ∀ k j acc, (∀ i, j ≤ i → i < j + k → b ≤ f i) → b ≤ acc → b ≤ mnZ f k j acc
  | 0, _, _, _, h => h
  | k + 1, j, acc, h, ha => by
    rw [mnZ]
    refine mnZ_ge f b k (j + 1) _ (fun i h1 h2 => h i (by omega) (by omega)) ?_
    have := h j (by omega) (by omega)
    omega
def loadZ (K : Nat → Nat → Int) (h : Nat) (ord : Nat → Nat) (ml : Nat → Int) (l : Nat) : Int := ml (ord l) + sm (fun k => K 1 (ord k) + ml (ord k)) (l + 1) (h - (l + 1))
def tltZ (K : Nat → Nat → Int) (ord : Nat → Nat) (wd ln : Nat → Int) (l : Nat) : Int := sm (fun k => trnZ K ln wd (ord k)) 0 (l + 1)
def topB (h l : Nat) : Bool := decide (l + 1 = h)
def hldZ (K : Nat → Nat → Int) (h : Nat) (ord : Nat → Nat) (ml wd ln : Nat → Int) (yr : Int) (l : Nat) : Bool := decide (loadZ K h ord ml l ≤ carZ K yr (ord l) (topB h l)) && decide (((tltZ K ord wd ln l).natAbs : Int) ≤ K 4 0)
def brkZ (K : Nat → Nat → Int) (h : Nat) (ord : Nat → Nat) (ml wd ln : Nat → Int) (yr : Int) : Int := fsB (fun l => !hldZ K h ord ml wd ln yr l) h 0
def slkZ (K : Nat → Nat → Int) (h : Nat) (ord : Nat → Nat) (ml : Nat → Int) (yr : Int) (l : Nat) : Int := carZ K yr (ord l) (topB h l) - loadZ K h ord ml l
def morZ (K : Nat → Nat → Int) (h : Nat) (ord : Nat → Nat) (ml wd ln : Nat → Int) (yr : Int) : Int := if brkZ K h ord ml wd ln yr = -1 then mnZ (slkZ K h ord ml yr) h 0 9999 else -1
/-- a town, a tower as they may be -/
def TnOk (K : Nat → Nat → Int) (n : Nat) : Prop := n ≤ 10 ∧ (∀ i, i < n → (0 ≤ K 0 i ∧ K 0 i ≤ 3) ∧ (1 ≤ K 1 i ∧ K 1 i ≤ 99) ∧ (0 ≤ K 2 i ∧ K 2 i ≤ 999) ∧ (0 ≤ K 3 i ∧ K 3 i ≤ 99)) ∧ (0 ≤ K 4 0 ∧ K 4 0 ≤ 40) ∧ (0 ≤ K 5 0 ∧ K 5 0 ≤ 999)
def TwOk (n h : Nat) (ord : Nat → Nat) (ml wd ln : Nat → Int) (yr : Int) : Prop := h ≤ n ∧ (∀ l, l < h → ord l < n) ∧ (∀ l l', l < h → l' < h → ord l = ord l' → l = l') ∧ (∀ i, i < n → (0 ≤ ml i ∧ ml i ≤ 6000) ∧ (-9 ≤ wd i ∧ wd i ≤ 9) ∧ (-9 ≤ ln i ∧ ln i ≤ 9)) ∧ (0 ≤ yr ∧ yr ≤ 1200)
/-- the class's town; its tower at t -/
def CTn (F A : Nat → Nat → Int32) (K : Nat → Nat → Int) (n : Nat) : Prop := TnOk K n ∧ F 12 0 = zI (n : Int) ∧ F 12 1 = zI (K 4 0) ∧ F 12 2 = zI (K 5 0) ∧ (∀ i, i < n → A 13 i = zI (K 0 i)) ∧ (∀ i, i < n → A 14 i = zI (K 1 i)) ∧ (∀ i, i < n → A 15 i = zI (K 2 i)) ∧ (∀ i, i < n → A 17 i = zI (K 3 i))
def CTw (t : Nat) (F A : Nat → Nat → Int32) (n h : Nat) (ord : Nat → Nat) (ml wd ln : Nat → Int) (yr : Int) : Prop := TwOk n h ord ml wd ln yr ∧ F t 1 = zI (h : Int) ∧ F t 2 = zI yr ∧ (∀ l, l < h → A (t + 1) l = zI (ord l : Int)) ∧ (∀ i, i < n → A (t + 2) i = zI (ml i)) ∧ (∀ i, i < n → A (t + 3) i = zI (wd i)) ∧ (∀ i, i < n → A (t + 4) i = zI (ln i))
def MTn (F A : Nat → Nat → Int32) (K : Nat → Nat → Int) (n : Nat) : Prop := TnOk K n ∧ Wrm A ∧ A 72 0 = zI (n : Int) ∧ A 72 1 = zI (K 4 0) ∧ A 72 2 = zI (K 5 0) ∧ (∀ i, i < n → A 73 i = zI (K 0 i)) ∧ (∀ i, i < n → A 74 i = zI (K 1 i)) ∧ (∀ i, i < n → A 75 i = zI (K 2 i)) ∧ (∀ i, i < n → A 77 i = zI (K 3 i))
def MTw (F A : Nat → Nat → Int32) (n h : Nat) (ord : Nat → Nat) (ml wd ln : Nat → Int) (yr : Int) : Prop := TwOk n h ord ml wd ln yr ∧ F 68 28 = zI (h : Int) ∧ F 68 29 = zI yr ∧ (∀ l, l < h → A 81 l = zI (ord l : Int)) ∧ (∀ i, i < n → A 82 i = zI (ml i)) ∧ (∀ i, i < n → A 83 i = zI (wd i)) ∧ (∀ i, i < n → A 84 i = zI (ln i))
variable {K : Nat → Nat → Int} {n h l i : Nat} {ord : Nat → Nat} {ml wd ln : Nat → Int} {yr : Int} {top : Bool}
theorem worm_b (k : Int) : 1 ≤ wormZ k ∧ wormZ k ≤ 3 := by unfold wormZ; split; omega; split <;> omega
theorem yw_b (k : Int) (h0 : 0 ≤ yr) (h1 : yr ≤ 1200) : 0 ≤ yr * wormZ k ∧ yr * wormZ k ≤ 3600 := by
  unfold wormZ; split; omega; split <;> omega
theorem car_b (hK : TnOk K n) (hi : i < n) (hy : 0 ≤ yr ∧ yr ≤ 1200) : 0 ≤ carZ K yr i top ∧ carZ K yr i top ≤ 999 := by
  have h1 := (hK.2.1 i hi).2.2.1
  have h2 := yw_b (K 0 i) hy.1 hy.2
  unfold carZ
  split <;> omega
theorem trn_b (hw : TwOk n h ord ml wd ln yr) (hi : i < n) : -36 ≤ trnZ K ln wd i ∧ trnZ K ln wd i ≤ 36 := by
  have := hw.2.2.2.1 i hi
  unfold trnZ timZ
  split <;> omega
theorem load_b (hK : TnOk K n) (hw : TwOk n h ord ml wd ln yr) (hl : l < h) : 0 ≤ loadZ K h ord ml l ∧ loadZ K h ord ml l ≤ 70000 := by
  have h0 := (hw.2.2.2.1 _ (hw.2.1 l hl)).1
  have hp : ∀ k, l + 1 ≤ k → k < l + 1 + (h - (l + 1)) → 0 ≤ K 1 (ord k) + ml (ord k) ∧ K 1 (ord k) + ml (ord k) ≤ 6099 := by
    intro k h1 h2
    have h3 := hw.2.1 k (by omega)
    have h4 := (hw.2.2.2.1 _ h3).1
    have h5 := (hK.2.1 _ h3).2.1
    omega
  have h1 := sm_ge _ 0 (h - (l + 1)) (l + 1) (fun k a b => (hp k a b).1)
  have h2 := sm_le _ 6099 (h - (l + 1)) (l + 1) (fun k a b => (hp k a b).2)
  have h3 : h ≤ 10 := Nat.le_trans hw.1 hK.1
  unfold loadZ
  omega
theorem smt_b (hw : TwOk n h ord ml wd ln yr) (hl : l ≤ h) : -(36 * (l : Int)) ≤ sm (fun k => trnZ K ln wd (ord k)) 0 l ∧ sm (fun k => trnZ K ln wd (ord k)) 0 l ≤ 36 * (l : Int) := by
  have h1 := sm_ge (fun k => trnZ K ln wd (ord k)) (-36) l 0 (fun k a b => (trn_b hw (hw.2.1 k (by omega))).1)
  have h2 := sm_le (fun k => trnZ K ln wd (ord k)) 36 l 0 (fun k a b => (trn_b hw (hw.2.1 k (by omega))).2)
  omega
theorem tlt_b (hK : TnOk K n) (hw : TwOk n h ord ml wd ln yr) (hl : l < h) : -360 ≤ tltZ K ord wd ln l ∧ tltZ K ord wd ln l ≤ 360 := by
  have h1 := smt_b (K := K) hw (show l + 1 ≤ h by omega)
  have h2 : h ≤ 10 := Nat.le_trans hw.1 hK.1
  unfold tltZ
  omega
theorem slk_b (hK : TnOk K n) (hw : TwOk n h ord ml wd ln yr) (hl : l < h) : -70000 ≤ slkZ K h ord ml yr l ∧ slkZ K h ord ml yr l ≤ 999 := by
  have h1 := load_b hK hw hl
  have h2 := car_b (top := topB h l) hK (hw.2.1 l hl) hw.2.2.2.2
  unfold slkZ
  omega
theorem brk_b : brkZ K h ord ml wd ln yr = -1 ∨ (0 ≤ brkZ K h ord ml wd ln yr ∧ brkZ K h ord ml wd ln yr < h) := by
  have := fsB_ge (fun l => !hldZ K h ord ml wd ln yr l) h 0
  unfold brkZ
  omega
theorem mor_b (hK : TnOk K n) (hw : TwOk n h ord ml wd ln yr) : -70000 ≤ morZ K h ord ml wd ln yr ∧ morZ K h ord ml wd ln yr ≤ 9999 := by
  unfold morZ
  split
  · exact ⟨mnZ_ge _ _ _ _ _ (fun i h1 h2 => (slk_b hK hw (by omega)).1) (by omega), mnZ_le _ _ _ _⟩
  · omega
theorem load_step (hl : l < h) : sm (fun k => K 1 (ord k) + ml (ord k)) l (h - l) = (K 1 (ord l) + ml (ord l)) + sm (fun k => K 1 (ord k) + ml (ord k)) (l + 1) (h - (l + 1)) := by
  rw [show h - l = (h - (l + 1)) + 1 by omega, sm]
theorem wormK_z {k : Int} (h0 : 0 ≤ k) (h3 : k ≤ 3) : wormK (zI k) = zI (wormZ k) := by
  have : k = 0 ∨ k = 1 ∨ k = 2 ∨ k = 3 := by omega
  rcases this with rfl | rfl | rfl | rfl <;> decide
theorem ltm_z {k : Int} (h0 : 0 ≤ k) (h3 : k ≤ 3) : ltm (zI k) = zI (timZ k) := by
  have : k = 0 ∨ k = 1 ∨ k = 2 ∨ k = 3 := by omega
  rcases this with rfl | rfl | rfl | rfl <;> decide
theorem car_z (hK : TnOk K n) (hi : i < n) (hy : 0 ≤ yr ∧ yr ≤ 1200) : carS (zI (K 0 i)) (zI (K 2 i)) (zI yr) (bI top) = zI (carZ K yr i top) := by
  have h0 := (hK.2.1 i hi).1
  have h1 := (hK.2.1 i hi).2.2.1
  have h2 := yw_b (K 0 i) hy.1 hy.2
  unfold carS carZ
  rw [wormK_z h0.1 h0.2, zI_mul, zI_half h1.1 (by omega)]
  have e2 : (zI (K 0 i) = 2) = (K 0 i = 2) := by rw [show (2 : Int32) = zI 2 from rfl, zI_eq (by omega) (by omega) (by omega) (by omega)]
  have e0 : (0 : Int32) = zI 0 := rfl
  cases top
  · simp only [e2, bI_false, if_true, and_true]
    split
    · rw [zI_sub, e0, zI_jmax (by omega) (by omega) (by omega) (by omega)]
    · rw [zI_sub, e0, zI_jmax (by omega) (by omega) (by omega) (by omega)]
  · have e1 : ¬ bI true = (0 : Int32) := by decide
    simp only [e2, if_neg e1, ite_self, Bool.true_eq_false, and_false, if_false]
    rw [zI_sub, e0, zI_jmax (by omega) (by omega) (by omega) (by omega)]
theorem car_z1 (hK : TnOk K n) (hi : i < n) (hy : 0 ≤ yr ∧ yr ≤ 1200) : carS (zI (K 0 i)) (zI (K 2 i)) (zI yr) 1 = zI (carZ K yr i true) := car_z (top := true) hK hi hy
theorem car_z0 (hK : TnOk K n) (hi : i < n) (hy : 0 ≤ yr ∧ yr ≤ 1200) : carS (zI (K 0 i)) (zI (K 2 i)) (zI yr) 0 = zI (carZ K yr i false) := car_z (top := false) hK hi hy
theorem trn_z (hK : TnOk K n) (hi : i < n) : lnS (zI (K 0 i)) (zI (ln i)) (zI (wd i)) = zI (trnZ K ln wd i) := by
  have h0 := (hK.2.1 i hi).1
  unfold lnS trnZ
  rw [ltm_z h0.1 h0.2, zI_add, zI_mul]
theorem lim_z {a b : Int} (h1 : -2147483648 < a) (h2 : a < 2147483648) (h3 : -2147483648 ≤ b) (h4 : b < 2147483648) : limB (zI b) (zI a) = decide ((a.natAbs : Int) ≤ b) := by
  unfold limB
  rw [zI_jabs (by omega) h2, show (!(decide (zI b < zI (a.natAbs : Int)))) = decide (¬ (zI b < zI (a.natAbs : Int))) from decide_not.symm]
  refine decide_eq_decide.mpr ?_
  rw [zI_lt h3 h4 (by omega) (by omega)]
  omega
end SpecZ
