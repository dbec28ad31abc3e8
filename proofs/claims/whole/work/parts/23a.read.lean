/-! what a text says: tokens, expressions -/
section ReadS
def scF (p : Nat → Bool) : Nat → Nat → Nat
  | 0, e => e
  | f + 1, e => if p e = true then scF p f (e + 1) else e
def scS (p : Nat → Bool) (N e : Nat) : Nat := scF p (N - e) e
theorem scF_ok (p : Nat → Bool) : ∀ f e, e ≤ scF p f e ∧ scF p f e ≤ e + f ∧ (∀ j, e ≤ j → j < scF p f e → p j = true) ∧ (scF p f e < e + f → p (scF p f e) = false)
  | 0, e => ⟨Nat.le_refl _, Nat.le_refl _, fun j h1 h2 => absurd h2 (Nat.not_lt.mpr h1), fun h => absurd h (Nat.lt_irrefl _)⟩
  | f + 1, e => by
    rw [scF]
    by_cases h : p e = true
    · rw [if_pos h]
      obtain ⟨a, b, c, d⟩ := scF_ok p f (e + 1)
      refine ⟨by omega, by omega, fun j h1 h2 => ?_, fun h3 => d (by omega)⟩
      by_cases hj : j = e
      · rw [hj]; exact h
      · exact c j (by omega) h2
    · rw [if_neg h]
      exact ⟨Nat.le_refl _, by omega, fun j h1 h2 => absurd h2 (Nat.not_lt.mpr h1), fun _ => by simpa using h⟩
theorem sc_t {p : Nat → Bool} {N e : Nat} (h : p e = true) (he : e < N) : scS p N e = scS p N (e + 1) := by
  unfold scS
  rw [show N - e = (N - (e + 1)) + 1 by omega, scF, if_pos h]
theorem sc_f {p : Nat → Bool} {N e : Nat} (h : p e = false ∨ N ≤ e) : scS p N e = e := by
  unfold scS
  rcases h with h | h
  · cases hN : N - e with
    | zero => rfl
    | succ f => rw [scF, if_neg (by rw [h]; decide)]
  · rw [show N - e = 0 by omega]; rfl
theorem sc_ge (p : Nat → Bool) (N e : Nat) : e ≤ scS p N e := (scF_ok p _ _).1
theorem sc_le (p : Nat → Bool) {N e : Nat} (h : e ≤ N) : scS p N e ≤ N := by
  have := (scF_ok p (N - e) e).2.1
  unfold scS; omega
theorem sc_all {p : Nat → Bool} {N e j : Nat} (h1 : e ≤ j) (h2 : j < scS p N e) : p j = true := (scF_ok p (N - e) e).2.2.1 j h1 h2
def blP (tp : Nat → Int32) (j : Nat) : Bool := decide (tp j = 32) || decide (tp j = 10)
def leP (tp : Nat → Int32) (j : Nat) : Bool := letB (tp j)
def dgP (tp : Nat → Int32) (j : Nat) : Bool := digB (tp j)
def skS (tp : Nat → Int32) (N e : Nat) : Nat := scS (blP tp) N e
def kdS (tp : Nat → Int32) (N s : Nat) : Nat := if N ≤ s then 0 else if letB (tp s) = true then 2 else if digB (tp s) = true then 3 else if mrkB (tp s) = true then 4 else 1
def enS (tp : Nat → Int32) (N s : Nat) : Nat := if N ≤ s then s else if letB (tp s) = true then scS (leP tp) N s else if digB (tp s) = true then scS (dgP tp) N s else s + 1
def nvF (tp : Nat → Int32) (s : Nat) : Nat → Int
  | 0 => 0
  | k + 1 => nvF tp s k * 10 + ((tp (s + k)).toInt - 48)
def nvS (tp : Nat → Int32) (N s : Nat) : Int := nvF tp s (enS tp N s - s)
def nxS (tp : Nat → Int32) (N s : Nat) : Nat := skS tp N (enS tp N s)
def wdB (tp : Nat → Int32) (N i s : Nat) : Bool := decide (kdS tp N s = 2 ∧ enS tp N s - s = sLen i ∧ ∀ k, k < sLen i → tp (s + k) = sCh i k)
def sgB (tp : Nat → Int32) (N : Nat) (c : Int32) (s : Nat) : Bool := decide (kdS tp N s = 4 ∧ tp s = c)
variable {tp : Nat → Int32} {N s i : Nat} {c : Int32}
theorem kd_0 : (kdS tp N s = 0) = (N ≤ s) := by
  unfold kdS
  by_cases h : N ≤ s
  · rw [if_pos h]; simp [h]
  · rw [if_neg h]
    split
    · simp [h]
    · split
      · simp [h]
      · split <;> simp [h]
theorem kd_4 : kdS tp N s ≤ 4 := by
  unfold kdS
  repeat' split
  all_goals omega
theorem en_gt (h : s < N) : s < enS tp N s := by
  unfold enS
  rw [if_neg (by omega)]
  split
  · rename_i hl
    rw [sc_t (p := leP tp) hl h]; exact sc_ge _ _ _
  · split
    · rename_i hl
      rw [sc_t (p := dgP tp) hl h]; exact sc_ge _ _ _
    · omega
theorem en_le (h : s ≤ N) : enS tp N s ≤ N := by
  unfold enS
  split
  · exact h
  · split
    · exact sc_le _ h
    · split
      · exact sc_le _ h
      · omega
theorem nx_le (h : s ≤ N) : nxS tp N s ≤ N := sc_le _ (en_le h)
theorem nx_gt (h : s < N) : s < nxS tp N s := Nat.lt_of_lt_of_le (en_gt h) (sc_ge _ _ _)
theorem kd_lt {k : Nat} (h : kdS tp N s = k) (hk : 0 < k) : s < N := by
  apply Nat.lt_of_not_le
  intro hn
  rw [← kd_0 (tp := tp)] at hn
  omega
theorem wd_lt (h : wdB tp N i s = true) : s < N := kd_lt (of_decide_eq_true h).1 (by decide)
theorem sg_lt (h : sgB tp N c s = true) : s < N := kd_lt (of_decide_eq_true h).1 (by decide)
theorem dig_b {x : Int32} (h : digB x = true) : 48 ≤ x.toInt ∧ x.toInt ≤ 57 := by
  unfold digB at h
  simp only [Bool.and_eq_true, Bool.not_eq_true', decide_eq_false_iff_not, Int32.lt_iff_toInt_lt] at h
  rw [show (48 : Int32).toInt = 48 from rfl, show (57 : Int32).toInt = 57 from rfl] at h
  omega
theorem nv_b {k : Nat} (h : ∀ j, s ≤ j → j < s + k → digB (tp j) = true) : 0 ≤ nvF tp s k ∧ nvF tp s k < 10 ^ k := by
  induction k with
  | zero => exact ⟨Int.le_refl _, by rw [nvF]; decide⟩
  | succ k ih =>
    have h1 := ih (fun j a b => h j a (by omega))
    have h2 := dig_b (h (s + k) (by omega) (by omega))
    rw [nvF, Int.pow_succ]
    omega
theorem en_3 (h : kdS tp N s = 3) : enS tp N s = scS (dgP tp) N s ∧ digB (tp s) = true ∧ s < N := by
  have hN := kd_lt h (by decide)
  unfold kdS at h
  rw [if_neg (by omega)] at h
  unfold enS
  rw [if_neg (by omega)]
  split at h
  · omega
  · rename_i h1
    rw [if_neg h1]
    split at h
    · rename_i h2
      rw [if_pos h2]; exact ⟨rfl, h2, hN⟩
    · split at h <;> omega
theorem nv_dig (h : kdS tp N s = 3) (j : Nat) (h1 : s ≤ j) (h2 : j < enS tp N s) : digB (tp j) = true := by
  rw [(en_3 h).1] at h2
  exact sc_all (p := dgP tp) h1 h2
theorem nvS_b (h : kdS tp N s = 3) (h4 : enS tp N s - s ≤ 4) : 0 ≤ nvS tp N s ∧ nvS tp N s ≤ 9999 := by
  have h1 := nv_b (tp := tp) (s := s) (k := enS tp N s - s) (fun j a b => nv_dig h j a (by omega))
  unfold nvS
  refine ⟨h1.1, ?_⟩
  have h2 := h1.2
  have : enS tp N s - s = 0 ∨ enS tp N s - s = 1 ∨ enS tp N s - s = 2 ∨ enS tp N s - s = 3 ∨ enS tp N s - s = 4 := by omega
  rcases this with e | e | e | e | e <;> rw [e] at h2 ⊢ <;> omega
/-- what a parser gives: a fault and its place, or where it stands and the cells -/
abbrev RdR : Type := (Nat × Nat) ⊕ (Nat × List Int)
def lpS (op : Nat → Option Int) (nx : Nat → Nat) (P : Nat → List Int → RdR) : Nat → Nat → List Int → RdR
  | 0, s, c => .inr (s, c)
  | f + 1, s, c => match op s with
    | none => .inr (s, c)
    | some x => match P (nx s) c with
      | .inl e => .inl e
      | .inr q => lpS op nx P f q.1 (q.2 ++ [x])
def bnS (op : Nat → Option Int) (nx : Nat → Nat) (P : Nat → List Int → RdR) (s : Nat) (c : List Int) : RdR := match P s c with
  | .inl e => .inl e
  | .inr q => lpS op nx P 600 q.1 q.2
def onS (op : Nat → Option Int) (nx : Nat → Nat) (P : Nat → List Int → RdR) (s : Nat) (c : List Int) : RdR := match P s c with
  | .inl e => .inl e
  | .inr q => match op q.1 with
    | none => .inr q
    | some x => match P (nx q.1) q.2 with
      | .inl e => .inl e
      | .inr r => .inr (r.1, r.2 ++ [x])
/-- some nots: k are read, f may come -/
def ntS (tp : Nat → Int32) (N : Nat) (P : Nat → List Int → RdR) : Nat → Nat → Nat → List Int → RdR
  | 0, k, s, c => if wdB tp N 9 s = true then .inl (2, s) else match P s c with
    | .inl e => .inl e
    | .inr q => .inr (q.1, q.2 ++ List.replicate k (-7))
  | f + 1, k, s, c => if wdB tp N 9 s = true then ntS tp N P f (k + 1) (nxS tp N s) c else match P s c with
    | .inl e => .inl e
    | .inr q => .inr (q.1, q.2 ++ List.replicate k (-7))
def opS2 (tp : Nat → Int32) (N : Nat) (a b : Int32) (x y : Int) (s : Nat) : Option Int := if sgB tp N a s = true then some x else if sgB tp N b s = true then some y else none
def opW (tp : Nat → Int32) (N i : Nat) (x : Int) (s : Nat) : Option Int := if wdB tp N i s = true then some x else none
def vlS (tp : Nat → Int32) (N s : Nat) : Option Int := if wdB tp N 10 s = true then some (-1) else if wdB tp N 11 s = true then some (-2) else if wdB tp N 12 s = true then some (-3) else if wdB tp N 13 s = true then some (-4) else if wdB tp N 14 s = true then some (-5) else if wdB tp N 15 s = true then some (-6) else none
def ptS (tp : Nat → Int32) (N : Nat) (E : Nat → List Int → RdR) (s : Nat) (c : List Int) : RdR :=
  if kdS tp N s = 3 then (if 4 < enS tp N s - s then .inl (2, s) else .inr (nxS tp N s, c ++ [nvS tp N s]))
  else if kdS tp N s = 2 then (match vlS tp N s with
    | none => .inl (3, s)
    | some v => .inr (nxS tp N s, c ++ [v]))
  else if sgB tp N 40 s = true then (match E (nxS tp N s) c with
    | .inl e => .inl e
    | .inr q => if sgB tp N 41 q.1 = true then .inr (nxS tp N q.1, q.2) else .inl (1, q.1))
  else .inl (1, s)
def prS (tp : Nat → Int32) (N : Nat) (E : Nat → List Int → RdR) : Nat → List Int → RdR := bnS (opS2 tp N 42 47 (-10) (-11)) (nxS tp N) (ptS tp N E)
def suS (tp : Nat → Int32) (N : Nat) (E : Nat → List Int → RdR) : Nat → List Int → RdR := bnS (opS2 tp N 43 45 (-8) (-9)) (nxS tp N) (prS tp N E)
def teS (tp : Nat → Int32) (N : Nat) (E : Nat → List Int → RdR) : Nat → List Int → RdR := onS (opS2 tp N 60 61 (-12) (-13)) (nxS tp N) (suS tp N E)
def noS (tp : Nat → Int32) (N : Nat) (E : Nat → List Int → RdR) : Nat → List Int → RdR := ntS tp N (teS tp N E) 6 0
def anS (tp : Nat → Int32) (N : Nat) (E : Nat → List Int → RdR) : Nat → List Int → RdR := bnS (opW tp N 16 (-14)) (nxS tp N) (noS tp N E)
def exS (tp : Nat → Int32) (N : Nat) : Nat → Nat → List Int → RdR
  | 0 => fun s _ => .inl (if kdS tp N s = 3 ∨ kdS tp N s = 2 ∨ sgB tp N 40 s = true then 2 else 1, s)
  | r + 1 => bnS (opW tp N 17 (-15)) (nxS tp N) (anS tp N (exS tp N r))
/-- cells as a pile works them, from a waiting ones; m at the most -/
def rnS : List Int → Nat → Nat → Option Nat
  | [], a, _ => some a
  | x :: w, a, m => if (-15 ≤ x ∧ x ≤ 9999) ∧ a ≤ m then (if -6 ≤ x then rnS w (a + 1) m else if x = -7 then (if 1 ≤ a then rnS w a m else none) else if 2 ≤ a then rnS w (a - 1) m else none) else none
theorem rn_app : ∀ (u v : List Int) (a m : Nat), rnS (u ++ v) a m = (rnS u a m).bind (fun b => rnS v b m)
  | [], v, a, m => rfl
  | x :: u, v, a, m => by
    rw [List.cons_append, rnS, rnS]
    split
    · split
      · exact rn_app u v _ m
      · split
        · split
          · exact rn_app u v _ m
          · rfl
        · split
          · exact rn_app u v _ m
          · rfl
    · rfl
theorem rn_push {x : Int} {a m : Nat} (h1 : -6 ≤ x) (h2 : x ≤ 9999) (h3 : a ≤ m) : rnS [x] a m = some (a + 1) := by
  rw [rnS, if_pos ⟨⟨by omega, h2⟩, h3⟩, if_pos h1, rnS]
theorem rn_two {x : Int} {a m : Nat} (h1 : -15 ≤ x) (h2 : x ≤ -8) (h3 : a + 2 ≤ m) : rnS [x] (a + 2) m = some (a + 1) := by
  rw [rnS, if_pos ⟨⟨h1, by omega⟩, h3⟩, if_neg (by omega), if_neg (by omega), if_pos (by omega), rnS]; rfl
theorem rn_nots {a m : Nat} (h3 : a + 1 ≤ m) : ∀ k, rnS (List.replicate k (-7)) (a + 1) m = some (a + 1)
  | 0 => rfl
  | k + 1 => by
    rw [List.replicate_succ, rnS, if_pos ⟨⟨by decide, by decide⟩, h3⟩, if_neg (by decide), if_pos rfl, if_pos (by omega)]
    exact rn_nots h3 k
/-- how a parser goes on, what its cells do -/
def PrOk (N k : Nat) (P : Nat → List Int → RdR) : Prop := ∀ s c s' c', P s c = .inr (s', c') → s ≤ N → s < s' ∧ s' ≤ N ∧ ∃ w, c' = c ++ w ∧ w.length + s ≤ s' ∧ ∀ a m, a + k ≤ m → rnS w a m = some (a + 1)
theorem PrOk.mono {k k' : Nat} {P : Nat → List Int → RdR} (h : PrOk N k P) (hk : k ≤ k') : PrOk N k' P := by
  intro s c s' c' hp hs
  obtain ⟨a, b, w, e1, e2, e3⟩ := h s c s' c' hp hs
  exact ⟨a, b, w, e1, e2, fun x m hx => e3 x m (by omega)⟩
def OpOk (N : Nat) (op : Nat → Option Int) : Prop := ∀ s x, op s = some x → s < N ∧ -15 ≤ x ∧ x ≤ -8
theorem op2_ok {a b : Int32} {x y : Int} (hx : -15 ≤ x ∧ x ≤ -8) (hy : -15 ≤ y ∧ y ≤ -8) : OpOk N (opS2 tp N a b x y) := by
  intro s z h
  unfold opS2 at h
  split at h
  · rename_i h1; cases h; exact ⟨sg_lt h1, hx⟩
  · split at h
    · rename_i h1; cases h; exact ⟨sg_lt h1, hy⟩
    · cases h
theorem opW_ok {x : Int} (hx : -15 ≤ x ∧ x ≤ -8) : OpOk N (opW tp N i x) := by
  intro s z h
  unfold opW at h
  split at h
  · rename_i h1; cases h; exact ⟨wd_lt h1, hx⟩
  · cases h
theorem lp_ok {k : Nat} {P : Nat → List Int → RdR} {op : Nat → Option Int} (hP : PrOk N k P) (hk : 1 ≤ k) (ho : OpOk N op) : ∀ f s c s' c', lpS op (nxS tp N) P f s c = .inr (s', c') → s ≤ N → s ≤ s' ∧ s' ≤ N ∧ ∃ w, c' = c ++ w ∧ w.length + s ≤ s' ∧ ∀ a m, a + (k + 1) ≤ m → rnS w (a + 1) m = some (a + 1) := by
  intro f
  induction f with
  | zero =>
    intro s c s' c' h hs
    rw [lpS] at h
    cases h
    exact ⟨Nat.le_refl _, hs, [], by simp, by simp, fun a m _ => rfl⟩
  | succ f ih =>
    intro s c s' c' h hs
    rw [lpS] at h
    split at h
    · cases h
      exact ⟨Nat.le_refl _, hs, [], by simp, by simp, fun a m _ => rfl⟩
    · rename_i x hx
      obtain ⟨o1, o2, o3⟩ := ho s x hx
      split at h
      · cases h
      · rename_i q hq
        obtain ⟨s1, c1⟩ := q
        have g1 := nx_gt (tp := tp) o1
        obtain ⟨a1, a2, w, a3, a4, a5⟩ := hP _ _ _ _ hq (nx_le hs)
        obtain ⟨b1, b2, v, b3, b4, b5⟩ := ih _ _ _ _ h a2
        refine ⟨by omega, b2, w ++ [x] ++ v, ?_, ?_, fun a m ham => ?_⟩
        · rw [b3, a3]; simp
        · simp only [List.length_append, List.length_cons, List.length_nil]; omega
        · rw [rn_app, rn_app, a5 (a + 1) m (by omega)]
          show ((some (a + 1 + 1)).bind fun b => rnS [x] b m).bind _ = _
          rw [Option.bind_some, rn_two o2 o3 (by omega), Option.bind_some, b5 a m ham]
theorem bn_ok {k : Nat} {P : Nat → List Int → RdR} {op : Nat → Option Int} (hP : PrOk N k P) (hk : 1 ≤ k) (ho : OpOk N op) : PrOk N (k + 1) (bnS op (nxS tp N) P) := by
  intro s c s' c' h hs
  unfold bnS at h
  split at h
  · cases h
  · rename_i q hq
    obtain ⟨s1, c1⟩ := q
    obtain ⟨a1, a2, w, a3, a4, a5⟩ := hP _ _ _ _ hq hs
    obtain ⟨b1, b2, v, b3, b4, b5⟩ := lp_ok hP hk ho _ _ _ _ _ h a2
    refine ⟨by omega, b2, w ++ v, ?_, ?_, fun a m ham => ?_⟩
    · rw [b3, a3]; simp
    · simp only [List.length_append]; omega
    · rw [rn_app, a5 a m (by omega), Option.bind_some, b5 a m ham]
theorem on_ok {k : Nat} {P : Nat → List Int → RdR} {op : Nat → Option Int} (hP : PrOk N k P) (hk : 1 ≤ k) (ho : OpOk N op) : PrOk N (k + 1) (onS op (nxS tp N) P) := by
  intro s c s' c' h hs
  unfold onS at h
  split at h
  · cases h
  · rename_i q hq
    obtain ⟨s1, c1⟩ := q
    obtain ⟨a1, a2, w, a3, a4, a5⟩ := hP _ _ _ _ hq hs
    split at h
    · cases h
      exact ⟨a1, a2, w, a3, a4, fun a m ham => a5 a m (by omega)⟩
    · rename_i x hx
      obtain ⟨o1, o2, o3⟩ := ho _ x hx
      split at h
      · cases h
      · rename_i r hr
        obtain ⟨s2, c2⟩ := r
        cases h
        have g1 := nx_gt (tp := tp) o1
        dsimp only at g1
        obtain ⟨b1, b2, v, b3, b4, b5⟩ := hP _ _ _ _ hr (nx_le a2)
        dsimp only at b1 b3 b4
        refine ⟨by omega, b2, w ++ v ++ [x], ?_, ?_, fun a m ham => ?_⟩
        · dsimp only; rw [b3, a3]; simp
        · simp only [List.length_append, List.length_cons, List.length_nil]; omega
        · rw [rn_app, rn_app, a5 a m (by omega), Option.bind_some, b5 (a + 1) m (by omega), Option.bind_some, rn_two o2 o3 (by omega)]
theorem nt_ok {k : Nat} {P : Nat → List Int → RdR} (hP : PrOk N k P) (hk : 1 ≤ k) : ∀ f j s c s' c', ntS tp N P f j s c = .inr (s', c') → s ≤ N → s < s' ∧ s' ≤ N ∧ ∃ w, c' = c ++ w ∧ w.length + s ≤ s' + j ∧ ∀ a m, a + k ≤ m → rnS w a m = some (a + 1) := by
  intro f
  have base : ∀ j s c s' c', (match P s c with | .inl e => (.inl e : RdR) | .inr q => .inr (q.1, q.2 ++ List.replicate j (-7))) = .inr (s', c') → s ≤ N → s < s' ∧ s' ≤ N ∧ ∃ w, c' = c ++ w ∧ w.length + s ≤ s' + j ∧ ∀ a m, a + k ≤ m → rnS w a m = some (a + 1) := by
    intro j s c s' c' h hs
    split at h
    · cases h
    · rename_i q hq
      obtain ⟨s1, c1⟩ := q
      cases h
      obtain ⟨a1, a2, w, a3, a4, a5⟩ := hP _ _ _ _ hq hs
      refine ⟨a1, a2, w ++ List.replicate j (-7), ?_, ?_, fun a m ham => ?_⟩
      · rw [a3]; simp
      · simp only [List.length_append, List.length_replicate]; omega
      · rw [rn_app, a5 a m (by omega), Option.bind_some, rn_nots (by omega)]
  induction f with
  | zero =>
    intro j s c s' c' h hs
    rw [ntS] at h
    split at h
    · cases h
    · exact base j s c s' c' h hs
  | succ f ih =>
    intro j s c s' c' h hs
    rw [ntS] at h
    split at h
    · rename_i hw
      have g1 := nx_gt (tp := tp) (wd_lt hw)
      obtain ⟨a1, a2, w, a3, a4, a5⟩ := ih _ _ _ _ _ h (nx_le hs)
      exact ⟨by omega, a2, w, a3, by omega, a5⟩
    · exact base j s c s' c' h hs
theorem vl_b {v : Int} (h : vlS tp N s = some v) : -6 ≤ v ∧ v ≤ -1 := by
  unfold vlS at h
  repeat' split at h
  all_goals first | (cases h; decide) | cases h
theorem pt_ok {k : Nat} {E : Nat → List Int → RdR} (hE : PrOk N k E) : PrOk N (max k 1) (ptS tp N E) := by
  intro s c s' c' h hs
  unfold ptS at h
  split at h
  · rename_i h3
    have g1 := nx_gt (tp := tp) (kd_lt h3 (by decide))
    split at h
    · cases h
    · rename_i h4
      cases h
      have hb := nvS_b h3 (by omega)
      exact ⟨g1, nx_le hs, [nvS tp N s], rfl, by simp only [List.length_cons, List.length_nil]; omega, fun a m ham => rn_push (by omega) hb.2 (by omega)⟩
  · split at h
    · rename_i h2
      have g1 := nx_gt (tp := tp) (kd_lt h2 (by decide))
      split at h
      · cases h
      · rename_i v hv
        cases h
        have hb := vl_b hv
        exact ⟨g1, nx_le hs, [v], rfl, by simp only [List.length_cons, List.length_nil]; omega, fun a m ham => rn_push hb.1 (by omega) (by omega)⟩
    · split at h
      · rename_i hg
        have g1 := nx_gt (tp := tp) (sg_lt hg)
        split at h
        · cases h
        · rename_i q hq
          obtain ⟨s1, c1⟩ := q
          split at h
          · rename_i hg2
            have g2 := nx_gt (tp := tp) (sg_lt hg2)
            obtain ⟨a1, a2, w, a3, a4, a5⟩ := hE _ _ _ _ hq (nx_le hs)
            cases h
            dsimp only at g2 a1 a3 a4 ⊢
            exact ⟨by omega, nx_le a2, w, a3, by omega, fun a m ham => a5 a m (by omega)⟩
          · cases h
      · cases h
theorem pr_ok {k : Nat} {E : Nat → List Int → RdR} (hE : PrOk N k E) : PrOk N (max k 1 + 1) (prS tp N E) := bn_ok (pt_ok hE) (by omega) (op2_ok (by decide) (by decide))
theorem su_ok {k : Nat} {E : Nat → List Int → RdR} (hE : PrOk N k E) : PrOk N (max k 1 + 1 + 1) (suS tp N E) := bn_ok (pr_ok hE) (by omega) (op2_ok (by decide) (by decide))
theorem te_ok {k : Nat} {E : Nat → List Int → RdR} (hE : PrOk N k E) : PrOk N (max k 1 + 1 + 1 + 1) (teS tp N E) := on_ok (su_ok hE) (by omega) (op2_ok (by decide) (by decide))
theorem no_ok {k : Nat} {E : Nat → List Int → RdR} (hE : PrOk N k E) : PrOk N (max k 1 + 1 + 1 + 1) (noS tp N E) := by
  intro s c s' c' h hs
  obtain ⟨a1, a2, w, a3, a4, a5⟩ := nt_ok (te_ok hE) (by omega) 6 0 s c s' c' h hs
  exact ⟨a1, a2, w, a3, by omega, a5⟩
theorem an_ok {k : Nat} {E : Nat → List Int → RdR} (hE : PrOk N k E) : PrOk N (max k 1 + 1 + 1 + 1 + 1) (anS tp N E) := bn_ok (no_ok hE) (by omega) (opW_ok (by decide))
theorem ex_ok : ∀ r, PrOk N (5 * r + 1) (exS tp N r)
  | 0 => fun s c s' c' h _ => by rw [exS] at h; cases h
  | r + 1 => by
    have h := bn_ok (tp := tp) (op := opW tp N 17 (-15)) (an_ok (tp := tp) (ex_ok r)) (by omega) (opW_ok (tp := tp) (by decide))
    have h2 := h.mono (k' := 5 * (r + 1) + 1) (by omega)
    exact h2
/-- a rule's cells as the pile wants them -/
theorem rn_wf : ∀ (w : List Int) (a b m : Nat) (cd : Nat → Int) (o : Nat), (∀ i, i < w.length → cd (o + i) = w.getD i 0) → dpt cd o = a → rnS w a m = some b → (∀ i, o ≤ i → i < o + w.length → (-15 ≤ cd i ∧ cd i ≤ 9999) ∧ dpt cd i ≤ m ∧ (cd i = -7 → 1 ≤ dpt cd i) ∧ (cd i < -7 → 2 ≤ dpt cd i)) ∧ dpt cd (o + w.length) = b
  | [], a, b, m, cd, o, _, hd, hr => by
    rw [rnS] at hr
    cases hr
    exact ⟨fun i h1 h2 => by simp at h2; omega, hd⟩
  | x :: w, a, b, m, cd, o, hc, hd, hr => by
    have hx : cd o = x := hc 0 (by simp)
    have hdp : dpt cd (o + 1) = if -6 ≤ x then a + 1 else if x = -7 then a else a - 1 := by rw [dpt, hx, hd]
    have rest : ∀ a', dpt cd (o + 1) = a' → rnS w a' m = some b → _ := fun a' h1 h2 => rn_wf w a' b m cd (o + 1) (fun i hi => by
      rw [show o + 1 + i = o + (i + 1) by omega, hc (i + 1) (by simp only [List.length_cons]; omega)]; rfl) h1 h2
    rw [rnS] at hr
    split at hr
    · rename_i hg
      have fin : ∀ a', dpt cd (o + 1) = a' → rnS w a' m = some b → (x = -7 → 1 ≤ a) → (x < -7 → 2 ≤ a) → (∀ i, o ≤ i → i < o + (x :: w).length → (-15 ≤ cd i ∧ cd i ≤ 9999) ∧ dpt cd i ≤ m ∧ (cd i = -7 → 1 ≤ dpt cd i) ∧ (cd i < -7 → 2 ≤ dpt cd i)) ∧ dpt cd (o + (x :: w).length) = b := by
        intro a' h1 h2 h3 h4
        obtain ⟨r1, r2⟩ := rest a' h1 h2
        refine ⟨fun i i1 i2 => ?_, ?_⟩
        · by_cases e : i = o
          · subst e
            rw [hx, hd]
            exact ⟨hg.1, hg.2, h3, h4⟩
          · exact r1 i (by omega) (by simp only [List.length_cons] at i2; omega)
        · rw [show o + (x :: w).length = o + 1 + w.length by simp only [List.length_cons]; omega]; exact r2
      split at hr
      · rename_i h6
        rw [if_pos h6] at hdp
        exact fin _ hdp hr (fun e => by omega) (fun e => by omega)
      · rename_i h6
        rw [if_neg h6] at hdp
        split at hr
        · rename_i h7
          rw [if_pos h7] at hdp
          split at hr
          · rename_i h1
            exact fin _ hdp hr (fun _ => h1) (fun e => by omega)
          · cases hr
        · rename_i h7
          rw [if_neg h7] at hdp
          split at hr
          · rename_i h2
            exact fin _ hdp hr (fun e => absurd e h7) (fun _ => h2)
          · cases hr
    · cases hr
theorem ex_wf {s s' : Nat} {c' : List Int} (h : exS tp N 6 s [] = .inr (s', c')) (hs : s ≤ N) : WfC (fun i => c'.getD i 0) c'.length ∧ 0 < c'.length := by
  obtain ⟨a1, a2, w, a3, a4, a5⟩ := ex_ok 6 _ _ _ _ h hs
  rw [List.nil_append] at a3
  subst a3
  have h1 := rn_wf c' 0 1 39 (fun i => c'.getD i 0) 0 (fun i _ => by rw [Nat.zero_add]) rfl (a5 0 39 (by decide))
  rw [Nat.zero_add] at h1
  refine ⟨⟨fun i hi => h1.1 i (Nat.zero_le _) hi, fun _ => h1.2⟩, ?_⟩
  cases c' with
  | nil => have := h1.2; exact absurd this (by decide)
  | cons x w => simp
end ReadS
