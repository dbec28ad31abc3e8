/-! the machine over the memory -/
section PMexec
def inB (x : Int32) (n : Nat) : Bool := !(decide (x < 0)) && decide (x.toNatClampNeg < n)
theorem inB_in {x : Int32} {n : Nat} (h : inB x n = true) : vp_in x n := by
  simp only [inB, Bool.and_eq_true, Bool.not_eq_true', decide_eq_false_iff_not, decide_eq_true_eq] at h
  exact fun q => q.elim h.1 (fun q => absurd h.2 (Nat.not_lt.mpr q))
def pCode (k : Nat) : List (Nat × Instr) := ((mEnt k).getD (⟨"", "", ""⟩, ⟨#[]⟩, 0, none, 0, [])).2.2.2.2.2
def mCd (k : Nat) : ByteArray := ((mEnt k).getD (⟨"", "", ""⟩, ⟨#[]⟩, 0, none, 0, [])).2.1
def mMx (k : Nat) : Nat := ((mEnt k).getD (⟨"", "", ""⟩, ⟨#[]⟩, 0, none, 0, [])).2.2.1
def mRt (k : Nat) : Option FieldType := ((mEnt k).getD (⟨"", "", ""⟩, ⟨#[]⟩, 0, none, 0, [])).2.2.2.1
def mOw (k : Nat) : Nat := ((mEnt k).getD (⟨"", "", ""⟩, ⟨#[]⟩, 0, none, 0, [])).2.2.2.2.1
/-- what a class's constant x links to -/
def lkp {α : Type} (T : List (Nat × α)) (own x : Nat) : Option α := if x < 10000 then T.lookup (own * 10000 + x) else none
theorem lookup_mem {α : Type} : ∀ (T : List (Nat × α)) (k : Nat) (r : α), T.lookup k = some r → (k, r) ∈ T
  | [], _, _, h => nomatch h
  | (a, b) :: T, k, r, h => by
    rw [List.lookup_cons] at h
    split at h
    · rename_i hk
      cases h
      rw [show k = a from by simpa using hk]
      exact List.mem_cons_self
    · exact List.mem_cons_of_mem _ (lookup_mem T k r h)
theorem lkp_mem {α : Type} {T : List (Nat × α)} {own x : Nat} {r : α} (h : lkp T own x = some r) : (own * 10000 + x, r) ∈ T ∧ (own * 10000 + x) / 10000 = own ∧ (own * 10000 + x) % 10000 = x := by
  unfold lkp at h
  split at h
  · exact ⟨lookup_mem _ _ _ h, by omega, by omega⟩
  · cases h
/-- string constants: lengths, chars, indexOf -/
def sLen (i : Nat) : Nat := (sBy.getD i []).length
def sCh (i k : Nat) : Int32 := nI ((sBy.getD i []).getD k 0)
def ixF (c : Int32) : List Nat → Nat → Int32
  | [], _ => -1
  | b :: l, k => if nI b = c then nI k else ixF c l (k + 1)
def sIx (i : Nat) (c : Int32) : Int32 := ixF c (sBy.getD i []) 0
def hGet (own x : Nat) (st : List Value) (M : pM) : Option (List Value × pM) := match lkp fT own x with
  | some (ci, k, tag, _) => match st with
    | .ref o :: r => if gK M.2.2.2 o = ci then (if tag = 1 then some (pRv (gR M.2.2.2 o k) :: r, M) else some (.int (M.1 o k) :: r, M)) else none
    | _ => none
  | none => none
def hPut (own x : Nat) (ini : Bool) (st : List Value) (M : pM) : Option (List Value × pM) := match lkp fT own x with
  | some (ci, k, tag, fin) => if fin = 1 ∧ (ini = false ∨ ci ≠ own) then none else match st with
    | .int v :: .ref o :: r => if gK M.2.2.2 o = ci ∧ (tag = 0 ∨ (tag = 2 ∧ (v = 0 ∨ v = 1))) then some (r, (va_up M.1 o (va_up (M.1 o) k v), M.2)) else none
    | .ref v :: .ref o :: r => if gK M.2.2.2 o = ci ∧ tag = 1 ∧ v < gN M.2.2.2 then some (r, (M.1, M.2.1, M.2.2.1, gSetR M.2.2.2 o k (v + 1))) else none
    | _ => none
  | none => none
/-- reads of rows -/
def hLd (i : Instr) (st : List Value) (M : pM) : Option (List Value) := match st with
  | .int x :: .ref a :: r => match i with
    | .iaload => if (gK M.2.2.2 a = 20 ∨ gK M.2.2.2 a = 30) ∧ inB x (gL M.2.2.2 a) = true then some (.int (M.2.1 a x.toNatClampNeg) :: r) else none
    | .baload => if gK M.2.2.2 a = 21 ∧ inB x (gL M.2.2.2 a) = true then some (.int (M.2.1 a x.toNatClampNeg) :: r) else none
    | .laload => if gK M.2.2.2 a = 22 ∧ inB x (gL M.2.2.2 a) = true then some (.long (M.2.2.1 a x.toNatClampNeg) :: r) else none
    | .aaload => if gK M.2.2.2 a = 23 ∧ inB x (gL M.2.2.2 a) = true then some (pRv (gR M.2.2.2 a x.toNatClampNeg) :: r) else none
    | _ => none
  | .ref a :: r => match i with
    | .arraylength => if gK M.2.2.2 a = 20 ∨ gK M.2.2.2 a = 21 ∨ gK M.2.2.2 a = 22 ∨ gK M.2.2.2 a = 23 ∨ gK M.2.2.2 a = 30 then some (.int (Int32.ofNat (gL M.2.2.2 a)) :: r) else none
    | _ => none
  | _ => none
/-- writes of rows -/
def hSt (i : Instr) (st : List Value) (M : pM) : Option (List Value × pM) := match st with
  | .int v :: .int x :: .ref a :: r => match i with
    | .iastore => if gK M.2.2.2 a = 20 ∧ inB x (gL M.2.2.2 a) = true then some (r, (M.1, va_up M.2.1 a (va_up (M.2.1 a) x.toNatClampNeg v), M.2.2)) else none
    | .bastore => if gK M.2.2.2 a = 21 ∧ inB x (gL M.2.2.2 a) = true then some (r, (M.1, va_up M.2.1 a (va_up (M.2.1 a) x.toNatClampNeg (vp_nar .byte v)), M.2.2)) else none
    | _ => none
  | .long v :: .int x :: .ref a :: r => match i with
    | .lastore => if gK M.2.2.2 a = 22 ∧ inB x (gL M.2.2.2 a) = true then some (r, (M.1, M.2.1, va_up M.2.2.1 a (va_up (M.2.2.1 a) x.toNatClampNeg v), M.2.2.2)) else none
    | _ => none
  | .ref v :: .int x :: .ref a :: r => match i with
    | .aastore => if gK M.2.2.2 a = 23 ∧ inB x (gL M.2.2.2 a) = true ∧ 1000 ≤ v ∧ v < 1000 + sBy.length then some (r, (M.1, M.2.1, M.2.2.1, gSetR M.2.2.2 a x.toNatClampNeg (v + 1))) else none
    | _ => none
  | _ => none
def arK (t : ArrayType) : Nat := match t with
  | .int => 20
  | .byte => 21
  | .long => 22
  | _ => 0
/-- what makes cells -/
def hNew (own : Nat) (i : Instr) (st : List Value) (M : pM) : Option (List Value × pM) := match i with
  | .newarray t => match st with
    | .int n :: r => if ¬ n < 0 ∧ n.toNatClampNeg ≤ 4096 ∧ arK t ≠ 0 ∧ gN M.2.2.2 < 900 ∧ gC M.2.2.2 = gN M.2.2.2 then some (.ref (gN M.2.2.2) :: r, (M.1, va_up M.2.1 (gN M.2.2.2) (fun _ => 0), va_up M.2.2.1 (gN M.2.2.2) (fun _ => 0), gNew M.2.2.2 (arK t) n.toNatClampNeg n.toNatClampNeg)) else none
    | _ => none
  | .anewarray x => match st with
    | .int n :: r => if lkp cT own x = some 200 ∧ ¬ n < 0 ∧ n.toNatClampNeg ≤ 4096 ∧ gN M.2.2.2 < 900 ∧ gC M.2.2.2 = gN M.2.2.2 then some (.ref (gN M.2.2.2) :: r, (M.1, M.2.1, M.2.2.1, gNew M.2.2.2 23 n.toNatClampNeg n.toNatClampNeg)) else none
    | _ => none
  | .new x => match lkp cT own x with
    | some ci => if ci < 11 ∧ gN M.2.2.2 < 900 ∧ gC M.2.2.2 = gN M.2.2.2 then some (.ref (gN M.2.2.2) :: st, (va_up M.1 (gN M.2.2.2) (fun _ => 0), M.2.1, M.2.2.1, gNew M.2.2.2 ci 0 (clN ci))) else none
    | none => none
  | _ => none
/-- constants of the pool -/
def hLdc (own : Nat) (i : Instr) : Option Value := match i with
  | .ldc x => match lkp kI own x with
    | some v => some (.int v)
    | none => match lkp kS own x with
      | some s => some (.ref (1000 + s))
      | none => none
  | .ldc_w x => match lkp kI own x with
    | some v => some (.int v)
    | none => match lkp kS own x with
      | some s => some (.ref (1000 + s))
      | none => none
  | .ldc2_w x => match lkp kJ own x with
    | some v => some (.long v)
    | none => none
  | _ => none
/-- words of a stack -/
def stW (r : List Value) : Nat := (r.map fun v => v.category).sum
/-- members of the JDK -/
def hJdk (own : Nat) (i : Instr) (st : List Value) (M : pM) : Option (List Value × pM) := match i with
  | .invokespecial x => match lkp mT own x with
    | some (10, _) => match st with
      | .ref _ :: r => if stW r ≤ 8 then some (r, M) else none
      | _ => none
    | _ => none
  | .invokestatic x => match lkp mT own x with
    | some (11, _) => match st with
      | .int y :: .int x :: r => if stW r ≤ 8 then some (.int (if x < y then y else x) :: r, M) else none
      | _ => none
    | some (12, _) => match st with
      | .int y :: .int x :: r => if stW r ≤ 8 then some (.int (if y < x then y else x) :: r, M) else none
      | _ => none
    | some (13, _) => match st with
      | .int x :: r => if stW r ≤ 8 then some (.int (if 0 ≤ x then x else 0 - x) :: r, M) else none
      | _ => none
    | some (14, _) => match st with
      | .int n :: .int dp :: .ref a :: .int sp :: .ref b :: r => if stW r ≤ 8 ∧ gK M.2.2.2 a = 20 ∧ gK M.2.2.2 b = 20 ∧ ¬ sp < 0 ∧ ¬ dp < 0 ∧ ¬ n < 0 ∧ sp.toNatClampNeg + n.toNatClampNeg ≤ gL M.2.2.2 b ∧ dp.toNatClampNeg + n.toNatClampNeg ≤ gL M.2.2.2 a then some (r, (M.1, va_up M.2.1 a (va_cpy (M.2.1 b) (M.2.1 a) sp.toNatClampNeg dp.toNatClampNeg n.toNatClampNeg), M.2.2)) else none
      | _ => none
    | _ => none
  | _ => none
/-- members of a constant text -/
def hStr (own : Nat) (i : Instr) (st : List Value) : Option (List Value) := match i with
  | .invokevirtual x => match lkp mT own x with
    | some (15, _) => match st with
      | .ref s :: r => if stW r ≤ 8 ∧ 1000 ≤ s ∧ s < 1000 + sBy.length then some (.int (nI (sLen (s - 1000))) :: r) else none
      | _ => none
    | some (16, _) => match st with
      | .int k :: .ref s :: r => if stW r ≤ 8 ∧ 1000 ≤ s ∧ s < 1000 + sBy.length ∧ inB k (sLen (s - 1000)) = true then some (.int (sCh (s - 1000) k.toNatClampNeg) :: r) else none
      | _ => none
    | some (17, _) => match st with
      | .int c :: .ref s :: r => if stW r ≤ 8 ∧ 1000 ≤ s ∧ s < 1000 + sBy.length then some (.int (sIx (s - 1000) c) :: r) else none
      | _ => none
    | _ => none
  | _ => none
/-- a return -/
def rOp (mid : Nat) (i : Instr) (st : List Value) : Option (Option Value) := match i with
  | .ireturn => match st with
    | [.int v] => if mRt mid = some .int ∨ (mRt mid = some .boolean ∧ (v = 0 ∨ v = 1)) then some (some (.int v)) else none
    | _ => none
  | .lreturn => match st with
    | [.long v] => if mRt mid = some .long then some (some (.long v)) else none
    | _ => none
  | .return_ => match st with
    | [] => if mRt mid = none then some none else none
    | _ => none
  | _ => none
def ctI (e : Nat) : Nat := if e = 100 then 92 else 161
def xTl (mid pc e : Nat) : Bool := match (pCode mid).lookup (pc + 4) with
  | some (.ldc x) => (lkp kS 9 x).isSome && (decide ((pCode mid).lookup (pc + 6) = some (.invokespecial (ctI e))) && decide ((pCode mid).lookup (pc + 9) = some .athrow))
  | some (.ldc_w x) => (lkp kS 9 x).isSome && (decide ((pCode mid).lookup (pc + 7) = some (.invokespecial (ctI e))) && decide ((pCode mid).lookup (pc + 10) = some .athrow))
  | _ => false
/-- a new exception that is thrown at once -/
def xOp (mid pc : Nat) (i : Instr) (st : List Value) : Option Nat := match i with
  | .new x => match lkp cT (mOw mid) x with
    | some e => if (e = 100 ∨ e = 101) ∧ stW st ≤ 8 ∧ mOw mid = 9 ∧ (pCode mid).lookup (pc + 3) = some .dup ∧ xTl mid pc e = true then some e else none
    | none => none
  | _ => none
/-- a call of a method of ours: which, its arguments, the stack below -/
def cOp (own : Nat) (i : Instr) (st : List Value) (M : pM) : Option (Nat × List Value × List Value) := match i with
  | .invokestatic x => match lkp mT own x with
    | some (0, cm, na) => if na ≤ st.length ∧ stW (st.drop na) ≤ 8 then some (cm, (st.take na).reverse, st.drop na) else none
    | _ => none
  | .invokevirtual x => match lkp mT own x with
    | some (1, cm, na) => match st.drop na with
      | .ref o :: r => if gK M.2.2.2 o = mOw cm ∧ stW r ≤ 8 then some (cm, .ref o :: (st.take na).reverse, r) else none
      | _ => none
    | _ => none
  | .invokespecial x => match lkp mT own x with
    | some (2, cm, na) => match st.drop na with
      | .ref o :: r => if stW r ≤ 8 then some (cm, .ref o :: (st.take na).reverse, r) else none
      | _ => none
    | some (3, cm, na) => match st.drop na with
      | .ref o :: r => if stW r ≤ 8 then some (cm, .ref o :: (st.take na).reverse, r) else none
      | _ => none
    | _ => none
  | _ => none
/-- who takes a thrown class at a place: where it goes on, the local that holds it -/
def hOf : List (Nat × Nat × Nat × Nat × Nat × Nat × Nat) → Nat → Nat → Option (Nat × Nat)
  | [], _, _ => none
  | (fr, to, _, _, e, nx, sl) :: l, pc, x => if fr ≤ pc ∧ pc < to then (if e = x then some (nx, sl) else if e = 101 ∧ x = 100 then hOf l pc x else none) else hOf l pc x
def isSp (i : Instr) : Bool := match i with
  | .invokespecial _ => true
  | _ => false
def isIni (mid : Nat) : Bool := decide ((mY mid).name = "<init>")
def mOp (mid : Nat) (i : Instr) (st : List Value) (M : pM) : Option (List Value × pM) := match i with
  | .getfield x => hGet (mOw mid) x st M
  | .putfield x => hPut (mOw mid) x (isIni mid) st M
  | _ => match hLd i st M with
    | some st' => some (st', M)
    | none => match hSt i st M with
      | some q => some q
      | none => match hNew (mOw mid) i st M with
        | some q => some q
        | none => match hLdc (mOw mid) i with
          | some v => some (v :: st, M)
          | none => match hJdk (mOw mid) i st M with
            | some q => some q
            | none => match hStr (mOw mid) i st with
              | some st' => some (st', M)
              | none => none
def exN : Nat → Nat → Nat → Nat → List Value → List Value → pM → Option (pR × pM)
  | 0, _, _, _, _, _, _ => none
  | n + 1, d, mid, pc, L, st, M => match (pCode mid).lookup pc with
    | none => none
    | some i => match sOp i st with
      | some st' => exN n d mid (pc + ilen i) L st' M
      | none => match lOp i L with
        | some v => exN n d mid (pc + ilen i) L (v :: st) M
        | none => match tOp i L st with
          | some q => exN n d mid (pc + ilen i) q.1 q.2 M
          | none => match jOp i pc st with
            | some q => exN n d mid q.1 L q.2 M
            | none => match mOp mid i st M with
              | some q => exN n d mid (pc + ilen i) L q.1 q.2
              | none => match rOp mid i st with
                | some v => some (.inl v, M)
                | none => match xOp mid pc i st with
                  | some e => some (.inr e, (M.1, M.2.1, M.2.2.1, gThr M.2.2.2))
                  | none => match cOp (mOw mid) i st M with
                    | some q => if mMx q.1 < (entA q.2.1).length then none else match d with
                      | 0 => none
                      | d' + 1 => match exN n d' q.1 0 (entL q.2.1 (mMx q.1)) [] M with
                        | some (.inl v, M') => exN n (d' + 1) mid (pc + 3) L (v.toList ++ q.2.2) M'
                        | some (.inr e, M') => if isSp i then none else match hOf (hdl mid) pc e with
                          | some h => match stL L h.2 .null with
                            | some L' => exN n (d' + 1) mid h.1 L' [] M'
                            | none => none
                          | none => if (hdl mid).isEmpty then some (.inr e, M') else none
                        | none => none
                    | none => none
end PMexec
