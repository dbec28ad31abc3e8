/-! one instruction backwards -/
section YLem
/-- a row of a listing, and where the next one stands -/
def At (mid pc : Nat) (i : Instr) (pc' : Nat) : Prop := (pCode mid).lookup pc = some i ∧ pc + ilen i = pc'
def jt (i : Instr) (pc : Nat) : Option Nat := match i with
  | .goto off => if 0 ≤ (pc : Int) + off then some (tgt pc off) else none
  | .if_icmp _ off => if 0 ≤ (pc : Int) + off then some (tgt pc off) else none
  | .ifCond _ off => if 0 ≤ (pc : Int) + off then some (tgt pc off) else none
  | _ => none
def Jm (mid pc : Nat) (i : Instr) (pc' t : Nat) : Prop := At mid pc i pc' ∧ jt i pc = some t
/-- behind a call, in a method without handlers -/
def KK (d mid pc : Nat) (L st : List Value) (Q : pR → pM → Prop) : pR → pM → Prop := fun r M => match r with
  | .inl v => X d mid pc L (v.toList ++ st) M Q
  | .inr e => Q (.inr e) M
def wF (F : Nat → Nat → Int32) (o k : Nat) (v : Int32) : Nat → Nat → Int32 := va_up F o (va_up (F o) k v)
def wJ (F : Nat → Nat → Int64) (o k : Nat) (v : Int64) : Nat → Nat → Int64 := va_up F o (va_up (F o) k v)
/-- a part of row b is copied to row a -/
def cpR (A : Nat → Nat → Int32) (a b sp dp n : Nat) : Nat → Nat → Int32 := va_up A a (va_cpy (A b) (A a) sp dp n)
def jmax (x y : Int32) : Int32 := if x < y then y else x
def jmin (x y : Int32) : Int32 := if y < x then y else x
def jabs (x : Int32) : Int32 := if 0 ≤ x then x else 0 - x
def jrem (x y : Int32) : Int32 := x - x / y * y
def jushr (x y : Int32) : Int32 := (x.toUInt32 >>> (y.toUInt32 &&& Int32.toUInt32 31)).toInt32
def jbyte (x : Int32) : Int32 := vp_nar .byte x
def jchar (x : Int32) : Int32 := (x.toUInt32 % 65536).toInt32
def bI (b : Bool) : Int32 := if b = true then 1 else 0
theorem bI_01 (b : Bool) : bI b = 0 ∨ bI b = 1 := by cases b; exact Or.inl rfl; exact Or.inr rfl
variable {d mid pc pc' t : Nat} {L st : List Value} {M : pM} {Q : pR → pM → Prop} {F A : Nat → Nat → Int32} {J : Nat → Nat → Int64} {G : pG}
theorem X_mono {Q1 Q2 : pR → pM → Prop} (h : ∀ r M, Q1 r M → Q2 r M) (hx : X d mid pc L st M Q1) : X d mid pc L st M Q2 := by
  obtain ⟨n, r, M', h1, h2⟩ := hx
  exact ⟨n, r, M', h1, h r M' h2⟩
theorem KKi {v : Int32} (h : X d mid pc L (.int v :: st) M Q) : KK d mid pc L st Q (.inl (some (.int v))) M := h
theorem KKi' {v v' : Int32} (hv : v = v') (h : X d mid pc L (.int v' :: st) M Q) : KK d mid pc L st Q (.inl (some (.int v))) M := by subst hv; exact h
theorem KKl' {v v' : Int64} (hv : v = v') (h : X d mid pc L (.long v' :: st) M Q) : KK d mid pc L st Q (.inl (some (.long v))) M := by subst hv; exact h
theorem KKl {v : Int64} (h : X d mid pc L (.long v :: st) M Q) : KK d mid pc L st Q (.inl (some (.long v))) M := h
theorem KKv (h : X d mid pc L st M Q) : KK d mid pc L st Q (.inl none) M := h
theorem KKe {e : Nat} (h : Q (.inr e) M) : KK d mid pc L st Q (.inr e) M := h
theorem Y_s {i : Instr} {st' : List Value} (h : At mid pc i pc') (hs : sOp i st = some st') (hX : X d mid pc' L st' M Q) : X d mid pc L st M Q := by rw [X_s h.1 hs, h.2]; exact hX
theorem Y_l {i : Instr} {v : Value} (h : At mid pc i pc') (h0 : sOp i st = none) (hs : lOp i L = some v) (hX : X d mid pc' L (v :: st) M Q) : X d mid pc L st M Q := by rw [X_l h.1 h0 hs, h.2]; exact hX
theorem Y_t {i : Instr} {L' st' : List Value} (h : At mid pc i pc') (h0 : sOp i st = none) (h1 : lOp i L = none) (hs : tOp i L st = some (L', st')) (hX : X d mid pc' L' st' M Q) : X d mid pc L st M Q := by rw [X_t h.1 h0 h1 hs, h.2]; exact hX
theorem Y_m {i : Instr} {q : List Value × pM} (h : At mid pc i pc') (h0 : sOp i st = none) (h1 : lOp i L = none) (h2 : tOp i L st = none) (h3 : jOp i pc st = none) (hs : mOp mid i st M = some q) (hX : X d mid pc' L q.1 q.2 Q) : X d mid pc L st M Q := by rw [X_m h.1 h0 h1 h2 h3 hs, h.2]; exact hX
theorem Y_iconst {n : Int} {v : Int32} (h : At mid pc (.iconst n) pc') (hv : Int32.ofInt n = v) (hX : X d mid pc' L (.int v :: st) M Q) : X d mid pc L st M Q := Y_s h rfl (by subst hv; exact hX)
theorem Y_bipush {n : Int} {v : Int32} (h : At mid pc (.bipush n) pc') (hv : (Int8.ofInt n).toInt32 = v) (hX : X d mid pc' L (.int v :: st) M Q) : X d mid pc L st M Q := Y_s h rfl (by subst hv; exact hX)
theorem Y_sipush {n : Int} {v : Int32} (h : At mid pc (.sipush n) pc') (hv : (Int16.ofInt n).toInt32 = v) (hX : X d mid pc' L (.int v :: st) M Q) : X d mid pc L st M Q := Y_s h rfl (by subst hv; exact hX)
theorem Y_lconst {n : Fin 2} {v : Int64} (h : At mid pc (.lconst n) pc') (hv : Int64.ofNat (n : Nat) = v) (hX : X d mid pc' L (.long v :: st) M Q) : X d mid pc L st M Q := Y_s h rfl (by subst hv; exact hX)
theorem Y_iadd {x y : Int32} (h : At mid pc .iadd pc') (hX : X d mid pc' L (.int (x + y) :: st) M Q) : X d mid pc L (.int y :: .int x :: st) M Q := Y_s h rfl hX
theorem Y_isub {x y : Int32} (h : At mid pc .isub pc') (hX : X d mid pc' L (.int (x - y) :: st) M Q) : X d mid pc L (.int y :: .int x :: st) M Q := Y_s h rfl hX
theorem Y_imul {x y : Int32} (h : At mid pc .imul pc') (hX : X d mid pc' L (.int (x * y) :: st) M Q) : X d mid pc L (.int y :: .int x :: st) M Q := Y_s h rfl hX
theorem Y_iand {x y : Int32} (h : At mid pc .iand pc') (hX : X d mid pc' L (.int (x &&& y) :: st) M Q) : X d mid pc L (.int y :: .int x :: st) M Q := Y_s h rfl hX
theorem Y_ior {x y : Int32} (h : At mid pc .ior pc') (hX : X d mid pc' L (.int (x ||| y) :: st) M Q) : X d mid pc L (.int y :: .int x :: st) M Q := Y_s h rfl hX
theorem Y_ixor {x y : Int32} (h : At mid pc .ixor pc') (hX : X d mid pc' L (.int (x ^^^ y) :: st) M Q) : X d mid pc L (.int y :: .int x :: st) M Q := Y_s h rfl hX
theorem Y_ishl {x y : Int32} (h : At mid pc .ishl pc') (hX : X d mid pc' L (.int (x <<< (y &&& 31)) :: st) M Q) : X d mid pc L (.int y :: .int x :: st) M Q := Y_s h rfl hX
theorem Y_ishr {x y : Int32} (h : At mid pc .ishr pc') (hX : X d mid pc' L (.int (x >>> (y &&& 31)) :: st) M Q) : X d mid pc L (.int y :: .int x :: st) M Q := Y_s h rfl hX
theorem Y_iushr {x y : Int32} (h : At mid pc .iushr pc') (hX : X d mid pc' L (.int (jushr x y) :: st) M Q) : X d mid pc L (.int y :: .int x :: st) M Q := Y_s h rfl hX
theorem Y_idiv {x y : Int32} (h : At mid pc .idiv pc') (hy : ¬ y = 0) (hX : X d mid pc' L (.int (x / y) :: st) M Q) : X d mid pc L (.int y :: .int x :: st) M Q := Y_s h (by simp only [sOp, if_neg hy]) hX
theorem Y_irem {x y : Int32} (h : At mid pc .irem pc') (hy : ¬ y = 0) (hX : X d mid pc' L (.int (jrem x y) :: st) M Q) : X d mid pc L (.int y :: .int x :: st) M Q := Y_s h (by simp only [sOp, if_neg hy]; rfl) hX
theorem Y_ineg {x : Int32} (h : At mid pc .ineg pc') (hX : X d mid pc' L (.int (-x) :: st) M Q) : X d mid pc L (.int x :: st) M Q := Y_s h rfl hX
theorem Y_i2l {x : Int32} (h : At mid pc .i2l pc') (hX : X d mid pc' L (.long x.toInt64 :: st) M Q) : X d mid pc L (.int x :: st) M Q := Y_s h rfl hX
theorem Y_i2b {x : Int32} (h : At mid pc .i2b pc') (hX : X d mid pc' L (.int x.toInt8.toInt32 :: st) M Q) : X d mid pc L (.int x :: st) M Q := Y_s h rfl hX
theorem Y_i2c {x : Int32} (h : At mid pc .i2c pc') (hX : X d mid pc' L (.int (jchar x) :: st) M Q) : X d mid pc L (.int x :: st) M Q := Y_s h rfl hX
theorem Y_ladd {x y : Int64} (h : At mid pc .ladd pc') (hX : X d mid pc' L (.long (x + y) :: st) M Q) : X d mid pc L (.long y :: .long x :: st) M Q := Y_s h rfl hX
theorem Y_lcmp {x y : Int64} (h : At mid pc .lcmp pc') (hX : X d mid pc' L (.int (lg_cmp x y) :: st) M Q) : X d mid pc L (.long y :: .long x :: st) M Q := Y_s h rfl hX
theorem Y_dup {v : Value} (h : At mid pc .dup pc') (hv : v.category = 1) (hX : X d mid pc' L (v :: v :: st) M Q) : X d mid pc L (v :: st) M Q := Y_s h (by simp only [sOp, if_pos hv]) hX
theorem Y_pop {v : Value} (h : At mid pc .pop pc') (hv : v.category = 1) (hX : X d mid pc' L st M Q) : X d mid pc L (v :: st) M Q := Y_s h (by simp only [sOp, if_pos hv]) hX
theorem Y_dup2 {v w : Value} (h : At mid pc .dup2 pc') (hv : v.category = 1) (hw : w.category = 1) (hX : X d mid pc' L (v :: w :: v :: w :: st) M Q) : X d mid pc L (v :: w :: st) M Q := Y_s h (by simp only [sOp, if_pos (And.intro hv hw)]) hX
theorem Y_il0 {x : Int32} (h : At mid pc (.iload_n 0) pc') (hX : X d mid pc' (.int x :: L) (.int x :: st) M Q) : X d mid pc (.int x :: L) st M Q := Y_l h rfl rfl hX
theorem Y_al0 {x : Nat} (h : At mid pc (.aload_n 0) pc') (hX : X d mid pc' (.ref x :: L) (.ref x :: st) M Q) : X d mid pc (.ref x :: L) st M Q := Y_l h rfl rfl hX
theorem Y_ll0 {x : Int64} (h : At mid pc (.lload_n 0) pc') (hX : X d mid pc' (.long x :: L) (.long x :: st) M Q) : X d mid pc (.long x :: L) st M Q := Y_l h rfl rfl hX
theorem Y_is0 {b : Value} {x : Int32} (h : At mid pc (.istore_n 0) pc') (hX : X d mid pc' (.int x :: L) st M Q) : X d mid pc (b :: L) (.int x :: st) M Q := Y_t h rfl rfl (show (stL (b :: L) 0 (.int x)).map (fun L => (L, st)) = some ((.int x :: L), st) from by simp [stL, isL1]) hX
theorem Y_as0 {b : Value} {x : Nat} (h : At mid pc (.astore_n 0) pc') (hX : X d mid pc' (.ref x :: L) st M Q) : X d mid pc (b :: L) (.ref x :: st) M Q := Y_t h rfl rfl (show (stL (b :: L) 0 (.ref x)).map (fun L => (L, st)) = some ((.ref x :: L), st) from by simp [stL, isL1]) hX
theorem Y_ii0 {x v : Int32} {n : Int} (h : At mid pc (.iinc 0 n) pc') (hv : Int32.ofInt n = v) (hX : X d mid pc' (.int (x + v) :: L) st M Q) : X d mid pc (.int x :: L) st M Q := Y_t h rfl rfl (by subst hv; simp [tOp, stL, isL1]) hX
theorem Y_il1 {a0 : Value} {x : Int32} (h : At mid pc (.iload_n 1) pc') (hX : X d mid pc' (a0 :: .int x :: L) (.int x :: st) M Q) : X d mid pc (a0 :: .int x :: L) st M Q := Y_l h rfl rfl hX
theorem Y_al1 {a0 : Value} {x : Nat} (h : At mid pc (.aload_n 1) pc') (hX : X d mid pc' (a0 :: .ref x :: L) (.ref x :: st) M Q) : X d mid pc (a0 :: .ref x :: L) st M Q := Y_l h rfl rfl hX
theorem Y_ll1 {a0 : Value} {x : Int64} (h : At mid pc (.lload_n 1) pc') (hX : X d mid pc' (a0 :: .long x :: L) (.long x :: st) M Q) : X d mid pc (a0 :: .long x :: L) st M Q := Y_l h rfl rfl hX
theorem Y_is1 {a0 : Value} {b : Value} {x : Int32} (h : At mid pc (.istore_n 1) pc') (hg : isLg a0 = false) (hX : X d mid pc' (a0 :: .int x :: L) st M Q) : X d mid pc (a0 :: b :: L) (.int x :: st) M Q := Y_t h rfl rfl (show (stL (a0 :: b :: L) 1 (.int x)).map (fun L => (L, st)) = some ((a0 :: .int x :: L), st) from by simp [stL, isL1, hg]) hX
theorem Y_as1 {a0 : Value} {b : Value} {x : Nat} (h : At mid pc (.astore_n 1) pc') (hg : isLg a0 = false) (hX : X d mid pc' (a0 :: .ref x :: L) st M Q) : X d mid pc (a0 :: b :: L) (.ref x :: st) M Q := Y_t h rfl rfl (show (stL (a0 :: b :: L) 1 (.ref x)).map (fun L => (L, st)) = some ((a0 :: .ref x :: L), st) from by simp [stL, isL1, hg]) hX
theorem Y_ii1 {a0 : Value} {x v : Int32} {n : Int} (h : At mid pc (.iinc 1 n) pc') (hv : Int32.ofInt n = v) (hg : isLg a0 = false) (hX : X d mid pc' (a0 :: .int (x + v) :: L) st M Q) : X d mid pc (a0 :: .int x :: L) st M Q := Y_t h rfl rfl (by subst hv; simp [tOp, stL, isL1, hg]) hX
theorem Y_il2 {a0 a1 : Value} {x : Int32} (h : At mid pc (.iload_n 2) pc') (hX : X d mid pc' (a0 :: a1 :: .int x :: L) (.int x :: st) M Q) : X d mid pc (a0 :: a1 :: .int x :: L) st M Q := Y_l h rfl rfl hX
theorem Y_al2 {a0 a1 : Value} {x : Nat} (h : At mid pc (.aload_n 2) pc') (hX : X d mid pc' (a0 :: a1 :: .ref x :: L) (.ref x :: st) M Q) : X d mid pc (a0 :: a1 :: .ref x :: L) st M Q := Y_l h rfl rfl hX
theorem Y_ll2 {a0 a1 : Value} {x : Int64} (h : At mid pc (.lload_n 2) pc') (hX : X d mid pc' (a0 :: a1 :: .long x :: L) (.long x :: st) M Q) : X d mid pc (a0 :: a1 :: .long x :: L) st M Q := Y_l h rfl rfl hX
theorem Y_is2 {a0 a1 : Value} {b : Value} {x : Int32} (h : At mid pc (.istore_n 2) pc') (hg : isLg a1 = false) (hX : X d mid pc' (a0 :: a1 :: .int x :: L) st M Q) : X d mid pc (a0 :: a1 :: b :: L) (.int x :: st) M Q := Y_t h rfl rfl (show (stL (a0 :: a1 :: b :: L) 2 (.int x)).map (fun L => (L, st)) = some ((a0 :: a1 :: .int x :: L), st) from by simp [stL, isL1, hg]) hX
theorem Y_as2 {a0 a1 : Value} {b : Value} {x : Nat} (h : At mid pc (.astore_n 2) pc') (hg : isLg a1 = false) (hX : X d mid pc' (a0 :: a1 :: .ref x :: L) st M Q) : X d mid pc (a0 :: a1 :: b :: L) (.ref x :: st) M Q := Y_t h rfl rfl (show (stL (a0 :: a1 :: b :: L) 2 (.ref x)).map (fun L => (L, st)) = some ((a0 :: a1 :: .ref x :: L), st) from by simp [stL, isL1, hg]) hX
theorem Y_ii2 {a0 a1 : Value} {x v : Int32} {n : Int} (h : At mid pc (.iinc 2 n) pc') (hv : Int32.ofInt n = v) (hg : isLg a1 = false) (hX : X d mid pc' (a0 :: a1 :: .int (x + v) :: L) st M Q) : X d mid pc (a0 :: a1 :: .int x :: L) st M Q := Y_t h rfl rfl (by subst hv; simp [tOp, stL, isL1, hg]) hX
theorem Y_il3 {a0 a1 a2 : Value} {x : Int32} (h : At mid pc (.iload_n 3) pc') (hX : X d mid pc' (a0 :: a1 :: a2 :: .int x :: L) (.int x :: st) M Q) : X d mid pc (a0 :: a1 :: a2 :: .int x :: L) st M Q := Y_l h rfl rfl hX
theorem Y_al3 {a0 a1 a2 : Value} {x : Nat} (h : At mid pc (.aload_n 3) pc') (hX : X d mid pc' (a0 :: a1 :: a2 :: .ref x :: L) (.ref x :: st) M Q) : X d mid pc (a0 :: a1 :: a2 :: .ref x :: L) st M Q := Y_l h rfl rfl hX
theorem Y_ll3 {a0 a1 a2 : Value} {x : Int64} (h : At mid pc (.lload_n 3) pc') (hX : X d mid pc' (a0 :: a1 :: a2 :: .long x :: L) (.long x :: st) M Q) : X d mid pc (a0 :: a1 :: a2 :: .long x :: L) st M Q := Y_l h rfl rfl hX
theorem Y_is3 {a0 a1 a2 : Value} {b : Value} {x : Int32} (h : At mid pc (.istore_n 3) pc') (hg : isLg a2 = false) (hX : X d mid pc' (a0 :: a1 :: a2 :: .int x :: L) st M Q) : X d mid pc (a0 :: a1 :: a2 :: b :: L) (.int x :: st) M Q := Y_t h rfl rfl (show (stL (a0 :: a1 :: a2 :: b :: L) 3 (.int x)).map (fun L => (L, st)) = some ((a0 :: a1 :: a2 :: .int x :: L), st) from by simp [stL, isL1, hg]) hX
theorem Y_as3 {a0 a1 a2 : Value} {b : Value} {x : Nat} (h : At mid pc (.astore_n 3) pc') (hg : isLg a2 = false) (hX : X d mid pc' (a0 :: a1 :: a2 :: .ref x :: L) st M Q) : X d mid pc (a0 :: a1 :: a2 :: b :: L) (.ref x :: st) M Q := Y_t h rfl rfl (show (stL (a0 :: a1 :: a2 :: b :: L) 3 (.ref x)).map (fun L => (L, st)) = some ((a0 :: a1 :: a2 :: .ref x :: L), st) from by simp [stL, isL1, hg]) hX
theorem Y_ii3 {a0 a1 a2 : Value} {x v : Int32} {n : Int} (h : At mid pc (.iinc 3 n) pc') (hv : Int32.ofInt n = v) (hg : isLg a2 = false) (hX : X d mid pc' (a0 :: a1 :: a2 :: .int (x + v) :: L) st M Q) : X d mid pc (a0 :: a1 :: a2 :: .int x :: L) st M Q := Y_t h rfl rfl (by subst hv; simp [tOp, stL, isL1, hg]) hX
theorem Y_ls3 {a0 a1 a2 : Value} {b c : Value} {x : Int64} (h : At mid pc (.lstore_n 3) pc') (hg : isLg a2 = false) (hX : X d mid pc' (a0 :: a1 :: a2 :: .long x :: .null :: L) st M Q) : X d mid pc (a0 :: a1 :: a2 :: b :: c :: L) (.long x :: st) M Q := Y_t h rfl rfl (show (stLL (a0 :: a1 :: a2 :: b :: c :: L) 3 (.long x)).map (fun L => (L, st)) = some (a0 :: a1 :: a2 :: .long x :: .null :: L, st) from by simp [stLL, isL1, hg]) hX
theorem Y_il4 {a0 a1 a2 a3 : Value} {x : Int32} (h : At mid pc (.iload 4) pc') (hX : X d mid pc' (a0 :: a1 :: a2 :: a3 :: .int x :: L) (.int x :: st) M Q) : X d mid pc (a0 :: a1 :: a2 :: a3 :: .int x :: L) st M Q := Y_l h rfl rfl hX
theorem Y_al4 {a0 a1 a2 a3 : Value} {x : Nat} (h : At mid pc (.aload 4) pc') (hX : X d mid pc' (a0 :: a1 :: a2 :: a3 :: .ref x :: L) (.ref x :: st) M Q) : X d mid pc (a0 :: a1 :: a2 :: a3 :: .ref x :: L) st M Q := Y_l h rfl rfl hX
theorem Y_ll4 {a0 a1 a2 a3 : Value} {x : Int64} (h : At mid pc (.lload 4) pc') (hX : X d mid pc' (a0 :: a1 :: a2 :: a3 :: .long x :: L) (.long x :: st) M Q) : X d mid pc (a0 :: a1 :: a2 :: a3 :: .long x :: L) st M Q := Y_l h rfl rfl hX
theorem Y_is4 {a0 a1 a2 a3 : Value} {b : Value} {x : Int32} (h : At mid pc (.istore 4) pc') (hg : isLg a3 = false) (hX : X d mid pc' (a0 :: a1 :: a2 :: a3 :: .int x :: L) st M Q) : X d mid pc (a0 :: a1 :: a2 :: a3 :: b :: L) (.int x :: st) M Q := Y_t h rfl rfl (show (stL (a0 :: a1 :: a2 :: a3 :: b :: L) 4 (.int x)).map (fun L => (L, st)) = some ((a0 :: a1 :: a2 :: a3 :: .int x :: L), st) from by simp [stL, isL1, hg]) hX
theorem Y_as4 {a0 a1 a2 a3 : Value} {b : Value} {x : Nat} (h : At mid pc (.astore 4) pc') (hg : isLg a3 = false) (hX : X d mid pc' (a0 :: a1 :: a2 :: a3 :: .ref x :: L) st M Q) : X d mid pc (a0 :: a1 :: a2 :: a3 :: b :: L) (.ref x :: st) M Q := Y_t h rfl rfl (show (stL (a0 :: a1 :: a2 :: a3 :: b :: L) 4 (.ref x)).map (fun L => (L, st)) = some ((a0 :: a1 :: a2 :: a3 :: .ref x :: L), st) from by simp [stL, isL1, hg]) hX
theorem Y_ii4 {a0 a1 a2 a3 : Value} {x v : Int32} {n : Int} (h : At mid pc (.iinc 4 n) pc') (hv : Int32.ofInt n = v) (hg : isLg a3 = false) (hX : X d mid pc' (a0 :: a1 :: a2 :: a3 :: .int (x + v) :: L) st M Q) : X d mid pc (a0 :: a1 :: a2 :: a3 :: .int x :: L) st M Q := Y_t h rfl rfl (by subst hv; simp [tOp, stL, isL1, hg]) hX
theorem Y_il5 {a0 a1 a2 a3 a4 : Value} {x : Int32} (h : At mid pc (.iload 5) pc') (hX : X d mid pc' (a0 :: a1 :: a2 :: a3 :: a4 :: .int x :: L) (.int x :: st) M Q) : X d mid pc (a0 :: a1 :: a2 :: a3 :: a4 :: .int x :: L) st M Q := Y_l h rfl rfl hX
theorem Y_al5 {a0 a1 a2 a3 a4 : Value} {x : Nat} (h : At mid pc (.aload 5) pc') (hX : X d mid pc' (a0 :: a1 :: a2 :: a3 :: a4 :: .ref x :: L) (.ref x :: st) M Q) : X d mid pc (a0 :: a1 :: a2 :: a3 :: a4 :: .ref x :: L) st M Q := Y_l h rfl rfl hX
theorem Y_ll5 {a0 a1 a2 a3 a4 : Value} {x : Int64} (h : At mid pc (.lload 5) pc') (hX : X d mid pc' (a0 :: a1 :: a2 :: a3 :: a4 :: .long x :: L) (.long x :: st) M Q) : X d mid pc (a0 :: a1 :: a2 :: a3 :: a4 :: .long x :: L) st M Q := Y_l h rfl rfl hX
theorem Y_is5 {a0 a1 a2 a3 a4 : Value} {b : Value} {x : Int32} (h : At mid pc (.istore 5) pc') (hg : isLg a4 = false) (hX : X d mid pc' (a0 :: a1 :: a2 :: a3 :: a4 :: .int x :: L) st M Q) : X d mid pc (a0 :: a1 :: a2 :: a3 :: a4 :: b :: L) (.int x :: st) M Q := Y_t h rfl rfl (show (stL (a0 :: a1 :: a2 :: a3 :: a4 :: b :: L) 5 (.int x)).map (fun L => (L, st)) = some ((a0 :: a1 :: a2 :: a3 :: a4 :: .int x :: L), st) from by simp [stL, isL1, hg]) hX
theorem Y_as5 {a0 a1 a2 a3 a4 : Value} {b : Value} {x : Nat} (h : At mid pc (.astore 5) pc') (hg : isLg a4 = false) (hX : X d mid pc' (a0 :: a1 :: a2 :: a3 :: a4 :: .ref x :: L) st M Q) : X d mid pc (a0 :: a1 :: a2 :: a3 :: a4 :: b :: L) (.ref x :: st) M Q := Y_t h rfl rfl (show (stL (a0 :: a1 :: a2 :: a3 :: a4 :: b :: L) 5 (.ref x)).map (fun L => (L, st)) = some ((a0 :: a1 :: a2 :: a3 :: a4 :: .ref x :: L), st) from by simp [stL, isL1, hg]) hX
theorem Y_ii5 {a0 a1 a2 a3 a4 : Value} {x v : Int32} {n : Int} (h : At mid pc (.iinc 5 n) pc') (hv : Int32.ofInt n = v) (hg : isLg a4 = false) (hX : X d mid pc' (a0 :: a1 :: a2 :: a3 :: a4 :: .int (x + v) :: L) st M Q) : X d mid pc (a0 :: a1 :: a2 :: a3 :: a4 :: .int x :: L) st M Q := Y_t h rfl rfl (by subst hv; simp [tOp, stL, isL1, hg]) hX
theorem Y_ls5 {a0 a1 a2 a3 a4 : Value} {b c : Value} {x : Int64} (h : At mid pc (.lstore 5) pc') (hg : isLg a4 = false) (hX : X d mid pc' (a0 :: a1 :: a2 :: a3 :: a4 :: .long x :: .null :: L) st M Q) : X d mid pc (a0 :: a1 :: a2 :: a3 :: a4 :: b :: c :: L) (.long x :: st) M Q := Y_t h rfl rfl (show (stLL (a0 :: a1 :: a2 :: a3 :: a4 :: b :: c :: L) 5 (.long x)).map (fun L => (L, st)) = some (a0 :: a1 :: a2 :: a3 :: a4 :: .long x :: .null :: L, st) from by simp [stLL, isL1, hg]) hX
theorem Y_il6 {a0 a1 a2 a3 a4 a5 : Value} {x : Int32} (h : At mid pc (.iload 6) pc') (hX : X d mid pc' (a0 :: a1 :: a2 :: a3 :: a4 :: a5 :: .int x :: L) (.int x :: st) M Q) : X d mid pc (a0 :: a1 :: a2 :: a3 :: a4 :: a5 :: .int x :: L) st M Q := Y_l h rfl rfl hX
theorem Y_al6 {a0 a1 a2 a3 a4 a5 : Value} {x : Nat} (h : At mid pc (.aload 6) pc') (hX : X d mid pc' (a0 :: a1 :: a2 :: a3 :: a4 :: a5 :: .ref x :: L) (.ref x :: st) M Q) : X d mid pc (a0 :: a1 :: a2 :: a3 :: a4 :: a5 :: .ref x :: L) st M Q := Y_l h rfl rfl hX
theorem Y_ll6 {a0 a1 a2 a3 a4 a5 : Value} {x : Int64} (h : At mid pc (.lload 6) pc') (hX : X d mid pc' (a0 :: a1 :: a2 :: a3 :: a4 :: a5 :: .long x :: L) (.long x :: st) M Q) : X d mid pc (a0 :: a1 :: a2 :: a3 :: a4 :: a5 :: .long x :: L) st M Q := Y_l h rfl rfl hX
theorem Y_is6 {a0 a1 a2 a3 a4 a5 : Value} {b : Value} {x : Int32} (h : At mid pc (.istore 6) pc') (hg : isLg a5 = false) (hX : X d mid pc' (a0 :: a1 :: a2 :: a3 :: a4 :: a5 :: .int x :: L) st M Q) : X d mid pc (a0 :: a1 :: a2 :: a3 :: a4 :: a5 :: b :: L) (.int x :: st) M Q := Y_t h rfl rfl (show (stL (a0 :: a1 :: a2 :: a3 :: a4 :: a5 :: b :: L) 6 (.int x)).map (fun L => (L, st)) = some ((a0 :: a1 :: a2 :: a3 :: a4 :: a5 :: .int x :: L), st) from by simp [stL, isL1, hg]) hX
theorem Y_as6 {a0 a1 a2 a3 a4 a5 : Value} {b : Value} {x : Nat} (h : At mid pc (.astore 6) pc') (hg : isLg a5 = false) (hX : X d mid pc' (a0 :: a1 :: a2 :: a3 :: a4 :: a5 :: .ref x :: L) st M Q) : X d mid pc (a0 :: a1 :: a2 :: a3 :: a4 :: a5 :: b :: L) (.ref x :: st) M Q := Y_t h rfl rfl (show (stL (a0 :: a1 :: a2 :: a3 :: a4 :: a5 :: b :: L) 6 (.ref x)).map (fun L => (L, st)) = some ((a0 :: a1 :: a2 :: a3 :: a4 :: a5 :: .ref x :: L), st) from by simp [stL, isL1, hg]) hX
theorem Y_ii6 {a0 a1 a2 a3 a4 a5 : Value} {x v : Int32} {n : Int} (h : At mid pc (.iinc 6 n) pc') (hv : Int32.ofInt n = v) (hg : isLg a5 = false) (hX : X d mid pc' (a0 :: a1 :: a2 :: a3 :: a4 :: a5 :: .int (x + v) :: L) st M Q) : X d mid pc (a0 :: a1 :: a2 :: a3 :: a4 :: a5 :: .int x :: L) st M Q := Y_t h rfl rfl (by subst hv; simp [tOp, stL, isL1, hg]) hX
theorem Y_il7 {a0 a1 a2 a3 a4 a5 a6 : Value} {x : Int32} (h : At mid pc (.iload 7) pc') (hX : X d mid pc' (a0 :: a1 :: a2 :: a3 :: a4 :: a5 :: a6 :: .int x :: L) (.int x :: st) M Q) : X d mid pc (a0 :: a1 :: a2 :: a3 :: a4 :: a5 :: a6 :: .int x :: L) st M Q := Y_l h rfl rfl hX
theorem Y_al7 {a0 a1 a2 a3 a4 a5 a6 : Value} {x : Nat} (h : At mid pc (.aload 7) pc') (hX : X d mid pc' (a0 :: a1 :: a2 :: a3 :: a4 :: a5 :: a6 :: .ref x :: L) (.ref x :: st) M Q) : X d mid pc (a0 :: a1 :: a2 :: a3 :: a4 :: a5 :: a6 :: .ref x :: L) st M Q := Y_l h rfl rfl hX
theorem Y_ll7 {a0 a1 a2 a3 a4 a5 a6 : Value} {x : Int64} (h : At mid pc (.lload 7) pc') (hX : X d mid pc' (a0 :: a1 :: a2 :: a3 :: a4 :: a5 :: a6 :: .long x :: L) (.long x :: st) M Q) : X d mid pc (a0 :: a1 :: a2 :: a3 :: a4 :: a5 :: a6 :: .long x :: L) st M Q := Y_l h rfl rfl hX
theorem Y_is7 {a0 a1 a2 a3 a4 a5 a6 : Value} {b : Value} {x : Int32} (h : At mid pc (.istore 7) pc') (hg : isLg a6 = false) (hX : X d mid pc' (a0 :: a1 :: a2 :: a3 :: a4 :: a5 :: a6 :: .int x :: L) st M Q) : X d mid pc (a0 :: a1 :: a2 :: a3 :: a4 :: a5 :: a6 :: b :: L) (.int x :: st) M Q := Y_t h rfl rfl (show (stL (a0 :: a1 :: a2 :: a3 :: a4 :: a5 :: a6 :: b :: L) 7 (.int x)).map (fun L => (L, st)) = some ((a0 :: a1 :: a2 :: a3 :: a4 :: a5 :: a6 :: .int x :: L), st) from by simp [stL, isL1, hg]) hX
theorem Y_as7 {a0 a1 a2 a3 a4 a5 a6 : Value} {b : Value} {x : Nat} (h : At mid pc (.astore 7) pc') (hg : isLg a6 = false) (hX : X d mid pc' (a0 :: a1 :: a2 :: a3 :: a4 :: a5 :: a6 :: .ref x :: L) st M Q) : X d mid pc (a0 :: a1 :: a2 :: a3 :: a4 :: a5 :: a6 :: b :: L) (.ref x :: st) M Q := Y_t h rfl rfl (show (stL (a0 :: a1 :: a2 :: a3 :: a4 :: a5 :: a6 :: b :: L) 7 (.ref x)).map (fun L => (L, st)) = some ((a0 :: a1 :: a2 :: a3 :: a4 :: a5 :: a6 :: .ref x :: L), st) from by simp [stL, isL1, hg]) hX
theorem Y_ii7 {a0 a1 a2 a3 a4 a5 a6 : Value} {x v : Int32} {n : Int} (h : At mid pc (.iinc 7 n) pc') (hv : Int32.ofInt n = v) (hg : isLg a6 = false) (hX : X d mid pc' (a0 :: a1 :: a2 :: a3 :: a4 :: a5 :: a6 :: .int (x + v) :: L) st M Q) : X d mid pc (a0 :: a1 :: a2 :: a3 :: a4 :: a5 :: a6 :: .int x :: L) st M Q := Y_t h rfl rfl (by subst hv; simp [tOp, stL, isL1, hg]) hX
theorem jt_g {off : Int} (h : jt (.goto off) pc = some t) : (0 : Int) ≤ (pc : Int) + off ∧ tgt pc off = t := by
  unfold jt at h; dsimp only at h; split at h
  · rename_i h0; exact ⟨h0, Option.some.inj h⟩
  · cases h
theorem jt_i {c : ClassFile.Cond} {off : Int} (h : jt (.if_icmp c off) pc = some t) : (0 : Int) ≤ (pc : Int) + off ∧ tgt pc off = t := by
  unfold jt at h; dsimp only at h; split at h
  · rename_i h0; exact ⟨h0, Option.some.inj h⟩
  · cases h
theorem jt_z {c : ClassFile.Cond} {off : Int} (h : jt (.ifCond c off) pc = some t) : (0 : Int) ≤ (pc : Int) + off ∧ tgt pc off = t := by
  unfold jt at h; dsimp only at h; split at h
  · rename_i h0; exact ⟨h0, Option.some.inj h⟩
  · cases h
theorem Y_goto {off : Int} (h : Jm mid pc (.goto off) pc' t) (hX : X d mid t L st M Q) : X d mid pc L st M Q := by
  obtain ⟨h0, h1⟩ := jt_g h.2
  rw [X_j (q := (t, st)) h.1.1 rfl rfl rfl (by simp only [jOp, if_pos h0, h1])]; exact hX
theorem Y_icmp {c : ClassFile.Cond} {off : Int} {x y : Int32} (h : Jm mid pc (.if_icmp c off) pc' t) (h1 : ic2 c x y = true → X d mid t L st M Q) (h2 : ic2 c x y = false → X d mid pc' L st M Q) : X d mid pc L (.int y :: .int x :: st) M Q := by
  obtain ⟨h0, ht⟩ := jt_i h.2
  have hp : pc + 3 = pc' := h.1.2
  rw [X_j (q := (if ic2 c x y then t else pc', st)) h.1.1 rfl rfl rfl (by simp only [jOp, if_pos h0, ht, hp])]
  dsimp only
  cases hb : ic2 c x y with
  | true => rw [if_pos rfl]; exact h1 hb
  | false => rw [if_neg (by decide)]; exact h2 hb
theorem Y_ifz {c : ClassFile.Cond} {off : Int} {x : Int32} (h : Jm mid pc (.ifCond c off) pc' t) (h1 : ic2 c x 0 = true → X d mid t L st M Q) (h2 : ic2 c x 0 = false → X d mid pc' L st M Q) : X d mid pc L (.int x :: st) M Q := by
  obtain ⟨h0, ht⟩ := jt_z h.2
  have hp : pc + 3 = pc' := h.1.2
  rw [X_j (q := (if ic2 c x 0 then t else pc', st)) h.1.1 rfl rfl rfl (by simp only [jOp, if_pos h0, ht, hp])]
  dsimp only
  cases hb : ic2 c x 0 with
  | true => rw [if_pos rfl]; exact h1 hb
  | false => rw [if_neg (by decide)]; exact h2 hb
/-- a comparison that is known -/
theorem Y_zT {c : ClassFile.Cond} {off : Int} {x : Int32} (h : Jm mid pc (.ifCond c off) pc' t) (hc : ic2 c x 0 = true) (hX : X d mid t L st M Q) : X d mid pc L (.int x :: st) M Q := Y_ifz h (fun _ => hX) (fun h => by rw [hc] at h; cases h)
theorem Y_zF {c : ClassFile.Cond} {off : Int} {x : Int32} (h : Jm mid pc (.ifCond c off) pc' t) (hc : ic2 c x 0 = false) (hX : X d mid pc' L st M Q) : X d mid pc L (.int x :: st) M Q := Y_ifz h (fun h => by rw [hc] at h; cases h) (fun _ => hX)
theorem Y_cT {c : ClassFile.Cond} {off : Int} {x y : Int32} (h : Jm mid pc (.if_icmp c off) pc' t) (hc : ic2 c x y = true) (hX : X d mid t L st M Q) : X d mid pc L (.int y :: .int x :: st) M Q := Y_icmp h (fun _ => hX) (fun h => by rw [hc] at h; cases h)
theorem Y_cF {c : ClassFile.Cond} {off : Int} {x y : Int32} (h : Jm mid pc (.if_icmp c off) pc' t) (hc : ic2 c x y = false) (hX : X d mid pc' L st M Q) : X d mid pc L (.int y :: .int x :: st) M Q := Y_icmp h (fun h => by rw [hc] at h; cases h) (fun _ => hX)
theorem Y_ceq {off : Int} {x y : Int32} (h : Jm mid pc (.if_icmp .eq off) pc' t) (h1 : x = y → X d mid t L st M Q) (h2 : ¬ (x = y) → X d mid pc' L st M Q) : X d mid pc L (.int y :: .int x :: st) M Q := Y_icmp h (fun e => h1 (by simpa [ic2] using e)) (fun e => h2 (by simpa [ic2] using e))
theorem Y_zeq {off : Int} {x : Int32} (h : Jm mid pc (.ifCond .eq off) pc' t) (h1 : x = 0 → X d mid t L st M Q) (h2 : ¬ (x = 0) → X d mid pc' L st M Q) : X d mid pc L (.int x :: st) M Q := Y_ifz h (fun e => h1 (by simpa [ic2] using e)) (fun e => h2 (by simpa [ic2] using e))
theorem lg_cmp_eq9 (x y : Int64) : (lg_cmp x y = 0) ↔ x = y := by
  unfold lg_cmp
  split
  · rename_i h
    exact ⟨fun q => absurd q (by decide), fun q => by subst q; exact absurd h (Int64.lt_irrefl)⟩
  · split
    · rename_i h; exact ⟨fun _ => h, fun _ => rfl⟩
    · rename_i h; exact ⟨fun q => absurd q (by decide), fun q => absurd q h⟩
theorem Y_weq {off : Int} {x y : Int64} (h : Jm mid pc (.ifCond .eq off) pc' t) (h1 : x = y → X d mid t L st M Q) (h2 : ¬ (x = y) → X d mid pc' L st M Q) : X d mid pc L (.int (lg_cmp x y) :: st) M Q := Y_ifz h (fun e => h1 (by simpa [ic2, lg_cmp_eq9] using e)) (fun e => h2 (by simpa [ic2, lg_cmp_eq9] using e))
theorem Y_beq {off : Int} {b : Bool} (h : Jm mid pc (.ifCond .eq off) pc' t) (h1 : b = true → X d mid pc' L st M Q) (h2 : b = false → X d mid t L st M Q) : X d mid pc L (.int (bI b) :: st) M Q := by
  cases b with
  | true => exact Y_zF h rfl (h1 rfl)
  | false => exact Y_zT h rfl (h2 rfl)
theorem Y_cne {off : Int} {x y : Int32} (h : Jm mid pc (.if_icmp .ne off) pc' t) (h1 : x = y → X d mid pc' L st M Q) (h2 : ¬ (x = y) → X d mid t L st M Q) : X d mid pc L (.int y :: .int x :: st) M Q := Y_icmp h (fun e => h2 (by simpa [ic2] using e)) (fun e => h1 (by simpa [ic2] using e))
theorem Y_zne {off : Int} {x : Int32} (h : Jm mid pc (.ifCond .ne off) pc' t) (h1 : x = 0 → X d mid pc' L st M Q) (h2 : ¬ (x = 0) → X d mid t L st M Q) : X d mid pc L (.int x :: st) M Q := Y_ifz h (fun e => h2 (by simpa [ic2] using e)) (fun e => h1 (by simpa [ic2] using e))
theorem Y_wne {off : Int} {x y : Int64} (h : Jm mid pc (.ifCond .ne off) pc' t) (h1 : x = y → X d mid pc' L st M Q) (h2 : ¬ (x = y) → X d mid t L st M Q) : X d mid pc L (.int (lg_cmp x y) :: st) M Q := Y_ifz h (fun e => h2 (by simpa [ic2, lg_cmp_eq9] using e)) (fun e => h1 (by simpa [ic2, lg_cmp_eq9] using e))
theorem Y_bne {off : Int} {b : Bool} (h : Jm mid pc (.ifCond .ne off) pc' t) (h1 : b = true → X d mid t L st M Q) (h2 : b = false → X d mid pc' L st M Q) : X d mid pc L (.int (bI b) :: st) M Q := by
  cases b with
  | true => exact Y_zT h rfl (h1 rfl)
  | false => exact Y_zF h rfl (h2 rfl)
theorem Y_clt {off : Int} {x y : Int32} (h : Jm mid pc (.if_icmp .lt off) pc' t) (h1 : x < y → X d mid t L st M Q) (h2 : ¬ (x < y) → X d mid pc' L st M Q) : X d mid pc L (.int y :: .int x :: st) M Q := Y_icmp h (fun e => h1 (by simpa [ic2] using e)) (fun e => h2 (by simpa [ic2] using e))
theorem Y_zlt {off : Int} {x : Int32} (h : Jm mid pc (.ifCond .lt off) pc' t) (h1 : x < 0 → X d mid t L st M Q) (h2 : ¬ (x < 0) → X d mid pc' L st M Q) : X d mid pc L (.int x :: st) M Q := Y_ifz h (fun e => h1 (by simpa [ic2] using e)) (fun e => h2 (by simpa [ic2] using e))
theorem Y_wlt {off : Int} {x y : Int64} (h : Jm mid pc (.ifCond .lt off) pc' t) (h1 : x < y → X d mid t L st M Q) (h2 : ¬ (x < y) → X d mid pc' L st M Q) : X d mid pc L (.int (lg_cmp x y) :: st) M Q := Y_ifz h (fun e => h1 (by simpa [ic2, lg_cmp_lt] using e)) (fun e => h2 (by simpa [ic2, lg_cmp_lt] using e))
theorem Y_cge {off : Int} {x y : Int32} (h : Jm mid pc (.if_icmp .ge off) pc' t) (h1 : x < y → X d mid pc' L st M Q) (h2 : ¬ (x < y) → X d mid t L st M Q) : X d mid pc L (.int y :: .int x :: st) M Q := Y_icmp h (fun e => h2 (by simpa [ic2, ← Int32.not_lt] using e)) (fun e => h1 (by simpa [ic2, ← Int32.not_lt] using e))
theorem Y_zge {off : Int} {x : Int32} (h : Jm mid pc (.ifCond .ge off) pc' t) (h1 : x < 0 → X d mid pc' L st M Q) (h2 : ¬ (x < 0) → X d mid t L st M Q) : X d mid pc L (.int x :: st) M Q := Y_ifz h (fun e => h2 (by simpa [ic2, ← Int32.not_lt] using e)) (fun e => h1 (by simpa [ic2, ← Int32.not_lt] using e))
theorem Y_wge {off : Int} {x y : Int64} (h : Jm mid pc (.ifCond .ge off) pc' t) (h1 : x < y → X d mid pc' L st M Q) (h2 : ¬ (x < y) → X d mid t L st M Q) : X d mid pc L (.int (lg_cmp x y) :: st) M Q := Y_ifz h (fun e => h2 (by simpa [ic2, lg_cmp_ge, ← Int64.not_lt] using e)) (fun e => h1 (by simpa [ic2, lg_cmp_ge, ← Int64.not_lt] using e))
theorem Y_cgt {off : Int} {x y : Int32} (h : Jm mid pc (.if_icmp .gt off) pc' t) (h1 : y < x → X d mid t L st M Q) (h2 : ¬ (y < x) → X d mid pc' L st M Q) : X d mid pc L (.int y :: .int x :: st) M Q := Y_icmp h (fun e => h1 (by simpa [ic2] using e)) (fun e => h2 (by simpa [ic2] using e))
theorem Y_zgt {off : Int} {x : Int32} (h : Jm mid pc (.ifCond .gt off) pc' t) (h1 : 0 < x → X d mid t L st M Q) (h2 : ¬ (0 < x) → X d mid pc' L st M Q) : X d mid pc L (.int x :: st) M Q := Y_ifz h (fun e => h1 (by simpa [ic2] using e)) (fun e => h2 (by simpa [ic2] using e))
theorem Y_wgt {off : Int} {x y : Int64} (h : Jm mid pc (.ifCond .gt off) pc' t) (h1 : y < x → X d mid t L st M Q) (h2 : ¬ (y < x) → X d mid pc' L st M Q) : X d mid pc L (.int (lg_cmp x y) :: st) M Q := Y_ifz h (fun e => h1 (by simpa [ic2, lg_cmp_gt] using e)) (fun e => h2 (by simpa [ic2, lg_cmp_gt] using e))
theorem Y_cle {off : Int} {x y : Int32} (h : Jm mid pc (.if_icmp .le off) pc' t) (h1 : y < x → X d mid pc' L st M Q) (h2 : ¬ (y < x) → X d mid t L st M Q) : X d mid pc L (.int y :: .int x :: st) M Q := Y_icmp h (fun e => h2 (by simpa [ic2, ← Int32.not_lt] using e)) (fun e => h1 (by simpa [ic2, ← Int32.not_lt] using e))
theorem Y_zle {off : Int} {x : Int32} (h : Jm mid pc (.ifCond .le off) pc' t) (h1 : 0 < x → X d mid pc' L st M Q) (h2 : ¬ (0 < x) → X d mid t L st M Q) : X d mid pc L (.int x :: st) M Q := Y_ifz h (fun e => h2 (by simpa [ic2, ← Int32.not_lt] using e)) (fun e => h1 (by simpa [ic2, ← Int32.not_lt] using e))
theorem Y_wle {off : Int} {x y : Int64} (h : Jm mid pc (.ifCond .le off) pc' t) (h1 : y < x → X d mid pc' L st M Q) (h2 : ¬ (y < x) → X d mid t L st M Q) : X d mid pc L (.int (lg_cmp x y) :: st) M Q := Y_ifz h (fun e => h2 (by simpa [ic2, lg_cmp_le, ← Int64.not_lt] using e)) (fun e => h1 (by simpa [ic2, lg_cmp_le, ← Int64.not_lt] using e))
theorem Y_sw {i : Instr} {x v : Int32} (hx : x = v) (h : At mid pc i pc') (h0 : ∀ st, sOp i st = none) (h1 : lOp i L = none) (h2 : ∀ st, tOp i L st = none) (hj : ∀ st, jOp i pc (.int v :: st) = some (t, st)) (hX : X d mid t L st M Q) : X d mid pc L (.int x :: st) M Q := by
  subst hx
  rw [X_j h.1 (h0 _) h1 (h2 _) (hj st)]; exact hX
theorem Y_tsD {x : Int32} {dflt lo hi : Int} {offs : Array Int} (hx : x.toInt < lo ∨ hi < x.toInt) (h : At mid pc (.tableswitch dflt lo hi offs) pc') (ht : (0 : Int) ≤ (pc : Int) + dflt ∧ tgt pc dflt = t) (hX : X d mid t L st M Q) : X d mid pc L (.int x :: st) M Q := by
  rw [X_j (q := (t, st)) h.1 rfl rfl rfl (by simp only [jOp]; rw [if_pos hx, if_pos ht.1, ht.2])]; exact hX
theorem ts_out {x : Int32} {lo : Int} {n : Nat} (h : ∀ j : Nat, j < n → x.toInt ≠ lo + j) : x.toInt < lo ∨ lo + n - 1 < x.toInt := by
  by_cases h1 : x.toInt < lo
  · exact Or.inl h1
  · refine Or.inr ?_
    by_cases h2 : lo + n - 1 < x.toInt
    · exact h2
    · have := h (x.toInt - lo).toNat (by omega)
      omega
theorem ne_toInt {x v : Int32} {k : Int} (h : ¬ x = v) (hv : v.toInt = k) : x.toInt ≠ k := fun q => h (Int32.toInt_inj.mp (q.trans hv.symm))
theorem hLd_ldc (x : Nat) (st : List Value) (M : pM) : hLd (.ldc x) st M = none := by unfold hLd; split <;> rfl
theorem hSt_ldc (x : Nat) (st : List Value) (M : pM) : hSt (.ldc x) st M = none := by unfold hSt; split <;> rfl
theorem hLd_ldc_w (x : Nat) (st : List Value) (M : pM) : hLd (.ldc_w x) st M = none := by unfold hLd; split <;> rfl
theorem hSt_ldc_w (x : Nat) (st : List Value) (M : pM) : hSt (.ldc_w x) st M = none := by unfold hSt; split <;> rfl
theorem hLd_ldc2_w (x : Nat) (st : List Value) (M : pM) : hLd (.ldc2_w x) st M = none := by unfold hLd; split <;> rfl
theorem hSt_ldc2_w (x : Nat) (st : List Value) (M : pM) : hSt (.ldc2_w x) st M = none := by unfold hSt; split <;> rfl
theorem hLd_new (x : Nat) (st : List Value) (M : pM) : hLd (.new x) st M = none := by unfold hLd; split <;> rfl
theorem hSt_new (x : Nat) (st : List Value) (M : pM) : hSt (.new x) st M = none := by unfold hSt; split <;> rfl
theorem hLd_st (x : Nat) (st : List Value) (M : pM) : hLd (.invokestatic x) st M = none := by unfold hLd; split <;> rfl
theorem hSt_st (x : Nat) (st : List Value) (M : pM) : hSt (.invokestatic x) st M = none := by unfold hSt; split <;> rfl
theorem hLd_vi (x : Nat) (st : List Value) (M : pM) : hLd (.invokevirtual x) st M = none := by unfold hLd; split <;> rfl
theorem hSt_vi (x : Nat) (st : List Value) (M : pM) : hSt (.invokevirtual x) st M = none := by unfold hSt; split <;> rfl
theorem Y_ldcI {x own : Nat} {v : Int32} (h : At mid pc (.ldc x) pc') (ho : mOw mid = own) (hl : lkp kI own x = some v) (hX : X d mid pc' L (.int v :: st) M Q) : X d mid pc L st M Q := Y_m (q := (.int v :: st, M)) h rfl rfl rfl rfl (by simp [mOp, hLd_ldc, hSt_ldc, hNew, hLdc, ho, hl]) hX
theorem Y_ldcIw {x own : Nat} {v : Int32} (h : At mid pc (.ldc_w x) pc') (ho : mOw mid = own) (hl : lkp kI own x = some v) (hX : X d mid pc' L (.int v :: st) M Q) : X d mid pc L st M Q := Y_m (q := (.int v :: st, M)) h rfl rfl rfl rfl (by simp [mOp, hLd_ldc_w, hSt_ldc_w, hNew, hLdc, ho, hl]) hX
theorem Y_ldcL {x own : Nat} {v : Int64} (h : At mid pc (.ldc2_w x) pc') (ho : mOw mid = own) (hl : lkp kJ own x = some v) (hX : X d mid pc' L (.long v :: st) M Q) : X d mid pc L st M Q := Y_m (q := (.long v :: st, M)) h rfl rfl rfl rfl (by simp [mOp, hLd_ldc2_w, hSt_ldc2_w, hNew, hLdc, ho, hl]) hX
theorem Y_ldcS {x own s r : Nat} (h : At mid pc (.ldc x) pc') (ho : mOw mid = own) (hl : lkp kI own x = none) (hs : lkp kS own x = some s) (hr : 1000 + s = r) (hX : X d mid pc' L (.ref r :: st) M Q) : X d mid pc L st M Q := Y_m (q := (.ref r :: st, M)) h rfl rfl rfl rfl (by subst hr; simp [mOp, hLd_ldc, hSt_ldc, hNew, hLdc, ho, hl, hs]) hX
theorem Y_ldcSw {x own s r : Nat} (h : At mid pc (.ldc_w x) pc') (ho : mOw mid = own) (hl : lkp kI own x = none) (hs : lkp kS own x = some s) (hr : 1000 + s = r) (hX : X d mid pc' L (.ref r :: st) M Q) : X d mid pc L st M Q := Y_m (q := (.ref r :: st, M)) h rfl rfl rfl rfl (by subst hr; simp [mOp, hLd_ldc_w, hSt_ldc_w, hNew, hLdc, ho, hl, hs]) hX
theorem Y_gI {x own ci k tg fin o : Nat} {v : Int32} (h : At mid pc (.getfield x) pc') (ho : mOw mid = own) (hl : lkp fT own x = some (ci, k, tg, fin)) (ht : tg ≠ 1) (hk : gK G o = ci) (hv : F o k = v) (hX : X d mid pc' L (.int v :: st) (F, A, J, G) Q) : X d mid pc L (.ref o :: st) (F, A, J, G) Q := Y_m (q := (.int v :: st, (F, A, J, G))) h rfl rfl rfl rfl (by subst hv; simp only [mOp, hGet, ho, hl]; rw [if_pos hk, if_neg ht]) hX
theorem Y_gR {x own ci k fin o v : Nat} (h : At mid pc (.getfield x) pc') (ho : mOw mid = own) (hl : lkp fT own x = some (ci, k, 1, fin)) (hk : gK G o = ci) (hr : gR G o k = v + 1) (hX : X d mid pc' L (.ref v :: st) (F, A, J, G) Q) : X d mid pc L (.ref o :: st) (F, A, J, G) Q := Y_m (q := (.ref v :: st, (F, A, J, G))) h rfl rfl rfl rfl (by simp only [mOp, hGet, ho, hl]; rw [if_pos hk, if_pos trivial, show gR (F, A, J, G).2.2.2 o k = v + 1 from hr]; rfl) hX
theorem Y_pI {x own ci k o : Nat} {v : Int32} (h : At mid pc (.putfield x) pc') (ho : mOw mid = own) (hl : lkp fT own x = some (ci, k, 0, 0)) (hk : gK G o = ci) (hX : X d mid pc' L st (wF F o k v, A, J, G) Q) : X d mid pc L (.int v :: .ref o :: st) (F, A, J, G) Q := Y_m (q := (st, (wF F o k v, A, J, G))) h rfl rfl rfl rfl (by simp only [mOp, hPut, ho, hl]; rw [if_neg (by rintro ⟨h1, -⟩; cases h1), if_pos ⟨hk, Or.inl trivial⟩]; rfl) hX
theorem Y_pB {x own ci k o : Nat} {v : Int32} (h : At mid pc (.putfield x) pc') (ho : mOw mid = own) (hl : lkp fT own x = some (ci, k, 2, 0)) (hk : gK G o = ci) (hv : v = 0 ∨ v = 1) (hX : X d mid pc' L st (wF F o k v, A, J, G) Q) : X d mid pc L (.int v :: .ref o :: st) (F, A, J, G) Q := Y_m (q := (st, (wF F o k v, A, J, G))) h rfl rfl rfl rfl (by simp only [mOp, hPut, ho, hl]; rw [if_neg (by rintro ⟨h1, -⟩; cases h1), if_pos ⟨hk, Or.inr ⟨trivial, hv⟩⟩]; rfl) hX
theorem Y_pR {x own ci k o v : Nat} (h : At mid pc (.putfield x) pc') (ho : mOw mid = own) (hl : lkp fT own x = some (ci, k, 1, 0)) (hk : gK G o = ci) (hv : v < gN G) (hX : X d mid pc' L st (F, A, J, gSetR G o k (v + 1)) Q) : X d mid pc L (.ref v :: .ref o :: st) (F, A, J, G) Q := Y_m (q := (st, (F, A, J, gSetR G o k (v + 1)))) h rfl rfl rfl rfl (by simp only [mOp, hPut, ho, hl]; rw [if_neg (by rintro ⟨h1, -⟩; cases h1), if_pos ⟨hk, trivial, hv⟩]) hX
theorem Y_iaload {a n k : Nat} {x : Int32} {v : Int32} (h : At mid pc .iaload pc') (hk : gK G a = 20) (hl : gL G a = n) (hb : inB x n = true) (hx : x.toNatClampNeg = k) (hv : A a k = v) (hX : X d mid pc' L (.int v :: st) (F, A, J, G) Q) : X d mid pc L (.int x :: .ref a :: st) (F, A, J, G) Q := Y_m (q := (.int v :: st, (F, A, J, G))) h rfl rfl rfl rfl (by subst hl; subst hx; subst hv; simp [mOp, hLd, hk, hb]) hX
theorem Y_ialoadS {a n k : Nat} {x : Int32} {v : Int32} (h : At mid pc .iaload pc') (hk : gK G a = 30) (hl : gL G a = n) (hb : inB x n = true) (hx : x.toNatClampNeg = k) (hv : A a k = v) (hX : X d mid pc' L (.int v :: st) (F, A, J, G) Q) : X d mid pc L (.int x :: .ref a :: st) (F, A, J, G) Q := Y_m (q := (.int v :: st, (F, A, J, G))) h rfl rfl rfl rfl (by subst hl; subst hx; subst hv; simp [mOp, hLd, hk, hb]) hX
theorem Y_baload {a n k : Nat} {x : Int32} {v : Int32} (h : At mid pc .baload pc') (hk : gK G a = 21) (hl : gL G a = n) (hb : inB x n = true) (hx : x.toNatClampNeg = k) (hv : A a k = v) (hX : X d mid pc' L (.int v :: st) (F, A, J, G) Q) : X d mid pc L (.int x :: .ref a :: st) (F, A, J, G) Q := Y_m (q := (.int v :: st, (F, A, J, G))) h rfl rfl rfl rfl (by subst hl; subst hx; subst hv; simp [mOp, hLd, hk, hb]) hX
theorem Y_laload {a n k : Nat} {x : Int32} {v : Int64} (h : At mid pc .laload pc') (hk : gK G a = 22) (hl : gL G a = n) (hb : inB x n = true) (hx : x.toNatClampNeg = k) (hv : J a k = v) (hX : X d mid pc' L (.long v :: st) (F, A, J, G) Q) : X d mid pc L (.int x :: .ref a :: st) (F, A, J, G) Q := Y_m (q := (.long v :: st, (F, A, J, G))) h rfl rfl rfl rfl (by subst hl; subst hx; subst hv; simp [mOp, hLd, hk, hb]) hX
theorem Y_aaload {a n v : Nat} {x : Int32} (h : At mid pc .aaload pc') (hk : gK G a = 23) (hl : gL G a = n) (hb : inB x n = true) (hr : gR G a x.toNatClampNeg = v + 1) (hX : X d mid pc' L (.ref v :: st) (F, A, J, G) Q) : X d mid pc L (.int x :: .ref a :: st) (F, A, J, G) Q := Y_m (q := (.ref v :: st, (F, A, J, G))) h rfl rfl rfl rfl (by subst hl; simp [mOp, hLd, hk, hb, hr, pRv]) hX
theorem Y_alen {a n : Nat} {v : Int32} (h : At mid pc .arraylength pc') (hk : gK G a = 20 ∨ gK G a = 21 ∨ gK G a = 22 ∨ gK G a = 23 ∨ gK G a = 30) (hl : gL G a = n) (hv : Int32.ofNat n = v) (hX : X d mid pc' L (.int v :: st) (F, A, J, G) Q) : X d mid pc L (.ref a :: st) (F, A, J, G) Q := Y_m (q := (.int v :: st, (F, A, J, G))) h rfl rfl rfl rfl (by subst hv; subst hl; simp [mOp, hLd, hk]) hX
theorem Y_iast {a n k : Nat} {x v : Int32} (h : At mid pc .iastore pc') (hk : gK G a = 20) (hl : gL G a = n) (hb : inB x n = true) (hx : x.toNatClampNeg = k) (hX : X d mid pc' L st (F, wF A a k v, J, G) Q) : X d mid pc L (.int v :: .int x :: .ref a :: st) (F, A, J, G) Q := Y_m (q := (st, (F, wF A a k v, J, G))) h rfl rfl rfl rfl (by subst hl; subst hx; simp [mOp, hLd, hSt, hk, hb, wF]) hX
theorem Y_bast {a n k : Nat} {x v : Int32} (h : At mid pc .bastore pc') (hk : gK G a = 21) (hl : gL G a = n) (hb : inB x n = true) (hx : x.toNatClampNeg = k) (hX : X d mid pc' L st (F, wF A a k (jbyte v), J, G) Q) : X d mid pc L (.int v :: .int x :: .ref a :: st) (F, A, J, G) Q := Y_m (q := (st, (F, wF A a k (jbyte v), J, G))) h rfl rfl rfl rfl (by subst hl; subst hx; simp [mOp, hLd, hSt, hk, hb, wF, jbyte]) hX
theorem Y_last {a n k : Nat} {x : Int32} {v : Int64} (h : At mid pc .lastore pc') (hk : gK G a = 22) (hl : gL G a = n) (hb : inB x n = true) (hx : x.toNatClampNeg = k) (hX : X d mid pc' L st (F, A, wJ J a k v, G) Q) : X d mid pc L (.long v :: .int x :: .ref a :: st) (F, A, J, G) Q := Y_m (q := (st, (F, A, wJ J a k v, G))) h rfl rfl rfl rfl (by subst hl; subst hx; simp [mOp, hLd, hSt, hk, hb, wJ]) hX
theorem Y_max {x own a b : Nat} {u v : Int32} (h : At mid pc (.invokestatic x) pc') (ho : mOw mid = own) (hl : lkp mT own x = some (11, a, b)) (hW : Nat.ble (stW st) 8 = true) (hX : X d mid pc' L (.int (jmax u v) :: st) M Q) : X d mid pc L (.int v :: .int u :: st) M Q := Y_m (q := (.int (jmax u v) :: st, M)) h rfl rfl rfl rfl (by simp [mOp, hLd_st, hSt_st, hNew, hLdc, hJdk, ho, hl, Nat.le_of_ble_eq_true hW, jmax]) hX
theorem Y_min {x own a b : Nat} {u v : Int32} (h : At mid pc (.invokestatic x) pc') (ho : mOw mid = own) (hl : lkp mT own x = some (12, a, b)) (hW : Nat.ble (stW st) 8 = true) (hX : X d mid pc' L (.int (jmin u v) :: st) M Q) : X d mid pc L (.int v :: .int u :: st) M Q := Y_m (q := (.int (jmin u v) :: st, M)) h rfl rfl rfl rfl (by simp [mOp, hLd_st, hSt_st, hNew, hLdc, hJdk, ho, hl, Nat.le_of_ble_eq_true hW, jmin]) hX
theorem Y_abs {x own a b : Nat} {u : Int32} (h : At mid pc (.invokestatic x) pc') (ho : mOw mid = own) (hl : lkp mT own x = some (13, a, b)) (hW : Nat.ble (stW st) 8 = true) (hX : X d mid pc' L (.int (jabs u) :: st) M Q) : X d mid pc L (.int u :: st) M Q := Y_m (q := (.int (jabs u) :: st, M)) h rfl rfl rfl rfl (by simp [mOp, hLd_st, hSt_st, hNew, hLdc, hJdk, ho, hl, Nat.le_of_ble_eq_true hW, jabs]) hX
theorem Y_acp {x own a b f g m n ksp kdp kn : Nat} {sp dp k : Int32} (h : At mid pc (.invokestatic x) pc') (ho : mOw mid = own) (hl : lkp mT own x = some (14, f, g)) (hW : Nat.ble (stW st) 8 = true) (ha : gK G a = 20) (hb : gK G b = 20) (hla : gL G a = m) (hlb : gL G b = n) (hc : ¬ sp < 0 ∧ ¬ dp < 0 ∧ ¬ k < 0 ∧ sp.toNatClampNeg + k.toNatClampNeg ≤ n ∧ dp.toNatClampNeg + k.toNatClampNeg ≤ m) (h1 : sp.toNatClampNeg = ksp) (h2 : dp.toNatClampNeg = kdp) (h3 : k.toNatClampNeg = kn) (hX : X d mid pc' L st (F, cpR A a b ksp kdp kn, J, G) Q) : X d mid pc L (.int k :: .int dp :: .ref a :: .int sp :: .ref b :: st) (F, A, J, G) Q := Y_m (q := (st, (F, cpR A a b ksp kdp kn, J, G))) h rfl rfl rfl rfl (by subst hla; subst hlb; subst h1; subst h2; subst h3; simp only [mOp, hLd_st, hSt_st, hNew, hLdc, hJdk, ho, hl]; rw [if_pos ⟨Nat.le_of_ble_eq_true hW, ha, hb, hc⟩]; rfl) hX
theorem Y_slen {x own a b s : Nat} {v : Int32} (h : At mid pc (.invokevirtual x) pc') (ho : mOw mid = own) (hl : lkp mT own x = some (15, a, b)) (hW : Nat.ble (stW st) 8 = true) (hs : 1000 ≤ s ∧ s < 1000 + sBy.length) (hv : nI (sLen (s - 1000)) = v) (hX : X d mid pc' L (.int v :: st) M Q) : X d mid pc L (.ref s :: st) M Q := Y_m (q := (.int v :: st, M)) h rfl rfl rfl rfl (by subst hv; simp only [mOp, hLd_vi, hSt_vi, hNew, hLdc, hJdk, hStr, ho, hl]; rw [if_pos ⟨Nat.le_of_ble_eq_true hW, hs⟩]) hX
theorem Y_sch {x own a b s : Nat} {k : Int32} (h : At mid pc (.invokevirtual x) pc') (ho : mOw mid = own) (hl : lkp mT own x = some (16, a, b)) (hW : Nat.ble (stW st) 8 = true) (hs : 1000 ≤ s ∧ s < 1000 + sBy.length) (hb : inB k (sLen (s - 1000)) = true) (hX : X d mid pc' L (.int (sCh (s - 1000) k.toNatClampNeg) :: st) M Q) : X d mid pc L (.int k :: .ref s :: st) M Q := Y_m (q := (.int (sCh (s - 1000) k.toNatClampNeg) :: st, M)) h rfl rfl rfl rfl (by simp only [mOp, hLd_vi, hSt_vi, hNew, hLdc, hJdk, hStr, ho, hl]; rw [if_pos ⟨Nat.le_of_ble_eq_true hW, hs.1, hs.2, hb⟩]) hX
theorem Y_six {x own a b s : Nat} {k : Int32} (h : At mid pc (.invokevirtual x) pc') (ho : mOw mid = own) (hl : lkp mT own x = some (17, a, b)) (hW : Nat.ble (stW st) 8 = true) (hs : 1000 ≤ s ∧ s < 1000 + sBy.length) (hX : X d mid pc' L (.int (sIx (s - 1000) k) :: st) M Q) : X d mid pc L (.int k :: .ref s :: st) M Q := Y_m (q := (.int (sIx (s - 1000) k) :: st, M)) h rfl rfl rfl rfl (by simp only [mOp, hLd_vi, hSt_vi, hNew, hLdc, hJdk, hStr, ho, hl]; rw [if_pos ⟨Nat.le_of_ble_eq_true hW, hs⟩]) hX
theorem Y_iret {x : Int32} (h : At mid pc .ireturn pc') (hr : mRt mid = some .int) (hQ : Q (.inl (some (.int x))) M) : X d mid pc L [.int x] M Q := by rw [X_r (v := some (.int x)) h.1 rfl rfl rfl rfl rfl (by simp [rOp, hr])]; exact hQ
theorem Y_bret {x : Int32} (h : At mid pc .ireturn pc') (hr : mRt mid = some .boolean) (hx : x = 0 ∨ x = 1) (hQ : Q (.inl (some (.int x))) M) : X d mid pc L [.int x] M Q := by rw [X_r (v := some (.int x)) h.1 rfl rfl rfl rfl rfl (by simp [rOp, hr, hx])]; exact hQ
theorem Y_lret {x : Int64} (h : At mid pc .lreturn pc') (hr : mRt mid = some .long) (hQ : Q (.inl (some (.long x))) M) : X d mid pc L [.long x] M Q := by rw [X_r (v := some (.long x)) h.1 rfl rfl rfl rfl rfl (by simp [rOp, hr])]; exact hQ
theorem Y_vret (h : At mid pc .return_ pc') (hr : mRt mid = none) (hQ : Q (.inl none) M) : X d mid pc L [] M Q := by rw [X_r (v := none) h.1 rfl rfl rfl rfl rfl (by simp [rOp, hr])]; exact hQ
theorem Y_thr {x e : Nat} (h : At mid pc (.new x) pc') (ho : mOw mid = 9) (hl : lkp cT 9 x = some e) (he : (e = 100 ∨ e = 101) ∧ (pCode mid).lookup (pc + 3) = some .dup ∧ xTl mid pc e = true) (hW : Nat.ble (stW st) 8 = true) (hQ : Q (.inr e) (F, A, J, gThr G)) : X d mid pc L st (F, A, J, G) Q := by
  have hm : mOp mid (.new x) st (F, A, J, G) = none := by
    simp only [mOp, hLd_new, hSt_new, hNew, hLdc, hJdk, hStr, ho, hl]
    rw [if_neg (by rintro ⟨h1, -⟩; rcases he.1 with h2 | h2 <;> omega)]
  rw [X_x (e := e) h.1 rfl rfl rfl rfl hm rfl (by simp only [xOp, ho, hl]; rw [if_pos ⟨he.1, Nat.le_of_ble_eq_true hW, trivial, he.2⟩])]; exact hQ
theorem KK_XK {i : Instr} (hp : pc + 3 = pc') (hh : hdl mid = []) (hs : isSp i = false) (r : pR) (M : pM) (h : KK d mid pc' L st Q r M) : XK d mid pc i L st Q r M := by
  subst hp
  unfold XK
  cases r with
  | inl v => exact h
  | inr e =>
    dsimp only
    rw [if_neg (by rw [hs]; decide), hh]
    exact h
theorem Y_iv0 {x own cm n o : Nat} {L0 : List Value} (h : At mid pc (.invokevirtual x) pc') (ho : mOw mid = own) (hl : lkp mT own x = some (1, cm, 0)) (hk : gK G o = mOw cm) (hW : Nat.ble (stW st) 8 = true) (hn : mMx cm = n) (hE : Nat.ble (entA [.ref o]).length n = true) (hL : entL [.ref o] n = L0) (hh : hdl mid = []) (hX : X d cm 0 L0 [] (F, A, J, G) (KK (d + 1) mid pc' L st Q)) : X (d + 1) mid pc L (.ref o :: st) (F, A, J, G) Q := by
  subst hn; subst hL
  rw [X_c (q := (cm, [.ref o], st)) h.1 rfl rfl rfl rfl (by simp only [mOp, hLd_vi, hSt_vi, hNew, hLdc, hJdk, hStr, ho, hl]) rfl rfl (by simp only [cOp, ho, hl]; exact if_pos ⟨hk, Nat.le_of_ble_eq_true hW⟩) (Nat.not_lt.mpr (Nat.le_of_ble_eq_true hE))]
  exact X_mono (KK_XK h.2 hh rfl) hX
theorem Y_is_0 {x own cm n : Nat} {L0 : List Value} (h : At mid pc (.invokestatic x) pc') (ho : mOw mid = own) (hl : lkp mT own x = some (0, cm, 0)) (hW : Nat.ble (stW st) 8 = true) (hn : mMx cm = n) (hE : Nat.ble (entA []).length n = true) (hL : entL [] n = L0) (hh : hdl mid = []) (hX : X d cm 0 L0 [] M (KK (d + 1) mid pc' L st Q)) : X (d + 1) mid pc L (st) M Q := by
  subst hn; subst hL
  rw [X_c (q := (cm, [], st)) h.1 rfl rfl rfl rfl (by simp only [mOp, hLd_st, hSt_st, hNew, hLdc, hJdk, hStr, ho, hl]) rfl rfl (by simp only [cOp, ho, hl]; exact if_pos ⟨by simp, Nat.le_of_ble_eq_true hW⟩) (Nat.not_lt.mpr (Nat.le_of_ble_eq_true hE))]
  exact X_mono (KK_XK h.2 hh rfl) hX
theorem Y_iv1 {x own cm n o : Nat} {v0 : Value} {L0 : List Value} (h : At mid pc (.invokevirtual x) pc') (ho : mOw mid = own) (hl : lkp mT own x = some (1, cm, 1)) (hk : gK G o = mOw cm) (hW : Nat.ble (stW st) 8 = true) (hn : mMx cm = n) (hE : Nat.ble (entA [.ref o, v0]).length n = true) (hL : entL [.ref o, v0] n = L0) (hh : hdl mid = []) (hX : X d cm 0 L0 [] (F, A, J, G) (KK (d + 1) mid pc' L st Q)) : X (d + 1) mid pc L (v0 :: .ref o :: st) (F, A, J, G) Q := by
  subst hn; subst hL
  rw [X_c (q := (cm, [.ref o, v0], st)) h.1 rfl rfl rfl rfl (by simp only [mOp, hLd_vi, hSt_vi, hNew, hLdc, hJdk, hStr, ho, hl]) rfl rfl (by simp only [cOp, ho, hl]; exact if_pos ⟨hk, Nat.le_of_ble_eq_true hW⟩) (Nat.not_lt.mpr (Nat.le_of_ble_eq_true hE))]
  exact X_mono (KK_XK h.2 hh rfl) hX
theorem Y_is_1 {x own cm n : Nat} {v0 : Value} {L0 : List Value} (h : At mid pc (.invokestatic x) pc') (ho : mOw mid = own) (hl : lkp mT own x = some (0, cm, 1)) (hW : Nat.ble (stW st) 8 = true) (hn : mMx cm = n) (hE : Nat.ble (entA [v0]).length n = true) (hL : entL [v0] n = L0) (hh : hdl mid = []) (hX : X d cm 0 L0 [] M (KK (d + 1) mid pc' L st Q)) : X (d + 1) mid pc L (v0 :: st) M Q := by
  subst hn; subst hL
  rw [X_c (q := (cm, [v0], st)) h.1 rfl rfl rfl rfl (by simp only [mOp, hLd_st, hSt_st, hNew, hLdc, hJdk, hStr, ho, hl]) rfl rfl (by simp only [cOp, ho, hl]; exact if_pos ⟨by simp, Nat.le_of_ble_eq_true hW⟩) (Nat.not_lt.mpr (Nat.le_of_ble_eq_true hE))]
  exact X_mono (KK_XK h.2 hh rfl) hX
theorem Y_iv2 {x own cm n o : Nat} {v0 v1 : Value} {L0 : List Value} (h : At mid pc (.invokevirtual x) pc') (ho : mOw mid = own) (hl : lkp mT own x = some (1, cm, 2)) (hk : gK G o = mOw cm) (hW : Nat.ble (stW st) 8 = true) (hn : mMx cm = n) (hE : Nat.ble (entA [.ref o, v0, v1]).length n = true) (hL : entL [.ref o, v0, v1] n = L0) (hh : hdl mid = []) (hX : X d cm 0 L0 [] (F, A, J, G) (KK (d + 1) mid pc' L st Q)) : X (d + 1) mid pc L (v1 :: v0 :: .ref o :: st) (F, A, J, G) Q := by
  subst hn; subst hL
  rw [X_c (q := (cm, [.ref o, v0, v1], st)) h.1 rfl rfl rfl rfl (by simp only [mOp, hLd_vi, hSt_vi, hNew, hLdc, hJdk, hStr, ho, hl]) rfl rfl (by simp only [cOp, ho, hl]; exact if_pos ⟨hk, Nat.le_of_ble_eq_true hW⟩) (Nat.not_lt.mpr (Nat.le_of_ble_eq_true hE))]
  exact X_mono (KK_XK h.2 hh rfl) hX
theorem Y_is_2 {x own cm n : Nat} {v0 v1 : Value} {L0 : List Value} (h : At mid pc (.invokestatic x) pc') (ho : mOw mid = own) (hl : lkp mT own x = some (0, cm, 2)) (hW : Nat.ble (stW st) 8 = true) (hn : mMx cm = n) (hE : Nat.ble (entA [v0, v1]).length n = true) (hL : entL [v0, v1] n = L0) (hh : hdl mid = []) (hX : X d cm 0 L0 [] M (KK (d + 1) mid pc' L st Q)) : X (d + 1) mid pc L (v1 :: v0 :: st) M Q := by
  subst hn; subst hL
  rw [X_c (q := (cm, [v0, v1], st)) h.1 rfl rfl rfl rfl (by simp only [mOp, hLd_st, hSt_st, hNew, hLdc, hJdk, hStr, ho, hl]) rfl rfl (by simp only [cOp, ho, hl]; exact if_pos ⟨by simp, Nat.le_of_ble_eq_true hW⟩) (Nat.not_lt.mpr (Nat.le_of_ble_eq_true hE))]
  exact X_mono (KK_XK h.2 hh rfl) hX
theorem Y_iv3 {x own cm n o : Nat} {v0 v1 v2 : Value} {L0 : List Value} (h : At mid pc (.invokevirtual x) pc') (ho : mOw mid = own) (hl : lkp mT own x = some (1, cm, 3)) (hk : gK G o = mOw cm) (hW : Nat.ble (stW st) 8 = true) (hn : mMx cm = n) (hE : Nat.ble (entA [.ref o, v0, v1, v2]).length n = true) (hL : entL [.ref o, v0, v1, v2] n = L0) (hh : hdl mid = []) (hX : X d cm 0 L0 [] (F, A, J, G) (KK (d + 1) mid pc' L st Q)) : X (d + 1) mid pc L (v2 :: v1 :: v0 :: .ref o :: st) (F, A, J, G) Q := by
  subst hn; subst hL
  rw [X_c (q := (cm, [.ref o, v0, v1, v2], st)) h.1 rfl rfl rfl rfl (by simp only [mOp, hLd_vi, hSt_vi, hNew, hLdc, hJdk, hStr, ho, hl]) rfl rfl (by simp only [cOp, ho, hl]; exact if_pos ⟨hk, Nat.le_of_ble_eq_true hW⟩) (Nat.not_lt.mpr (Nat.le_of_ble_eq_true hE))]
  exact X_mono (KK_XK h.2 hh rfl) hX
theorem Y_is_3 {x own cm n : Nat} {v0 v1 v2 : Value} {L0 : List Value} (h : At mid pc (.invokestatic x) pc') (ho : mOw mid = own) (hl : lkp mT own x = some (0, cm, 3)) (hW : Nat.ble (stW st) 8 = true) (hn : mMx cm = n) (hE : Nat.ble (entA [v0, v1, v2]).length n = true) (hL : entL [v0, v1, v2] n = L0) (hh : hdl mid = []) (hX : X d cm 0 L0 [] M (KK (d + 1) mid pc' L st Q)) : X (d + 1) mid pc L (v2 :: v1 :: v0 :: st) M Q := by
  subst hn; subst hL
  rw [X_c (q := (cm, [v0, v1, v2], st)) h.1 rfl rfl rfl rfl (by simp only [mOp, hLd_st, hSt_st, hNew, hLdc, hJdk, hStr, ho, hl]) rfl rfl (by simp only [cOp, ho, hl]; exact if_pos ⟨by simp, Nat.le_of_ble_eq_true hW⟩) (Nat.not_lt.mpr (Nat.le_of_ble_eq_true hE))]
  exact X_mono (KK_XK h.2 hh rfl) hX
theorem Y_iv4 {x own cm n o : Nat} {v0 v1 v2 v3 : Value} {L0 : List Value} (h : At mid pc (.invokevirtual x) pc') (ho : mOw mid = own) (hl : lkp mT own x = some (1, cm, 4)) (hk : gK G o = mOw cm) (hW : Nat.ble (stW st) 8 = true) (hn : mMx cm = n) (hE : Nat.ble (entA [.ref o, v0, v1, v2, v3]).length n = true) (hL : entL [.ref o, v0, v1, v2, v3] n = L0) (hh : hdl mid = []) (hX : X d cm 0 L0 [] (F, A, J, G) (KK (d + 1) mid pc' L st Q)) : X (d + 1) mid pc L (v3 :: v2 :: v1 :: v0 :: .ref o :: st) (F, A, J, G) Q := by
  subst hn; subst hL
  rw [X_c (q := (cm, [.ref o, v0, v1, v2, v3], st)) h.1 rfl rfl rfl rfl (by simp only [mOp, hLd_vi, hSt_vi, hNew, hLdc, hJdk, hStr, ho, hl]) rfl rfl (by simp only [cOp, ho, hl]; exact if_pos ⟨hk, Nat.le_of_ble_eq_true hW⟩) (Nat.not_lt.mpr (Nat.le_of_ble_eq_true hE))]
  exact X_mono (KK_XK h.2 hh rfl) hX
theorem Y_is_4 {x own cm n : Nat} {v0 v1 v2 v3 : Value} {L0 : List Value} (h : At mid pc (.invokestatic x) pc') (ho : mOw mid = own) (hl : lkp mT own x = some (0, cm, 4)) (hW : Nat.ble (stW st) 8 = true) (hn : mMx cm = n) (hE : Nat.ble (entA [v0, v1, v2, v3]).length n = true) (hL : entL [v0, v1, v2, v3] n = L0) (hh : hdl mid = []) (hX : X d cm 0 L0 [] M (KK (d + 1) mid pc' L st Q)) : X (d + 1) mid pc L (v3 :: v2 :: v1 :: v0 :: st) M Q := by
  subst hn; subst hL
  rw [X_c (q := (cm, [v0, v1, v2, v3], st)) h.1 rfl rfl rfl rfl (by simp only [mOp, hLd_st, hSt_st, hNew, hLdc, hJdk, hStr, ho, hl]) rfl rfl (by simp only [cOp, ho, hl]; exact if_pos ⟨by simp, Nat.le_of_ble_eq_true hW⟩) (Nat.not_lt.mpr (Nat.le_of_ble_eq_true hE))]
  exact X_mono (KK_XK h.2 hh rfl) hX
theorem Y_iv5 {x own cm n o : Nat} {v0 v1 v2 v3 v4 : Value} {L0 : List Value} (h : At mid pc (.invokevirtual x) pc') (ho : mOw mid = own) (hl : lkp mT own x = some (1, cm, 5)) (hk : gK G o = mOw cm) (hW : Nat.ble (stW st) 8 = true) (hn : mMx cm = n) (hE : Nat.ble (entA [.ref o, v0, v1, v2, v3, v4]).length n = true) (hL : entL [.ref o, v0, v1, v2, v3, v4] n = L0) (hh : hdl mid = []) (hX : X d cm 0 L0 [] (F, A, J, G) (KK (d + 1) mid pc' L st Q)) : X (d + 1) mid pc L (v4 :: v3 :: v2 :: v1 :: v0 :: .ref o :: st) (F, A, J, G) Q := by
  subst hn; subst hL
  rw [X_c (q := (cm, [.ref o, v0, v1, v2, v3, v4], st)) h.1 rfl rfl rfl rfl (by simp only [mOp, hLd_vi, hSt_vi, hNew, hLdc, hJdk, hStr, ho, hl]) rfl rfl (by simp only [cOp, ho, hl]; exact if_pos ⟨hk, Nat.le_of_ble_eq_true hW⟩) (Nat.not_lt.mpr (Nat.le_of_ble_eq_true hE))]
  exact X_mono (KK_XK h.2 hh rfl) hX
theorem Y_is_5 {x own cm n : Nat} {v0 v1 v2 v3 v4 : Value} {L0 : List Value} (h : At mid pc (.invokestatic x) pc') (ho : mOw mid = own) (hl : lkp mT own x = some (0, cm, 5)) (hW : Nat.ble (stW st) 8 = true) (hn : mMx cm = n) (hE : Nat.ble (entA [v0, v1, v2, v3, v4]).length n = true) (hL : entL [v0, v1, v2, v3, v4] n = L0) (hh : hdl mid = []) (hX : X d cm 0 L0 [] M (KK (d + 1) mid pc' L st Q)) : X (d + 1) mid pc L (v4 :: v3 :: v2 :: v1 :: v0 :: st) M Q := by
  subst hn; subst hL
  rw [X_c (q := (cm, [v0, v1, v2, v3, v4], st)) h.1 rfl rfl rfl rfl (by simp only [mOp, hLd_st, hSt_st, hNew, hLdc, hJdk, hStr, ho, hl]) rfl rfl (by simp only [cOp, ho, hl]; exact if_pos ⟨by simp, Nat.le_of_ble_eq_true hW⟩) (Nat.not_lt.mpr (Nat.le_of_ble_eq_true hE))]
  exact X_mono (KK_XK h.2 hh rfl) hX
theorem Y_iv6 {x own cm n o : Nat} {v0 v1 v2 v3 v4 v5 : Value} {L0 : List Value} (h : At mid pc (.invokevirtual x) pc') (ho : mOw mid = own) (hl : lkp mT own x = some (1, cm, 6)) (hk : gK G o = mOw cm) (hW : Nat.ble (stW st) 8 = true) (hn : mMx cm = n) (hE : Nat.ble (entA [.ref o, v0, v1, v2, v3, v4, v5]).length n = true) (hL : entL [.ref o, v0, v1, v2, v3, v4, v5] n = L0) (hh : hdl mid = []) (hX : X d cm 0 L0 [] (F, A, J, G) (KK (d + 1) mid pc' L st Q)) : X (d + 1) mid pc L (v5 :: v4 :: v3 :: v2 :: v1 :: v0 :: .ref o :: st) (F, A, J, G) Q := by
  subst hn; subst hL
  rw [X_c (q := (cm, [.ref o, v0, v1, v2, v3, v4, v5], st)) h.1 rfl rfl rfl rfl (by simp only [mOp, hLd_vi, hSt_vi, hNew, hLdc, hJdk, hStr, ho, hl]) rfl rfl (by simp only [cOp, ho, hl]; exact if_pos ⟨hk, Nat.le_of_ble_eq_true hW⟩) (Nat.not_lt.mpr (Nat.le_of_ble_eq_true hE))]
  exact X_mono (KK_XK h.2 hh rfl) hX
theorem Y_is_6 {x own cm n : Nat} {v0 v1 v2 v3 v4 v5 : Value} {L0 : List Value} (h : At mid pc (.invokestatic x) pc') (ho : mOw mid = own) (hl : lkp mT own x = some (0, cm, 6)) (hW : Nat.ble (stW st) 8 = true) (hn : mMx cm = n) (hE : Nat.ble (entA [v0, v1, v2, v3, v4, v5]).length n = true) (hL : entL [v0, v1, v2, v3, v4, v5] n = L0) (hh : hdl mid = []) (hX : X d cm 0 L0 [] M (KK (d + 1) mid pc' L st Q)) : X (d + 1) mid pc L (v5 :: v4 :: v3 :: v2 :: v1 :: v0 :: st) M Q := by
  subst hn; subst hL
  rw [X_c (q := (cm, [v0, v1, v2, v3, v4, v5], st)) h.1 rfl rfl rfl rfl (by simp only [mOp, hLd_st, hSt_st, hNew, hLdc, hJdk, hStr, ho, hl]) rfl rfl (by simp only [cOp, ho, hl]; exact if_pos ⟨by simp, Nat.le_of_ble_eq_true hW⟩) (Nat.not_lt.mpr (Nat.le_of_ble_eq_true hE))]
  exact X_mono (KK_XK h.2 hh rfl) hX
end YLem
