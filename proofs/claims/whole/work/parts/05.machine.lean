/-! THE PURE MACHINE: a function that runs the methods' listings over a memory of numbers. Ids are places in the world's list. -/
section PMdefs
/-- geometry: how many cells; kind, length, references of each; cells and slots counted -/
abbrev pG : Type := Nat × (Nat → Nat) × (Nat → Nat) × (Nat → Nat → Nat) × Nat × Nat
/-- memory: int fields, int and byte rows, long rows, geometry -/
abbrev pM : Type := (Nat → Nat → Int32) × (Nat → Nat → Int32) × (Nat → Nat → Int64) × pG
/-- what comes of a method: an answer, or a thrown class -/
abbrev pR : Type := Option Value ⊕ Nat
def gN (G : pG) : Nat := G.1
def gK (G : pG) : Nat → Nat := G.2.1
def gL (G : pG) : Nat → Nat := G.2.2.1
def gR (G : pG) : Nat → Nat → Nat := G.2.2.2.1
def gC (G : pG) : Nat := G.2.2.2.2.1
def gS (G : pG) : Nat := G.2.2.2.2.2
/-- a new cell -/
def gNew (G : pG) (k l sl : Nat) : pG := (gN G + 1, va_up (gK G) (gN G) k, va_up (gL G) (gN G) l, va_up (gR G) (gN G) (fun _ => 0), gC G + 1, gS G + sl)
def gSetR (G : pG) (o k v : Nat) : pG := (gN G, gK G, gL G, va_up (gR G) o (va_up (gR G o) k v), gC G, gS G)
/-- a thrown object's room -/
def gThr (G : pG) : pG := (gN G, gK G, gL G, gR G, gC G + 1, gS G + 6)
def pRv (n : Nat) : Value := match n with
  | 0 => .null
  | k + 1 => .ref k
def isLg (v : Value) : Bool := match v with
  | .long _ => true
  | .double _ => true
  | _ => false
def isL1 (L : List Value) (i : Nat) : Bool := match i with
  | 0 => false
  | j + 1 => isLg (L.getD j .null)
/-- a word-one local is stored -/
def stL (L : List Value) (i : Nat) (v : Value) : Option (List Value) := if i < L.length ∧ isL1 L i = false then some (L.set i v) else none
/-- a word-two local is stored -/
def stLL (L : List Value) (i : Nat) (v : Value) : Option (List Value) := if i + 1 < L.length ∧ isL1 L i = false then some ((L.set i v).set (i + 1) .null) else none
/-- arguments as locals -/
def entA : List Value → List Value
  | [] => []
  | v :: vs => if isLg v then v :: .null :: entA vs else v :: entA vs
def entL (vs : List Value) (n : Nat) : List Value := entA vs ++ List.replicate (n - (entA vs).length) .null
def ilen (i : Instr) : Nat := match i with
  | .bipush _ | .iload _ | .aload _ | .lload _ | .istore _ | .astore _ | .lstore _ | .ldc _ | .newarray _ => 2
  | .sipush _ | .iinc _ _ | .ldc_w _ | .ldc2_w _ | .getfield _ | .putfield _ | .getstatic _ | .invokevirtual _ | .invokespecial _ | .invokestatic _ | .new _ | .anewarray _ | .goto _ | .if_icmp _ _ | .ifCond _ _ => 3
  | _ => 1
/-- what an instruction does that touches the stack alone -/
def sOp (i : Instr) (st : List Value) : Option (List Value) := match i with
  | .iconst n => some (.int (Int32.ofInt n) :: st)
  | .bipush n => some (.int (Int8.ofInt n).toInt32 :: st)
  | .sipush n => some (.int (Int16.ofInt n).toInt32 :: st)
  | .lconst n => some (.long (Int64.ofNat (n : Nat)) :: st)
  | .iadd => match st with | .int y :: .int x :: r => some (.int (x + y) :: r) | _ => none
  | .isub => match st with | .int y :: .int x :: r => some (.int (x - y) :: r) | _ => none
  | .imul => match st with | .int y :: .int x :: r => some (.int (x * y) :: r) | _ => none
  | .iand => match st with | .int y :: .int x :: r => some (.int (x &&& y) :: r) | _ => none
  | .ior => match st with | .int y :: .int x :: r => some (.int (x ||| y) :: r) | _ => none
  | .ixor => match st with | .int y :: .int x :: r => some (.int (x ^^^ y) :: r) | _ => none
  | .idiv => match st with | .int y :: .int x :: r => if y = 0 then none else some (.int (x / y) :: r) | _ => none
  | .irem => match st with | .int y :: .int x :: r => if y = 0 then none else some (.int (x - x / y * y) :: r) | _ => none
  | .ineg => match st with | .int x :: r => some (.int (-x) :: r) | _ => none
  | .ishl => match st with | .int y :: .int x :: r => some (.int (x <<< (y &&& 31)) :: r) | _ => none
  | .ishr => match st with | .int y :: .int x :: r => some (.int (x >>> (y &&& 31)) :: r) | _ => none
  | .iushr => match st with | .int y :: .int x :: r => some (.int ((x.toUInt32 >>> (y.toUInt32 &&& Int32.toUInt32 31)).toInt32) :: r) | _ => none
  | .i2l => match st with | .int x :: r => some (.long x.toInt64 :: r) | _ => none
  | .i2b => match st with | .int x :: r => some (.int x.toInt8.toInt32 :: r) | _ => none
  | .i2c => match st with | .int x :: r => some (.int (x.toUInt32 % 65536).toInt32 :: r) | _ => none
  | .ladd => match st with | .long y :: .long x :: r => some (.long (x + y) :: r) | _ => none
  | .lcmp => match st with | .long y :: .long x :: r => some (.int (lg_cmp x y) :: r) | _ => none
  | .dup => match st with | v :: r => if v.category = 1 then some (v :: v :: r) else none | _ => none
  | .pop => match st with | v :: r => if v.category = 1 then some r else none | _ => none
  | .dup2 => match st with | v :: w :: r => if v.category = 1 ∧ w.category = 1 then some (v :: w :: v :: w :: r) else none | _ => none
  | _ => none
/-- what it loads from the locals -/
def lOp (i : Instr) (L : List Value) : Option Value := match i with
  | .iload_n k => match L[(k : Nat)]? with | some (.int x) => some (.int x) | _ => none
  | .iload k => match L[k]? with | some (.int x) => some (.int x) | _ => none
  | .lload_n k => match L[(k : Nat)]? with | some (.long x) => some (.long x) | _ => none
  | .lload k => match L[k]? with | some (.long x) => some (.long x) | _ => none
  | .aload_n k => match L[(k : Nat)]? with | some (.ref x) => some (.ref x) | _ => none
  | .aload k => match L[k]? with | some (.ref x) => some (.ref x) | _ => none
  | _ => none
/-- what it stores into the locals -/
def tOp (i : Instr) (L st : List Value) : Option (List Value × List Value) := match i with
  | .istore_n k => match st with | .int x :: r => (stL L k (.int x)).map (fun L => (L, r)) | _ => none
  | .istore k => match st with | .int x :: r => (stL L k (.int x)).map (fun L => (L, r)) | _ => none
  | .astore_n k => match st with | .ref x :: r => (stL L k (.ref x)).map (fun L => (L, r)) | _ => none
  | .astore k => match st with | .ref x :: r => (stL L k (.ref x)).map (fun L => (L, r)) | _ => none
  | .lstore_n k => match st with | .long x :: r => (stLL L k (.long x)).map (fun L => (L, r)) | _ => none
  | .lstore k => match st with | .long x :: r => (stLL L k (.long x)).map (fun L => (L, r)) | _ => none
  | .iinc k n => match L[k]? with | some (.int x) => (stL L k (.int (x + Int32.ofInt n))).map (fun L => (L, st)) | _ => none
  | _ => none
def tgt (pc : Nat) (off : Int) : Nat := ((pc : Int) + off).toNat
def ic2 (c : ClassFile.Cond) (x y : Int32) : Bool := match c with
  | .eq => decide (x = y) | .ne => decide (¬ x = y) | .lt => decide (x < y) | .ge => decide (y ≤ x) | .gt => decide (y < x) | .le => decide (x ≤ y)
/-- where it jumps; the stack behind it -/
def jOp (i : Instr) (pc : Nat) (st : List Value) : Option (Nat × List Value) := match i with
  | .goto off => if 0 ≤ (pc : Int) + off then some (tgt pc off, st) else none
  | .if_icmp c off => match st with | .int y :: .int x :: r => if 0 ≤ (pc : Int) + off then some (if ic2 c x y then tgt pc off else pc + 3, r) else none | _ => none
  | .ifCond c off => match st with | .int x :: r => if 0 ≤ (pc : Int) + off then some (if ic2 c x 0 then tgt pc off else pc + 3, r) else none | _ => none
  | .tableswitch dflt lo hi offs => match st with
    | .int x :: r => if x.toInt < lo ∨ hi < x.toInt then (if 0 ≤ (pc : Int) + dflt then some (tgt pc dflt, r) else none) else match offs[(x.toInt - lo).toNat]? with
      | some off => if 0 ≤ (pc : Int) + off then some (tgt pc off, r) else none
      | none => none
    | _ => none
  | .lookupswitch dflt ps => match st with
    | .int x :: r => if (ps.toList.zip (ps.toList.drop 1)).all (fun (a, next) => a.1 < next.1) = true ∧ 0 ≤ (pc : Int) + Op.lookupswitch.offset ps.toList dflt x.toInt then some (tgt pc (Op.lookupswitch.offset ps.toList dflt x.toInt), r) else none
    | _ => none
  | _ => none
def isSw (i : Instr) : Bool := match i with
  | .tableswitch _ _ _ _ => true
  | .lookupswitch _ _ => true
  | _ => false
/-- a row of a listing is what the bytes decode to -/
def dB (c : ByteArray) (q : Nat × Instr) : Bool := match decode c q.1 with
  | .ok (i, n) => decide (i = q.2) && (decide (n = ilen q.2) || isSw q.2)
  | _ => false
end PMdefs
