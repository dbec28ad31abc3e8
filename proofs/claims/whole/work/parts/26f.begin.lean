/-! the law's beginning -/
section Beg26
def Mc0 : pM := (fun _ _ => 0, fun _ _ => 0, fun _ _ => 0, (0, fun _ => 900, fun _ => 0, fun _ _ => 0, 0, 0))
def wB : Option (List Value × List Value × pM) := exW 4000 999 0 (entL [.ref 2000] 8) [] Mc0
def ckG (G : pG) : Bool := decide (gN G = 105) && (List.range 105).all (fun i => decide (gK G i = gKl.getD i 0)) && (List.range 105).all (fun i => decide (gL G i = gLl.getD i 0)) && gRl.all (fun e => decide (gR G e.1 e.2.1 = e.2.2 + 1)) && decide (gR G 49 9 = 51) && decide (gR G 49 10 = 52) && decide (gC G ≤ 105) && decide (gS G ≤ 20000)
def ckC (F A : Nat → Nat → Int32) : Bool := decide (F 12 0 = 0) && decide (F 12 1 = 9) && decide (F 12 2 = 100) && decide (F 18 1 = 0) && decide (F 0 1 = 0) && decide (F 0 2 = -1) && decide (F 0 3 = 0) && decide (F 22 0 = 0) && decide (F 27 1 = 0) && decide (F 27 2 = 0) && decide (F 27 3 = -1) && decide (F 21 2 = 0) && decide (F 21 6 = 1) && decide (F 66 3 = 0) && (List.range 73).all (fun j => decide (A 67 j = 0)) && decide (A 63 0 = 0) && decide (A 64 0 = 0)
def ckM (F A : Nat → Nat → Int32) : Bool := decide (A 71 0 = 3) && decide (A 71 1 = 1) && decide (A 71 2 = 2) && decide (A 71 3 = 2) && decide (A 72 0 = 0) && decide (A 72 1 = 9) && decide (A 72 2 = 100) && decide (A 72 3 = 0) && decide (F 68 13 = 0) && decide (F 68 22 = -1) && decide (F 68 28 = 0) && decide (F 68 29 = 0) && decide (F 68 30 = -1) && decide (F 68 31 = 0) && decide (F 68 32 = 0) && decide (F 68 50 = 0) && (List.range 3).all (fun j => decide (A 79 j = A 26 j))
def ckL (L st : List Value) : Bool := match st with
  | [] => match L with
    | [.ref a, .ref b, .ref c, .ref d, .int x, .null, .null, .null] => decide (a = 2000) && decide (b = 0) && decide (c = 68) && decide (d = 104) && decide (x = 0)
    | _ => false
  | _ => false
def ckW : Bool := match wB with
  | some q => ckL q.1 q.2.1 && (ckG q.2.2.2.2.2 && (ckC q.2.2.1 q.2.2.2.1 && ckM q.2.2.1 q.2.2.2.1))
  | none => false
theorem ckW_ok : ckW = true := by decide +kernel
end Beg26
