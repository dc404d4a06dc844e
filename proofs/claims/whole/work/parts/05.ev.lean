/-! THE EVALUATOR: the methods' own code over a memory of places: what it answers is what the machine does (part 06 on) -/
abbrev Lc : Type := List Value
/-- a cell's kind: an object (number of its kind, fields, its references) or a row (number of its type, length, its references if it holds such) -/
abbrev Kd : Type := (Nat × Nat × (Nat → Option Value)) ⊕ (Nat × Nat × Option (Nat → Option Nat))
/-- fresh, cells, kinds, ints, longs, doubles -/
abbrev Me : Type := Bool × Nat × (Nat → Kd) × (Nat → Nat → Int32) × (Nat → Nat → Int64) × (Nat → Nat → UInt64)
abbrev Ou : Type := Option Value ⊕ Nat
/-- place in the code, locals, stack, cells and slots made so far, memory -/
abbrev Sx : Type := Nat × Lc × List Value × Nat × Nat × Me
def SCR : Nat := 1000000
def LAWN : Nat := 214
def mtD : mT := mt_0
def mRow (m : Nat) : mT := mTab.getD m mtD
def mY (m : Nat) : MethodName := (mRow m).1
def mB (m : Nat) : ByteArray := (mRow m).2.1
def mL (m : Nat) : Nat := (mRow m).2.2.1
def mR (m : Nat) : Option FieldType := (mRow m).2.2.2.1
def mO (m : Nat) : Nat := (mRow m).2.2.2.2.1
def mH (m : Nat) : List (Nat × Nat × Nat × Nat) := (mRow m).2.2.2.2.2.1
def mF (m : Nat) : Nat := (mRow m).2.2.2.2.2.2.1
def mW (m : Nat) : Nat := (mRow m).2.2.2.2.2.2.2.1
def mC (m : Nat) : Nat := (mRow m).2.2.2.2.2.2.2.2.1
def mS (m : Nat) : Nat := (mRow m).2.2.2.2.2.2.2.2.2
def lk (m pc : Nat) : Option Op := (pTab.getD m []).lookup pc
/-- how many fields an object of a kind has, which of them are references -/
def nfT (ci : Nat) : Nat := ([8, 13, 10, 5, 3, 4, 2, 5, 8, 20] : List Nat).getD ci 0
def rfT (ci : Nat) : List Nat := ([[], [0, 1, 2, 3, 4, 5], [], [0], [0], [], [], [0, 1], [0, 1, 2, 4, 5, 6], [0, 1, 2, 3, 4, 12, 15, 18]] : List (List Nat)).getD ci []
def fx0 (ci : Nat) : Nat → Option Value := fun k => if (rfT ci).contains k then some .null else none
/-- the kind of the things in a row of references -/
def elT (ti : Nat) : Nat := ([99, 99, 99, 99, 3, 2, 1, 5] : List Nat).getD ti 99
def tyT (ti : Nat) : FieldType := ([.int, .char, .long, .double, .object RX3, .object RX2, .object RX1, .object RX5] : List FieldType).getD ti .int
def u2 {α : Type} (f : Nat → Nat → α) (a k : Nat) (v : α) : Nat → Nat → α := fun a' k' => if a' = a ∧ k' = k then v else f a' k'
def uK (f : Nat → Kd) (a : Nat) (v : Kd) : Nat → Kd := fun a' => if a' = a then v else f a'
def isScr (m : Nat) : Bool := m == LAWN
/-- a store takes away a value of two words that lies across -/
def nz (L : Lc) (k : Nat) : Lc := match k with
  | 0 => L
  | j + 1 => match L[j]? with
    | some v => if v.category = 2 then L.set j .null else L
    | none => L
def wrL (m : Nat) (L : Lc) (k : Nat) (v : Value) : Lc := if isScr m then (nz L k).set k v else L.set k v
/-- an index within -/
abbrev ixIn (i : Int32) (n : Nat) : Prop := ¬ (i < 0 ∨ n ≤ i.toNatClampNeg)
def dead : Kd := .inr (99, 0, none)
/-- the exceptions: what a handler's row names -/
def exOf (i : Nat) : Nat := if i = 13 then 0 else if i = 21 then 1 else if i = 27 then 2 else if i = 56 then 3 else if i = 92 then 4 else if i = 108 then 5 else 99
def nx (pc : Nat) (L : Lc) (st : List Value) (k s : Nat) (μ : Me) : Option Sx := some (pc, L, st, k, s, μ)
/-- pushes: constants -/
def stpK (op : Op) (x : Sx) : Option Sx :=
  let (pc, L, st, k, s, μ) := x
  match op.1 with
  | .iconst n => nx (pc + 1) L (.int (Int32.ofInt n) :: st) k s μ
  | .bipush n => nx (pc + 2) L (.int (Int8.ofInt n).toInt32 :: st) k s μ
  | .sipush n => nx (pc + 3) L (.int (Int16.ofInt n).toInt32 :: st) k s μ
  | .ldc_w _ => nx (pc + 3) L (.int (Int32.ofNat op.2.2.1) :: st) k s μ
  | .lconst n => nx (pc + 1) L (.long (Int64.ofNat (n : Nat)) :: st) k s μ
  | .fconst n => if n = 0 then nx (pc + 1) L (.float FP.fconst0 :: st) k s μ else none
  | .dconst n => if n = 0 then nx (pc + 1) L (.double FP.dconst0 :: st) k s μ else none
  | .goto _ => nx op.2.2.1 L st k s μ
  | _ => none
def ldI (pc : Nat) (L : Lc) (st : List Value) (k s : Nat) (μ : Me) (i : Nat) : Option Sx := match L[i]? with
  | some (.int x) => nx pc L (.int x :: st) k s μ
  | _ => none
def ldA (pc : Nat) (L : Lc) (st : List Value) (k s : Nat) (μ : Me) (i : Nat) : Option Sx := match L[i]? with
  | some (.ref x) => nx pc L (.ref x :: st) k s μ
  | _ => none
def stI (m pc : Nat) (L : Lc) (st : List Value) (k s : Nat) (μ : Me) (i : Nat) : Option Sx := match st with
  | .int x :: st' => if i < mL m then nx pc (wrL m L i (.int x)) st' k s μ else none
  | _ => none
def stA (m pc : Nat) (L : Lc) (st : List Value) (k s : Nat) (μ : Me) (i : Nat) : Option Sx := match st with
  | .ref x :: st' => if i < mL m then nx pc (wrL m L i (.ref x)) st' k s μ else none
  | _ => none
/-- locals -/
def stpL (m : Nat) (op : Op) (x : Sx) : Option Sx :=
  let (pc, L, st, k, s, μ) := x
  match op.1 with
  | .iload_n i => ldI (pc + 1) L st k s μ i
  | .iload i => ldI (pc + 2) L st k s μ i
  | .aload_n i => ldA (pc + 1) L st k s μ i
  | .aload i => ldA (pc + 2) L st k s μ i
  | .fload i => match L[i]? with
    | some (.float v) => nx (pc + 2) L (.float v :: st) k s μ
    | _ => none
  | .dload i => match L[i]? with
    | some (.double v) => nx (pc + 2) L (.double v :: st) k s μ
    | _ => none
  | .istore_n i => stI m (pc + 1) L st k s μ i
  | .istore i => stI m (pc + 2) L st k s μ i
  | .astore_n i => stA m (pc + 1) L st k s μ i
  | .astore i => stA m (pc + 2) L st k s μ i
  | .fstore i => match st with
    | .float v :: st' => if i < mL m then nx (pc + 2) (wrL m L i (.float v)) st' k s μ else none
    | _ => none
  | .dstore i => match st with
    | .double v :: st' => if i + 1 < mL m ∧ isScr m = true then nx (pc + 2) (((nz L i).set i (.double v)).set (i + 1) .null) st' k s μ else none
    | _ => none
  | .iinc i n => match L[i]? with
    | some (.int v) => if i < mL m ∧ op.2.1 = 3 then nx (pc + 3) (wrL m L i (.int (v + Int32.ofInt n))) st k s μ else none
    | _ => none
  | _ => none
/-- numbers and the stack -/
def stpN (op : Op) (x : Sx) : Option Sx :=
  let (pc, L, st, k, s, μ) := x
  match op.1, st with
  | .iadd, .int b :: .int a :: st' => nx (pc + 1) L (.int (a + b) :: st') k s μ
  | .isub, .int b :: .int a :: st' => nx (pc + 1) L (.int (a - b) :: st') k s μ
  | .imul, .int b :: .int a :: st' => nx (pc + 1) L (.int (a * b) :: st') k s μ
  | .iand, .int b :: .int a :: st' => nx (pc + 1) L (.int (a &&& b) :: st') k s μ
  | .ior, .int b :: .int a :: st' => nx (pc + 1) L (.int (a ||| b) :: st') k s μ
  | .ixor, .int b :: .int a :: st' => nx (pc + 1) L (.int (a ^^^ b) :: st') k s μ
  | .ishl, .int b :: .int a :: st' => nx (pc + 1) L (.int (a <<< (b &&& 31)) :: st') k s μ
  | .ishr, .int b :: .int a :: st' => nx (pc + 1) L (.int (a >>> (b &&& 31)) :: st') k s μ
  | .iushr, .int b :: .int a :: st' => nx (pc + 1) L (.int (a.toUInt32 >>> (b.toUInt32 &&& Int32.toUInt32 31)).toInt32 :: st') k s μ
  | .idiv, .int b :: .int a :: st' => if b = 0 then none else nx (pc + 1) L (.int (a / b) :: st') k s μ
  | .irem, .int b :: .int a :: st' => if b = 0 then none else nx (pc + 1) L (.int (a - a / b * b) :: st') k s μ
  | .i2l, .int a :: st' => nx (pc + 1) L (.long a.toInt64 :: st') k s μ
  | .i2c, .int a :: st' => nx (pc + 1) L (.int (a.toUInt32 % 65536).toInt32 :: st') k s μ
  | .i2f, .int a :: st' => nx (pc + 1) L (.float (FP.i2f a) :: st') k s μ
  | .i2d, .int a :: st' => nx (pc + 1) L (.double (FP.i2d a) :: st') k s μ
  | .f2d, .float a :: st' => if FP.f2d a &&& 0x7fffffffffffffff ≤ 0x7ff0000000000000 then nx (pc + 1) L (.double (FP.f2d a) :: st') k s μ else none
  | .fdiv, .float b :: .float a :: st' => if FP.fdiv a b &&& 0x7fffffff ≤ 0x7f800000 then nx (pc + 1) L (.float (FP.fdiv a b) :: st') k s μ else none
  | .ddiv, .double b :: .double a :: st' => if FP.ddiv a b &&& 0x7fffffffffffffff ≤ 0x7ff0000000000000 then nx (pc + 1) L (.double (FP.ddiv a b) :: st') k s μ else none
  | .lcmp, .long b :: .long a :: st' => nx (pc + 1) L (.int (lg_cmp a b) :: st') k s μ
  | .fcmp o, .float b :: .float a :: st' => nx (pc + 1) L (.int (Op.cmpValue (FP.fcmp a b) o) :: st') k s μ
  | .dcmp o, .double b :: .double a :: st' => nx (pc + 1) L (.int (Op.cmpValue (FP.dcmp a b) o) :: st') k s μ
  | .dup, v :: st' => if v.category = 1 then nx (pc + 1) L (v :: v :: st') k s μ else none
  | .pop, v :: st' => if v.category = 1 then nx (pc + 1) L st' k s μ else none
  | .dup2, v :: w :: st' => if v.category = 1 ∧ w.category = 1 then nx (pc + 1) L (v :: w :: v :: w :: st') k s μ else none
  | _, _ => none
/-- branches -/
def stpB (op : Op) (x : Sx) : Option Sx :=
  let (pc, L, st, k, s, μ) := x
  match op.1, st with
  | .ifCond .eq _, .int a :: st' => if a = 0 then nx op.2.2.1 L st' k s μ else nx (pc + 3) L st' k s μ
  | .ifCond .ne _, .int a :: st' => if a = 0 then nx (pc + 3) L st' k s μ else nx op.2.2.1 L st' k s μ
  | .ifCond .lt _, .int a :: st' => if a < 0 then nx op.2.2.1 L st' k s μ else nx (pc + 3) L st' k s μ
  | .ifCond .ge _, .int a :: st' => if 0 ≤ a then nx op.2.2.1 L st' k s μ else nx (pc + 3) L st' k s μ
  | .ifCond .gt _, .int a :: st' => if 0 < a then nx op.2.2.1 L st' k s μ else nx (pc + 3) L st' k s μ
  | .ifCond .le _, .int a :: st' => if a ≤ 0 then nx op.2.2.1 L st' k s μ else nx (pc + 3) L st' k s μ
  | .if_icmp .eq _, .int b :: .int a :: st' => if a = b then nx op.2.2.1 L st' k s μ else nx (pc + 3) L st' k s μ
  | .if_icmp .ne _, .int b :: .int a :: st' => if a = b then nx (pc + 3) L st' k s μ else nx op.2.2.1 L st' k s μ
  | .if_icmp .lt _, .int b :: .int a :: st' => if a < b then nx op.2.2.1 L st' k s μ else nx (pc + 3) L st' k s μ
  | .if_icmp .ge _, .int b :: .int a :: st' => if b ≤ a then nx op.2.2.1 L st' k s μ else nx (pc + 3) L st' k s μ
  | .if_icmp .gt _, .int b :: .int a :: st' => if b < a then nx op.2.2.1 L st' k s μ else nx (pc + 3) L st' k s μ
  | .if_icmp .le _, .int b :: .int a :: st' => if a ≤ b then nx op.2.2.1 L st' k s μ else nx (pc + 3) L st' k s μ
  | .tableswitch d lo hi offs, .int a :: st' =>
    if a.toInt < lo ∨ hi < a.toInt then (if 0 ≤ (pc : Int) + d then nx ((pc : Int) + d).toNat L st' k s μ else none)
    else match offs[(a.toInt - lo).toNat]? with
      | some off => if 0 ≤ (pc : Int) + off then nx ((pc : Int) + off).toNat L st' k s μ else none
      | none => none
  | .lookupswitch d ps, .int a :: st' =>
    if (ps.toList.zip (ps.toList.drop 1)).all (fun (u, v) => u.1 < v.1) = true ∧ 0 ≤ (pc : Int) + Op.lookupswitch.offset ps.toList d a.toInt then nx ((pc : Int) + Op.lookupswitch.offset ps.toList d a.toInt).toNat L st' k s μ else none
  | _, _ => none
/-- fields and rows -/
def stpH (m : Nat) (op : Op) (x : Sx) : Option Sx :=
  let (pc, L, st, k, s, fr, n, kd, σ, lo, db) := x
  match op.1, st with
  | .getfield _, .ref o :: st' => match kd o with
    | .inl (ci, nf, fx) => if ci = op.2.2.1 ∧ op.2.2.2.1 < nf then nx (pc + 3) L ((fx op.2.2.2.1).getD (.int (σ o op.2.2.2.1)) :: st') k s (fr, n, kd, σ, lo, db) else none
    | _ => none
  | .putfield _, .int v :: .ref o :: st' => match kd o with
    | .inl (ci, nf, fx) => if ci = op.2.2.1 ∧ op.2.2.2.1 < nf ∧ fx op.2.2.2.1 = none ∧ (op.2.2.2.2 = 0 ∨ (op.2.2.2.2 = 1 ∧ (v = 0 ∨ v = 1))) then nx (pc + 3) L st' k s (fr, n, kd, u2 σ o op.2.2.2.1 v, lo, db) else if ci = op.2.2.1 ∧ op.2.2.2.1 < nf ∧ op.2.2.2.2 = 4 ∧ (mY m).name = "<init>" ∧ mO m = ci then nx (pc + 3) L st' k s (fr, n, uK kd o (.inl (ci, nf, fun j => if j = op.2.2.2.1 then some (.int v) else fx j)), σ, lo, db) else none
    | _ => none
  | .putfield _, .ref v :: .ref o :: st' => match kd o with
    | .inl (ci, nf, fx) => if ci = op.2.2.1 ∧ op.2.2.2.1 < nf ∧ (fx op.2.2.2.1).isSome = true ∧ op.2.2.2.2 = 2 ∧ (mY m).name = "<init>" ∧ mO m = ci then nx (pc + 3) L st' k s (fr, n, uK kd o (.inl (ci, nf, fun j => if j = op.2.2.2.1 then some (.ref v) else fx j)), σ, lo, db) else none
    | _ => none
  | .iaload, .int i :: .ref o :: st' => match kd o with
    | .inr (ti, len, none) => if (ti = 0 ∨ (ti = 8 ∧ o = SCR)) ∧ ixIn i len then nx (pc + 1) L (.int (σ o i.toNatClampNeg) :: st') k s (fr, n, kd, σ, lo, db) else none
    | _ => none
  | .caload, .int i :: .ref o :: st' => match kd o with
    | .inr (ti, len, none) => if ti = 1 ∧ ixIn i len then nx (pc + 1) L (.int (σ o i.toNatClampNeg) :: st') k s (fr, n, kd, σ, lo, db) else none
    | _ => none
  | .laload, .int i :: .ref o :: st' => match kd o with
    | .inr (ti, len, none) => if ti = 2 ∧ ixIn i len then nx (pc + 1) L (.long (lo o i.toNatClampNeg) :: st') k s (fr, n, kd, σ, lo, db) else none
    | _ => none
  | .daload, .int i :: .ref o :: st' => match kd o with
    | .inr (ti, len, none) => if ti = 3 ∧ ixIn i len then nx (pc + 1) L (.double (db o i.toNatClampNeg) :: st') k s (fr, n, kd, σ, lo, db) else none
    | _ => none
  | .aaload, .int i :: .ref o :: st' => match kd o with
    | .inr (ti, len, some f) => if 4 ≤ ti ∧ ti < 8 ∧ ixIn i len then (match f i.toNatClampNeg with
      | some r => nx (pc + 1) L (.ref r :: st') k s (fr, n, kd, σ, lo, db)
      | none => none) else none
    | _ => none
  | .iastore, .int v :: .int i :: .ref o :: st' => match kd o with
    | .inr (ti, len, none) => if ti = 0 ∧ ixIn i len then nx (pc + 1) L st' k s (fr, n, kd, u2 σ o i.toNatClampNeg v, lo, db) else none
    | _ => none
  | .castore, .int v :: .int i :: .ref o :: st' => match kd o with
    | .inr (ti, len, none) => if ti = 1 ∧ ixIn i len then nx (pc + 1) L st' k s (fr, n, kd, u2 σ o i.toNatClampNeg (vp_nar .char v), lo, db) else none
    | _ => none
  | .lastore, .long v :: .int i :: .ref o :: st' => match kd o with
    | .inr (ti, len, none) => if ti = 2 ∧ ixIn i len then nx (pc + 1) L st' k s (fr, n, kd, σ, u2 lo o i.toNatClampNeg v, db) else none
    | _ => none
  | .dastore, .double v :: .int i :: .ref o :: st' => match kd o with
    | .inr (ti, len, none) => if ti = 3 ∧ ixIn i len then nx (pc + 1) L st' k s (fr, n, kd, σ, lo, u2 db o i.toNatClampNeg v) else none
    | _ => none
  | .aastore, .ref v :: .int i :: .ref o :: st' => match kd o, kd v with
    | .inr (ti, len, some f), .inl (ci, _, _) => if 4 ≤ ti ∧ ti < 8 ∧ ci = elT ti ∧ ci < 10 ∧ ixIn i len then (match fr with
      | true => nx (pc + 1) L st' k s (true, n, uK kd o (.inr (ti, len, some (fun j => if j = i.toNatClampNeg then some v else f j))), σ, lo, db)
      | false => nx (pc + 1) L st' k s (false, n, uK kd o (.inr (ti, len, some (fun j => if j = i.toNatClampNeg then some v else f j))), u2 σ o i.toNatClampNeg (Int32.ofNat v), lo, db)) else none
    | _, _ => none
  | .arraylength, .ref o :: st' => match kd o with
    | .inr (ti, len, none) => if ti < 4 ∨ (ti = 8 ∧ o = SCR) then nx (pc + 1) L (.int (Int32.ofNat len) :: st') k s (fr, n, kd, σ, lo, db) else none
    | _ => none
  | _, _ => none
/-- what is made -/
def stpM (m : Nat) (op : Op) (x : Sx) : Option Sx :=
  let (pc, L, st, k, s, fr, n, kd, σ, lo, db) := x
  match op.1, st with
  | .new _, st' => if op.2.2.2.2 = 0 ∧ op.2.2.1 < 10 ∧ fr = true ∧ n < SCR ∧ k + 1 ≤ mC m ∧ s + nfT op.2.2.1 ≤ mS m then
      nx (pc + 3) L (.ref n :: st') (k + 1) (s + nfT op.2.2.1) (fr, n + 1, uK kd n (.inl (op.2.2.1, nfT op.2.2.1, fx0 op.2.2.1)), (fun a j => if a = n then 0 else σ a j), lo, db) else none
  | .newarray _, .int c :: st' => if op.2.2.1 < 4 ∧ fr = true ∧ n < SCR ∧ ¬ c < 0 ∧ c.toNatClampNeg < 10000 ∧ k + 1 ≤ mC m ∧ s + c.toNatClampNeg ≤ mS m then
      nx (pc + 2) L (.ref n :: st') (k + 1) (s + c.toNatClampNeg) (fr, n + 1, uK kd n (.inr (op.2.2.1, c.toNatClampNeg, none)), (fun a j => if a = n then 0 else σ a j), (fun a j => if a = n then 0 else lo a j), (fun a j => if a = n then 0 else db a j)) else none
  | .anewarray _, .int c :: st' => if 4 ≤ op.2.2.1 ∧ op.2.2.1 < 8 ∧ fr = true ∧ n < SCR ∧ ¬ c < 0 ∧ c.toNatClampNeg < 10000 ∧ k + 1 ≤ mC m ∧ s + c.toNatClampNeg ≤ mS m then
      nx (pc + 3) L (.ref n :: st') (k + 1) (s + c.toNatClampNeg) (fr, n + 1, uK kd n (.inr (op.2.2.1, c.toNatClampNeg, some (fun _ => none))), σ, lo, db) else none
  | .invokespecial _, .ref _ :: st' => if op.2.2.1 = 5 ∧ 1 ≤ mF m ∧ 20 ≤ mW m ∧ st'.length ≤ 4 ∧ (∀ v ∈ st', v.category = 1) then nx (pc + 3) L st' k s (fr, n, kd, σ, lo, db) else none
  | _, _ => none
def orE {α : Type} (a b : Option α) : Option α := match a with
  | some x => some x
  | none => b
def stp (m : Nat) (op : Op) (x : Sx) : Option Sx := orE (stpK op x) (orE (stpL m op x) (orE (stpN op x) (orE (stpB op x) (orE (stpH m op x) (stpM m op x)))))
def calG (m c k s n : Nat) (st : List Value) : Option (Nat × List Value × List Value) :=
  if n ≤ st.length ∧ n ≤ mL c ∧ (∀ v ∈ st, v.category = 1) ∧ (st.drop n).length ≤ 8 ∧ mF c + 1 ≤ mF m ∧ 8 + (mL c + 11) + mW c ≤ mW m ∧ k + mC c ≤ mC m ∧ s + mS c ≤ mS m ∧ isScr c = false then some (c, (st.take n).reverse, st.drop n) else none
/-- a call: whom, with what, what stays on the stack -/
def cal (m : Nat) (op : Op) (x : Sx) : Option (Nat × List Value × List Value) :=
  let (_, _, st, k, s, _, _, kd, _) := x
  match op.1 with
  | .invokestatic _ => calG m op.2.2.2.1 k s op.2.2.2.2 st
  | .invokespecial _ => if op.2.2.1 = 5 then none else match st[op.2.2.2.2]? with
    | some (.ref _) => calG m op.2.2.2.1 k s (op.2.2.2.2 + 1) st
    | _ => none
  | .invokevirtual _ => match st[op.2.2.2.2]? with
    | some (.ref o) => match kd o with
      | .inl (ci, _, _) => if ci = mO op.2.2.2.1 ∧ ci < 10 then calG m op.2.2.2.1 k s (op.2.2.2.2 + 1) st else none
      | _ => none
    | _ => none
  | _ => none
/-- the end of a method -/
def fin (m : Nat) (op : Op) (x : Sx) : Option (Ou × Me) :=
  let (_, _, st, k, s, fr, n, kd, σ, lo, db) := x
  match op.1, st with
  | .ireturn, [.int v] => if k ≤ mC m ∧ s ≤ mS m ∧ (mR m = some .int ∨ (mR m = some .boolean ∧ (v = 0 ∨ v = 1)) ∨ (mR m = some .char ∧ vp_nar .char v = v)) then some (.inl (some (.int v)), (fr, n, kd, σ, lo, db)) else none
  | .freturn, [.float v] => if k ≤ mC m ∧ s ≤ mS m ∧ mR m = some .float then some (.inl (some (.float v)), (fr, n, kd, σ, lo, db)) else none
  | .dreturn, [.double v] => if k ≤ mC m ∧ s ≤ mS m ∧ mR m = some .double then some (.inl (some (.double v)), (fr, n, kd, σ, lo, db)) else none
  | .return_, [] => if k ≤ mC m ∧ s ≤ mS m ∧ mR m = none then some (.inl none, (fr, n, kd, σ, lo, db)) else none
  | .new _, st' => if (op.2.2.2.2 = 1 ∨ op.2.2.2.2 = 2) ∧ op.2.2.1 < 6 ∧ mO m = 8 ∧ mH m = [] ∧ st'.length ≤ 4 ∧ (∀ v ∈ st', v.category = 1) ∧ 6 ≤ mF m ∧ 90 ≤ mW m ∧ k + 1 ≤ mC m ∧ s + 6 ≤ mS m then some (.inr op.2.2.1, (false, n, kd, σ, lo, db)) else none
  | _, _ => none
/-- which handler takes it -/
def hnd (hh : List (Nat × Nat × Nat × Nat)) (pc E : Nat) : Option Nat := match hh with
  | [] => none
  | q :: t => if q.1 ≤ pc ∧ pc < q.2.1 ∧ exOf q.2.2.2 = E then some q.2.2.1 else hnd t pc E
/-- behind a call -/
def bak (m : Nat) (x : Sx) (c : Nat) (st' : List Value) (o : Ou) (μ : Me) : Option Sx :=
  let (pc, L, _, k, s, _) := x
  match o with
  | .inl none => nx (pc + 3) L st' (k + mC c) (s + mS c) μ
  | .inl (some v) => nx (pc + 3) L (v :: st') (k + mC c) (s + mS c) μ
  | .inr E => match hnd (mH m) pc E with
    | some hp => match lk m hp with
      | some (.astore_n i, _) => if (i : Nat) < mL m ∧ isScr m = false then nx (hp + 1) (L.set i .null) [] (k + mC c) (s + mS c) μ else none
      | some (.astore i, _) => if i < mL m ∧ isScr m = false then nx (hp + 2) (L.set i .null) [] (k + mC c) (s + mS c) μ else none
      | _ => none
    | none => none
def stx (c : Nat) (as : List Value) (μ : Me) : Sx := (0, as ++ List.replicate (mL c - as.length) .null, [], 0, 0, μ)
def ev : Nat → Nat → Sx → Option (Ou × Me)
  | 0, _, _ => none
  | n + 1, m, x => match lk m x.1 with
    | none => none
    | some op => match stp m op x with
      | some x' => ev n m x'
      | none => match cal m op x with
        | some (c, as, st') => match ev n c (stx c as x.2.2.2.2.2) with
          | some (o, μ') => match bak m x c st' o μ' with
            | some x' => ev n m x'
            | none => none
          | none => none
        | none => fin m op x
