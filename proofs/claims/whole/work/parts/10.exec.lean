/-! A machine of our own over numbers and few rows: what the bytecode does, as a function. Its memory: how many cells there are, ints, longs, references by cell and place; which cell is of what kind (xSH) is told once for all. -/
abbrev XM : Type := Nat × (Nat → Nat → Int32) × (Nat → Nat → Int64) × (Nat → Nat → Option Nat)
abbrev XL : Type := List (Option Value)
/-- the script: how long, its ints -/
abbrev XS : Type := Nat × (Nat → Int32)
/-- what a number more of a cell does -/
def xu {α : Type} (f : Nat → Nat → α) (c k : Nat) (v : α) : Nat → Nat → α := fun c' k' => if c' = c then (if k' = k then v else f c' k') else f c' k'
def xur {α : Type} (f : Nat → Nat → α) (c : Nat) (g : Nat → α) : Nat → Nat → α := fun c' k' => if c' = c then g k' else f c' k'
def xkind (c : Nat) : Nat × Nat := xSH.getD c (99, 0)
def xfk (ci k : Nat) : Nat × Bool := (xFK.getD ci []).getD k (9, false)
def xnf (ci : Nat) : Nat := (xFK.getD ci []).length
def xcat2 : Option Value → Bool
  | some v => v.category == 2
  | none => false
def xst1 (ls : XL) (i : Nat) (v : Value) : XL := (if xcat2 (ls.getD (i - 1) none) then ls.set (i - 1) none else ls).set i (some v)
def xst2 (ls : XL) (i : Nat) (v : Value) : XL := ((if xcat2 (ls.getD (i - 1) none) then ls.set (i - 1) none else ls).set i (some v)).set (i + 1) none
def xlocs : List Value → XL
  | [] => []
  | v :: r => if v.category = 2 then some v :: none :: xlocs r else some v :: xlocs r
def xpad (n : Nat) (l : XL) : XL := l ++ List.replicate (n - l.length) none
abbrev xinb (i : Int32) (n : Nat) : Prop := 0 ≤ i.toInt ∧ i.toInt < (n : Int)
/-- a reference that is one -/
def xok (n : Nat) : Value → Bool
  | .ref a => decide (a < n) || decide (10000 ≤ a)
  | _ => true
def xoks (n : Nat) (st : List Value) (ls : XL) : Bool := st.all (xok n) && ls.all (fun o => match o with | some v => xok n v | none => true)
def xabove : List Int32 := [-1, 0, 0, 1, 2, 0]
/-- a field's value -/
def xget (X : XM) (c ci k : Nat) : Option Value := match (xfk ci k).1 with
  | 0 => some (.int (X.2.1 c k))
  | 3 => some (.int (X.2.1 c k))
  | 1 => some (.long (X.2.2.1 c k))
  | 2 => some (va_rf (X.2.2.2 c k))
  | _ => none
def xput (X : XM) (c ci k : Nat) (v : Value) : Option XM := match (xfk ci k).1, v with
  | 0, .int x => some (X.1, xu X.2.1 c k x, X.2.2.1, X.2.2.2)
  | 3, .int x => if x = 0 ∨ x = 1 then some (X.1, xu X.2.1 c k x, X.2.2.1, X.2.2.2) else none
  | 1, .long x => some (X.1, X.2.1, xu X.2.2.1 c k x, X.2.2.2)
  | 2, .ref a => if a < X.1 then some (X.1, X.2.1, X.2.2.1, xu X.2.2.2 c k (some a)) else none
  | _, _ => none
def xcond (c : ClassFile.Cond) (x y : Int32) : Bool := match c with
  | .eq => decide (x = y)
  | .ne => decide (x ≠ y)
  | .lt => decide (x < y)
  | .ge => decide (y ≤ x)
  | .gt => decide (y < x)
  | .le => decide (x ≤ y)
/-- where a branch goes -/
def xgo (pc : Nat) (off : Int) : Nat := ((pc : Int) + off).toNat
/-- instructions that only move numbers about -/
def xs0 (i : Instr) (rs wp pc : Nat) (ls : XL) (st : List Value) : Option (Nat × XL × List Value) := match i, st with
  | .iconst n, st => some (pc + 1, ls, .int (Int32.ofInt n) :: st)
  | .bipush n, st => some (pc + 2, ls, .int ((Int8.ofInt n).toInt32) :: st)
  | .sipush n, st => some (pc + 3, ls, .int ((Int16.ofInt n).toInt32) :: st)
  | .lconst n, st => some (pc + 1, ls, .long (Int64.ofNat n) :: st)
  | .iload_n k, st => match ls[(k : Nat)]? with
    | some (some (.int x)) => some (pc + 1, ls, .int x :: st)
    | _ => none
  | .iload k, st => match ls[k]? with
    | some (some (.int x)) => some (pc + 2, ls, .int x :: st)
    | _ => none
  | .lload_n k, st => match ls[(k : Nat)]? with
    | some (some (.long x)) => some (pc + 1, ls, .long x :: st)
    | _ => none
  | .lload k, st => match ls[k]? with
    | some (some (.long x)) => some (pc + 2, ls, .long x :: st)
    | _ => none
  | .aload_n k, st => match ls[(k : Nat)]? with
    | some (some (.ref x)) => some (pc + 1, ls, .ref x :: st)
    | some (some (.retAddr x)) => some (pc + 1, ls, .retAddr x :: st)
    | _ => none
  | .aload k, st => match ls[k]? with
    | some (some (.ref x)) => some (pc + 2, ls, .ref x :: st)
    | _ => none
  | .istore_n k, .int x :: st => if (k : Nat) < ls.length then some (pc + 1, xst1 ls k (.int x), st) else none
  | .istore k, .int x :: st => if k < ls.length then some (pc + 2, xst1 ls k (.int x), st) else none
  | .lstore_n k, .long x :: st => if (k : Nat) + 1 < ls.length then some (pc + 1, xst2 ls k (.long x), st) else none
  | .lstore k, .long x :: st => if k + 1 < ls.length then some (pc + 2, xst2 ls k (.long x), st) else none
  | .astore_n k, .ref x :: st => if (k : Nat) < ls.length then some (pc + 1, xst1 ls k (.ref x), st) else none
  | .astore k, .ref x :: st => if k < ls.length then some (pc + 2, xst1 ls k (.ref x), st) else none
  | .iinc k n, st => match ls[k]? with
    | some (some (.int x)) => some (pc + 3, xst1 ls k (.int (x + Int32.ofInt n)), st)
    | _ => none
  | .iadd, .int y :: .int x :: st => some (pc + 1, ls, .int (x + y) :: st)
  | .isub, .int y :: .int x :: st => some (pc + 1, ls, .int (x - y) :: st)
  | .imul, .int y :: .int x :: st => some (pc + 1, ls, .int (x * y) :: st)
  | .iand, .int y :: .int x :: st => some (pc + 1, ls, .int (x &&& y) :: st)
  | .ior, .int y :: .int x :: st => some (pc + 1, ls, .int (x ||| y) :: st)
  | .ixor, .int y :: .int x :: st => some (pc + 1, ls, .int (x ^^^ y) :: st)
  | .ineg, .int x :: st => some (pc + 1, ls, .int (-x) :: st)
  | .ishl, .int y :: .int x :: st => some (pc + 1, ls, .int (x <<< (y &&& 31)) :: st)
  | .ishr, .int y :: .int x :: st => some (pc + 1, ls, .int (x >>> (y &&& 31)) :: st)
  | .iushr, .int y :: .int x :: st => some (pc + 1, ls, .int ((x.toUInt32 >>> (y.toUInt32 &&& Int32.toUInt32 31)).toInt32) :: st)
  | .ladd, .long y :: .long x :: st => some (pc + 1, ls, .long (x + y) :: st)
  | .lsub, .long y :: .long x :: st => some (pc + 1, ls, .long (x - y) :: st)
  | .lmul, .long y :: .long x :: st => some (pc + 1, ls, .long (x * y) :: st)
  | .i2l, .int x :: st => some (pc + 1, ls, .long x.toInt64 :: st)
  | .l2i, .long x :: st => some (pc + 1, ls, .int x.toInt32 :: st)
  | .i2b, .int x :: st => some (pc + 1, ls, .int x.toInt8.toInt32 :: st)
  | .i2s, .int x :: st => some (pc + 1, ls, .int x.toInt16.toInt32 :: st)
  | .i2c, .int x :: st => some (pc + 1, ls, .int (x.toUInt32 % 65536).toInt32 :: st)
  | .dup, .int x :: st => some (pc + 1, ls, .int x :: .int x :: st)
  | .dup, .ref x :: st => some (pc + 1, ls, .ref x :: .ref x :: st)
  | .dup2, .int x :: .ref y :: st => some (pc + 1, ls, .int x :: .ref y :: .int x :: .ref y :: st)
  | .pop, .int _ :: st => some (pc + 1, ls, st)
  | .goto off, st => some (xgo pc off, ls, st)
  | .getstatic _, st => match rs with
    | 0 => some (pc + 3, ls, .int 1 :: st)
    | 1 => some (pc + 3, ls, .ref 30000 :: st)
    | 2 => some (pc + 3, ls, .retAddr 0 :: st)
    | _ => none
  | .ldc _, st => match rs with
    | 0 => match xCI.find? (fun q => Nat.beq q.1 wp) with
      | some q => some (pc + 2, ls, .int q.2 :: st)
      | none => none
    | k + 1 => if k < xSTR.length then some (pc + 2, ls, .ref (10000 + k) :: st) else none
  | .ldc_w _, st => match xCI.find? (fun q => Nat.beq q.1 wp) with
    | some q => some (pc + 3, ls, .int q.2 :: st)
    | none => none
  | .ldc2_w _, st => match xCL.find? (fun q => Nat.beq q.1 wp) with
    | some q => some (pc + 3, ls, .long q.2 :: st)
    | none => none
  | _, _ => none
/-- a world cell of a kind -/
def xisk (X : XM) (a kd : Nat) : Prop := a < X.1 ∧ (xkind a).1 = kd
/-- instructions of one step: numbers, branches, memory -/
def xs1 (S : XS) (kd : Nat) (i : Instr) (rs wp pc : Nat) (ls : XL) (st : List Value) (X : XM) : Option (Nat × XL × List Value × XM) := match i, st with
  | .ifCond cd off, .int x :: st => if xcond cd x 0 then some (xgo pc off, ls, st, X) else some (pc + 3, ls, st, X)
  | .if_icmp cd off, .int y :: .int x :: st => if xcond cd x y then some (xgo pc off, ls, st, X) else some (pc + 3, ls, st, X)
  | .tableswitch dflt lo hi offs, .int x :: st => if x.toInt < lo ∨ hi < x.toInt then some (xgo pc dflt, ls, st, X) else match offs[(x.toInt - lo).toNat]? with
    | some off => some (xgo pc off, ls, st, X)
    | none => none
  | .idiv, .int y :: .int x :: st => if y = 0 then none else some (pc + 1, ls, .int (x / y) :: st, X)
  | .irem, .int y :: .int x :: st => if y = 0 then none else some (pc + 1, ls, .int (x - x / y * y) :: st, X)
  | .ldiv, .long y :: .long x :: st => if y = 0 then none else some (pc + 1, ls, .long (x / y) :: st, X)
  | .lrem, .long y :: .long x :: st => if y = 0 then none else some (pc + 1, ls, .long (x - x / y * y) :: st, X)
  | .lcmp, .long y :: .long x :: st => some (pc + 1, ls, .int (lg_cmp x y) :: st, X)
  | .getfield _, .ref a :: st => if rs = 900 then (if 10000 ≤ a ∧ a < 10000 + xSTR.length then some (pc + 3, ls, .ref (a + 10000) :: st, X) else none)
    else if rs = 901 then (if 10000 ≤ a ∧ a < 10000 + xSTR.length then some (pc + 3, ls, .int 0 :: st, X) else none)
    else match xFT[rs]? with
      | some f => if a < X.1 ∧ (xkind a).1 = 200 + f.1 then (match xget X a f.1 f.2 with
        | some v => some (pc + 3, ls, v :: st, X)
        | none => none) else none
      | none => none
  | .putfield _, v :: .ref a :: st => match xFT[rs]? with
      | some f => if a < X.1 ∧ (xkind a).1 = 200 + f.1 ∧ ((xfk f.1 f.2).2 = false ∨ kd = 200 + f.1) then (match xput X a f.1 f.2 v with
        | some X' => some (pc + 3, ls, st, X')
        | none => none) else none
      | none => none
  | .iaload, .int j :: .ref a :: st => if a = 30000 then (if xinb j 6 then some (pc + 1, ls, .int (xabove.getD j.toNatClampNeg 0) :: st, X) else none)
    else if a = 40000 then (if xinb j S.1 then some (pc + 1, ls, .int (S.2 j.toNatClampNeg) :: st, X) else none)
    else if (a < X.1 ∧ (xkind a).1 = 0) ∧ xinb j (xkind a).2 then some (pc + 1, ls, .int (X.2.1 a j.toNatClampNeg) :: st, X) else none
  | .baload, .int j :: .ref a :: st => if (20000 ≤ a ∧ a < 20000 + xSTR.length) ∧ xinb j (xBYT.getD (a - 20000) []).length then some (pc + 1, ls, .int ((xBYT.getD (a - 20000) []).getD j.toNatClampNeg 0) :: st, X) else none
  | .aaload, .int j :: .ref a :: st => if (a < X.1 ∧ 100 ≤ (xkind a).1 ∧ (xkind a).1 < 200) ∧ xinb j (xkind a).2 then (match X.2.2.2 a j.toNatClampNeg with
    | some r => some (pc + 1, ls, .ref r :: st, X)
    | none => none) else none
  | .arraylength, .ref a :: st => if a = 40000 then some (pc + 1, ls, .int (Int32.ofNat S.1) :: st, X)
    else if 20000 ≤ a ∧ a < 20000 + xSTR.length then some (pc + 1, ls, .int (Int32.ofNat (xBYT.getD (a - 20000) []).length) :: st, X)
    else if a < X.1 ∧ (xkind a).1 < 200 then some (pc + 1, ls, .int (Int32.ofNat (xkind a).2) :: st, X) else none
  | .iastore, .int v :: .int j :: .ref a :: st => if (a < X.1 ∧ (xkind a).1 = 0) ∧ xinb j (xkind a).2 then some (pc + 1, ls, st, (X.1, xu X.2.1 a j.toNatClampNeg v, X.2.2.1, X.2.2.2)) else none
  | .aastore, .ref v :: .int j :: .ref a :: st => if (a < X.1 ∧ 100 ≤ (xkind a).1 ∧ (xkind a).1 < 200) ∧ xinb j (xkind a).2 ∧ v < X.1 ∧ (xkind v).1 = (xkind a).1 + 100 then some (pc + 1, ls, st, (X.1, X.2.1, X.2.2.1, xu X.2.2.2 a j.toNatClampNeg (some v))) else none
  | .newarray .int, .int n :: st => if xSH[X.1]? = some (0, n.toNatClampNeg) ∧ 0 ≤ n.toInt ∧ n.toInt < 100000 ∧ xoks X.1 st ls = true then some (pc + 2, ls, .ref X.1 :: st, (X.1 + 1, xur X.2.1 X.1 (fun _ => 0), X.2.2.1, X.2.2.2)) else none
  | .anewarray _, .int n :: st => if xSH[X.1]? = some (100 + rs, n.toNatClampNeg) ∧ 0 ≤ n.toInt ∧ n.toInt < 100000 ∧ rs < 9 ∧ xoks X.1 st ls = true then some (pc + 3, ls, .ref X.1 :: st, (X.1 + 1, X.2.1, X.2.2.1, xur X.2.2.2 X.1 (fun _ => none))) else none
  | .new _, st => if xSH[X.1]? = some (200 + rs, xnf rs) ∧ rs < 9 ∧ xoks X.1 st ls = true then some (pc + 3, ls, .ref X.1 :: st, (X.1 + 1, xur X.2.1 X.1 (fun _ => 0), xur X.2.2.1 X.1 (fun _ => 0), xur X.2.2.2 X.1 (fun _ => none))) else none
  | i, st => (xs0 i rs wp pc ls st).map (fun q => (q.1, q.2.1, q.2.2, X))
/-- what kind of instruction: 0 of one step, 1 an end, 2 a call -/
def xcl : Instr → Nat
  | .ireturn => 1
  | .lreturn => 1
  | .return_ => 1
  | .invokestatic _ => 2
  | .invokevirtual _ => 2
  | .invokespecial _ => 2
  | _ => 0
def xret (i : Instr) (ret : Option FieldType) (st : List Value) : Option (Option Value) := match i, st, ret with
  | .ireturn, [.int v], some ty => if narrow ty (.int v) = .int v then some (some (.int v)) else none
  | .lreturn, [.long v], some .long => some (some (.long v))
  | .return_, [], none => some none
  | _, _, _ => none
/-- the receiver of a call of a kind -/
def xrecv (X : XM) (kd : Nat) (v : Value) : Bool := match v with
  | .ref a => if kd = 150 then decide (10000 ≤ a ∧ a < 10000 + xSTR.length) else if 200 ≤ kd then true else decide (100 ≤ kd) && decide (a < X.1) && decide ((xkind a).1 = kd + 100)
  | _ => false
/-- how many values a call takes -/
def xnar (e : XMe) : Nat := if e.2.2.2.2.2.1 = 0 then e.2.2.2.2.2.2.1 else e.2.2.2.2.2.2.1 + 1
def xcnd (i : Instr) (e : XMe) (X : XM) (v : Value) : Bool := match i with
  | .invokestatic _ => decide (e.2.2.2.2.2.1 = 0)
  | .invokevirtual _ => decide (100 ≤ e.2.2.2.2.2.1) && decide (e.2.2.2.2.2.1 < 200) && xrecv X e.2.2.2.2.2.1 v
  | .invokespecial _ => decide (200 ≤ e.2.2.2.2.2.1) && xrecv X e.2.2.2.2.2.1 v
  | _ => false
def xinvc (i : Instr) (rs : Nat) (st : List Value) (X : XM) (e : XMe) : Bool :=
  decide (rs < 20000) && decide (xnar e ≤ st.length) && decide (((st.drop (xnar e)).map fun v => v.category).sum ≤ 8) && decide ((xlocs (st.take (xnar e)).reverse).length ≤ e.2.2.2.1) && xcnd i e X ((st.drop (xnar e - 1)).headD .null)
/-- which method, what it is given, what stays below -/
def xinv (i : Instr) (rs : Nat) (st : List Value) (X : XM) : Option (Nat × XMe × List Value × List Value) := match xme (rs % 10000) with
  | none => none
  | some e => if xinvc i rs st X e = true then some (rs % 10000, e, (st.take (xnar e)).reverse, st.drop (xnar e)) else none
/-- arraycopy of ints -/
def xcopy (st : List Value) (X : XM) : Option (List Value × XM) := match st with
  | .int n :: .int dp :: .ref a :: .int sp :: .ref b :: rest => if (a < X.1 ∧ (xkind a).1 = 0) ∧ (b < X.1 ∧ (xkind b).1 = 0) ∧ 0 ≤ sp.toInt ∧ 0 ≤ dp.toInt ∧ 0 ≤ n.toInt ∧ sp.toInt + n.toInt ≤ ((xkind b).2 : Int) ∧ dp.toInt + n.toInt ≤ ((xkind a).2 : Int) ∧ (rest.map fun v => v.category).sum ≤ 8 then
      some (rest, (X.1, xur X.2.1 a (va_cpy (X.2.1 b) (X.2.1 a) sp.toNatClampNeg dp.toNatClampNeg n.toNatClampNeg), X.2.2.1, X.2.2.2)) else none
  | _ => none
def xexec (S : XS) : Nat → Nat → Nat → Nat → XL → List Value → XM → Option (Option Value × XM)
  | 0, _, _, _, _, _, _ => none
  | n + 1, d, mi, pc, ls, st, X => match xme mi, xi mi pc with
    | some e, some (i, rs, wp) =>
      if xcl i = 0 then match xs1 S e.2.2.2.2.2.1 i rs wp pc ls st X with
        | some q => xexec S n d mi q.1 q.2.1 q.2.2.1 q.2.2.2
        | none => none
      else if xcl i = 1 then (xret i e.2.2.2.2.1 st).map (fun r => (r, X))
      else match d with
        | 0 => none
        | d' + 1 =>
          if rs = 8888 then (match st with
            | .ref _ :: rest => if (rest.map fun v => v.category).sum ≤ 8 then xexec S n (d' + 1) mi (pc + 3) ls rest X else none
            | _ => none)
          else if rs = 9999 then (match xcopy st X with
            | some q => xexec S n (d' + 1) mi (pc + 3) ls q.1 q.2
            | none => none)
          else if rs = 9997 then (match st with
            | .int y :: .int x :: rest => if (rest.map fun v => v.category).sum ≤ 8 then xexec S n (d' + 1) mi (pc + 3) ls (.int (if x < y then y else x) :: rest) X else none
            | _ => none)
          else if rs = 9998 then (match st with
            | .int y :: .int x :: rest => if (rest.map fun v => v.category).sum ≤ 8 then xexec S n (d' + 1) mi (pc + 3) ls (.int (if y < x then y else x) :: rest) X else none
            | _ => none)
          else match xinv i rs st X with
            | some (mj, e2, as, rest) => (match xexec S n d' mj 0 (xpad e2.2.2.2.1 (xlocs as)) [] X with
              | some (r, X1) => if X1.1 = X.1 ∨ xoks X.1 rest ls = true then xexec S n (d' + 1) mi (pc + 3) ls (r.toList ++ rest) X1 else none
              | none => none)
            | none => none
    | _, _ => none
