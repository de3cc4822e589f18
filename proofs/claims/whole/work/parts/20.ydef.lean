/-! The same machine over integers: every int of ours is Int32.ofInt of one; the memory behind the constructors (94 cells, references as they are then). -/
def xRFL : List (List (Option Nat)) := [[some 1, some 13, none, some 25, some 26, none, some 27, some 32, some 33, some 39, some 40, none, none], [some 2, none, none, none, none], [some 3, some 4, some 5, some 6, some 7, some 8, some 9, some 10, some 11, some 12], [none, none, none, none, none], [none, none, none, none, none], [none, none, none, none, none], [none, none, none, none, none], [none, none, none, none, none], [none, none, none, none, none], [none, none, none, none, none], [none, none, none, none, none], [none, none, none, none, none], [none, none, none, none, none], [some 14, none, none, none, none], [some 15, some 16, some 17, some 18, some 19, some 20, some 21, some 22, some 23, some 24], [none, none, none, none, none], [none, none, none, none, none], [none, none, none, none, none], [none, none, none, none, none], [none, none, none, none, none], [none, none, none, none, none], [none, none, none, none, none], [none, none, none, none, none], [none, none, none, none, none], [none, none, none, none, none], [some 41, some 42, some 43, some 44, some 45, some 46, some 47, some 48], [some 49, some 52, some 55, some 58, some 61, some 64], [some 28, none, some 29, none, none, none, none, none], [], [some 30, none, some 31, none], [], [], [some 67, some 69, some 71, some 73], [some 34, some 35, some 36, some 37, some 38, none], [], [], [], [], [], [], [], [none, none, none, none], [none, none, none, none], [none, none, none, none], [none, none, none, none], [none, none, none, none], [none, none, none, none], [none, none, none, none], [none, none, none, none], [some 50, none, some 51, none], [], [], [some 53, none, some 54, none], [], [], [some 56, none, some 57, none], [], [], [some 59, none, some 60, none], [], [], [some 62, none, some 63, none], [], [], [some 65, none, some 66, none], [], [], [some 68, none, none], [], [some 70, none, none], [], [some 72, none, none], [], [some 74, none, none], [], [none, some 76, none, some 77, none, some 78, none, some 79, some 80, none, none, none, none, none, none, none, some 81, some 82, some 83, some 84, some 85, none, none, none, none, some 86, some 87, none, none, none, some 88, some 89, some 90, some 91, some 92, none, none, some 93], [], [], [], [], [], [], [], [], [], [], [], [], [], [], [], [], [], []]
def xRF (c k : Nat) : Option Nat := (xRFL.getD c []).getD k none
/-- int, long, reference -/
abbrev YV : Type := Int ⊕ Int ⊕ Int
abbrev YL : Type := List (Option YV)
abbrev YM : Type := Int → Int → Int
def yv : YV → Value
  | .inl a => .int (Int32.ofInt a)
  | .inr (.inl a) => .long (Int64.ofInt a)
  | .inr (.inr a) => .ref a.toNat
abbrev yi (a : Int) : YV := .inl a
abbrev yj (a : Int) : YV := .inr (.inl a)
abbrev yr (a : Int) : YV := .inr (.inr a)
def yo (ls : YL) : XL := ls.map (Option.map yv)
def ym (M N : YM) : XM := (94, fun c k => Int32.ofInt (M c k), fun c k => Int64.ofInt (N c k), xRF)
/-- one place of the memory -/
def yu (M : YM) (c k v : Int) : YM := fun c' k' => if c' = c ∧ k' = k then v else M c' k'
/-- a cell's kind and size -/
def yk (c : Int) : Nat × Nat := if 0 ≤ c then xkind c.toNat else (99, 0)
def ycat2 : Option YV → Bool
  | some (.inr (.inl _)) => true
  | _ => false
def yst1 (ls : YL) (i : Nat) (v : YV) : YL := (if ycat2 (ls.getD (i - 1) none) then ls.set (i - 1) none else ls).set i (some v)
def yst2 (ls : YL) (i : Nat) (v : YV) : YL := ((if ycat2 (ls.getD (i - 1) none) then ls.set (i - 1) none else ls).set i (some v)).set (i + 1) none
def ylocs : List YV → YL
  | [] => []
  | .inr (.inl a) :: r => some (.inr (.inl a)) :: none :: ylocs r
  | v :: r => some v :: ylocs r
def ypad (n : Nat) (l : YL) : YL := l ++ List.replicate (n - l.length) none
/-- steps that ask nothing -/
def ys (i : Instr) (rs wp pc : Nat) (ls : YL) (st : List YV) (M N : YM) : Option (Nat × YL × List YV × YM × YM) := match i, st with
  | .iconst n, st => some (pc + 1, ls, .inl n :: st, M, N)
  | .bipush n, st => if -128 ≤ n ∧ n < 128 then some (pc + 2, ls, .inl n :: st, M, N) else none
  | .sipush n, st => if -32768 ≤ n ∧ n < 32768 then some (pc + 3, ls, .inl n :: st, M, N) else none
  | .lconst n, st => some (pc + 1, ls, .inr (.inl ((n : Nat) : Int)) :: st, M, N)
  | .iload_n k, st => match ls[(k : Nat)]? with
    | some (some (.inl x)) => some (pc + 1, ls, .inl x :: st, M, N)
    | _ => none
  | .iload k, st => match ls[k]? with
    | some (some (.inl x)) => some (pc + 2, ls, .inl x :: st, M, N)
    | _ => none
  | .lload_n k, st => match ls[(k : Nat)]? with
    | some (some (.inr (.inl x))) => some (pc + 1, ls, .inr (.inl x) :: st, M, N)
    | _ => none
  | .lload k, st => match ls[k]? with
    | some (some (.inr (.inl x))) => some (pc + 2, ls, .inr (.inl x) :: st, M, N)
    | _ => none
  | .aload_n k, st => match ls[(k : Nat)]? with
    | some (some (.inr (.inr x))) => some (pc + 1, ls, .inr (.inr x) :: st, M, N)
    | _ => none
  | .aload k, st => match ls[k]? with
    | some (some (.inr (.inr x))) => some (pc + 2, ls, .inr (.inr x) :: st, M, N)
    | _ => none
  | .istore_n k, .inl x :: st => if (k : Nat) < ls.length then some (pc + 1, yst1 ls k (.inl x), st, M, N) else none
  | .istore k, .inl x :: st => if k < ls.length then some (pc + 2, yst1 ls k (.inl x), st, M, N) else none
  | .lstore_n k, .inr (.inl x) :: st => if (k : Nat) + 1 < ls.length then some (pc + 1, yst2 ls k (.inr (.inl x)), st, M, N) else none
  | .lstore k, .inr (.inl x) :: st => if k + 1 < ls.length then some (pc + 2, yst2 ls k (.inr (.inl x)), st, M, N) else none
  | .astore_n k, .inr (.inr x) :: st => if (k : Nat) < ls.length then some (pc + 1, yst1 ls k (.inr (.inr x)), st, M, N) else none
  | .astore k, .inr (.inr x) :: st => if k < ls.length then some (pc + 2, yst1 ls k (.inr (.inr x)), st, M, N) else none
  | .iinc k n, st => match ls[k]? with
    | some (some (.inl x)) => some (pc + 3, yst1 ls k (.inl (x + n)), st, M, N)
    | _ => none
  | .iadd, .inl y :: .inl x :: st => some (pc + 1, ls, .inl (x + y) :: st, M, N)
  | .isub, .inl y :: .inl x :: st => some (pc + 1, ls, .inl (x - y) :: st, M, N)
  | .imul, .inl y :: .inl x :: st => some (pc + 1, ls, .inl (x * y) :: st, M, N)
  | .ineg, .inl x :: st => some (pc + 1, ls, .inl (-x) :: st, M, N)
  | .iand, .inl y :: .inl x :: st => some (pc + 1, ls, .inl (Int32.ofInt x &&& Int32.ofInt y).toInt :: st, M, N)
  | .ior, .inl y :: .inl x :: st => some (pc + 1, ls, .inl (Int32.ofInt x ||| Int32.ofInt y).toInt :: st, M, N)
  | .ixor, .inl y :: .inl x :: st => some (pc + 1, ls, .inl (Int32.ofInt x ^^^ Int32.ofInt y).toInt :: st, M, N)
  | .ishl, .inl y :: .inl x :: st => some (pc + 1, ls, .inl (Int32.ofInt x <<< (Int32.ofInt y &&& 31)).toInt :: st, M, N)
  | .ishr, .inl y :: .inl x :: st => some (pc + 1, ls, .inl (Int32.ofInt x >>> (Int32.ofInt y &&& 31)).toInt :: st, M, N)
  | .ladd, .inr (.inl y) :: .inr (.inl x) :: st => some (pc + 1, ls, .inr (.inl (x + y)) :: st, M, N)
  | .lsub, .inr (.inl y) :: .inr (.inl x) :: st => some (pc + 1, ls, .inr (.inl (x - y)) :: st, M, N)
  | .lmul, .inr (.inl y) :: .inr (.inl x) :: st => some (pc + 1, ls, .inr (.inl (x * y)) :: st, M, N)
  | .l2i, .inr (.inl x) :: st => some (pc + 1, ls, .inl x :: st, M, N)
  | .i2b, .inl x :: st => some (pc + 1, ls, .inl (Int32.ofInt x).toInt8.toInt :: st, M, N)
  | .i2s, .inl x :: st => some (pc + 1, ls, .inl (Int32.ofInt x).toInt16.toInt :: st, M, N)
  | .dup, .inl x :: st => some (pc + 1, ls, .inl x :: .inl x :: st, M, N)
  | .dup, .inr (.inr x) :: st => some (pc + 1, ls, .inr (.inr x) :: .inr (.inr x) :: st, M, N)
  | .dup2, .inl x :: .inr (.inr y) :: st => some (pc + 1, ls, .inl x :: .inr (.inr y) :: .inl x :: .inr (.inr y) :: st, M, N)
  | .pop, .inl _ :: st => some (pc + 1, ls, st, M, N)
  | .goto off, st => some (xgo pc off, ls, st, M, N)
  | .getstatic _, st => match rs with
    | 1 => some (pc + 3, ls, .inr (.inr 30000) :: st, M, N)
    | _ => none
  | .ldc _, st => match rs with
    | 0 => match xCI.find? (fun q => Nat.beq q.1 wp) with
      | some q => some (pc + 2, ls, .inl q.2.toInt :: st, M, N)
      | none => none
    | k + 1 => if k < xSTR.length then some (pc + 2, ls, .inr (.inr ((10000 + k : Nat) : Int)) :: st, M, N) else none
  | .ldc_w _, st => match xCI.find? (fun q => Nat.beq q.1 wp) with
    | some q => some (pc + 3, ls, .inl q.2.toInt :: st, M, N)
    | none => none
  | .ldc2_w _, st => match xCL.find? (fun q => Nat.beq q.1 wp) with
    | some q => some (pc + 3, ls, .inr (.inl q.2.toInt) :: st, M, N)
    | none => none
  | .getfield _, .inr (.inr a) :: st => if rs = 900 ∨ rs = 901 then none else match xFT[rs]? with
    | some f => if 0 ≤ a ∧ a < 94 ∧ (yk a).1 = 200 + f.1 then (match (xfk f.1 f.2).1 with
      | 0 => some (pc + 3, ls, .inl (M a f.2) :: st, M, N)
      | 3 => some (pc + 3, ls, .inl (M a f.2) :: st, M, N)
      | 1 => some (pc + 3, ls, .inr (.inl (N a f.2)) :: st, M, N)
      | 2 => match xRF a.toNat f.2 with
        | some r => some (pc + 3, ls, .inr (.inr (r : Int)) :: st, M, N)
        | none => none
      | _ => none) else none
    | none => none
  | .putfield _, .inl v :: .inr (.inr a) :: st => match xFT[rs]? with
    | some f => if 0 ≤ a ∧ a < 94 ∧ (yk a).1 = 200 + f.1 ∧ xfk f.1 f.2 = (0, false) then some (pc + 3, ls, st, yu M a f.2 v, N) else none
    | none => none
  | .putfield _, .inr (.inl v) :: .inr (.inr a) :: st => match xFT[rs]? with
    | some f => if 0 ≤ a ∧ a < 94 ∧ (yk a).1 = 200 + f.1 ∧ xfk f.1 f.2 = (1, false) then some (pc + 3, ls, st, M, yu N a f.2 v) else none
    | none => none
  | _, _ => none
def yrun (mi : Nat) : Nat → Nat → YL → List YV → YM → YM → Option (Nat × YL × List YV × YM × YM)
  | 0, pc, ls, st, M, N => some (pc, ls, st, M, N)
  | k + 1, pc, ls, st, M, N => match xi mi pc with
    | some (i, rs, wp) => match ys i rs wp pc ls st M N with
      | some (pc', ls', st', M', N') => yrun mi k pc' ls' st' M' N'
      | none => none
    | none => none
/-- from here the method comes to its end, with Q -/
def ry (S : XS) (d mi pc : Nat) (ls : YL) (st : List YV) (M N : YM) (Q : Option YV → YM → YM → Prop) : Prop :=
  ∃ (n : Nat) (r : Option YV) (M' N' : YM), xexec S n d mi pc (yo ls) (st.map yv) (ym M N) = some (r.map yv, ym M' N') ∧ Q r M' N'
/-- a method, given values, comes to its end, with Q -/
def rm (S : XS) (d mj : Nat) (as : List YV) (M N : YM) (Q : Option YV → YM → YM → Prop) : Prop :=
  ∃ e : XMe, xme mj = some e ∧ (ylocs as).length ≤ e.2.2.2.1 ∧ ry S d mj 0 (ypad e.2.2.2.1 (ylocs as)) [] M N Q
