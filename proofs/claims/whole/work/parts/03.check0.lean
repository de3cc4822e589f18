/-! The tables of 02 are what the Statement's words say: a program that checks it. -/
def xme (mi : Nat) : Option XMe := (XT[mi]?).map Prod.fst
/-- an instruction's length -/
def xlen (i : Instr) (pc : Nat) : Nat := match i with
  | .bipush _ => 2
  | .sipush _ => 3
  | .iload _ => 2
  | .lload _ => 2
  | .aload _ => 2
  | .istore _ => 2
  | .lstore _ => 2
  | .astore _ => 2
  | .iinc _ _ => 3
  | .goto _ => 3
  | .getstatic _ => 3
  | .ldc _ => 2
  | .ldc_w _ => 3
  | .ldc2_w _ => 3
  | .ifCond _ _ => 3
  | .if_icmp _ _ => 3
  | .tableswitch _ _ _ offs => 1 + (3 - pc % 4) + 12 + 4 * offs.size
  | .getfield _ => 3
  | .putfield _ => 3
  | .newarray _ => 2
  | .anewarray _ => 3
  | .new _ => 3
  | .invokestatic _ => 3
  | .invokevirtual _ => 3
  | .invokespecial _ => 3
  | _ => 1
def xokF (own : String) (idx rs wp : Nat) (put : Bool) : Bool := match xFT[rs]? with
  | some f => match vwCl[f.1]? with
    | some C => decide (f.2 < C.2.2) && decide (lw_tbl[wp]? = some (.fieldLink own idx (C.2.1 f.2).1 (C.2.1 f.2).2.1 (C.2.1 f.2).2.2.1)) && (if put && (C.2.1 f.2).2.2.2 then decide ((C.2.1 f.2).1 = own) else true)
    | none => false
  | none => false
def xokI (own : String) (pc : Nat) (i : Instr) (rs wp : Nat) : Bool := match i with
  | .getfield idx => if rs = 900 then decide (lw_tbl[wp]? = some (.fieldLink own idx "java/lang/String" "value" "[B")) else if rs = 901 then decide (lw_tbl[wp]? = some (.fieldLink own idx "java/lang/String" "coder" "B")) else xokF own idx rs wp false
  | .putfield idx => xokF own idx rs wp true
  | .getstatic idx => match rs with
    | 0 => decide (lw_tbl[wp]? = some (.fieldLink own idx "java/lang/String" "COMPACT_STRINGS" "Z"))
    | 1 => decide (lw_tbl[wp]? = some (.fieldLink own idx "BetweenThisAndThat$Saying" "ABOVE" "[I"))
    | 2 => decide (lw_tbl[wp]? = some (.fieldLink own idx "jdk/internal/util/Preconditions" "SIOOBE_FORMATTER" "Ljava/util/function/BiFunction;"))
    | _ => decide (rs = 99999)
  | .invokestatic idx => if rs = 9999 then decide (lw_tbl[wp]? = some (.methodLink own idx arraycopyName)) else if rs = 9997 then decide (lw_tbl[wp]? = some (.methodLink own idx Lib.Math.max.name)) else if rs = 9998 then decide (lw_tbl[wp]? = some (.methodLink own idx Lib.Math.min.name)) else if rs = 99999 then true else match xme (rs % 10000) with
    | some e => decide (rs % 10000 ≠ 0) && (if rs < 10000 then decide (lw_tbl[wp]? = some (.methodLink own idx e.2.1)) else decide (Cond.methodLinkNest own idx e.2.1 "BetweenThisAndThat" ∈ xNEST))
    | none => false
  | .invokevirtual idx => match xme (rs % 10000) with
    | some e => decide (rs % 10000 ≠ 0) && (if rs < 10000 then decide (lw_tbl[wp]? = some (.methodLink own idx e.2.1)) else false)
    | none => false
  | .invokespecial idx => if rs = 8888 then decide (lw_tbl[wp]? = some (.methodLink own idx objectInit)) else match xme (rs % 10000) with
    | some e => decide (rs % 10000 ≠ 0) && (if rs < 10000 then decide (lw_tbl[wp]? = some (.methodLink own idx e.2.1)) else decide (Cond.methodLinkNest own idx e.2.1 "BetweenThisAndThat" ∈ xNEST))
    | none => false
  | .new idx => match vwCl[rs]? with
    | some C => decide (lw_tbl[wp]? = some (.classLink own idx C.1))
    | none => false
  | .anewarray idx => match vwCl[rs]? with
    | some C => decide (lw_tbl[wp]? = some (.classLink own idx C.1))
    | none => false
  | .ldc idx => match rs with
    | 0 => match xCI.find? (fun q => Nat.beq q.1 wp) with
      | some q => decide (lw_tbl[wp]? = some (.constant own idx q.2))
      | none => false
    | k + 1 => match xSTR[k]? with
      | some q => decide (q.1 = own ∧ q.2.1 = idx)
      | none => false
  | .ldc_w idx => match xCI.find? (fun q => Nat.beq q.1 wp) with
    | some q => decide (lw_tbl[wp]? = some (.constant own idx q.2))
    | none => false
  | .ldc2_w idx => match xCL.find? (fun q => Nat.beq q.1 wp) with
    | some q => decide (lw_tbl[wp]? = some (.constantLong own idx q.2))
    | none => false
  | .ifCond _ off => decide (0 ≤ (pc : Int) + off)
  | .if_icmp _ off => decide (0 ≤ (pc : Int) + off)
  | .goto off => decide (0 ≤ (pc : Int) + off)
  | .tableswitch d _ _ offs => decide (0 ≤ (pc : Int) + d) && offs.toList.all (fun o => decide (0 ≤ (pc : Int) + o))
  | _ => true
def xokE (e : XMe) (q : XIn) : Bool := decide (decode e.2.2.1 q.1 = .ok (q.2.1, xlen q.2.1 q.1)) && xokI e.1 q.1 q.2.1 q.2.2.1 q.2.2.2
/-- a method's own words, but for its code -/
def xokM (e : XMe) : Bool := match e with
  | (own, y, _, maxL, ret, kd, n, (_, wk, ws, wi)) =>
    decide (y.cls = own) && plainName own && decide (own ≠ "java/lang/invoke/MethodHandle") && decide (own ≠ "java/lang/invoke/VarHandle") && decide (maxL ≤ 41) && decide ((parseMethodDescriptor y.desc).map (fun d => d.parameters.length) = some n) && decide (lw_tbl[wi]? = some (.initialized own)) &&
    (if kd = 0 then decide (lw_tbl[wk]? = some (.static y)) else decide (lw_tbl[wk]? = some (.instanceMethod y)) && (if kd < 200 then decide (lw_tbl[ws]? = some (.selects own y y)) && (if kd = 150 then decide (own = "java/lang/String") else match vwCl[kd - 100]? with
      | some C => decide (C.1 = own)
      | none => false) else decide (y.name = "<init>") && decide (ret = none) && (match vwCl[kd - 200]? with
      | some C => decide (C.1 = own)
      | none => false)))
