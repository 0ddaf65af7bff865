/-! What a row of the tables must be: the check, as functions. -/
def zlen (ins : Instr) : Nat := match ins with
  | .bipush _ => 2
  | .iload _ => 2
  | .istore _ => 2
  | .lload _ => 2
  | .lstore _ => 2
  | .aload _ => 2
  | .astore _ => 2
  | .newarray _ => 2
  | .ldc _ => 2
  | .sipush _ => 3
  | .iinc _ _ => 3
  | .goto _ => 3
  | .if_icmp _ _ => 3
  | .ifCond _ _ => 3
  | .getfield _ => 3
  | .putfield _ => 3
  | .new _ => 3
  | .invokevirtual _ => 3
  | .invokestatic _ => 3
  | .invokespecial _ => 3
  | .ldc_w _ => 3
  | .ldc2_w _ => 3
  | .multianewarray _ _ => 4
  | _ => 1
def zrng (ins : Instr) (pc : Nat) : Bool := match ins with
  | .bipush n => decide (-128 ≤ n ∧ n ≤ 127)
  | .sipush n => decide (-32768 ≤ n ∧ n ≤ 32767)
  | .goto o => decide (0 ≤ (pc : Int) + o)
  | .if_icmp _ o => decide (0 ≤ (pc : Int) + o)
  | .ifCond _ o => decide (0 ≤ (pc : Int) + o)
  | .tableswitch d lo hi offs => decide (0 ≤ (pc : Int) + d ∧ hi - lo + 1 = offs.size ∧ ∀ o ∈ offs.toList, 0 ≤ (pc : Int) + o)
  | _ => true
def zstrs : List String := ["ring", "heavy", "stiff", "holds", "fit", "play"]
def zsB : List (List Int32) := [[114, 105, 110, 103], [104, 101, 97, 118, 121], [115, 116, 105, 102, 102], [104, 111, 108, 100, 115], [102, 105, 116], [112, 108, 97, 121]]
def zsN : List Nat := [4, 5, 5, 5, 3, 4]
def zsK : List Nat := [45, 51, 57, 62, 71, 76]
/-- the class facts and the words that are not carried by the tables -/
def zNest : List Cond := [.methodLinkNest "WheelStore" 27 ⟨"WheelStore$Tape", "<init>", "()V"⟩ "WheelStore", .methodLinkNest "WheelStore$Rings" 63 ⟨"WheelStore", "within", "(III)Z"⟩ "WheelStore", .methodLinkNest "WheelStore$Game" 36 ⟨"WheelStore", "within", "(III)Z"⟩ "WheelStore", .methodLinkNest "WheelStore$Game" 111 ⟨"WheelStore", "chargesOf", "(III)I"⟩ "WheelStore"]
def zTb : List Cond := lw_tbl.filter goodWord
def zq (q : Int) : Option Cond := match lw_tbl[q.toNat]? with
  | some c => if goodWord c = true then some c else none
  | none => none
def zrefT (t : FieldType) : Bool := match t with
  | .object _ => true
  | .array _ => true
  | _ => false
def zokTy (ty : Int) (t : FieldType) : Bool := decide (ty = 0 ∧ t = .int) || (decide (ty = 3 ∧ t = .long) || (decide (ty = 4) && zrefT t))
/-- the pool as the tables have it -/
def zokM (own : String) (ini : Bool) (ins : Instr) (aux : List Int) : Bool := match ins with
  | .getfield idx => match aux with
    | [q, c, j, ty] => match vwCl[c.toNat]? with
      | some r => decide (zq q = some (.fieldLink own idx (r.2.1 j.toNat).1 (r.2.1 j.toNat).2.1 (r.2.1 j.toNat).2.2.1)) && zokTy ty (zty c.toNat j.toNat)
      | none => false
    | _ => false
  | .putfield idx => match aux with
    | [q, c, j, ty] => match vwCl[c.toNat]? with
      | some r => decide (zq q = some (.fieldLink own idx (r.2.1 j.toNat).1 (r.2.1 j.toNat).2.1 (r.2.1 j.toNat).2.2.1)) && (zokTy ty (zty c.toNat j.toNat) && (decide ((r.2.1 j.toNat).2.2.2 = false) || (ini && decide ((r.2.1 j.toNat).1 = own))))
      | none => false
    | _ => false
  | .new idx => match aux with
    | [q1, q2, q3, c, n] => match vwCl[c.toNat]? with
      | some r => decide (zq q1 = some (.classLink own idx r.1)) && (decide (zq q2 = some (.instantiable r.1 r.2.2)) && (decide (zq q3 = some (.initialized r.1)) && decide (n.toNat = r.2.2)))
      | none => false
    | _ => false
  | .newarray t => match aux with
    | [q] => decide (zq q = some (.arrayClass (newarray.typeOf t))) && decide (zatype t ≠ 9)
    | _ => false
  | .ldc idx => match aux with
    | [q, v] => decide (zq q = some (.constant own idx (Int32.ofInt v)))
    | [q, k, _] => decide (2 ≤ k ∧ k < 8 ∧ own = "WheelStore$StackReader" ∧ idx = zsK.getD (k.toNat - 2) 0)
    | _ => false
  | .ldc_w idx => match aux with
    | [q, v] => decide (zq q = some (.constant own idx (Int32.ofInt v)))
    | _ => false
  | .ldc2_w idx => match aux with
    | [q, v] => decide (zq q = some (.constantLong own idx (Int64.ofInt v)))
    | _ => false
  | .multianewarray idx dm => match aux with
    | [q, t] => decide (dm = 2) && (decide (t = 4 ∧ zq q = some (.classLink own idx ("[" ++ (FieldType.array .int).toString))) || decide (t = 5 ∧ zq q = some (.classLink own idx ("[" ++ (FieldType.array .long).toString))))
    | _ => false
  | _ => true
def zretB (ins : Instr) (ret : Option FieldType) : Bool := match ins with
  | .ireturn => decide (ret = some .int) || decide (ret = some .boolean)
  | .lreturn => decide (ret = some .long)
  | .return_ => decide (ret = none)
  | _ => true
def zpar (y : MethodName) : Option Nat := (parseMethodDescriptor y.desc).map fun d => d.parameters.length
def zokC (T : Nat → zX) (N : Nat) (own : String) (ins : Instr) (aux : List Int) : Bool := match ins with
  | .invokestatic idx => match aux with
    | [y, n, _, nest, q1, q2, _, q4] => decide (0 ≤ y ∧ y.toNat < N) && ((if nest = 0 then decide (zq q1 = some (.methodLink own idx (T y.toNat).1)) else decide (Cond.methodLinkNest own idx (T y.toNat).1 "WheelStore" ∈ zNest)) && (decide (zq q2 = some (.static (T y.toNat).1)) && (decide (zq q4 = some (.initialized (T y.toNat).1.cls)) && decide (zpar (T y.toNat).1 = some n.toNat))))
    | [y, q1, q2, q3, q4] => decide (y = -4 ∧ zq q1 = some (.methodLink own idx Lib.Math.min.name) ∧ zq q2 = some (.static Lib.Math.min.name) ∧ zq q3 = some (.initialized "java/lang/Math") ∧ zq q4 = some (.code Lib.Math.min.name Lib.Math.min.code 2 (some .int))) || decide (y = -5 ∧ zq q1 = some (.methodLink own idx Lib.Math.max.name) ∧ zq q2 = some (.static Lib.Math.max.name) ∧ zq q3 = some (.initialized "java/lang/Math") ∧ zq q4 = some (.code Lib.Math.max.name Lib.Math.max.code 2 (some .int))) || decide (y = -6 ∧ zq q1 = some (.methodLink own idx Lib.Math.abs.name) ∧ zq q2 = some (.static Lib.Math.abs.name) ∧ zq q3 = some (.initialized "java/lang/Math") ∧ zq q4 = some (.code Lib.Math.abs.name Lib.Math.abs.code 1 (some .int))) || decide (y = -7 ∧ zq q1 = some (.methodLink own idx Lib.MathLoose.abs_long.x) ∧ zq q2 = some (.static Lib.MathLoose.abs_long.x) ∧ zq q3 = some (.initialized "java/lang/Math") ∧ zq q4 = some (.code Lib.MathLoose.abs_long.x Lib.MathLoose.abs_long.code 2 (some .long)))
    | _ => false
  | .invokevirtual idx => match aux with
    | [y, n, c, _, q1, q2, q3, q4] => decide (0 ≤ y ∧ y.toNat < N) && (decide (zq q1 = some (.methodLink own idx (T y.toNat).1)) && (decide (zq q2 = some (.instanceMethod (T y.toNat).1)) && (decide (zq q3 = some (.selects (T y.toNat).1.cls (T y.toNat).1 (T y.toNat).1)) && (decide (zq q4 = some (.initialized (T y.toNat).1.cls)) && (decide ((vwCl[c.toNat]?).map (fun r => r.1) = some (T y.toNat).1.cls) && decide ((zpar (T y.toNat).1).map (fun k => k + 1) = some n.toNat))))))
    | [y, q] => (decide (y = -2) && decide (zq q = some (.methodLink own idx ⟨"java/lang/String", "length", "()I"⟩))) || (decide (y = -3) && decide (zq q = some (.methodLink own idx ⟨"java/lang/String", "charAt", "(I)C"⟩)))
    | _ => false
  | .invokespecial idx => match aux with
    | [y, n, c, nest, q1, q2, _, q4] => decide (0 ≤ y ∧ y.toNat < N) && ((if nest = 0 then decide (zq q1 = some (.methodLink own idx (T y.toNat).1)) else decide (Cond.methodLinkNest own idx (T y.toNat).1 "WheelStore" ∈ zNest)) && (decide (zq q2 = some (.instanceMethod (T y.toNat).1)) && (decide ((T y.toNat).1.name = "<init>" ∧ (T y.toNat).2.2.2.1 = none) && (decide (zq q4 = some (.initialized (T y.toNat).1.cls)) && (decide ((vwCl[c.toNat]?).map (fun r => r.1) = some (T y.toNat).1.cls) && decide ((zpar (T y.toNat).1).map (fun k => k + 1) = some n.toNat))))))
    | [y, q1, q2, q3] => decide (y = -1) && (decide (zq q1 = some (.methodLink own idx Lib.objectInit)) && (decide (zq q2 = some (.instanceMethod Lib.objectInit)) && decide (zq q3 = some (.code Lib.objectInit ⟨#[0xb1]⟩ 1 none))))
    | _ => false
  | _ => true
def zisSw (ins : Instr) : Bool := match ins with
  | .tableswitch _ _ _ _ => true
  | _ => false
/-- a row of a method's list is right -/
def zokE (T : Nat → zX) (N : Nat) (r : zX) (e : zE) : Bool :=
  decide (decode r.2.1 e.1 = .ok (e.2.1, e.2.2.1)) && ((decide (e.2.2.1 = zlen e.2.1) || zisSw e.2.1) && (zrng e.2.1 e.1 && (zokM r.1.cls (decide (r.1.name = "<init>")) e.2.1 e.2.2.2 && (zokC T N r.1.cls e.2.1 e.2.2.2 && zretB e.2.1 r.2.2.2.1))))
/-- a method that may be called -/
def zokX (r : zX) : Bool := decide (plainName r.1.cls = true ∧ r.1.cls ≠ "java/lang/invoke/MethodHandle" ∧ r.1.cls ≠ "java/lang/invoke/VarHandle") && (decide (zq r.2.2.2.2.1 = some (.code r.1 r.2.1 r.2.2.1 r.2.2.2.1)) && decide (r.2.2.1 ≤ 60))
