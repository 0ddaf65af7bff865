/-! A small machine of our own: values, one memory of numbers, shapes of objects; step, run, and the triple zF. -/
abbrev zV : Type := Int ⊕ Int ⊕ Nat ⊕ Unit
def zi (x : Int) : zV := .inl x
def zl (x : Int) : zV := .inr (.inl x)
def zr (k : Nat) : zV := .inr (.inr (.inl k))
def zt : zV := .inr (.inr (.inr ()))
abbrev zM : Type := Nat → Nat → Int
abbrev zSh : Type := Nat × Nat × Nat
abbrev zW : Type := List zSh × (Nat → Nat → Nat)
def zu {α : Type} (M : Nat → Nat → α) (k j : Nat) (v : α) : Nat → Nat → α := fun a => if a = k then (fun b => if b = j then v else M k b) else M a
def zo {α : Type} (M : Nat → Nat → α) (k : Nat) (f : Nat → α) : Nat → Nat → α := fun a => if a = k then f else M a
def z32 (x : Int) : Int := (x + 2147483648) % 4294967296 - 2147483648
def z64 (x : Int) : Int := (x + 9223372036854775808) % 18446744073709551616 - 9223372036854775808
def z8 (x : Int) : Int := (x + 128) % 256 - 128
def zgetS : List zSh → Nat → zSh
  | [], _ => (9, 0, 0)
  | a :: _, 0 => a
  | _ :: l, n + 1 => zgetS l n
def zsh (w : zW) (k : Nat) : zSh := zgetS w.1 k
def zget : List zV → Nat → zV
  | [], _ => zt
  | a :: _, 0 => a
  | _ :: l, n + 1 => zget l n
def zput : List zV → Nat → zV → List zV
  | [], _, _ => []
  | _ :: l, 0, v => v :: l
  | a :: l, n + 1, v => a :: zput l n v
def znl (v : zV) : Bool := match v with
  | .inr (.inl _) => false
  | _ => true
def zprev (ls : List zV) (i : Nat) : zV := match i with
  | 0 => zt
  | n + 1 => zget ls n
def zcat (v : zV) : Nat := match v with
  | .inr (.inl _) => 2
  | _ => 1
def zwd : List zV → Nat
  | [] => 0
  | v :: l => zcat v + zwd l
def zlay : List zV → List zV
  | [] => []
  | .inr (.inl x) :: l => zl x :: zt :: zlay l
  | v :: l => v :: zlay l
def zpad : Nat → List zV → List zV
  | n, [] => List.replicate n zt
  | 0, l => l
  | n + 1, a :: l => a :: zpad n l
-- arithmetic
def zdiv (a b : Int) : Int := Int.tdiv (z32 a) (z32 b)
def zrem (a b : Int) : Int := Int.tmod (z32 a) (z32 b)
def zldiv (a b : Int) : Int := Int.tdiv (z64 a) (z64 b)
def zlrem (a b : Int) : Int := Int.tmod (z64 a) (z64 b)
def zand (a b : Int) : Int := (Int32.ofInt a &&& Int32.ofInt b).toInt
def zor (a b : Int) : Int := (Int32.ofInt a ||| Int32.ofInt b).toInt
def zxor (a b : Int) : Int := (Int32.ofInt a ^^^ Int32.ofInt b).toInt
def zshl (a b : Int) : Int := (Int32.ofInt a <<< (Int32.ofInt b &&& 31)).toInt
def zshr (a b : Int) : Int := (Int32.ofInt a >>> (Int32.ofInt b &&& 31)).toInt
def zushr (a b : Int) : Int := ((Int32.ofInt a).toUInt32 >>> ((Int32.ofInt b).toUInt32 &&& Int32.toUInt32 31)).toInt32.toInt
def zlshl (a b : Int) : Int := (Int64.ofInt a <<< ((Int32.ofInt b).toInt64 &&& 63)).toInt
def zlor (a b : Int) : Int := (Int64.ofInt a ||| Int64.ofInt b).toInt
def zlcmp (a b : Int) : Int := if z64 a < z64 b then -1 else if z64 a = z64 b then 0 else 1
def zb2 (f : Int → Int → Int) (st : List zV) : Option (List zV) := match st with
  | .inl b :: .inl a :: t => some (zi (f a b) :: t)
  | _ => none
def zb2d (f : Int → Int → Int) (st : List zV) : Option (List zV) := match st with
  | .inl b :: .inl a :: t => if z32 b = 0 then none else some (zi (f a b) :: t)
  | _ => none
def zB2 (f : Int → Int → Int) (st : List zV) : Option (List zV) := match st with
  | .inr (.inl b) :: .inr (.inl a) :: t => some (zl (f a b) :: t)
  | _ => none
def zB2d (f : Int → Int → Int) (st : List zV) : Option (List zV) := match st with
  | .inr (.inl b) :: .inr (.inl a) :: t => if z64 b = 0 then none else some (zl (f a b) :: t)
  | _ => none
def zi1 (f : Int → zV) (st : List zV) : Option (List zV) := match st with
  | .inl a :: t => some (f a :: t)
  | _ => none
/-- what works on the stack alone -/
def zsStk (ins : Instr) (st : List zV) : Option (List zV) := match ins with
  | .iconst n => some (zi n :: st)
  | .bipush n => some (zi n :: st)
  | .sipush n => some (zi n :: st)
  | .lconst k => some (zl (k : Nat) :: st)
  | .iadd => zb2 (fun a b => a + b) st
  | .isub => zb2 (fun a b => a - b) st
  | .imul => zb2 (fun a b => a * b) st
  | .idiv => zb2d zdiv st
  | .irem => zb2d zrem st
  | .iand => zb2 zand st
  | .ior => zb2 zor st
  | .ixor => zb2 zxor st
  | .ishl => zb2 zshl st
  | .ishr => zb2 zshr st
  | .iushr => zb2 zushr st
  | .ineg => zi1 (fun a => zi (-a)) st
  | .i2l => zi1 (fun a => zl (z32 a)) st
  | .i2b => zi1 (fun a => zi (z8 a)) st
  | .ladd => zB2 (fun a b => a + b) st
  | .lsub => zB2 (fun a b => a - b) st
  | .lmul => zB2 (fun a b => a * b) st
  | .ldiv => zB2d zldiv st
  | .lrem => zB2d zlrem st
  | .lor => zB2 zlor st
  | .lneg => match st with
    | .inr (.inl a) :: t => some (zl (-a) :: t)
    | _ => none
  | .lshl => match st with
    | .inl b :: .inr (.inl a) :: t => some (zl (zlshl a b) :: t)
    | _ => none
  | .lcmp => match st with
    | .inr (.inl b) :: .inr (.inl a) :: t => some (zi (zlcmp a b) :: t)
    | _ => none
  | .dup => match st with
    | .inl a :: t => some (zi a :: zi a :: t)
    | .inr (.inr (.inl k)) :: t => some (zr k :: zr k :: t)
    | _ => none
  | .dup2 => match st with
    | .inl a :: .inr (.inr (.inl k)) :: t => some (zi a :: zr k :: zi a :: zr k :: t)
    | _ => none
  | .pop => match st with
    | .inl _ :: t => some t
    | .inr (.inr (.inl _)) :: t => some t
    | _ => none
  | _ => none
def zldI (ls : List zV) (i : Nat) (st : List zV) : Option (List zV × List zV) := match zget ls i with
  | .inl x => some (ls, zi x :: st)
  | _ => none
def zldL (ls : List zV) (i : Nat) (st : List zV) : Option (List zV × List zV) := match zget ls i with
  | .inr (.inl x) => some (ls, zl x :: st)
  | _ => none
def zldA (ls : List zV) (i : Nat) (st : List zV) : Option (List zV × List zV) := match zget ls i with
  | .inr (.inr (.inl x)) => some (ls, zr x :: st)
  | _ => none
def zstI (ls : List zV) (i : Nat) (st : List zV) : Option (List zV × List zV) := match st with
  | .inl x :: t => if i < ls.length ∧ znl (zprev ls i) = true then some (zput ls i (zi x), t) else none
  | _ => none
def zstA (ls : List zV) (i : Nat) (st : List zV) : Option (List zV × List zV) := match st with
  | .inr (.inr (.inl x)) :: t => if i < ls.length ∧ znl (zprev ls i) = true then some (zput ls i (zr x), t) else none
  | _ => none
def zstL (ls : List zV) (i : Nat) (st : List zV) : Option (List zV × List zV) := match st with
  | .inr (.inl x) :: t => if i + 1 < ls.length ∧ znl (zprev ls i) = true then some (zput (zput ls i (zl x)) (i + 1) zt, t) else none
  | _ => none
/-- loads and stores of locals -/
def zsLoc (ins : Instr) (ls st : List zV) : Option (List zV × List zV) := match ins with
  | .iload i => zldI ls i st
  | .iload_n k => zldI ls k st
  | .lload i => zldL ls i st
  | .lload_n k => zldL ls k st
  | .aload i => zldA ls i st
  | .aload_n k => zldA ls k st
  | .istore i => zstI ls i st
  | .istore_n k => zstI ls k st
  | .lstore i => zstL ls i st
  | .lstore_n k => zstL ls k st
  | .astore i => zstA ls i st
  | .astore_n k => zstA ls k st
  | .iinc i n => match zget ls i with
    | .inl x => if i < ls.length ∧ znl (zprev ls i) = true then some (zput ls i (zi (x + n)), st) else none
    | _ => none
  | _ => none
def zcnd (c : Jvm.ClassFile.Cond) (a b : Int) : Prop := match c with
  | .eq => a = b
  | .ne => ¬ a = b
  | .lt => a < b
  | .ge => b ≤ a
  | .gt => b < a
  | .le => a ≤ b
def zcndB (c : Jvm.ClassFile.Cond) (a b : Int) : Bool := match c with
  | .eq => decide (a = b)
  | .ne => decide (¬ a = b)
  | .lt => decide (a < b)
  | .ge => decide (b ≤ a)
  | .gt => decide (b < a)
  | .le => decide (a ≤ b)
def ztgt (pc : Nat) (off : Int) : Nat := ((pc : Int) + off).toNat
def zsBr (ins : Instr) (pc : Nat) (st : List zV) : Option (Nat × List zV) := match ins with
  | .goto off => some (ztgt pc off, st)
  | .if_icmp c off => match st with
    | .inl b :: .inl a :: t => some (if zcndB c (z32 a) (z32 b) = true then ztgt pc off else pc + 3, t)
    | _ => none
  | .ifCond c off => match st with
    | .inl a :: t => some (if zcndB c (z32 a) 0 = true then ztgt pc off else pc + 3, t)
    | _ => none
  | .tableswitch dflt lo hi offs => match st with
    | .inl a :: t => some (if z32 a < lo ∨ hi < z32 a then ztgt pc dflt else ztgt pc (offs.toList.getD (z32 a - lo).toNat 0), t)
    | _ => none
  | _ => none
/-- an array of that kind, and a place of it -/
def zA (w : zW) (k t : Nat) (i : Int) : Prop := (zsh w k).1 = 1 ∧ (zsh w k).2.1 = t ∧ 0 ≤ i ∧ i < (zsh w k).2.2
def zAb (w : zW) (k t : Nat) (i : Int) : Bool := decide ((zsh w k).1 = 1) && (decide ((zsh w k).2.1 = t) && (decide (0 ≤ i) && decide (i < (zsh w k).2.2)))
theorem zAb_iff {w : zW} {k t : Nat} {i : Int} : zAb w k t i = true ↔ zA w k t i := by
  simp only [zAb, zA, Bool.and_eq_true, decide_eq_true_eq]
/-- a place that may be written: no cell of before -/
def zAs (w : zW) (k t : Nat) (i : Int) : Prop := zA w k t i ∧ 8 ≤ k
def zAsb (w : zW) (k t : Nat) (i : Int) : Bool := zAb w k t i && decide (8 ≤ k)
theorem zAsb_iff {w : zW} {k t : Nat} {i : Int} : zAsb w k t i = true ↔ zAs w k t i := by
  simp only [zAsb, zAs, Bool.and_eq_true, zAb_iff, decide_eq_true_eq]
/-- a field of an object of that class -/
def zOb (w : zW) (k c j : Nat) : Bool := decide ((zsh w k).1 = 0) && (decide ((zsh w k).2.1 = c) && decide (j < (zsh w k).2.2))
def zO (w : zW) (k c j : Nat) : Prop := (zsh w k).1 = 0 ∧ (zsh w k).2.1 = c ∧ j < (zsh w k).2.2
theorem zOb_iff {w : zW} {k c j : Nat} : zOb w k c j = true ↔ zO w k c j := by
  simp only [zOb, zO, Bool.and_eq_true, decide_eq_true_eq]
def zatype (t : ArrayType) : Nat := match t with
  | .int => 0
  | .byte => 1
  | .boolean => 2
  | .long => 3
  | _ => 9
/-- arrays, fields, what is made; aux: what the pool says -/
def zsMem (ins : Instr) (aux : List Int) (st : List zV) (w : zW) (M : zM) : Option (List zV × zW × zM) := match ins with
  | .iaload => match st with
    | .inl i :: .inr (.inr (.inl k)) :: t => if zAb w k 0 (z32 i) = true then some (zi (M k (z32 i).toNat) :: t, w, M) else none
    | _ => none
  | .laload => match st with
    | .inl i :: .inr (.inr (.inl k)) :: t => if zAb w k 3 (z32 i) = true then some (zl (M k (z32 i).toNat) :: t, w, M) else none
    | _ => none
  | .baload => match st with
    | .inl i :: .inr (.inr (.inl k)) :: t => if (zAb w k 1 (z32 i) || zAb w k 2 (z32 i)) = true then some (zi (M k (z32 i).toNat) :: t, w, M) else none
    | _ => none
  | .aaload => match st with
    | .inl i :: .inr (.inr (.inl k)) :: t => if (zAb w k 4 (z32 i) || zAb w k 5 (z32 i)) = true ∧ ¬ w.2 k (z32 i).toNat = 0 then some (zr (w.2 k (z32 i).toNat) :: t, w, M) else none
    | _ => none
  | .iastore => match st with
    | .inl v :: .inl i :: .inr (.inr (.inl k)) :: t => if zAsb w k 0 (z32 i) = true then some (t, w, zu M k (z32 i).toNat v) else none
    | _ => none
  | .lastore => match st with
    | .inr (.inl v) :: .inl i :: .inr (.inr (.inl k)) :: t => if zAsb w k 3 (z32 i) = true then some (t, w, zu M k (z32 i).toNat v) else none
    | _ => none
  | .bastore => match st with
    | .inl v :: .inl i :: .inr (.inr (.inl k)) :: t => if zAsb w k 1 (z32 i) = true then some (t, w, zu M k (z32 i).toNat (z8 v)) else if zAsb w k 2 (z32 i) = true ∧ (v = 0 ∨ v = 1) then some (t, w, zu M k (z32 i).toNat v) else none
    | _ => none
  | .arraylength => match st with
    | .inr (.inr (.inl k)) :: t => if (zsh w k).1 = 1 then some (zi (zsh w k).2.2 :: t, w, M) else none
    | _ => none
  | .getfield _ => match aux, st with
    | [_, c, j, ty], .inr (.inr (.inl k)) :: t =>
      if zOb w k c.toNat j.toNat = true then (if ty = 0 then some (zi (M k j.toNat) :: t, w, M) else if ty = 3 then some (zl (M k j.toNat) :: t, w, M) else if w.2 k j.toNat = 0 then none else some (zr (w.2 k j.toNat) :: t, w, M)) else none
    | _, _ => none
  | .putfield _ => match aux, st with
    | [_, c, j, ty], .inl v :: .inr (.inr (.inl k)) :: t => if zOb w k c.toNat j.toNat = true ∧ ty = 0 then some (t, w, zu M k j.toNat v) else none
    | [_, c, j, ty], .inr (.inl v) :: .inr (.inr (.inl k)) :: t => if zOb w k c.toNat j.toNat = true ∧ ty = 3 then some (t, w, zu M k j.toNat v) else none
    | [_, c, j, ty], .inr (.inr (.inl v)) :: .inr (.inr (.inl k)) :: t => if zOb w k c.toNat j.toNat = true ∧ ty = 4 ∧ 0 < v then some (t, (w.1, zu w.2 k j.toNat v), M) else none
    | _, _ => none
  | .new _ => match aux with
    | [_, _, _, c, n] => some (zr w.1.length :: st, (w.1 ++ [(0, c.toNat, n.toNat)], zo w.2 w.1.length (fun _ => 0)), zo M w.1.length (fun _ => 0))
    | _ => none
  | .newarray t => match st with
    | .inl n :: r => if 0 ≤ z32 n ∧ z32 n ≤ 100000 then some (zr w.1.length :: r, (w.1 ++ [(1, zatype t, (z32 n).toNat)], zo w.2 w.1.length (fun _ => 0)), zo M w.1.length (fun _ => 0)) else none
    | _ => none
  | .multianewarray _ _ => match aux, st with
    | [_, t], .inl b :: .inl a :: r => if 0 ≤ z32 a ∧ z32 a ≤ 1000 ∧ 0 ≤ z32 b ∧ z32 b ≤ 1000 then
        some (zr w.1.length :: r, (w.1 ++ (1, t.toNat, (z32 a).toNat) :: List.replicate (z32 a).toNat (1, (if t = 5 then 3 else 0), (z32 b).toNat), fun q => if w.1.length ≤ q then (fun j => if q = w.1.length then q + 1 + j else 0) else w.2 q), fun q => if w.1.length ≤ q then (fun _ => 0) else M q) else none
    | _, _ => none
  | .ldc _ => match aux with
    | [_, v] => some (zi v :: st, w, M)
    | [_, k, _] => some (zr k.toNat :: st, w, M)
    | _ => none
  | .ldc_w _ => match aux with
    | [_, v] => some (zi v :: st, w, M)
    | _ => none
  | .ldc2_w _ => match aux with
    | [_, v] => some (zl v :: st, w, M)
    | _ => none
  | _ => none
/-- a call: whom, with what, over what is left; none: no call, or one that the small machine answers itself -/
def zsCalS (aux : List Int) (st : List zV) : Option (Nat × List zV × List zV) := match aux with
  | y :: n :: _ => if y < 0 ∨ st.length < n.toNat ∨ 8 < zwd (st.drop n.toNat) then none else some (y.toNat, (st.take n.toNat).reverse, st.drop n.toNat)
  | _ => none
def zsCalO (aux : List Int) (st : List zV) (w : zW) : Option (Nat × List zV × List zV) := match aux with
  | y :: n :: c :: _ => if y < 0 ∨ st.length < n.toNat ∨ 8 < zwd (st.drop n.toNat) then none else match (st.take n.toNat).reverse with
      | .inr (.inr (.inl k)) :: r => if (zsh w k).1 = 0 ∧ (zsh w k).2.1 = c.toNat then some (y.toNat, zr k :: r, st.drop n.toNat) else none
      | _ => none
  | _ => none
def zsCall (ins : Instr) (aux : List Int) (st : List zV) (w : zW) : Option (Nat × List zV × List zV) := match ins with
  | .invokestatic _ => zsCalS aux st
  | .invokevirtual _ => zsCalO aux st w
  | .invokespecial _ => zsCalO aux st w
  | _ => none
/-- Object's own init (aux -1), a text's length (-2), a letter of it (-3) -/
def zsPrI (aux : List Int) (st : List zV) : Option (List zV) := match aux with
  | y :: _ => if y = -1 then (match st with
      | .inr (.inr (.inl _)) :: t => if zwd t ≤ 8 then some t else none
      | _ => none) else none
  | _ => none
def zsPrV (aux : List Int) (st : List zV) (w : zW) (M : zM) : Option (List zV) := match aux with
  | y :: _ => if y = -2 then (match st with
      | .inr (.inr (.inl k)) :: t => if (zsh w k).1 = 2 ∧ zwd t ≤ 8 then some (zi (zsh w k).2.2 :: t) else none
      | _ => none) else if y = -3 then (match st with
      | .inl i :: .inr (.inr (.inl k)) :: t => if (zsh w k).1 = 2 ∧ 0 ≤ z32 i ∧ z32 i < (zsh w k).2.2 ∧ zwd t ≤ 8 then some (zi (M k (z32 i).toNat) :: t) else none
      | _ => none) else none
  | _ => none
def zmin (a b : Int) : Int := if z32 b < z32 a then b else a
def zmax (a b : Int) : Int := if z32 a < z32 b then b else a
def zabs (a : Int) : Int := if 0 ≤ z32 a then a else 0 - a
def zlabs (a : Int) : Int := if 0 < z64 a then a else -a
def zp2 (f : Int → Int → Int) (st : List zV) : Option (List zV) := match st with
  | .inl b :: .inl a :: t => if zwd t ≤ 8 then some (zi (f a b) :: t) else none
  | _ => none
def zp1 (f : Int → Int) (st : List zV) : Option (List zV) := match st with
  | .inl a :: t => if zwd t ≤ 8 then some (zi (f a) :: t) else none
  | _ => none
def zpL (f : Int → Int) (st : List zV) : Option (List zV) := match st with
  | .inr (.inl a) :: t => if zwd t ≤ 8 then some (zl (f a) :: t) else none
  | _ => none
/-- Math's min (aux -4), max (-5), abs (-6), abs of a long (-7) -/
def zsPrS (aux : List Int) (st : List zV) : Option (List zV) := match aux with
  | y :: _ => if y = -4 then zp2 zmin st else if y = -5 then zp2 zmax st else if y = -6 then zp1 zabs st else if y = -7 then zpL zlabs st else none
  | _ => none
def zsPrim (ins : Instr) (aux : List Int) (st : List zV) (w : zW) (M : zM) : Option (List zV) := match ins with
  | .invokestatic _ => zsPrS aux st
  | .invokespecial _ => zsPrI aux st
  | .invokevirtual _ => zsPrV aux st w M
  | _ => none
def zsRet (ins : Instr) (bool : Bool) (st : List zV) : Option (Option zV) := match ins with
  | .ireturn => match st with
    | [.inl v] => if bool = true then (if v = 0 ∨ v = 1 then some (some (zi v)) else none) else some (some (zi v))
    | _ => none
  | .lreturn => match st with
    | [.inr (.inl v)] => some (some (zl v))
    | _ => none
  | .return_ => match st with
    | [] => some none
    | _ => none
  | _ => none
abbrev zE : Type := Nat × Instr × Nat × List Int
/-- a method: its name, its bytes, locals, what it returns, its place in the words, its rows -/
abbrev zX : Type := MethodName × ByteArray × Nat × Option FieldType × Nat × List zE
def zfind : List zE → Nat → Option (Instr × Nat × List Int)
  | [], _ => none
  | (q, e) :: l, pc => if q = pc then some e else zfind l pc
section ZRun
variable (T : Nat → zX)
def zmaxL (x : Nat) : Nat := (T x).2.2.1
def zbool (x : Nat) : Bool := decide ((T x).2.2.2.1 = some .boolean)
def zcode (x : Nat) : List zE := (T x).2.2.2.2.2
def zrun : Nat → Nat → Nat → Nat → List zV → List zV → zW → zM → Option (Option zV × zW × zM)
  | 0, _, _, _, _, _, _, _ => none
  | n + 1, d, x, pc, ls, st, w, M => match zfind (zcode T x) pc with
    | none => none
    | some (ins, len, aux) => match zsStk ins st with
      | some st' => zrun n d x (pc + len) ls st' w M
      | none => match zsLoc ins ls st with
        | some (ls', st') => zrun n d x (pc + len) ls' st' w M
        | none => match zsBr ins pc st with
          | some (pc', st') => zrun n d x pc' ls st' w M
          | none => match zsMem ins aux st w M with
            | some (st', w', M') => zrun n d x (pc + len) ls st' w' M'
            | none => match zsRet ins (zbool T x) st with
              | some v => some (v, w, M)
              | none => match zsPrim ins aux st w M with
                | some st' => if 20 ≤ d then zrun n d x (pc + len) ls st' w M else none
                | none => match zsCall ins aux st w with
                  | none => none
                  | some (y, as, r) => match d with
                    | 0 => none
                    | d' + 1 => if Nat.ble (zlay as).length (zmaxL T y) = true then (match zrun n d' y 0 (zpad (zmaxL T y) (zlay as)) [] w M with
                      | none => none
                      | some (v, w', M') => zrun n (d' + 1) x (pc + len) ls (v.toList ++ r) w' M') else none
theorem zrun_more : ∀ (n d x pc : Nat) (ls st : List zV) (w : zW) (M : zM) (r : Option zV × zW × zM), zrun T n d x pc ls st w M = some r → zrun T (n + 1) d x pc ls st w M = some r := by
  intro n
  induction n with
  | zero => intro d x pc ls st w M r h; simp [zrun] at h
  | succ n ih =>
    intro d x pc ls st w M r h
    rw [zrun]
    rw [zrun] at h
    cases hf : zfind (zcode T x) pc with
    | none => rw [hf] at h; cases h
    | some e =>
      obtain ⟨ins, len, aux⟩ := e
      rw [hf] at h
      simp only at h ⊢
      cases h1 : zsStk ins st with
      | some st' => rw [h1] at h; exact ih _ _ _ _ _ _ _ _ h
      | none =>
      rw [h1] at h
      simp only at h ⊢
      cases h2 : zsLoc ins ls st with
      | some e => rw [h2] at h; exact ih _ _ _ _ _ _ _ _ h
      | none =>
      rw [h2] at h
      simp only at h ⊢
      cases h3 : zsBr ins pc st with
      | some e => rw [h3] at h; exact ih _ _ _ _ _ _ _ _ h
      | none =>
      rw [h3] at h
      simp only at h ⊢
      cases h4 : zsMem ins aux st w M with
      | some e => rw [h4] at h; exact ih _ _ _ _ _ _ _ _ h
      | none =>
      rw [h4] at h
      simp only at h ⊢
      cases h5 : zsRet ins (zbool T x) st with
      | some e => rw [h5] at h; exact h
      | none =>
      rw [h5] at h
      simp only at h ⊢
      cases h6 : zsPrim ins aux st w M with
      | some e =>
        rw [h6] at h
        simp only at h ⊢
        by_cases hd : 20 ≤ d
        · rw [if_pos hd] at h ⊢
          exact ih _ _ _ _ _ _ _ _ h
        · rw [if_neg hd] at h
          cases h
      | none =>
      rw [h6] at h
      simp only at h ⊢
      cases h7 : zsCall ins aux st w with
      | none => rw [h7] at h; cases h
      | some e =>
      obtain ⟨y, as, r0⟩ := e
      rw [h7] at h
      simp only at h ⊢
      cases d with
      | zero => cases h
      | succ d' =>
      simp only at h ⊢
      by_cases hl : Nat.ble (zlay as).length (zmaxL T y) = true
      case neg => rw [if_neg hl] at h; cases h
      rw [if_pos hl] at h ⊢
      cases h8 : zrun T n d' y 0 (zpad (zmaxL T y) (zlay as)) [] w M with
      | none => rw [h8] at h; cases h
      | some e =>
      obtain ⟨v, w', M'⟩ := e
      rw [h8] at h
      rw [ih _ _ _ _ _ _ _ _ h8]
      exact ih _ _ _ _ _ _ _ _ h
theorem zrun_le {n m d x pc : Nat} {ls st : List zV} {w : zW} {M : zM} {r : Option zV × zW × zM} (h : zrun T n d x pc ls st w M = some r) (hm : n ≤ m) : zrun T m d x pc ls st w M = some r := by
  induction hm with
  | refl => exact h
  | step _ ih => exact zrun_more T _ _ _ _ _ _ _ _ _ ih
/-- from there the method comes to its end, with Q -/
def zG (d x pc : Nat) (ls st : List zV) (w : zW) (M : zM) (Q : Option zV → zW → zM → Prop) : Prop := ∃ (n : Nat) (v : Option zV) (w' : zW) (M' : zM), zrun T n d x pc ls st w M = some (v, w', M') ∧ Q v w' M'
variable {T} {d x pc : Nat} {ls st : List zV} {w : zW} {M : zM} {Q : Option zV → zW → zM → Prop} {ins : Instr} {len : Nat} {aux : List Int}
theorem zG_mono {Q' : Option zV → zW → zM → Prop} (h : zG T d x pc ls st w M Q) (hq : ∀ v w' M', Q v w' M' → Q' v w' M') : zG T d x pc ls st w M Q' := by
  obtain ⟨n, v, w', M', h1, h2⟩ := h
  exact ⟨n, v, w', M', h1, hq _ _ _ h2⟩
theorem zG_and {Q' : Option zV → zW → zM → Prop} (h : zG T d x pc ls st w M Q) (h' : zG T d x pc ls st w M Q') : zG T d x pc ls st w M (fun v w' M' => Q v w' M' ∧ Q' v w' M') := by
  obtain ⟨n, v, w', M', h1, h2⟩ := h
  obtain ⟨m, u, w2, M2, h3, h4⟩ := h'
  have e1 := zrun_le T h1 (Nat.le_max_left n m)
  have e2 := zrun_le T h3 (Nat.le_max_right n m)
  rw [e1] at e2
  cases e2
  exact ⟨_, v, w', M', e1, h2, h4⟩
/-- one answer, known: the triple says what Q says of it -/
theorem zG_det {v : Option zV} {w' : zW} {M' : zM} (h : zG T d x pc ls st w M (fun a b c => a = v ∧ b = w' ∧ c = M')) : zG T d x pc ls st w M Q ↔ Q v w' M' := by
  constructor
  · intro h2
    obtain ⟨n, a, b, c, -, ⟨rfl, rfl, rfl⟩, h4⟩ := zG_and h h2
    exact h4
  · intro h2
    exact zG_mono h (fun a b c e => by obtain ⟨rfl, rfl, rfl⟩ := e; exact h2)
theorem zG_next {pc' : Nat} {ls' st' : List zV} {w' : zW} {M' : zM} (h : ∀ n, zrun T (n + 1) d x pc ls st w M = zrun T n d x pc' ls' st' w' M') : zG T d x pc ls st w M Q ↔ zG T d x pc' ls' st' w' M' Q := by
  constructor
  · rintro ⟨n, v, a, b, h1, h2⟩
    have h3 := zrun_more T _ _ _ _ _ _ _ _ _ h1
    rw [h n] at h3
    exact ⟨n, v, a, b, h3, h2⟩
  · rintro ⟨n, v, a, b, h1, h2⟩
    exact ⟨n + 1, v, a, b, by rw [h n]; exact h1, h2⟩
theorem zG_none (h : ∀ n, zrun T (n + 1) d x pc ls st w M = none) : zG T d x pc ls st w M Q ↔ False := by
  constructor
  · rintro ⟨n, v, a, b, h1, -⟩
    have h3 := zrun_more T _ _ _ _ _ _ _ _ _ h1
    rw [h n] at h3
    cases h3
  · exact False.elim
theorem zG_stk {st' : List zV} {pc' : Nat} (hf : zfind (zcode T x) pc = some (ins, len, aux)) (h : zsStk ins st = some st') (hp : pc' = pc + len) : zG T d x pc ls st w M Q ↔ zG T d x pc' ls st' w M Q := by
  subst hp
  refine zG_next fun n => ?_
  rw [zrun]
  simp only [hf, h]
theorem zG_loc {ls' st' : List zV} {pc' : Nat} (hf : zfind (zcode T x) pc = some (ins, len, aux)) (h0 : zsStk ins st = none) (h : zsLoc ins ls st = some (ls', st')) (hp : pc' = pc + len) : zG T d x pc ls st w M Q ↔ zG T d x pc' ls' st' w M Q := by
  subst hp
  refine zG_next fun n => ?_
  rw [zrun]
  simp only [hf, h0, h]
theorem zG_br {st' : List zV} {pc' : Nat} (hf : zfind (zcode T x) pc = some (ins, len, aux)) (h0 : zsStk ins st = none) (h1 : zsLoc ins ls st = none) (h : zsBr ins pc st = some (pc', st')) : zG T d x pc ls st w M Q ↔ zG T d x pc' ls st' w M Q := by
  refine zG_next fun n => ?_
  rw [zrun]
  simp only [hf, h0, h1, h]
theorem zG_if {c : Bool} {st' : List zV} {a b : Nat} (hf : zfind (zcode T x) pc = some (ins, len, aux)) (h0 : zsStk ins st = none) (h1 : zsLoc ins ls st = none) (h : zsBr ins pc st = some (if c = true then a else b, st')) : zG T d x pc ls st w M Q ↔ (if c = true then zG T d x a ls st' w M Q else zG T d x b ls st' w M Q) := by
  rw [zG_br hf h0 h1 h]
  split <;> rfl
theorem zG_mem {st' : List zV} {w' : zW} {M' : zM} {pc' : Nat} (hf : zfind (zcode T x) pc = some (ins, len, aux)) (h0 : zsStk ins st = none) (h1 : zsLoc ins ls st = none) (h2 : zsBr ins pc st = none) (h : zsMem ins aux st w M = some (st', w', M')) (hp : pc' = pc + len) : zG T d x pc ls st w M Q ↔ zG T d x pc' ls st' w' M' Q := by
  subst hp
  refine zG_next fun n => ?_
  rw [zrun]
  simp only [hf, h0, h1, h2, h]
theorem zG_prim {st' : List zV} {pc' : Nat} (hf : zfind (zcode T x) pc = some (ins, len, aux)) (h0 : zsStk ins st = none) (h1 : zsLoc ins ls st = none) (h2 : zsBr ins pc st = none) (h3 : zsMem ins aux st w M = none) (h4 : zsRet ins (zbool T x) st = none) (h : zsPrim ins aux st w M = some st') (hp : pc' = pc + len) : zG T d x pc ls st w M Q ↔ (20 ≤ d ∧ zG T d x pc' ls st' w M Q) := by
  subst hp
  by_cases hd : 20 ≤ d
  · have e : zG T d x pc ls st w M Q ↔ zG T d x (pc + len) ls st' w M Q := zG_next fun n => by
      rw [zrun]
      simp only [hf, h0, h1, h2, h3, h4, h, hd, if_true]
    rw [e]
    exact ⟨fun z => ⟨hd, z⟩, fun z => z.2⟩
  · rw [zG_none (fun n => by rw [zrun]; simp only [hf, h0, h1, h2, h3, h4, h, hd, if_false])]
    exact ⟨False.elim, fun z => absurd z.1 hd⟩
theorem zG_ret {v : Option zV} (hf : zfind (zcode T x) pc = some (ins, len, aux)) (h0 : zsStk ins st = none) (h1 : zsLoc ins ls st = none) (h2 : zsBr ins pc st = none) (h3 : zsMem ins aux st w M = none) (h4 : zsRet ins (zbool T x) st = some v) : zG T d x pc ls st w M Q ↔ Q v w M := by
  have e : ∀ n, zrun T (n + 1) d x pc ls st w M = some (v, w, M) := fun n => by
    rw [zrun]
    simp only [hf, h0, h1, h2, h3, h4]
  constructor
  · rintro ⟨n, a, b, c, h5, h6⟩
    have h7 := zrun_more T _ _ _ _ _ _ _ _ _ h5
    rw [e n] at h7
    cases h7
    exact h6
  · exact fun h => ⟨1, v, w, M, e 0, h⟩
theorem zG_call {y : Nat} {as r : List zV} {pc' : Nat} (hf : zfind (zcode T x) pc = some (ins, len, aux)) (h0 : zsStk ins st = none) (h1 : zsLoc ins ls st = none) (h2 : zsBr ins pc st = none) (h3 : zsMem ins aux st w M = none) (h4 : zsRet ins (zbool T x) st = none) (h5 : zsPrim ins aux st w M = none) (h : zsCall ins aux st w = some (y, as, r)) (hl : Nat.ble (zlay as).length (zmaxL T y) = true) (hp : pc' = pc + len) :
    zG T d x pc ls st w M Q ↔ (0 < d ∧ zG T (d - 1) y 0 (zpad (zmaxL T y) (zlay as)) [] w M (fun v w' M' => zG T d x pc' ls (v.toList ++ r) w' M' Q)) := by
  subst hp
  cases d with
  | zero =>
    rw [zG_none (fun n => by rw [zrun]; simp only [hf, h0, h1, h2, h3, h4, h5, h])]
    exact ⟨False.elim, fun z => absurd z.1 (by omega)⟩
  | succ d' =>
    have e : ∀ n, zrun T (n + 1) (d' + 1) x pc ls st w M = match zrun T n d' y 0 (zpad (zmaxL T y) (zlay as)) [] w M with
        | none => none
        | some (v, w', M') => zrun T n (d' + 1) x (pc + len) ls (v.toList ++ r) w' M' := fun n => by
      rw [zrun]
      simp only [hf, h0, h1, h2, h3, h4, h5, h, hl, if_true]
    constructor
    · rintro ⟨n, a, b, c, h6, h7⟩
      have h8 := zrun_more T _ _ _ _ _ _ _ _ _ h6
      rw [e n] at h8
      split at h8
      · cases h8
      · rename_i v w' M' h9
        exact ⟨Nat.succ_pos _, n, v, w', M', h9, n, a, b, c, h8, h7⟩
    · rintro ⟨-, n, v, w', M', h6, m, a, b, c, h7, h8⟩
      refine ⟨max n m + 1, a, b, c, ?_, h8⟩
      have h9 : zrun T (max n m) d' y 0 (zpad (zmaxL T y) (zlay as)) [] w M = some (v, w', M') := zrun_le T h6 (Nat.le_max_left n m)
      rw [e, h9]
      exact zrun_le T h7 (Nat.le_max_right n m)
end ZRun
