/-! THE SMALL MACHINE: the bytecode run over numbers. A value is its kind (0 int, 1 reference, 2 long, 3 float, 4 double, 9 nothing known) with its number; a reference is the number of its cell, -1 null, -2 and below arrays that are only read. A state: what each cell is (kind, class, length), what it holds, how many cells and slots were made. -/
abbrev zV : Type := Nat × Int
abbrev zW : Type := Nat → Nat → Int
abbrev zLE : Type := Nat × Nat × Nat
abbrev zS : Type := List zLE × zW × Nat × Nat
/-- a method: name, bytes, instructions, locals, what it returns, its table, its class's number -/
abbrev zM : Type := MethodName × ByteArray × List (Nat × Instr × Nat) × Nat × Option FieldType × List (Nat × Nat × Nat × Nat) × Nat
abbrev zR : Type := (Option zV ⊕ String) × zS
abbrev zRo : Type := Int → Option (Nat × (Nat → Int))
def zget : List (Nat × Instr × Nat) → Nat → Option (Instr × Nat)
  | [], _ => none
  | q :: r, k => bif Nat.beq q.1 k then some q.2 else zget r k
def zi32 (z : Int) : Prop := -2147483648 ≤ z ∧ z < 2147483648
def zi64 (z : Int) : Prop := -9223372036854775808 ≤ z ∧ z < 9223372036854775808
def zw32 (z : Int) : Int := Int.bmod z 4294967296
def zw64 (z : Int) : Int := Int.bmod z 18446744073709551616
def zup (w : zW) (a j : Nat) (v : Int) : zW := fun i k => if i = a ∧ k = j then v else w i k
def znew (S : zS) (e : zLE) (f : Nat → Int) : zS := (S.1 ++ [e], fun i k => if i = S.1.length then f k else S.2.1 i k, S.2.2.1 + 1, S.2.2.2 + e.2.2)
def zset (S : zS) (a j : Nat) (v : Int) : zS := (S.1, zup S.2.1 a j v, S.2.2.1, S.2.2.2)
def zput (ls : List zV) (i : Nat) (v : zV) : List zV :=
  match i with
  | 0 => ls.set 0 v
  | k + 1 => match ls[k]? with
    | some (2, _) => (ls.set (k + 1) v).set k (9, 0)
    | some (4, _) => (ls.set (k + 1) v).set k (9, 0)
    | _ => ls.set (k + 1) v
def zput2 (ls : List zV) (i : Nat) (v : zV) : List zV := (zput ls i v).set (i + 1) (9, 0)
/-- the value that an instruction pushes, where it needs nothing of the stack -/
def zpush (con : Nat → Option Int) (i : Instr) (len : Nat) (ls : List zV) : Option zV :=
  match i, len with
  | .iconst n, 1 => if -1 ≤ n ∧ n ≤ 5 then some (0, n) else none
  | .bipush n, 2 => if -128 ≤ n ∧ n < 128 then some (0, n) else none
  | .sipush n, 3 => if -32768 ≤ n ∧ n < 32768 then some (0, n) else none
  | .lconst n, 1 => some (2, (n.val : Int))
  | .fconst n, 1 => if n.val = 0 then some (3, (FP.fconst0.toNat : Int)) else none
  | .dconst n, 1 => if n.val = 0 then some (4, (FP.dconst0.toNat : Int)) else none
  | .aconst_null, 1 => some (1, -1)
  | .ldc k, 2 => match con k with | some v => some (0, v) | none => none
  | .ldc_w k, 3 => match con k with | some v => some (0, v) | none => none
  | .iload_n k, 1 => match ls[k.val]? with | some (0, v) => some (0, v) | _ => none
  | .iload k, 2 => match ls[k]? with | some (0, v) => some (0, v) | _ => none
  | .aload_n k, 1 => match ls[k.val]? with | some (1, v) => some (1, v) | _ => none
  | .aload k, 2 => match ls[k]? with | some (1, v) => some (1, v) | _ => none
  | .lload_n k, 1 => match ls[k.val]? with | some (2, v) => some (2, v) | _ => none
  | .lload k, 2 => match ls[k]? with | some (2, v) => some (2, v) | _ => none
  | .fload_n k, 1 => match ls[k.val]? with | some (3, v) => some (3, v) | _ => none
  | .fload k, 2 => match ls[k]? with | some (3, v) => some (3, v) | _ => none
  | .dload_n k, 1 => match ls[k.val]? with | some (4, v) => some (4, v) | _ => none
  | .dload k, 2 => match ls[k]? with | some (4, v) => some (4, v) | _ => none
  | _, _ => none
/-- what goes into the locals -/
def zstore (i : Instr) (len : Nat) (ls st : List zV) : Option (List zV × List zV) :=
  match i, len, st with
  | .istore_n k, 1, (0, v) :: st => if k.val < ls.length then some (zput ls k.val (0, v), st) else none
  | .istore k, 2, (0, v) :: st => if k < ls.length then some (zput ls k (0, v), st) else none
  | .astore_n k, 1, (1, v) :: st => if k.val < ls.length then some (zput ls k.val (1, v), st) else none
  | .astore k, 2, (1, v) :: st => if k < ls.length then some (zput ls k (1, v), st) else none
  | .fstore_n k, 1, (3, v) :: st => if k.val < ls.length then some (zput ls k.val (3, v), st) else none
  | .fstore k, 2, (3, v) :: st => if k < ls.length then some (zput ls k (3, v), st) else none
  | .lstore_n k, 1, (2, v) :: st => if k.val + 1 < ls.length then some (zput2 ls k.val (2, v), st) else none
  | .lstore k, 2, (2, v) :: st => if k + 1 < ls.length then some (zput2 ls k (2, v), st) else none
  | .dstore_n k, 1, (4, v) :: st => if k.val + 1 < ls.length then some (zput2 ls k.val (4, v), st) else none
  | .dstore k, 2, (4, v) :: st => if k + 1 < ls.length then some (zput2 ls k (4, v), st) else none
  | .iinc k n, 3, st => match ls[k]? with | some (0, v) => some (zput ls k (0, zw32 (v + n)), st) | _ => none
  | _, _, _ => none
def zn32 (r : UInt32) : Bool := decide (r &&& 0x7fffffff ≤ 0x7f800000)
def zn64 (r : UInt64) : Bool := decide (r &&& 0x7fffffffffffffff ≤ 0x7ff0000000000000)
def zcat1 (v : zV) : Prop := v.1 = 0 ∨ v.1 = 1 ∨ v.1 = 3
/-- what happens on the stack alone -/
def zarith (mth : Nat → Nat) (i : Instr) (len : Nat) (st : List zV) : Option (List zV) :=
  match i, len, st with
  | .iadd, 1, (0, b) :: (0, a) :: st => some ((0, zw32 (a + b)) :: st)
  | .isub, 1, (0, b) :: (0, a) :: st => some ((0, zw32 (a - b)) :: st)
  | .imul, 1, (0, b) :: (0, a) :: st => some ((0, zw32 (a * b)) :: st)
  | .iand, 1, (0, b) :: (0, a) :: st => some ((0, (Int32.ofInt a &&& Int32.ofInt b).toInt) :: st)
  | .ior, 1, (0, b) :: (0, a) :: st => some ((0, (Int32.ofInt a ||| Int32.ofInt b).toInt) :: st)
  | .ixor, 1, (0, b) :: (0, a) :: st => some ((0, (Int32.ofInt a ^^^ Int32.ofInt b).toInt) :: st)
  | .ishl, 1, (0, b) :: (0, a) :: st => some ((0, (Int32.ofInt a <<< (Int32.ofInt b &&& 31)).toInt) :: st)
  | .iushr, 1, (0, b) :: (0, a) :: st => some ((0, ((Int32.ofInt a).toUInt32 >>> ((Int32.ofInt b).toUInt32 &&& Int32.toUInt32 31)).toInt32.toInt) :: st)
  | .irem, 1, (0, b) :: (0, a) :: st => if 0 < b then some ((0, zw32 (a - a.tdiv b * b)) :: st) else none
  | .idiv, 1, (0, b) :: (0, a) :: st => if 0 < b then some ((0, a.tdiv b) :: st) else none
  | .ladd, 1, (2, b) :: (2, a) :: st => some ((2, zw64 (a + b)) :: st)
  | .lcmp, 1, (2, b) :: (2, a) :: st => some ((0, if a < b then -1 else if a = b then 0 else 1) :: st)
  | .i2l, 1, (0, a) :: st => some ((2, a) :: st)
  | .i2f, 1, (0, a) :: st => some ((3, ((FP.i2f (Int32.ofInt a)).toNat : Int)) :: st)
  | .l2f, 1, (2, a) :: st => some ((3, ((FP.l2f (Int64.ofInt a)).toNat : Int)) :: st)
  | .i2d, 1, (0, a) :: st => some ((4, ((FP.i2d (Int32.ofInt a)).toNat : Int)) :: st)
  | .f2d, 1, (3, a) :: st => if zn64 (FP.f2d (UInt32.ofNat a.toNat)) = true then some ((4, ((FP.f2d (UInt32.ofNat a.toNat)).toNat : Int)) :: st) else none
  | .fdiv, 1, (3, b) :: (3, a) :: st => if zn32 (FP.fdiv (UInt32.ofNat a.toNat) (UInt32.ofNat b.toNat)) = true then some ((3, ((FP.fdiv (UInt32.ofNat a.toNat) (UInt32.ofNat b.toNat)).toNat : Int)) :: st) else none
  | .ddiv, 1, (4, b) :: (4, a) :: st => if zn64 (FP.ddiv (UInt64.ofNat a.toNat) (UInt64.ofNat b.toNat)) = true then some ((4, ((FP.ddiv (UInt64.ofNat a.toNat) (UInt64.ofNat b.toNat)).toNat : Int)) :: st) else none
  | .fcmp op, 1, (3, b) :: (3, a) :: st => some ((0, (Op.cmpValue (FP.fcmp (UInt32.ofNat a.toNat) (UInt32.ofNat b.toNat)) op).toInt) :: st)
  | .dcmp op, 1, (4, b) :: (4, a) :: st => some ((0, (Op.cmpValue (FP.dcmp (UInt64.ofNat a.toNat) (UInt64.ofNat b.toNat)) op).toInt) :: st)
  | .dup, 1, (t, a) :: st => if t = 0 ∨ t = 1 then some ((t, a) :: (t, a) :: st) else none
  | .dup2, 1, (0, b) :: (1, a) :: st => some ((0, b) :: (1, a) :: (0, b) :: (1, a) :: st)
  | .pop, 1, (t, _) :: st => if t = 0 ∨ t = 1 then some st else none
  | .invokestatic k, 3, (0, b) :: (0, a) :: st => if st.length ≤ 50 then (if mth k = 1 then some ((0, if a < b then b else a) :: st) else if mth k = 2 then some ((0, if a < b then a else b) :: st) else none) else none
  | .invokespecial k, 3, (1, o) :: st => if mth k = 3 ∧ 0 ≤ o ∧ st.length ≤ 50 then some st else none
  | _, _, _ => none
def zc0 (c : ClassFile.Cond) (a : Int) : Bool := match c with
  | .eq => decide (a = 0) | .ne => !decide (a = 0) | .lt => decide (a < 0) | .ge => !decide (a < 0) | .gt => decide (0 < a) | .le => !decide (0 < a)
def zc2 (c : ClassFile.Cond) (a b : Int) : Bool := match c with
  | .eq => decide (a = b) | .ne => !decide (a = b) | .lt => decide (a < b) | .ge => !decide (a < b) | .gt => decide (b < a) | .le => !decide (b < a)
def zoff (pc : Nat) (off : Int) (b : Bool) (st : List zV) : Option (Nat × List zV) := if 0 ≤ (pc : Int) + off then some (bif b then ((pc : Int) + off).toNat else pc + 3, st) else none
/-- where it goes on -/
def zjump (i : Instr) (len pc : Nat) (st : List zV) : Option (Nat × List zV) :=
  match i, len, st with
  | .goto off, 3, st => zoff pc off true st
  | .ifCond c off, 3, (0, a) :: st => zoff pc off (zc0 c a) st
  | .if_icmp c off, 3, (0, b) :: (0, a) :: st => zoff pc off (zc2 c a b) st
  | .ifnull off, 3, (1, a) :: st => zoff pc off (decide (a = -1)) st
  | .tableswitch d lo hi offs, _, (0, a) :: st =>
    if a < lo ∨ hi < a then (if 0 ≤ (pc : Int) + d then some (((pc : Int) + d).toNat, st) else none)
    else match offs[(a - lo).toNat]? with
      | some off => if 0 ≤ (pc : Int) + off then some (((pc : Int) + off).toNat, st) else none
      | none => none
  | _, _, _ => none
/-- the end -/
def zend (ret : Option FieldType) (i : Instr) (len : Nat) (st : List zV) : Option (Option zV) :=
  match i, len, st, ret with
  | .ireturn, 1, [(0, v)], some .int => some (some (0, v))
  | .ireturn, 1, [(0, v)], some .boolean => if v = 0 ∨ v = 1 then some (some (0, v)) else none
  | .ireturn, 1, [(0, v)], some .char => if 0 ≤ v ∧ v < 65536 then some (some (0, v)) else none
  | .lreturn, 1, [(2, v)], some .long => some (some (2, v))
  | .freturn, 1, [(3, v)], some .float => some (some (3, v))
  | .dreturn, 1, [(4, v)], some .double => some (some (4, v))
  | .areturn, 1, [(1, v)], some (.object _) => some (some (1, v))
  | .areturn, 1, [(1, v)], some (.array _) => some (some (1, v))
  | .return_, 1, [], none => some none
  | _, _, _, _ => none
/-- an array's cell: its length, if it is of that kind and the place is in it -/
def zarr (S : zS) (k : Nat) (a j : Int) : Option (Nat × Nat) :=
  if 0 ≤ a ∧ 0 ≤ j then match S.1[a.toNat]? with
    | some e => if e.1 = k ∧ j < (e.2.2 : Int) then some (a.toNat, j.toNat) else none
    | none => none
  else none
/-- an object's cell: of that class, with that field -/
def zobj (S : zS) (o : Int) (c k : Nat) : Option Nat :=
  if 0 ≤ o then match S.1[o.toNat]? with
    | some e => if e.1 = 0 ∧ e.2.1 = c ∧ k < e.2.2 then some o.toNat else none
    | none => none
  else none
def zdef (t : Nat) : Int := if t = 1 then -1 else 0
/-- what reads or writes cells; fld: the field that an entry names (class, place, kind, boolean, final), cls: the class that it names (number, fields), fty: the kinds of its fields, stc: the array that a static holds -/
def zheap (fld : Nat → Option (Nat × Nat × Nat × Bool × Bool)) (cls : Nat → Option (Nat × Nat)) (fty : Nat → Nat → Nat) (ref : Nat → Bool) (stc : Nat → Option Int) (ctor : Bool) (ro : zRo) (i : Instr) (len : Nat) (st : List zV) (S : zS) : Option (List zV × zS) :=
  match i, len, st with
  | .getfield k, 3, (1, o) :: st => match fld k with
    | some f => match zobj S o f.1 f.2.1 with | some n => some ((f.2.2.1, S.2.1 n f.2.1) :: st, S) | none => none
    | none => none
  | .putfield k, 3, (t, v) :: (1, o) :: st => match fld k with
    | some f => if t = f.2.2.1 ∧ (f.2.2.2.1 = true → v = 0 ∨ v = 1) ∧ (f.2.2.2.2 = true → ctor = true) then match zobj S o f.1 f.2.1 with | some n => some (st, zset S n f.2.1 v) | none => none else none
    | none => none
  | .iaload, 1, (0, j) :: (1, a) :: st => match zarr S 1 a j with
    | some q => some ((0, S.2.1 q.1 q.2) :: st, S)
    | none => if a < -1 then match ro a with
      | some r => if 0 ≤ j ∧ j < (r.1 : Int) then some ((0, r.2 j.toNat) :: st, S) else none
      | none => none else none
  | .caload, 1, (0, j) :: (1, a) :: st => match zarr S 2 a j with | some q => some ((0, S.2.1 q.1 q.2) :: st, S) | none => none
  | .baload, 1, (0, j) :: (1, a) :: st => match zarr S 3 a j with | some q => some ((0, S.2.1 q.1 q.2) :: st, S) | none => none
  | .aaload, 1, (0, j) :: (1, a) :: st => match zarr S 6 a j with | some q => some ((1, S.2.1 q.1 q.2) :: st, S) | none => none
  | .iastore, 1, (0, v) :: (0, j) :: (1, a) :: st => match zarr S 1 a j with | some q => some (st, zset S q.1 q.2 v) | none => none
  | .castore, 1, (0, v) :: (0, j) :: (1, a) :: st => if 0 ≤ v ∧ v < 65536 then match zarr S 2 a j with | some q => some (st, zset S q.1 q.2 v) | none => none else none
  | .bastore, 1, (0, v) :: (0, j) :: (1, a) :: st => if v = 0 ∨ v = 1 then match zarr S 3 a j with | some q => some (st, zset S q.1 q.2 v) | none => none else none
  | .aastore, 1, (1, v) :: (0, j) :: (1, a) :: st => match zarr S 6 a j with
    | some q => match zobj S v 1 0 with | some _ => some (st, zset S q.1 q.2 v) | none => none
    | none => none
  | .arraylength, 1, (1, a) :: st => if 0 ≤ a then match S.1[a.toNat]? with
      | some e => if (1 ≤ e.1 ∧ e.1 ≤ 3) ∨ e.1 = 6 then some ((0, (e.2.2 : Int)) :: st, S) else none
      | none => none
    else if a < -1 then match ro a with | some r => some ((0, (r.1 : Int)) :: st, S) | none => none else none
  | .newarray t, 2, (0, n) :: st => if 0 ≤ n ∧ n < 1000 then match t with
      | .int => some ((1, (S.1.length : Int)) :: st, znew S (1, 0, n.toNat) (fun _ => 0))
      | .char => some ((1, (S.1.length : Int)) :: st, znew S (2, 0, n.toNat) (fun _ => 0))
      | .boolean => some ((1, (S.1.length : Int)) :: st, znew S (3, 0, n.toNat) (fun _ => 0))
      | _ => none
    else none
  | .anewarray k, 3, (0, n) :: st => if ref k = true ∧ 0 ≤ n ∧ n < 1000 then some ((1, (S.1.length : Int)) :: st, znew S (6, 0, n.toNat) (fun _ => -1)) else none
  | .new k, 3, st => match cls k with
    | some c => some ((1, (S.1.length : Int)) :: st, znew S (0, c.1, c.2) (fun j => zdef (fty c.1 j)))
    | none => none
  | .getstatic k, 3, st => match stc k with | some r => some ((1, r) :: st, S) | none => none
  | _, _, _ => none
/-- 'throw new E("text")', seen at its first instruction: the class, the entries that the text and the constructor have, whether the text's is wide -/
def zthr (exn : Nat → Option String) (t : List (Nat × Instr × Nat)) (pc : Nat) (i : Instr) (len : Nat) : Option (String × Nat × Nat × Nat × Bool) :=
  match i, len with
  | .new k, 3 => match exn k with
    | some E => match zget t (pc + 3), zget t (pc + 4) with
      | some (.dup, 1), some (.ldc is, 2) => match zget t (pc + 6), zget t (pc + 9) with
        | some (.invokespecial ic, 3), some (.athrow, 1) => some (E, k, is, ic, false)
        | _, _ => none
      | some (.dup, 1), some (.ldc_w is, 3) => match zget t (pc + 7), zget t (pc + 10) with
        | some (.invokespecial ic, 3), some (.athrow, 1) => some (E, k, is, ic, true)
        | _, _ => none
      | _, _ => none
    | none => none
  | _, _ => none
/-- the first row of a table that takes E at pc; the rows ahead name things that E isn't -/
def zhand (nm : Nat → Option String) (ca : List String) (nc : List (String × String)) (pc : Nat) (E : String) : List (Nat × Nat × Nat × Nat) → Option Nat
  | [] => none
  | q :: r => if q.1 ≤ pc ∧ pc < q.2.1 then match nm q.2.2.2 with
      | some N => if N = E then (if ca.contains E = true ∧ q.2.2.2 ≠ 0 then some q.2.2.1 else none) else if nc.contains (E, N) = true ∧ q.2.2.2 ≠ 0 then zhand nm ca nc pc E r else none
      | none => none
    else zhand nm ca nc pc E r
/-- the caught thing is stored, and never read -/
def zcatch (t : List (Nat × Instr × Nat)) (h : Nat) (ls : List zV) : Option (Nat × List zV) := match zget t h with
  | some (.astore_n k, 1) => if k.val < ls.length then some (h + 1, zput ls k.val (9, 0)) else none
  | some (.astore k, 2) => if k < ls.length then some (h + 2, zput ls k (9, 0)) else none
  | _ => none
def zplain (v : zV) : Bool := v.1 == 0 || v.1 == 1
/-- the locals at a method's start -/
def zargs (n : Nat) (as : List zV) : List zV := as ++ List.replicate (n - as.length) (9, 0)
