/-! THE EVALUATOR: a plain function over an abstract memory. References are object numbers: below 1000000 the run's own, from there on those that were there before. -/
abbrev zE : Type := (Nat × vp_A) ⊕ (Nat × List Value)
abbrev zM : Type := Nat × Nat × (Nat → zE)
abbrev zL : Type := List (Nat × Value)
def zlen (e : zE) : Nat := match e with
  | .inl a => a.2.1
  | .inr o => o.2.length
def zset (M : zM) (k : Nat) (e : zE) : zM := (M.1, M.2.1, va_up M.2.2 k e)
def zpush (M : zM) (e : zE) : zM := (M.1 + 1, M.2.1 + zlen e, va_up M.2.2 M.1 e)
def zget (ls : zL) (i : Nat) : Option Value := match ls.find? (fun q => q.1 == i) with
  | some q => some q.2
  | none => none
def zrep : zL → Nat → Value → zL
  | [], i, v => [(i, v)]
  | q :: l, i, v => cond (q.1 == i) ((i, v) :: l.filter (fun p => !(p.1 == i))) (q :: zrep l i v)
def zput1 (ls : zL) (i : Nat) (v : Value) : zL := zrep (ls.filter (fun q => !(q.1 + 1 == i && q.2.category == 2))) i v
def zput2 (ls : zL) (i : Nat) (v : Value) : zL := zrep (ls.filter (fun q => !(q.1 == i + 1) && !(q.1 + 1 == i && q.2.category == 2))) i v
abbrev zR : Type := Option (Nat × zL × List Value × zM)
def zjmp (pc : Nat) (off : Int) : Option Nat := if (pc : Int) + off < 0 then none else some ((pc : Int) + off).toNat
/-- binary operations on ints -/
def zbI (i : Instr) : Option (Int32 → Int32 → Option Int32) := match i with
  | .iadd => some fun x y => some (x + y)
  | .isub => some fun x y => some (x - y)
  | .imul => some fun x y => some (x * y)
  | .iand => some fun x y => some (x &&& y)
  | .ior => some fun x y => some (x ||| y)
  | .ixor => some fun x y => some (x ^^^ y)
  | .idiv => some fun x y => if y = 0 then none else some (x / y)
  | .irem => some fun x y => if y = 0 then none else some (x - x / y * y)
  | .ishl => some fun x y => some (x <<< (y &&& 31))
  | .ishr => some fun x y => some (x >>> (y &&& 31))
  | .iushr => some fun x y => some (x.toUInt32 >>> (y.toUInt32 &&& Int32.toUInt32 31)).toInt32
  | _ => none
def zuI (i : Instr) : Option (Int32 → Int32) := match i with
  | .ineg => some fun x => -x
  | .i2b => some fun x => x.toInt8.toInt32
  | .i2c => some fun x => (x.toUInt32 % 65536).toInt32
  | _ => none
def zbL (i : Instr) : Option (Int64 → Int64 → Option Int64) := match i with
  | .ladd => some fun x y => some (x + y)
  | .lsub => some fun x y => some (x - y)
  | .lmul => some fun x y => some (x * y)
  | .land => some fun x y => some (x &&& y)
  | .lor => some fun x y => some (x ||| y)
  | .lxor => some fun x y => some (x ^^^ y)
  | .ldiv => some fun x y => if y = 0 then none else some (x / y)
  | .lrem => some fun x y => if y = 0 then none else some (x - x / y * y)
  | _ => none
def zsL (i : Instr) : Option (Int64 → Int32 → Int64) := match i with
  | .lshl => some fun x y => x <<< (y.toInt64 &&& 63)
  | .lshr => some fun x y => x >>> (y.toInt64 &&& 63)
  | .lushr => some fun x y => (x.toUInt64 >>> (y.toInt64.toUInt64 &&& Int64.toUInt64 63)).toInt64
  | _ => none
def zcI (c : ClassFile.Cond) (x y : Int32) : Bool := match c with
  | .eq => decide (x = y)
  | .ne => decide (¬ x = y)
  | .lt => decide (x < y)
  | .ge => decide (y ≤ x)
  | .gt => decide (y < x)
  | .le => decide (x ≤ y)
def zisByte (v : Int32) : Bool := fits .byte (.int v)
/-- what does not call, and does not reach out of the frame -/
def zs0 (pc : Nat) (ls : zL) (st : List Value) (nL : Nat) (i : Instr) (len : Nat) : Option (Nat × zL × List Value) := match i with
  | .iconst n => some (pc + 1, ls, .int (Int32.ofInt n) :: st)
  | .bipush n => some (pc + 2, ls, .int (Int8.ofInt n).toInt32 :: st)
  | .sipush n => some (pc + 3, ls, .int (Int16.ofInt n).toInt32 :: st)
  | .lconst n => some (pc + 1, ls, .long (Int64.ofNat (n : Nat)) :: st)
  | .aconst_null => some (pc + 1, ls, .null :: st)
  | .iload_n k => match zget ls k with
    | some (.int x) => some (pc + 1, ls, .int x :: st)
    | _ => none
  | .iload k => match zget ls k with
    | some (.int x) => some (pc + 2, ls, .int x :: st)
    | _ => none
  | .lload_n k => match zget ls k with
    | some (.long x) => some (pc + 1, ls, .long x :: st)
    | _ => none
  | .lload k => match zget ls k with
    | some (.long x) => some (pc + 2, ls, .long x :: st)
    | _ => none
  | .aload_n k => match zget ls k with
    | some (.ref x) => some (pc + 1, ls, .ref x :: st)
    | some .null => some (pc + 1, ls, .null :: st)
    | _ => none
  | .aload k => match zget ls k with
    | some (.ref x) => some (pc + 2, ls, .ref x :: st)
    | some .null => some (pc + 2, ls, .null :: st)
    | _ => none
  | .istore_n k => match st with
    | .int x :: r => if (k : Nat) < nL then some (pc + 1, zput1 ls k (.int x), r) else none
    | _ => none
  | .istore k => match st with
    | .int x :: r => if k < nL then some (pc + 2, zput1 ls k (.int x), r) else none
    | _ => none
  | .lstore_n k => match st with
    | .long x :: r => if (k : Nat) + 1 < nL then some (pc + 1, zput2 ls k (.long x), r) else none
    | _ => none
  | .lstore k => match st with
    | .long x :: r => if k + 1 < nL then some (pc + 2, zput2 ls k (.long x), r) else none
    | _ => none
  | .astore_n k => match st with
    | .ref x :: r => if (k : Nat) < nL then some (pc + 1, zput1 ls k (.ref x), r) else none
    | .null :: r => if (k : Nat) < nL then some (pc + 1, zput1 ls k .null, r) else none
    | _ => none
  | .astore k => match st with
    | .ref x :: r => if k < nL then some (pc + 2, zput1 ls k (.ref x), r) else none
    | .null :: r => if k < nL then some (pc + 2, zput1 ls k .null, r) else none
    | _ => none
  | .iinc k n => match zget ls k with
    | some (.int x) => if k < nL then some (pc + 3, zput1 ls k (.int (x + Int32.ofInt n)), st) else none
    | _ => none
  | .dup => match st with
    | v :: r => if v.category = 1 then some (pc + 1, ls, v :: v :: r) else none
    | _ => none
  | .pop => match st with
    | v :: r => if v.category = 1 then some (pc + 1, ls, r) else none
    | _ => none
  | .pop2 => match st with
    | v :: r => if v.category = 2 then some (pc + 1, ls, r) else none
    | _ => none
  | .dup_x1 => match st with
    | v :: w :: r => if v.category = 1 ∧ w.category = 1 then some (pc + 1, ls, v :: w :: v :: r) else none
    | _ => none
  | .dup2 => match st with
    | v :: w :: r => if v.category = 1 ∧ w.category = 1 then some (pc + 1, ls, v :: w :: v :: w :: r) else if v.category = 2 then some (pc + 1, ls, v :: v :: w :: r) else none
    | _ => none
  | .i2l => match st with
    | .int x :: r => some (pc + 1, ls, .long x.toInt64 :: r)
    | _ => none
  | .l2i => match st with
    | .long x :: r => some (pc + 1, ls, .int x.toInt32 :: r)
    | _ => none
  | .lneg => match st with
    | .long x :: r => some (pc + 1, ls, .long (-x) :: r)
    | _ => none
  | .lcmp => match st with
    | .long y :: .long x :: r => some (pc + 1, ls, .int (lg_cmp x y) :: r)
    | _ => none
  | .goto off => match zjmp pc off with
    | some t => some (t, ls, st)
    | none => none
  | .ifCond c off => match st with
    | .int x :: r => match zjmp pc off with
      | some t => some (if zcI c x 0 then t else pc + 3, ls, r)
      | none => none
    | _ => none
  | .if_icmp c off => match st with
    | .int y :: .int x :: r => match zjmp pc off with
      | some t => some (if zcI c x y then t else pc + 3, ls, r)
      | none => none
    | _ => none
  | .ifnull off => match st with
    | .ref _ :: r => some (pc + 3, ls, r)
    | .null :: r => match zjmp pc off with
      | some t => some (t, ls, r)
      | none => none
    | _ => none
  | .ifnonnull off => match st with
    | .null :: r => some (pc + 3, ls, r)
    | .ref _ :: r => match zjmp pc off with
      | some t => some (t, ls, r)
      | none => none
    | _ => none
  | .tableswitch dflt lo hi offs => match st with
    | .int x :: r => if x.toInt < lo ∨ hi < x.toInt then (match zjmp pc dflt with
        | some t => some (t, ls, r)
        | none => none) else match offs[(x.toInt - lo).toNat]? with
      | some off => (match zjmp pc off with
        | some t => some (t, ls, r)
        | none => none)
      | none => none
    | _ => none
  | .lookupswitch dflt ps => match st with
    | .int x :: r => if (ps.toList.zip (ps.toList.drop 1)).all (fun (a, next) => a.1 < next.1) = true then (match zjmp pc (Op.lookupswitch.offset ps.toList dflt x.toInt) with
        | some t => some (t, ls, r)
        | none => none) else none
    | _ => none
  | i => match zbI i with
    | some f => (match st with
      | .int y :: .int x :: r => (match f x y with
        | some v => some (pc + 1, ls, .int v :: r)
        | none => none)
      | _ => none)
    | none => match zuI i with
      | some f => (match st with
        | .int x :: r => some (pc + 1, ls, .int (f x) :: r)
        | _ => none)
      | none => match zbL i with
        | some f => (match st with
          | .long y :: .long x :: r => (match f x y with
            | some v => some (pc + 1, ls, .long v :: r)
            | none => none)
          | _ => none)
        | none => match zsL i with
          | some f => (match st with
            | .int y :: .long x :: r => some (pc + 1, ls, .long (f x y) :: r)
            | _ => none)
          | none => none
/-- the length that an instruction has -/
def zlok (i : Instr) (len : Nat) : Bool := match i with
  | .bipush _ | .iload _ | .lload _ | .aload _ | .istore _ | .lstore _ | .astore _ | .ldc _ | .newarray _ => len == 2
  | .sipush _ | .iinc _ _ | .goto _ | .ifCond _ _ | .if_icmp _ _ | .ifnull _ | .ifnonnull _ | .getfield _ | .putfield _ | .getstatic _ | .invokevirtual _ | .invokespecial _ | .invokestatic _ | .new _ | .anewarray _ | .ldc_w _ | .ldc2_w _ => len == 3
  | .tableswitch _ _ _ _ | .lookupswitch _ _ => true
  | _ => len == 1
