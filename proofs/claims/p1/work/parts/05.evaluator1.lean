/-! THE EVALUATOR, 1: what reaches into memory -/
def zty (t : Nat) : FieldType := match t with
  | 0 => .int
  | 1 => .byte
  | 2 => .boolean
  | 3 => .object "ForthHouse$Forth"
  | _ => .object "ForthHouse$Task"
def zob (M : zM) (a : Nat) : Option zE := if a < M.1 then some (M.2.2 a) else none
def zrf (r : Option Nat) : Value := match r with
  | none => .null
  | some a => .ref a
def zfit (ty : FieldType) (v : Value) : Bool := decide (narrow ty v = v) && fits ty v
def zdef (ci n : Nat) : List Value := (List.range n).map fun k => defaultValue (zfty ci k)
def zTAKES : List Int32 := [1, 1, 2, 2, 3, 3, 2, 2, 1, 2, 2, 4, 4, 1, 1, 0, 1, 0, 0, 2, 0, 2, 2, 2, 2, 2, 2, 3, 3, 1, 1, 1, 1, 1, 1, 2, 2, 2, 3, 2, 3, 3, 1, 4, 2, 2, 2, 2, 2, 2, 1, 1, 1, 1, 2, 2, 2, 1, 2, 2, 3, 0, 0, 2, 1, 2, 1, 2, 3, 1, 0, 1, 1, 1, 0, 1, 1, 1, 1, 1, 3, 3, 1, 1, 1, 1, 0, 0, 1, 2, 0, 2, 2, 2, 1, 1, 0, 0, 0, 0, 0, 0, 0, 0, 0, 0, 0, 0, 0, 0, 0, 0, 0, 0, 0, 0, 0, 0, 0, 0, 0, 0, 1, 1, 2, 0, 0, 0, 0, 0, 0, 0, 0, 0, 0, 0, 0, 0, 0, 0, 0, 0, 0, 0, 0, 0, 0, 0, 0, 0, 0, 0, 0, 0, 0, 1, 1, 0, 0, 1, 0, 0, 0, 1, 0, 0, 2, 0, 1, 0, 0, 0]
def zLEAVES : List Int32 := [2, 0, 2, 3, 3, 3, 1, 3, 1, 4, 0, 4, 6, 1, 0, 1, 0, 1, 1, 0, 2, 1, 1, 1, 1, 1, 2, 1, 2, 1, 1, 1, 1, 1, 1, 1, 1, 2, 2, 2, 2, 2, 2, 2, 2, 1, 1, 1, 1, 1, 1, 1, 1, 1, 1, 1, 1, 1, 1, 1, 1, 1, 1, 0, 1, 0, 1, 0, 0, 2, 1, 0, 0, 0, 0, 1, 1, 1, 1, 1, 0, 0, 2, 0, 0, 0, 0, 0, 0, 0, 0, 2, 2, 2, 0, 0, 1, 0, 0, 1, 0, 0, 0, 0, 0, 0, 0, 0, 0, 0, 0, 0, 0, 0, 0, 0, 0, 0, 0, 0, 0, 0, 0, 1, 0, 0, 0, 0, 0, 0, 0, 0, 0, 0, 0, 0, 0, 0, 0, 0, 0, 0, 0, 0, 0, 0, 0, 1, 1, 0, 0, 0, 0, 0, 0, 0, 0, 0, 1, 0, 0, 0, 0, 1, 0, 0, 1, 1, 0, 0, 0, 0]
def zTRAITS : List Int32 := [8, 8, 8, 8, 8, 8, 8, 8, 0, 8, 8, 8, 8, 0, 0, 8, 10, 10, 10, 10, 10, 8, 8, 8, 8, 8, 8, 8, 8, 8, 8, 8, 8, 8, 8, 8, 8, 8, 8, 8, 8, 8, 8, 8, 8, 8, 8, 8, 8, 8, 8, 8, 8, 8, 8, 8, 8, 8, 8, 8, 8, 8, 8, 8, 8, 8, 8, 8, 8, 8, 8, 8, 8, 8, 8, 8, 8, 8, 8, 8, 8, 8, 8, 8, 8, 8, 8, 8, 8, 8, 8, 8, 8, 8, 8, 8, 8, 8, 8, 8, 0, 7, 0, 0, 0, 0, 0, 0, 0, 0, 0, 7, 0, 7, 1, 0, 7, 7, 7, 1, 1, 7, 0, 8, 0, 1, 1, 7, 1, 1, 7, 7, 7, 7, 7, 7, 7, 7, 7, 7, 7, 7, 7, 7, 7, 7, 7, 10, 10, 10, 10, 7, 7, 7, 7, 0, 8, 8, 8, 8, 8, 8, 8, 8, 8, 8, 8, 8, 0, 0, 0, 0]
/-- static rows of bytes: 13 TAKES, 14 LEAVES, 15 TRAITS -/
def zstat (a : Nat) : Option (List Int32) := if a = 1000013 then some zTAKES else if a = 1000014 then some zLEAVES else if a = 1000015 then some zTRAITS else none
def zatype (t : ArrayType) : Option Nat := match t with
  | .int => some 0
  | .byte => some 1
  | .boolean => some 2
  | _ => none
/-- X: the script -/
def zs1 (X : Nat × (Nat → Int32)) (own : Nat) (ini : Bool) (pc : Nat) (ls : zL) (st : List Value) (M : zM) (i : Instr) : zR := match i with
  | .getfield x => match zlk own x with
    | some (0, ci, k, _) => (match st with
      | .ref a :: r => (match zob M a with
        | some (.inr (cj, fs)) => if cj = ci then (match fs[k]? with
          | some v => some (pc + 3, ls, v :: r, M)
          | none => none) else none
        | _ => none)
      | _ => none)
    | _ => none
  | .putfield x => match zlk own x with
    | some (0, ci, k, _) => (match st with
      | v :: .ref a :: r => (match zob M a with
        | some (.inr (cj, fs)) => (match zcls[ci]? with
          | some q => if cj = ci ∧ k < fs.length ∧ k < q.2.2 ∧ zfit (zfty ci k) v = true ∧ ((q.2.1 k).2.2.2 = false ∨ (ini = true ∧ (q.2.1 k).1 = zown own)) then some (pc + 3, ls, r, zset M a (.inr (cj, fs.set k v))) else none
          | none => none)
        | _ => none)
      | _ => none)
    | _ => none
  | .iaload => match st with
    | .int j :: .ref a :: r => if a = 1000016 then (if j < 0 ∨ X.1 ≤ j.toNatClampNeg then none else some (pc + 1, ls, .int (X.2 j.toNatClampNeg) :: r, M)) else match zob M a with
      | some (.inl (0, n, .inl f)) => if j < 0 ∨ n ≤ j.toNatClampNeg then none else some (pc + 1, ls, .int (f j.toNatClampNeg) :: r, M)
      | _ => none
    | _ => none
  | .baload => match st with
    | .int j :: .ref a :: r => match zstat a with
      | some l => if j < 0 ∨ l.length ≤ j.toNatClampNeg then none else some (pc + 1, ls, .int (l.getD j.toNatClampNeg 0) :: r, M)
      | none => match zob M a with
        | some (.inl (1, n, .inl f)) => if j < 0 ∨ n ≤ j.toNatClampNeg then none else some (pc + 1, ls, .int (f j.toNatClampNeg) :: r, M)
        | some (.inl (2, n, .inl f)) => if j < 0 ∨ n ≤ j.toNatClampNeg then none else some (pc + 1, ls, .int (f j.toNatClampNeg) :: r, M)
        | _ => none
    | _ => none
  | .aaload => match st with
    | .int j :: .ref a :: r => match zob M a with
      | some (.inl (t, n, .inr (.inr (.inr (.inr f))))) => if t < 3 ∨ j < 0 ∨ n ≤ j.toNatClampNeg then none else some (pc + 1, ls, zrf (f j.toNatClampNeg) :: r, M)
      | _ => none
    | _ => none
  | .iastore => match st with
    | .int x :: .int j :: .ref a :: r => match zob M a with
      | some (.inl (0, n, .inl f)) => if j < 0 ∨ n ≤ j.toNatClampNeg then none else some (pc + 1, ls, r, zset M a (.inl (0, n, .inl (upd f j.toNatClampNeg x))))
      | _ => none
    | _ => none
  | .bastore => match st with
    | .int x :: .int j :: .ref a :: r => match zob M a with
      | some (.inl (1, n, .inl f)) => if j < 0 ∨ n ≤ j.toNatClampNeg then none else some (pc + 1, ls, r, zset M a (.inl (1, n, .inl (upd f j.toNatClampNeg (vp_nar .byte x)))))
      | some (.inl (2, n, .inl f)) => if j < 0 ∨ n ≤ j.toNatClampNeg then none else some (pc + 1, ls, r, zset M a (.inl (2, n, .inl (upd f j.toNatClampNeg (vp_nar .boolean x)))))
      | _ => none
    | _ => none
  | .aastore => match st with
    | .ref v :: .int j :: .ref a :: r => match zob M a with
      | some (.inl (t, n, .inr (.inr (.inr (.inr f))))) => (match zob M v with
        | some (.inr (ci, _)) => (match zcls[ci]? with
          | some q => if t < 3 ∨ j < 0 ∨ n ≤ j.toNatClampNeg ∨ ¬ zty t = .object q.1 then none else some (pc + 1, ls, r, zset M a (.inl (t, n, .inr (.inr (.inr (.inr (va_up f j.toNatClampNeg (some v))))))))
          | none => none)
        | _ => none)
      | _ => none
    | _ => none
  | .arraylength => match st with
    | .ref a :: r => if a = 1000016 then some (pc + 1, ls, .int (Int32.ofNat X.1) :: r, M) else match zob M a with
      | some (.inl (_, x)) => some (pc + 1, ls, .int (Int32.ofNat x.1) :: r, M)
      | _ => none
    | _ => none
  | .newarray t => match st with
    | .int n :: r => match zatype t with
      | some k => if n < 0 ∨ ¬ M.1 < 1000000 ∨ ¬ n.toNatClampNeg * componentBytes (zty k) ≤ 536870912 then none else some (pc + 2, ls, .ref M.1 :: r, zpush M (.inl (k, n.toNatClampNeg, .inl (fun _ => 0))))
      | none => none
    | _ => none
  | .anewarray x => match zlk own x with
    | some (3, ci, _, _) => (match st with
      | .int n :: r => if n < 0 ∨ ¬ M.1 < 1000000 ∨ ¬ n.toNatClampNeg * 4 ≤ 536870912 then none else if ci = 1 then some (pc + 3, ls, .ref M.1 :: r, zpush M (.inl (3, n.toNatClampNeg, .inr (.inr (.inr (.inr (fun _ => none))))))) else if ci = 8 then some (pc + 3, ls, .ref M.1 :: r, zpush M (.inl (4, n.toNatClampNeg, .inr (.inr (.inr (.inr (fun _ => none))))))) else none
      | _ => none)
    | _ => none
  | .new x => match zlk own x with
    | some (3, ci, _, _) => (match zcls[ci]? with
      | some q => if M.1 < 1000000 then some (pc + 3, ls, .ref M.1 :: st, zpush M (.inr (ci, zdef ci q.2.2))) else none
      | none => none)
    | _ => none
  | .ldc x => match zlk own x with
    | some (5, a, _, _) => some (pc + 2, ls, .int (Int32.ofNat a) :: st, M)
    | some (7, a, _, _) => some (pc + 2, ls, .ref (1000000 + a) :: st, M)
    | _ => none
  | .ldc_w x => match zlk own x with
    | some (5, a, _, _) => some (pc + 3, ls, .int (Int32.ofNat a) :: st, M)
    | _ => none
  | .ldc2_w x => match zlk own x with
    | some (6, a, _, _) => some (pc + 3, ls, .long (Int64.ofNat a) :: st, M)
    | _ => none
  | .getstatic x => match zlk own x with
    | some (8, a, _, _) => if a = 13 ∨ a = 14 ∨ a = 15 then some (pc + 3, ls, .ref (1000000 + a) :: st, M) else none
    | _ => none
  | .invokespecial x => match zlk own x with
    | some (9, _, _, _) => (match st with
      | .ref _ :: r => if (r.map fun v => v.category).sum ≤ 8 then some (pc + 3, ls, r, M) else none
      | _ => none)
    | _ => none
  | .invokestatic x => match zlk own x with
    | some (10, _, _, _) => (match st with
      | .int n :: .int dp :: .ref a :: .int sp :: .ref a0 :: r => (match zob M a0 with
        | some (.inl (t0, n0, .inl f)) => (match zob M a with
          | some (.inl (t1, n1, .inl g)) => if sp < 0 ∨ dp < 0 ∨ n < 0 ∨ ¬ sp.toNatClampNeg + n.toNatClampNeg ≤ n0 ∨ ¬ dp.toNatClampNeg + n.toNatClampNeg ≤ n1 ∨ ¬ t0 = t1 ∨ ¬ t0 < 2 ∨ ¬ (r.map fun v => v.category).sum ≤ 8 then none else some (pc + 3, ls, r, zset M a (.inl (t1, n1, .inl (va_cpy f g sp.toNatClampNeg dp.toNatClampNeg n.toNatClampNeg))))
          | _ => none)
        | _ => none)
      | _ => none)
    | _ => none
  | _ => none
