/-! THE EVALUATOR, 1: what reaches into memory -/
/-- the script's length, the script, and whether the formatter of String's index errors is there -/
abbrev zX : Type := Nat × (Nat → Int32) × Nat
def zty (t : Nat) : FieldType := match t with
  | 0 => .int
  | 1 => .byte
  | 2 => .boolean
  | 3 => .object "ForthHouse$Forth"
  | _ => .object "ForthHouse$Task"
def zob (M : zM) (a : Nat) : Option zE := if a < M.1 then some (M.2.2 a) else none
def zrf (r : Option Nat) : Value := match r with
  | none => .null
  | some a => .ref a
def zfit (ty : FieldType) (v : Value) : Bool := decide (narrow ty v = v) && fits ty v
def zdef (ci n : Nat) : List Value := (List.range n).map fun k => defaultValue (zfty ci k)
def zTAKES : List Int32 := [1, 1, 2, 2, 3, 3, 2, 2, 1, 2, 2, 4, 4, 1, 1, 0, 1, 0, 0, 2, 0, 2, 2, 2, 2, 2, 2, 3, 3, 1, 1, 1, 1, 1, 1, 2, 2, 2, 3, 2, 3, 3, 1, 4, 2, 2, 2, 2, 2, 2, 1, 1, 1, 1, 2, 2, 2, 1, 2, 2, 3, 0, 0, 2, 1, 2, 1, 2, 3, 1, 0, 1, 1, 1, 0, 1, 1, 1, 1, 1, 3, 3, 1, 1, 1, 1, 0, 0, 1, 2, 0, 2, 2, 2, 1, 1, 0, 0, 0, 0, 0, 0, 0, 0, 0, 0, 0, 0, 0, 0, 0, 0, 0, 0, 0, 0, 0, 0, 0, 0, 0, 0, 1, 1, 2, 0, 0, 0, 0, 0, 0, 0, 0, 0, 0, 0, 0, 0, 0, 0, 0, 0, 0, 0, 0, 0, 0, 0, 0, 0, 0, 0, 0, 0, 0, 1, 1, 0, 0, 1, 0, 0, 0, 1, 0, 0, 2, 0, 1, 0, 0, 0]
def zLEAVES : List Int32 := [2, 0, 2, 3, 3, 3, 1, 3, 1, 4, 0, 4, 6, 1, 0, 1, 0, 1, 1, 0, 2, 1, 1, 1, 1, 1, 2, 1, 2, 1, 1, 1, 1, 1, 1, 1, 1, 2, 2, 2, 2, 2, 2, 2, 2, 1, 1, 1, 1, 1, 1, 1, 1, 1, 1, 1, 1, 1, 1, 1, 1, 1, 1, 0, 1, 0, 1, 0, 0, 2, 1, 0, 0, 0, 0, 1, 1, 1, 1, 1, 0, 0, 2, 0, 0, 0, 0, 0, 0, 0, 0, 2, 2, 2, 0, 0, 1, 0, 0, 1, 0, 0, 0, 0, 0, 0, 0, 0, 0, 0, 0, 0, 0, 0, 0, 0, 0, 0, 0, 0, 0, 0, 0, 1, 0, 0, 0, 0, 0, 0, 0, 0, 0, 0, 0, 0, 0, 0, 0, 0, 0, 0, 0, 0, 0, 0, 0, 1, 1, 0, 0, 0, 0, 0, 0, 0, 0, 0, 1, 0, 0, 0, 0, 1, 0, 0, 1, 1, 0, 0, 0, 0]
def zTRAITS : List Int32 := [8, 8, 8, 8, 8, 8, 8, 8, 0, 8, 8, 8, 8, 0, 0, 8, 10, 10, 10, 10, 10, 8, 8, 8, 8, 8, 8, 8, 8, 8, 8, 8, 8, 8, 8, 8, 8, 8, 8, 8, 8, 8, 8, 8, 8, 8, 8, 8, 8, 8, 8, 8, 8, 8, 8, 8, 8, 8, 8, 8, 8, 8, 8, 8, 8, 8, 8, 8, 8, 8, 8, 8, 8, 8, 8, 8, 8, 8, 8, 8, 8, 8, 8, 8, 8, 8, 8, 8, 8, 8, 8, 8, 8, 8, 8, 8, 8, 8, 8, 8, 0, 7, 0, 0, 0, 0, 0, 0, 0, 0, 0, 7, 0, 7, 1, 0, 7, 7, 7, 1, 1, 7, 0, 8, 0, 1, 1, 7, 1, 1, 7, 7, 7, 7, 7, 7, 7, 7, 7, 7, 7, 7, 7, 7, 7, 7, 7, 10, 10, 10, 10, 7, 7, 7, 7, 0, 8, 8, 8, 8, 8, 8, 8, 8, 8, 8, 8, 8, 0, 0, 0, 0]
def zstr : List (List Int32) := [[68, 85, 80, 32, 68, 82, 79, 80, 32, 83, 87, 65, 80, 32, 79, 86, 69, 82, 32, 82, 79, 84, 32, 45, 82, 79, 84, 32, 78, 73, 80, 32, 84, 85, 67, 75, 32, 63, 68, 85, 80, 32, 50, 68, 85, 80, 32, 50, 68, 82, 79, 80, 32, 50, 83, 87, 65, 80, 32, 50, 79, 86, 69, 82, 32, 80, 73, 67, 75, 32, 82, 79, 76, 76, 32, 68, 69, 80, 84, 72, 32], [62, 82, 32, 82, 62, 32, 82, 64, 32, 50, 62, 82, 32, 50, 82, 62, 32], [43, 32, 45, 32, 42, 32, 47, 32, 77, 79, 68, 32, 47, 77, 79, 68, 32, 42, 47, 32, 42, 47, 77, 79, 68, 32, 49, 43, 32, 49, 45, 32, 50, 42, 32, 50, 47, 32, 78, 69, 71, 65, 84, 69, 32, 65, 66, 83, 32, 77, 73, 78, 32, 77, 65, 88, 32, 85, 77, 42, 32, 85, 77, 47, 77, 79, 68, 32, 77, 42, 32, 83, 77, 47, 82, 69, 77, 32, 70, 77, 47, 77, 79, 68, 32, 83, 62, 68, 32, 68, 43, 32, 68, 78, 69, 71, 65, 84, 69, 32], [61, 32, 60, 62, 32, 60, 32, 62, 32, 85, 60, 32, 48, 61, 32, 48, 60, 62, 32, 48, 60, 32, 48, 62, 32, 65, 78, 68, 32, 79, 82, 32, 88, 79, 82, 32, 73, 78, 86, 69, 82, 84, 32, 76, 83, 72, 73, 70, 84, 32, 82, 83, 72, 73, 70, 84, 32, 87, 73, 84, 72, 73, 78, 32, 84, 82, 85, 69, 32, 70, 65, 76, 83, 69, 32], [33, 32, 64, 32, 67, 33, 32, 67, 64, 32, 43, 33, 32, 50, 33, 32, 50, 64, 32, 72, 69, 82, 69, 32, 65, 76, 76, 79, 84, 32, 44, 32, 67, 44, 32, 65, 76, 73, 71, 78, 32, 65, 76, 73, 71, 78, 69, 68, 32, 67, 69, 76, 76, 43, 32, 67, 69, 76, 76, 83, 32, 67, 72, 65, 82, 43, 32, 67, 72, 65, 82, 83, 32, 70, 73, 76, 76, 32, 77, 79, 86, 69, 32, 67, 79, 85, 78, 84, 32], [46, 32, 85, 46, 32, 69, 77, 73, 84, 32, 67, 82, 32, 83, 80, 65, 67, 69, 32, 83, 80, 65, 67, 69, 83, 32, 84, 89, 80, 69, 32, 60, 35, 32, 35, 32, 35, 83, 32, 35, 62, 32, 72, 79, 76, 68, 32, 83, 73, 71, 78, 32, 66, 65, 83, 69, 32, 68, 69, 67, 73, 77, 65, 76, 32, 72, 69, 88, 32, 62, 73, 78, 32], [58, 32, 59, 32, 58, 78, 79, 78, 65, 77, 69, 32, 67, 79, 78, 83, 84, 65, 78, 84, 32, 86, 65, 82, 73, 65, 66, 76, 69, 32, 86, 65, 76, 85, 69, 32, 67, 82, 69, 65, 84, 69, 32, 68, 69, 70, 69, 82, 32, 77, 65, 82, 75, 69, 82, 32, 73, 77, 77, 69, 68, 73, 65, 84, 69, 32, 39, 32, 91, 39, 93, 32, 67, 72, 65, 82, 32, 91, 67, 72, 65, 82, 93, 32, 91, 32, 93, 32, 76, 73, 84, 69, 82, 65, 76, 32, 80, 79, 83, 84, 80, 79, 78, 69, 32, 82, 69, 67, 85, 82, 83, 69, 32, 84, 79, 32, 73, 83, 32, 68, 79, 69, 83, 62, 32, 69, 88, 69, 67, 85, 84, 69, 32, 62, 66, 79, 68, 89, 32, 69, 86, 65, 76, 85, 65, 84, 69, 32, 83, 34, 32, 46, 34, 32, 65, 66, 79, 82, 84, 34, 32, 40, 32, 92, 32, 123, 58, 32, 91, 58, 32, 59, 93, 32], [73, 70, 32, 69, 76, 83, 69, 32, 84, 72, 69, 78, 32, 66, 69, 71, 73, 78, 32, 85, 78, 84, 73, 76, 32, 87, 72, 73, 76, 69, 32, 82, 69, 80, 69, 65, 84, 32, 65, 71, 65, 73, 78, 32, 65, 72, 69, 65, 68, 32, 68, 79, 32, 63, 68, 79, 32, 76, 79, 79, 80, 32, 43, 76, 79, 79, 80, 32, 76, 69, 65, 86, 69, 32, 73, 32, 74, 32, 85, 78, 76, 79, 79, 80, 32, 69, 88, 73, 84, 32, 67, 65, 83, 69, 32, 79, 70, 32, 69, 78, 68, 79, 70, 32, 69, 78, 68, 67, 65, 83, 69, 32], [67, 65, 84, 67, 72, 32, 84, 72, 82, 79, 87, 32, 65, 66, 79, 82, 84, 32, 87, 79, 82, 68, 76, 73, 83, 84, 32, 62, 79, 82, 68, 69, 82, 32, 80, 82, 69, 86, 73, 79, 85, 83, 32, 68, 69, 70, 73, 78, 73, 84, 73, 79, 78, 83, 32, 79, 78, 76, 89, 32, 84, 65, 83, 75, 32, 80, 65, 85, 83, 69, 32, 83, 84, 79, 80, 32, 83, 69, 78, 68, 32, 82, 69, 67, 69, 73, 86, 69, 32, 76, 79, 65, 68, 32, 84, 123, 32, 45, 62, 32, 125, 84, 32], [68, 85, 80, 32, 68, 82, 79, 80, 32, 83, 87, 65, 80, 32, 79, 86, 69, 82, 32, 82, 79, 84, 32, 45, 82, 79, 84, 32, 78, 73, 80, 32, 84, 85, 67, 75, 32, 63, 68, 85, 80, 32, 50, 68, 85, 80, 32, 50, 68, 82, 79, 80, 32, 50, 83, 87, 65, 80, 32, 50, 79, 86, 69, 82, 32, 80, 73, 67, 75, 32, 82, 79, 76, 76, 32, 68, 69, 80, 84, 72, 32, 62, 82, 32, 82, 62, 32, 82, 64, 32, 50, 62, 82, 32, 50, 82, 62, 32, 43, 32, 45, 32, 42, 32, 47, 32, 77, 79, 68, 32, 47, 77, 79, 68, 32, 42, 47, 32, 42, 47, 77, 79, 68, 32, 49, 43, 32, 49, 45, 32, 50, 42, 32, 50, 47, 32, 78, 69, 71, 65, 84, 69, 32, 65, 66, 83, 32, 77, 73, 78, 32, 77, 65, 88, 32, 85, 77, 42, 32, 85, 77, 47, 77, 79, 68, 32, 77, 42, 32, 83, 77, 47, 82, 69, 77, 32, 70, 77, 47, 77, 79, 68, 32, 83, 62, 68, 32, 68, 43, 32, 68, 78, 69, 71, 65, 84, 69, 32, 61, 32, 60, 62, 32, 60, 32, 62, 32, 85, 60, 32, 48, 61, 32, 48, 60, 62, 32, 48, 60, 32, 48, 62, 32, 65, 78, 68, 32, 79, 82, 32, 88, 79, 82, 32, 73, 78, 86, 69, 82, 84, 32, 76, 83, 72, 73, 70, 84, 32, 82, 83, 72, 73, 70, 84, 32, 87, 73, 84, 72, 73, 78, 32, 84, 82, 85, 69, 32, 70, 65, 76, 83, 69, 32, 33, 32, 64, 32, 67, 33, 32, 67, 64, 32, 43, 33, 32, 50, 33, 32, 50, 64, 32, 72, 69, 82, 69, 32, 65, 76, 76, 79, 84, 32, 44, 32, 67, 44, 32, 65, 76, 73, 71, 78, 32, 65, 76, 73, 71, 78, 69, 68, 32, 67, 69, 76, 76, 43, 32, 67, 69, 76, 76, 83, 32, 67, 72, 65, 82, 43, 32, 67, 72, 65, 82, 83, 32, 70, 73, 76, 76, 32, 77, 79, 86, 69, 32, 67, 79, 85, 78, 84, 32, 46, 32, 85, 46, 32, 69, 77, 73, 84, 32, 67, 82, 32, 83, 80, 65, 67, 69, 32, 83, 80, 65, 67, 69, 83, 32, 84, 89, 80, 69, 32, 60, 35, 32, 35, 32, 35, 83, 32, 35, 62, 32, 72, 79, 76, 68, 32, 83, 73, 71, 78, 32, 66, 65, 83, 69, 32, 68, 69, 67, 73, 77, 65, 76, 32, 72, 69, 88, 32, 62, 73, 78, 32, 58, 32, 59, 32, 58, 78, 79, 78, 65, 77, 69, 32, 67, 79, 78, 83, 84, 65, 78, 84, 32, 86, 65, 82, 73, 65, 66, 76, 69, 32, 86, 65, 76, 85, 69, 32, 67, 82, 69, 65, 84, 69, 32, 68, 69, 70, 69, 82, 32, 77, 65, 82, 75, 69, 82, 32, 73, 77, 77, 69, 68, 73, 65, 84, 69, 32, 39, 32, 91, 39, 93, 32, 67, 72, 65, 82, 32, 91, 67, 72, 65, 82, 93, 32, 91, 32, 93, 32, 76, 73, 84, 69, 82, 65, 76, 32, 80, 79, 83, 84, 80, 79, 78, 69, 32, 82, 69, 67, 85, 82, 83, 69, 32, 84, 79, 32, 73, 83, 32, 68, 79, 69, 83, 62, 32, 69, 88, 69, 67, 85, 84, 69, 32, 62, 66, 79, 68, 89, 32, 69, 86, 65, 76, 85, 65, 84, 69, 32, 83, 34, 32, 46, 34, 32, 65, 66, 79, 82, 84, 34, 32, 40, 32, 92, 32, 123, 58, 32, 91, 58, 32, 59, 93, 32, 73, 70, 32, 69, 76, 83, 69, 32, 84, 72, 69, 78, 32, 66, 69, 71, 73, 78, 32, 85, 78, 84, 73, 76, 32, 87, 72, 73, 76, 69, 32, 82, 69, 80, 69, 65, 84, 32, 65, 71, 65, 73, 78, 32, 65, 72, 69, 65, 68, 32, 68, 79, 32, 63, 68, 79, 32, 76, 79, 79, 80, 32, 43, 76, 79, 79, 80, 32, 76, 69, 65, 86, 69, 32, 73, 32, 74, 32, 85, 78, 76, 79, 79, 80, 32, 69, 88, 73, 84, 32, 67, 65, 83, 69, 32, 79, 70, 32, 69, 78, 68, 79, 70, 32, 69, 78, 68, 67, 65, 83, 69, 32, 67, 65, 84, 67, 72, 32, 84, 72, 82, 79, 87, 32, 65, 66, 79, 82, 84, 32, 87, 79, 82, 68, 76, 73, 83, 84, 32, 62, 79, 82, 68, 69, 82, 32, 80, 82, 69, 86, 73, 79, 85, 83, 32, 68, 69, 70, 73, 78, 73, 84, 73, 79, 78, 83, 32, 79, 78, 76, 89, 32, 84, 65, 83, 75, 32, 80, 65, 85, 83, 69, 32, 83, 84, 79, 80, 32, 83, 69, 78, 68, 32, 82, 69, 67, 69, 73, 86, 69, 32, 76, 79, 65, 68, 32, 84, 123, 32, 45, 62, 32, 125, 84, 32], [58, 125], [45, 45], [124]]
/-- static rows of bytes: 13 TAKES, 14 LEAVES, 15 TRAITS -/
def zstat (a : Nat) : Option (List Int32) := if a = 1000013 then some zTAKES else if a = 1000014 then some zLEAVES else if a = 1000015 then some zTRAITS else none
def zatype (t : ArrayType) : Option Nat := match t with
  | .int => some 0
  | .byte => some 1
  | .boolean => some 2
  | _ => none
/-- X: the script -/
def zs1 (X : zX) (own : Nat) (ini : Bool) (pc : Nat) (ls : zL) (st : List Value) (M : zM) (i : Instr) : zR := match i with
  | .getfield x => match zlk own x with
    | some (0, ci, k, _) => (match st with
      | .ref a :: r => (match zob M a with
        | some (.inr (cj, fs)) => if cj = ci then (match fs[k]? with
          | some v => some (pc + 3, ls, v :: r, M)
          | none => none) else none
        | _ => none)
      | _ => none)
    | _ => none
  | .putfield x => match zlk own x with
    | some (0, ci, k, _) => (match st with
      | v :: .ref a :: r => (match zob M a with
        | some (.inr (cj, fs)) => (match zcls[ci]? with
          | some q => if cj = ci ∧ k < fs.length ∧ k < q.2.2 ∧ zfit (zfty ci k) v = true ∧ ((q.2.1 k).2.2.2 = false ∨ (ini = true ∧ (q.2.1 k).1 = zown own)) then some (pc + 3, ls, r, zset M a (.inr (cj, fs.set k v))) else none
          | none => none)
        | _ => none)
      | _ => none)
    | _ => none
  | .iaload => match st with
    | .int j :: .ref a :: r => if a = 1000016 then (if j < 0 ∨ X.1 ≤ j.toNatClampNeg ∨ ¬ X.1 < 2147483648 then none else some (pc + 1, ls, .int (X.2.1 j.toNatClampNeg) :: r, M)) else match zob M a with
      | some (.inl (0, n, .inl f)) => if j < 0 ∨ n ≤ j.toNatClampNeg then none else some (pc + 1, ls, .int (f j.toNatClampNeg) :: r, M)
      | _ => none
    | _ => none
  | .baload => match st with
    | .int j :: .ref a :: r => match zstat a with
      | some l => if j < 0 ∨ l.length ≤ j.toNatClampNeg then none else some (pc + 1, ls, .int (l.getD j.toNatClampNeg 0) :: r, M)
      | none => match zob M a with
        | some (.inl (1, n, .inl f)) => if j < 0 ∨ n ≤ j.toNatClampNeg then none else some (pc + 1, ls, .int (f j.toNatClampNeg) :: r, M)
        | some (.inl (2, n, .inl f)) => if j < 0 ∨ n ≤ j.toNatClampNeg then none else some (pc + 1, ls, .int (f j.toNatClampNeg) :: r, M)
        | _ => none
    | _ => none
  | .aaload => match st with
    | .int j :: .ref a :: r => match zob M a with
      | some (.inl (t, n, .inr (.inr (.inr (.inr f))))) => if t < 3 ∨ j < 0 ∨ n ≤ j.toNatClampNeg then none else some (pc + 1, ls, zrf (f j.toNatClampNeg) :: r, M)
      | _ => none
    | _ => none
  | .iastore => match st with
    | .int x :: .int j :: .ref a :: r => match zob M a with
      | some (.inl (0, n, .inl f)) => if j < 0 ∨ n ≤ j.toNatClampNeg then none else some (pc + 1, ls, r, zset M a (.inl (0, n, .inl (upd f j.toNatClampNeg x))))
      | _ => none
    | _ => none
  | .bastore => match st with
    | .int x :: .int j :: .ref a :: r => match zob M a with
      | some (.inl (1, n, .inl f)) => if j < 0 ∨ n ≤ j.toNatClampNeg then none else some (pc + 1, ls, r, zset M a (.inl (1, n, .inl (upd f j.toNatClampNeg (vp_nar .byte x)))))
      | some (.inl (2, n, .inl f)) => if j < 0 ∨ n ≤ j.toNatClampNeg then none else some (pc + 1, ls, r, zset M a (.inl (2, n, .inl (upd f j.toNatClampNeg (vp_nar .boolean x)))))
      | _ => none
    | _ => none
  | .aastore => match st with
    | .ref v :: .int j :: .ref a :: r => match zob M a with
      | some (.inl (t, n, .inr (.inr (.inr (.inr f))))) => (match zob M v with
        | some (.inr (ci, _)) => (match zcls[ci]? with
          | some q => if t < 3 ∨ j < 0 ∨ n ≤ j.toNatClampNeg ∨ ¬ zty t = .object q.1 then none else some (pc + 1, ls, r, zset M a (.inl (t, n, .inr (.inr (.inr (.inr (va_up f j.toNatClampNeg (some v))))))))
          | none => none)
        | _ => none)
      | _ => none
    | _ => none
  | .arraylength => match st with
    | .ref a :: r => if a = 1000016 then (if X.1 < 2147483648 then some (pc + 1, ls, .int (Int32.ofNat X.1) :: r, M) else none) else match zob M a with
      | some (.inl (_, x)) => some (pc + 1, ls, .int (Int32.ofNat x.1) :: r, M)
      | _ => none
    | _ => none
  | .newarray t => match st with
    | .int n :: r => match zatype t with
      | some k => if n < 0 ∨ ¬ M.1 < 1000000 ∨ ¬ n.toNatClampNeg * componentBytes (zty k) ≤ 536870912 then none else some (pc + 2, ls, .ref M.1 :: r, zpush M (.inl (k, n.toNatClampNeg, .inl (fun _ => 0))))
      | none => none
    | _ => none
  | .anewarray x => match zlk own x with
    | some (3, ci, _, _) => (match st with
      | .int n :: r => if n < 0 ∨ ¬ M.1 < 1000000 ∨ ¬ n.toNatClampNeg * 4 ≤ 536870912 then none else if ci = 1 then some (pc + 3, ls, .ref M.1 :: r, zpush M (.inl (3, n.toNatClampNeg, .inr (.inr (.inr (.inr (fun _ => none))))))) else if ci = 8 then some (pc + 3, ls, .ref M.1 :: r, zpush M (.inl (4, n.toNatClampNeg, .inr (.inr (.inr (.inr (fun _ => none))))))) else none
      | _ => none)
    | _ => none
  | .new x => match zlk own x with
    | some (3, ci, _, _) => (match zcls[ci]? with
      | some q => if M.1 < 1000000 then some (pc + 3, ls, .ref M.1 :: st, zpush M (.inr (ci, zdef ci q.2.2))) else none
      | none => none)
    | _ => none
  | .ldc x => match zlk own x with
    | some (5, a, _, _) => some (pc + 2, ls, .int (Int32.ofNat a) :: st, M)
    | some (7, a, _, _) => some (pc + 2, ls, .ref (1000000 + a) :: st, M)
    | _ => none
  | .ldc_w x => match zlk own x with
    | some (5, a, _, _) => some (pc + 3, ls, .int (Int32.ofNat a) :: st, M)
    | some (7, a, _, _) => some (pc + 3, ls, .ref (1000000 + a) :: st, M)
    | _ => none
  | .ldc2_w x => match zlk own x with
    | some (6, a, _, _) => some (pc + 3, ls, .long (Int64.ofNat a) :: st, M)
    | _ => none
  | .getstatic x => match zlk own x with
    | some (8, a, _, _) => if a = 13 ∨ a = 14 ∨ a = 15 then some (pc + 3, ls, .ref (1000000 + a) :: st, M) else none
    | _ => none
  | .invokespecial x => match zlk own x with
    | some (9, _, _, _) => (match st with
      | .ref _ :: r => if (r.map fun v => v.category).sum ≤ 8 then some (pc + 3, ls, r, M) else none
      | _ => none)
    | _ => none
  | .invokestatic x => match zlk own x with
    | some (10, _, _, _) => (match st with
      | .int n :: .int dp :: .ref a :: .int sp :: .ref a0 :: r => (match zob M a0 with
        | some (.inl (t0, n0, .inl f)) => (match zob M a with
          | some (.inl (t1, n1, .inl g)) => if sp < 0 ∨ dp < 0 ∨ n < 0 ∨ ¬ sp.toNatClampNeg + n.toNatClampNeg ≤ n0 ∨ ¬ dp.toNatClampNeg + n.toNatClampNeg ≤ n1 ∨ ¬ t0 = t1 ∨ ¬ t0 < 2 ∨ ¬ (r.map fun v => v.category).sum ≤ 8 then none else some (pc + 3, ls, r, zset M a (.inl (t1, n1, .inl (va_cpy f g sp.toNatClampNeg dp.toNatClampNeg n.toNatClampNeg))))
          | _ => none)
        | _ => none)
      | _ => none)
    | _ => none
  | _ => none
def zsb (q : Nat) : List Int32 := zstr.getD q []
/-- String constants (1000000 and on, their rows of bytes from 1000020 on), and what String's own methods read -/
def zs3 (X : zX) (own : Nat) (pc : Nat) (ls : zL) (st : List Value) (M : zM) (i : Instr) : zR := match i with
  | .getfield x => match zlk own x with
    | some (11, a, _, _) => (match st with
      | .ref q :: r => if 1000000 ≤ q ∧ q < 1000013 then (if a = 0 then some (pc + 3, ls, .ref (q + 20) :: r, M) else if a = 1 then some (pc + 3, ls, .int 0 :: r, M) else none) else none
      | _ => none)
    | _ => none
  | .arraylength => match st with
    | .ref q :: r => if 1000020 ≤ q ∧ q < 1000033 then some (pc + 1, ls, .int (Int32.ofNat (zsb (q - 1000020)).length) :: r, M) else none
    | _ => none
  | .baload => match st with
    | .int j :: .ref q :: r => if 1000020 ≤ q ∧ q < 1000033 then (if j < 0 ∨ (zsb (q - 1000020)).length ≤ j.toNatClampNeg then none else some (pc + 1, ls, .int ((zsb (q - 1000020)).getD j.toNatClampNeg 0) :: r, M)) else none
    | _ => none
  | .getstatic x => match zlk own x with
    | some (12, _, _, _) => some (pc + 3, ls, .int 1 :: st, M)
    | some (13, _, _, _) => some (pc + 3, ls, (if X.2.2 = 0 then .null else .ref 1000040) :: st, M)
    | _ => none
  | _ => none
