/-! THE EVALUATOR, 2: calls, returns, whole methods -/
/-- name, bytes, locals, answer, parameters, class, kind (0 static, 1 of an object, 2 constructor), instructions -/
abbrev zMe : Type := MethodName × ByteArray × Nat × Option FieldType × Nat × Nat × Nat × (Nat → Option (Instr × Nat))
def zret (ret : Option FieldType) (i : Instr) (st : List Value) : Option (Option Value) := match i with
  | .return_ => match ret, st with
    | none, [] => some none
    | _, _ => none
  | .ireturn => match ret, st with
    | some ty, [.int v] => if narrow ty (.int v) = .int v then some (some (.int v)) else none
    | _, _ => none
  | .lreturn => match ret, st with
    | some .long, [.long v] => some (some (.long v))
    | _, _ => none
  | .areturn => match ret, st with
    | some (.object _), [.ref a] => some (some (.ref a))
    | some (.object _), [.null] => some (some .null)
    | _, _ => none
  | _ => none
def zs2 (meth : Nat → Option zMe) (call : Nat → List Value → zM → Option (Option Value × zM)) (own : Nat) (pc : Nat) (ls : zL) (st : List Value) (M : zM) (i : Instr) : zR := match i with
  | .invokevirtual x => match zlk own x with
    | some (t, a, n, _) => (match meth a with
      | some r => (match st.drop n with
        | .ref b :: rest => if 1000000 ≤ b ∧ b < 1000013 then (if (t = 1 ∨ t = 2) ∧ zmn a = r.1 ∧ r.2.2.2.2.1 = n ∧ r.2.2.2.2.2.2.1 = 1 ∧ "java/lang/String" = r.1.cls ∧ (st.take n).length = n ∧ (rest.map fun v => v.category).sum ≤ 8 then (match call a (.ref b :: (st.take n).reverse) M with
                | some (v, M') => some (pc + 3, ls, v.toList ++ rest, M')
                | none => none) else none) else (match zob M b with
          | some (.inr (ci, _)) => (match zcls[ci]? with
            | some q => if (t = 1 ∨ t = 2) ∧ zmn a = r.1 ∧ r.2.2.2.2.1 = n ∧ r.2.2.2.2.2.2.1 = 1 ∧ q.1 = r.1.cls ∧ (st.take n).length = n ∧ (rest.map fun v => v.category).sum ≤ 8 then (match call a (.ref b :: (st.take n).reverse) M with
                | some (v, M') => some (pc + 3, ls, v.toList ++ rest, M')
                | none => none) else none
            | none => none)
          | _ => none)
        | _ => none)
      | none => none)
    | none => none
  | .invokespecial x => match zlk own x with
    | some (t, a, n, _) => (match meth a with
      | some r => (match st.drop n with
        | .ref b :: rest => if (t = 1 ∨ t = 2) ∧ zmn a = r.1 ∧ r.2.2.2.2.1 = n ∧ r.2.2.2.2.2.2.1 = 2 ∧ (st.take n).length = n ∧ (rest.map fun v => v.category).sum ≤ 8 then (match call a (.ref b :: (st.take n).reverse) M with
            | some (v, M') => some (pc + 3, ls, v.toList ++ rest, M')
            | none => none) else none
        | _ => none)
      | none => none)
    | none => none
  | .invokestatic x => match zlk own x with
    | some (t, a, n, _) => (match meth a with
      | some r => if (t = 1 ∨ t = 2) ∧ zmn a = r.1 ∧ r.2.2.2.2.1 = n ∧ r.2.2.2.2.2.2.1 = 0 ∧ (st.take n).length = n ∧ ((st.drop n).map fun v => v.category).sum ≤ 8 then (match call a (st.take n).reverse M with
          | some (v, M') => some (pc + 3, ls, v.toList ++ st.drop n, M')
          | none => none) else none
      | none => none)
    | none => none
  | _ => none
def zstep (X : zX) (meth : Nat → Option zMe) (call : Nat → List Value → zM → Option (Option Value × zM)) (r : zMe) (pc : Nat) (ls : zL) (st : List Value) (M : zM) (i : Instr) (len : Nat) : zR := match zs0 pc ls st r.2.2.1 i len with
  | some (pc', ls', st') => some (pc', ls', st', M)
  | none => match zs1 X r.2.2.2.2.2.1 (r.2.2.2.2.2.2.1 == 2) pc ls st M i with
    | some q => some q
    | none => match zs3 X r.2.2.2.2.2.1 pc ls st M i with
      | some q => some q
      | none => zs2 meth call r.2.2.2.2.2.1 pc ls st M i
def zrun (X : zX) (meth : Nat → Option zMe) (call : Nat → List Value → zM → Option (Option Value × zM)) (r : zMe) : Nat → Nat → zL → List Value → zM → Option (Option Value × zM)
  | 0, _, _, _, _ => none
  | n + 1, pc, ls, st, M => match r.2.2.2.2.2.2.2 pc with
    | none => none
    | some (i, len) => if zlok i len = true then (match zret r.2.2.2.1 i st with
      | some v => some (v, M)
      | none => match zstep X meth call r pc ls st M i len with
        | some (pc', ls', st', M') => zrun X meth call r n pc' ls' st' M'
        | none => none) else none
abbrev zCall : Type := Nat → List Value → zM → Option (Option Value × zM)
/-- ov: what is known of some methods, in the place of their code -/
def zev (th : Nat) (X : zX) (meth : Nat → Option zMe) (ov : zCall) : Nat → Nat → zCall
  | 0, _, _, _, _ => none
  | d + 1, n, a, args, M => match ov a args M with
    | some q => if th ≤ d + 1 then some q else none
    | none => match meth a with
      | none => none
      | some r => if (lg_sl args).length ≤ r.2.2.1 then zrun X meth (zev th X meth ov d n) r n 0 (lv_args 0 args) [] M else none
