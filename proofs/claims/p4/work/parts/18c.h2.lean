/-! RULES AS DATA, 2: where the walk over the reference splits (by what it will ask; nothing rests on it) -/
def hGc (e : sE) (c : Int) (B : sB) : Option sE := cond (spos (c - 1 - slb B e) && spos (sub_ B e - c)) (some (ssub e (sC c))) none
def hGt (B : sB) : sT → Option sE
  | [] => none
  | t :: l => cond (siz (t.2 - 39700) && spos ((sbd B t.1).2 - (sbd B t.1).1 - 1)) (some (ssub (sS t.1) (sC ((sbd B t.1).1 + 1)))) (hGt B l)
def hGf (A : sA) (j : Nat) : Option sE := match sffF A.1.1 12 j (sC 474) A.2.2.1 with
  | some a => cond (Nat.beq a.1 0) (some a.2.2) none
  | none => none
def hGm (A : sA) (e : sE) : Option sE := match sffR A.1.1 58 (sC 474) e A.2.2.1 with
  | some a => cond (Nat.beq a.1 0) (some a.2.2) none
  | none => none
def hGo (o : Option sE) (p : Option sE) : Option sE := match o with
  | some e => some e
  | none => p
def rhG (own _pc : Nat) (i : Instr) (A : sA) : Option sE := match i, A.2.2.2.2.2 with
  | .iaload, j :: a :: _ => cond ((Nat.beq a.1 4 && Nat.beq a.2.1 61) && (spos (sub_ A.1.1 j.2.2 - slb A.1.1 j.2.2 - 1) && spos (99 - sub_ A.1.1 j.2.2))) (some (ssub j.2.2 (sC (slb A.1.1 j.2.2 + 1)))) none
  | .if_icmp _ _, y :: x :: _ => cond ((A.2.2.2.1.any fun q => Nat.beq q.1 14 || Nat.beq q.1 17) || (sEq y.2.2 (sC (-1)) && A.2.2.2.1.any fun q => Nat.beq q.1 82)) (match (ssub x.2.2 y.2.2).2 with
    | [] => none
    | _ => cond (sge0 A.1 (ssub x.2.2 y.2.2) || sge0 A.1 (sM1 (ssub x.2.2 y.2.2))) none (some (ssub x.2.2 y.2.2))) none
  | .invokevirtual x, t0 :: T => (match zlk own x with
    | some (_, a, _, _) => cond (Nat.beq a 368) (hGc t0.2.2 83 A.1.1)
        (cond (Nat.beq a 414) (cond (match scon A.1.1 t0.2.2 with
          | some c => spos (c - 1) && spos (3 - c)
          | none => false) (match hGf A 4, hGf A 3 with
          | some te, some bb => (match tdv 660 (ssub (ssub te bb) (sC 30692)) with
            | some k => cond (spos (slb A.1.1 k) && (spos (sub_ A.1.1 k - slb A.1.1 k - 1) && spos (3 - sub_ A.1.1 k))) (some (ssub k (sC (slb A.1.1 k + 1)))) none
            | none => none)
          | _, _ => none) none)
        (cond (Nat.beq a 495) (hGo (hGt A.1.1 t0.2.2.2) (match T with
          | t1 :: _ => hGt A.1.1 t1.2.2.2
          | [] => none))
        (cond (Nat.beq a 376) (match hGf A 5, hGf A 3 with
          | some ce, some bb => hGo (hGc ce (slb A.1.1 ce + 1) A.1.1) (match hGm A (sadd bb (sC 2)) with
            | some ch => hGc ch 4 A.1.1
            | none => none)
          | _, _ => none) none)))
    | none => none)
  | _, _ => none
