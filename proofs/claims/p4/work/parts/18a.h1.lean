/-! RULES AS DATA, 1: premises and how they are looked for -/
/-- a premise: (kind, number, number, expressions over what is bound so far) -/
abbrev hP : Type := Nat × Nat × Nat × List sE
def hx (p : hP) (k : Nat) : sE := p.2.2.2.getD k (0, [])
/-- an expression that is just symbol n -/
def hisn (e : sE) (n : Nat) : Bool := match e.2 with
  | [t] => Nat.beq t.1 n && (siz e.1 && siz (t.2 - 1))
  | _ => false
def heq (K : sK) (a b : sE) : Bool := sSm K.1 a b || (sge0 K (ssub a b) && sge0 K (ssub b a))
def hmat (K : sK) : List sE → List sE → List sE → Option (List sE)
  | [], [], env => some env
  | p :: ps, a :: as, env => cond (hisn p env.length) (hmat K ps as (env ++ [a])) (cond (heq K (tsb env p) a) (hmat K ps as env) none)
  | _, _, _ => none
/-- a rest below st, and what is left -/
def hdr (K : sK) (st : Nat) (e : sE) : Option (sE × sE) := cond (spos (slb K.1 (srem K.1 st e)) && (spos ((st : Int) - 1 - sub_ K.1 (srem K.1 st e)) || sge0 K (ssub (sC ((st : Int) - 1)) (srem K.1 st e)))) (match tdv (st : Int) (ssub e (srem K.1 st e)) with
  | some x => some (x, srem K.1 st e)
  | none => none) none
/-- by bounds: none of st * j, 0 <= j < cnt, lies between f and g -/
def hfr1 (B : sB) (f g : sE) (st cnt : Int) : Bool := spos (-1 - sub_ B g) || (spos (slb B f - st * (cnt - 1) - 1) || ((spos (slb B (srem B st.toNat f) - 1) && spos (st - 1 - sub_ B (srem B st.toNat f))) && ((spos (slb B (srem B st.toNat g) - 1) && spos (st - 1 - sub_ B (srem B st.toNat g))) && sSm B (ssub f (srem B st.toNat f)) (ssub g (srem B st.toNat g)))))
def hgd (d : Nat) (e : sE) : Nat := e.2.foldl (fun n t => Nat.gcd n t.2.natAbs) d
def hfr (K : sK) (p q : sE) (st cnt s2 c2 : sE) : Bool :=
  (sSm K.1 p q && !(siz (p.1 % (hgd (Nat.gcd st.1.natAbs s2.1.natAbs) p : Int)))) ||
  (sge0 K (sM1 q) ||
  (sge0 K (sadd (ssub p (smul st.1 cnt)) (sC (st.1 - 1 - s2.1 * (c2.1 - 1)))) ||
  ((spos (st.1 - 1 - s2.1 * (c2.1 - 1)) && (spos (slb K.1 (srem K.1 st.1.toNat p)) && (spos (st.1 - 1 - sub_ K.1 (srem K.1 st.1.toNat p)) || sge0 K (ssub (sC (st.1 - 1)) (srem K.1 st.1.toNat p))))) &&
  ((spos (slb K.1 (srem K.1 st.1.toNat q)) && (spos (st.1 - 1 - sub_ K.1 (srem K.1 st.1.toNat q)) || sge0 K (ssub (sC (st.1 - 1)) (srem K.1 st.1.toNat q)))) &&
  (sSm K.1 (ssub p (srem K.1 st.1.toNat p)) (ssub q (srem K.1 st.1.toNat q)) && hfr1 K.1 (srem K.1 st.1.toNat p) (srem K.1 st.1.toNat q) s2.1 c2.1)))))
/-- families of five: base, stride, count, inner stride, inner count; strides and the inner count are constants -/
def hfree (K : sK) (env : List sE) (lo hi : sE) : List sE → Bool
  | b :: st :: cnt :: s2 :: c2 :: l => cond (spos (st.1 - 1) && (spos (s2.1 - 1) && spos (c2.1 - 1))) (cond (hfr K (ssub lo (tsb env b)) (ssub hi (tsb env b)) st (tsb env cnt) s2 c2) (hfree K env lo hi l) false) false
  | [] => true
  | _ => false
def hops : List Instr := [.iand, .ior, .ishl, .ishr, .land, .lshl, .lshr, .lmul, .ldiv]
def hop (n : Nat) (i : Instr) : Bool := match hops[n]? with
  | some j => decide (i = j)
  | none => false
def hrun (der : sQ → Bool) (A : sA) : List hP → List sE → List (List sE)
  | [], env => [env]
  | p :: l, env => match p.1 with
    | 0 => cond (sge0 A.1 (tsb env (hx p 0))) (hrun der A l env) []
    | 1 => cond (sDf A.1 (tsb env (hx p 0)) (tsb env (hx p 1))) (hrun der A l env) []
    | 2 => (match sffR A.1.1 p.2.1 (sC 474) (tsb env (hx p 0)) A.2.2.1 with
      | some a => cond (Nat.beq a.1 0) (hrun der A l (env ++ [a.2.2])) []
      | none => [])
    | 3 => (match sffF A.1.1 12 p.2.1 (sC 474) A.2.2.1 with
      | some a => cond (Nat.beq a.1 0) (hrun der A l (env ++ [a.2.2])) []
      | none => [])
    | 4 => A.2.2.2.1.flatMap fun q => cond (Nat.beq q.1 p.2.1) (match hmat A.1 p.2.2.2 q.2 env with
      | some e => hrun der A l e
      | none => []) []
    | 5 => cond (der (p.2.1, p.2.2.2.map (tsb env))) (hrun der A l env) []
    | 6 => A.2.2.1.flatMap fun g => cond (Nat.beq g.1 1 && (Nat.beq g.2.1 p.2.1 && (Nat.beq g.2.2.2.2.2.1 0 && sSm A.1.1 g.2.2.2.1 (sC 474)))) (match tdv (p.2.2.1 : Int) (ssub g.2.2.2.2.1 (tsb env (hx p 0))) with
      | some x => hrun der A l (env ++ [x, g.2.2.2.2.2.2.2])
      | none => []) []
    | 7 => (match tdv (p.2.1 : Int) (tsb env (hx p 0)) with
      | some x => hrun der A l (env ++ [x])
      | none => [])
    | 8 => (match hdr A.1 p.2.1 (tsb env (hx p 0)) with
      | some x => hrun der A l (env ++ [x.1, x.2])
      | none => [])
    | 9 => A.2.1.flatMap fun d => cond (hop p.2.1 d.1) (match hmat A.1 p.2.2.2 [d.2.1, d.2.2.1] env with
      | some e => hrun der A l (e ++ [sS d.2.2.2])
      | none => []) []
    | 10 => (match scon A.1.1 (tsb env (hx p 0)) with
      | some c => cond (p.2.2.2.tail.any fun e => siz (c - e.1)) (hrun der A l env) []
      | none => [])
    | 11 => cond (hfree A.1 env (tsb env (hx p 0)) (tsb env (hx p 1)) (p.2.2.2.drop 2)) (hrun der A l env) []
    | 12 => cond ((spos (slb A.1.1 (tsb env (hx p 0))) && spos (slb A.1.1 (tsb env (hx p 1)))) && spos (9223372036854775807 - sub_ A.1.1 (tsb env (hx p 0)) * sub_ A.1.1 (tsb env (hx p 1)))) (hrun der A l env) []
    | 13 => cond (heq A.1 (tsb env (hx p 0)) (tsb env (hx p 1))) (hrun der A l env) []
    | _ => []
/-! rules: (arity, premises); (arity, premises, what comes of it); (arity, where it counts, premises, what comes of it) -/
abbrev hNr : Type := Nat × List hP
abbrev hUr : Type := Nat × List hP × List sE
abbrev hXr : Type := Nat × Nat × List hP × List sQ
abbrev hKr : Type := Nat × Nat × List hP
abbrev hLr : Type := Nat × Nat × List hP × List sE
/-- all rules: of a goal, in place, behind a store (two kinds), what may be written, what is learnt; what a predicate depends on -/
abbrev hT : Type := (Nat → List hNr) × (Nat → List hUr) × (Nat → List hXr) × (Nat → List hXr) × (Nat → List hKr) × (Nat → List hLr) × (Nat → List Nat) × List (List hP × List sE)
def heqL (K : sK) : List sE → List sE → Bool
  | [], [] => true
  | a :: l, b :: m => cond (heq K a b) (heqL K l m) false
  | _, _ => false
def hpres (A : sA) (q : sQ) : Bool := A.2.2.2.1.any fun p => Nat.beq p.1 q.1 && heqL A.1 p.2 q.2
def hfwd (der : sQ → Bool) (A : sA) (rules : List hUr) (t : List sE) : Nat → List sE → Bool
  | 0, q => heqL A.1 q t
  | f + 1, q => heqL A.1 q t || (rules.any fun r => cond (Nat.beq r.1 q.length && Nat.beq r.1 t.length) (match hrun der A r.2.1 (q ++ t) with
    | e :: _ => cond (heqL A.1 (r.2.2.map (tsb e)) q) false (hfwd der A rules t f (r.2.2.map (tsb e)))
    | [] => false) false)
def hder (H : hT) (A : sA) : Nat → sQ → Bool
  | 0, q => hpres A q
  | f + 1, q => hpres A q || (((H.1 q.1).any fun r => cond (Nat.beq r.1 q.2.length) (match hrun (hder H A f) A r.2 q.2 with
    | _ :: _ => true
    | [] => false) false) || (match H.2.1 q.1 with
    | [] => false
    | r :: l => A.2.2.2.1.any fun p => Nat.beq p.1 q.1 && hfwd (hder H A f) A (r :: l) q.2 7 p.2))
/-! stores -/
def hfst {α : Type} (f : α → Option (List sQ)) : List α → Option (List sQ)
  | [] => none
  | r :: l => match f r with
    | some x => some x
    | none => hfst f l
def hxr (der : sQ → Bool) (A : sA) (trig : Nat) (idx val : sE) (q : sQ) (r : hXr) : Option (List sQ) := cond (Nat.beq r.1 q.2.length && Nat.beq r.2.1 trig) (match hrun der A r.2.2.1 (q.2 ++ [idx, val]) with
  | e :: _ => some (r.2.2.2.map fun o => (o.1, o.2.map (tsb e)))
  | [] => none) none
def hkr (A : sA) (trig : Nat) (lo hi : sE) (q : sQ) (r : hKr) : Bool := cond (Nat.beq r.1 q.2.length && Nat.beq r.2.1 trig) (match hrun (fun _ => false) A r.2.2 (q.2 ++ [lo, hi]) with
  | _ :: _ => true
  | [] => false) false
def hst (H : hT) (A : sA) (trig : Nat) (idx val : sE) : Nat → sQ → List sQ
  | 0, _ => []
  | f + 1, q => cond ((H.2.2.2.2.2.2.1 q.1).any fun r => Nat.beq r trig) (match hfst (hxr (hder H A 3) A trig idx val q) (H.2.2.1 q.1) with
    | some l => l
    | none => cond (Nat.blt trig 1000 && (H.2.2.2.2.1 q.1).any (hkr A trig idx idx q)) [q] (match hfst (hxr (hder H A 3) A trig idx val q) (H.2.2.2.1 q.1) with
      | some l => l.flatMap (hst H A trig idx val f)
      | none => [])) [q]
def htrg (d c j : Nat) : Nat := match d with
  | 0 => cond (Nat.beq c 12) (1000 + j) 999
  | _ => c
def rhS (H : hT) (A : sA) (f : sF) : List sQ := cond (Nat.beq f.2.2.2.2.2.1 0) (A.2.2.2.1.flatMap (hst H A (htrg f.1 f.2.1 f.2.2.1) f.2.2.2.2.1 f.2.2.2.2.2.2.2 6)) (A.2.2.2.1.filter fun q => !((H.2.2.2.2.2.2.1 q.1).any fun r => Nat.beq r (htrg f.1 f.2.1 f.2.2.1)))
/-! calls -/
def hkp (H : hT) (A : sA) (ms : List sMo) (q : sQ) : Bool := ms.all fun m => cond ((H.2.2.2.2.2.2.1 q.1).any fun r => Nat.beq r (htrg m.1 m.2.1 m.2.2.1)) (!(Nat.beq m.1 0) && (H.2.2.2.2.1 q.1).any (hkr A m.2.1 m.2.2.2.1 m.2.2.2.2 q)) true
def rhM (H : hT) (A : sA) (ms : List sMo) : List sQ := A.2.2.2.1.filter (hkp H A ms)
def rhN (H : hT) (A : sA) (q : sQ) : Bool := hder H A 5 q
/-! what is learnt: 2000 at branches, 2001 everywhere -/
def hltr (lc : sLc) : Nat := match lc.1 with
  | 4 => 2000
  | 2 => 999
  | d => htrg d lc.2.1 lc.2.2.1
def hlix (A : sA) (lc : sLc) : sE := cond (twE A.1.1.length lc.2.2.2.2) lc.2.2.2.2 (sC 0)
def hll (H : hT) (A : sA) (trig : Nat) (ix : sE) (q : sQ) : List sE := (H.2.2.2.2.2.1 q.1).flatMap fun r => cond (Nat.beq r.1 q.2.length && (Nat.beq r.2.1 trig || Nat.beq r.2.1 2001)) ((hrun (hder H A 3) A r.2.2.1 (q.2 ++ cond (Nat.blt r.2.1 1000) [ix] [])).flatMap fun e => r.2.2.2.map (tsb e)) []
def hlg (H : hT) (A : sA) : List sE := H.2.2.2.2.2.2.2.flatMap fun r => (hrun (hder H A 3) A r.1 []).flatMap fun e => r.2.map (tsb e)
/-- what is new, each once -/
def hnew (K : sK) : List sE → List sE → List sE
  | [], _ => []
  | e :: l, seen => cond (sge0 K e || seen.any (sEq e)) (hnew K l seen) (e :: hnew K l (e :: seen))
def rhL (H : hT) (A : sA) (lc : sLc) : List sE := hnew A.1 ((A.2.2.2.1.flatMap (hll H A (hltr lc) (hlix A lc))) ++ cond (Nat.beq lc.1 4) (hlg H A) []) []
