/-! PREDICATES AS TABLES, 9: what they teach, what shows them -/
def prefut (K : sK) (cl : List sE) (env : pE) : Bool := cl.any fun e => match csub e env with
  | some x => sge0 K (sM1 x)
  | none => false
def plearn (K : sK) (pd : pD) (env : pE) : List sE := match pd.2.2.2.2.2.1.filter fun cl => !(prefut K cl env) with
  | [cl] => pknown cl env
  | _ => []
def plat (A : sA) (pd : pD) (ps ex : List sE) : List sE := cond (pin A pd ps && (Nat.beq ex.length 0 || pdif A.1 ex ps)) (plearn A.1 pd (penv A pd ps none)) []
def hL1 (pdt : Nat → Option pD) (A : sA) (lc : sLc) (q : sQ) : List sE := match pdt q.1 with
  | none => []
  | some pd => cond (Nat.ble 2 lc.1)
      (cond (cond (Nat.beq lc.1 4) pd.2.2.2.2.2.2.1 pd.2.2.2.2.2.2.2) ((cond (Nat.beq lc.1 4) (pd.2.2.2.2.1.take 1) pd.2.2.2.2.1).flatMap fun c => cond (Nat.ble c.1 1) (A.2.2.1.flatMap fun g => cond (psame c g && (Nat.beq lc.1 4 || sSm A.1.1 g.2.2.2.2.1 lc.2.2.2.2)) (match psol A c g.2.2.2.1 g.2.2.2.2.1 with
        | some ps => plat A pd ps q.2
        | none => []) []) []) [])
      (pd.2.2.2.2.1.flatMap fun c => cond (Nat.beq c.2.1 lc.1 && (Nat.beq c.2.2.1 lc.2.1 && Nat.beq c.2.2.2.1 lc.2.2.1)) (match psol A c lc.2.2.2.1 lc.2.2.2.2 with
        | some ps => cond (Nat.beq (phit A.1 c (penv A pd ps none) lc.2.2.2.1 lc.2.2.2.2) 1) (plat A pd ps q.2) []
        | none => []) [])
def hLx (pdt : Nat → Option pD) (A : sA) (lc : sLc) : List sE := A.2.2.2.1.flatMap fun q => hL1 pdt A lc q
section HLX
variable {Qs : Nat → List Int → zM → Prop} {pdt : Nat → Option pD} {ρ : Nat → Int} {ls : zL} {st : List Value} {M : zM} {A : sA} {pd : pD}
theorem plearn_ok (hK : skok ρ A.1) {env : pE} {p : List Int} (he : pOK ρ A.1.1.length env (peM M pd.2.2.2.2.1 p)) (hh : pHolds M pd p) : ∀ e ∈ plearn A.1 pd env, swE A.1.1.length e ∧ 0 ≤ se ρ e := by
  obtain ⟨cl, c1, c2⟩ := hh
  have hnr : prefut A.1 cl env = false := by
    cases hr : prefut A.1 cl env with
    | false => rfl
    | true =>
      obtain ⟨e, e1, e2⟩ := List.any_eq_true.mp hr
      split at e2
      · rename_i x hx
        have h1 := sge0_ok hK e2
        rw [se_M1, (csub_ok he hx).1] at h1
        have := c2 e e1
        omega
      · cases e2
  have hmem : cl ∈ pd.2.2.2.2.2.1.filter fun cl => !(prefut A.1 cl env) := List.mem_filter.mpr ⟨c1, by rw [hnr]; rfl⟩
  unfold plearn
  split
  · rename_i cl' hfl
    rw [hfl] at hmem
    rw [← List.mem_singleton.mp hmem]
    exact pknown_ok he c2
  · intro e he
    cases he
theorem plat_ok (HT : pTab Qs pdt) (h : sR Qs ρ A ls st M) {q : sQ} (hq : q ∈ A.2.2.2.1) (hpd : pdt q.1 = some pd) {ps : List sE} : ∀ e ∈ plat A pd ps q.2, swE A.1.1.length e ∧ 0 ≤ se ρ e := by
  intro e he
  unfold plat at he
  cases hc : (pin A pd ps && (Nat.beq q.2.length 0 || pdif A.1 q.2 ps)) with
  | false => rw [hc, cond_false] at he; cases he
  | true =>
    rw [hc, cond_true] at he
    rw [Bool.and_eq_true, Bool.or_eq_true] at hc
    obtain ⟨hk, hQ⟩ := HT _ _ hpd
    have hq0 := (hQ _ _).mp (h.2.2.2.1 q hq)
    obtain ⟨w, p, hp, hps⟩ := pin_ok h hc.1
    have hne : ¬ pexc (q.2.map (se ρ)) p := by
      rcases hc.2 with hc | hc
      · intro n
        have := Nat.eq_of_beq_eq_true hc
        rw [List.length_eq_zero_iff.mp this] at n
        exact n.1 rfl
      · exact pdif_ne h.1 hps hc
    obtain ⟨o, i, l, hpp, -⟩ := id hp
    have henv : pOK ρ A.1.1.length (penv A pd ps none) (peM M pd.2.2.2.2.1 p) := by
      rw [hpp] at hps ⊢
      exact penv_ok h hps w (fun q hq => by cases hq)
    exact plearn_ok h.1 henv (hq0 p hp hne) e he
theorem hLx_ok (HT : pTab Qs pdt) : sHL Qs (hLx pdt) := by
  intro ρ A ls st M lc h e he
  obtain ⟨q, hq, he⟩ := List.mem_flatMap.mp he
  unfold hL1 at he
  split at he
  · cases he
  · rename_i pd hpd
    cases h2 : Nat.ble 2 lc.1 with
    | true =>
      rw [h2, cond_true] at he
      cases h3 : (cond (Nat.beq lc.1 4) pd.2.2.2.2.2.2.1 pd.2.2.2.2.2.2.2) with
      | false => rw [h3, cond_false] at he; cases he
      | true =>
        rw [h3, cond_true] at he
        obtain ⟨c, -, he⟩ := List.mem_flatMap.mp he
        cases h4 : Nat.ble c.1 1 with
        | false => rw [h4, cond_false] at he; cases he
        | true =>
          rw [h4, cond_true] at he
          obtain ⟨g, -, he⟩ := List.mem_flatMap.mp he
          cases h5 : (psame c g && (Nat.beq lc.1 4 || sSm A.1.1 g.2.2.2.2.1 lc.2.2.2.2)) with
          | false => rw [h5, cond_false] at he; cases he
          | true =>
            rw [h5, cond_true] at he
            split at he
            · exact plat_ok HT h hq hpd e he
            · cases he
    | false =>
      rw [h2, cond_false] at he
      obtain ⟨c, -, he⟩ := List.mem_flatMap.mp he
      cases h5 : (Nat.beq c.2.1 lc.1 && (Nat.beq c.2.2.1 lc.2.1 && Nat.beq c.2.2.2.1 lc.2.2.1)) with
      | false => rw [h5, cond_false] at he; cases he
      | true =>
        rw [h5, cond_true] at he
        split at he
        · rename_i ps _
          cases h6 : Nat.beq (phit A.1 c (penv A pd ps none) lc.2.2.2.1 lc.2.2.2.2) 1 with
          | false => rw [h6, cond_false] at he; cases he
          | true =>
            rw [h6, cond_true] at he
            exact plat_ok HT h hq hpd e he
        · cases he
end HLX
/-- rows that are known to be alike -/
def peqrow (A : sA) (r : Nat) (o o0 : sE) : Bool := A.2.2.2.1.any fun q => Nat.beq q.1 (200 + r) && teqL A.1 q.2 [o, o0]
/-- all that is told of owner o is as it is told of owner o0 -/
def plike (A : sA) (pd : pD) (o o0 : sE) : Bool := (!(Nat.beq pd.1 99) && (sDf A.1 o o0 && (pvo A pd.1 o0 && (pd.2.2.2.2.2.1.all fun cl => cl.all fun e => e.2.all fun t => Nat.ble 1 t.1)))) && pd.2.2.2.2.1.all fun c => match c with
  | (0, 0, _, _, (_, [(0, 1)]), (_, [])) => (match cval A c [some o] with
    | some a => (match cval A c [some o0] with
      | some b => sSm A.1.1 a b
      | none => false)
    | none => false)
  | (_, 1, r, 0, (x, [(0, 1)]), ei) => (ei.2.all fun t => Nat.ble 1 t.1) && peqrow A r (sadd o (sC x)) (sadd o0 (sC x))
  | _ => false
def hNx (pdt : Nat → Option pD) (A : sA) (q : sQ) : Bool := match pdt q.1 with
  | none => false
  | some pd => A.2.2.2.1.any fun p => Nat.beq p.1 q.1 && (Nat.beq p.2.length 0 || (Nat.beq q.2.length 0 && ((Nat.beq p.2.length pd.2.2.2.1 && okc A.1 pd.2.2.2.2.2.1 (penv A pd p.2 none)) || (match p.2 with
    | [o] => A.2.2.2.1.any fun r => Nat.ble 200 r.1 && (match r.2 with
      | [a, b] => pd.2.2.2.2.1.any fun c => Nat.beq c.2.1 1 && (Nat.beq c.2.2.1 (r.1 - 200) && (sSm A.1.1 a (sadd o (sC c.2.2.2.2.1.1)) && plike A pd o (ssub b (sC c.2.2.2.2.1.1))))
      | _ => false)
    | _ => false))))
/-- where a number is split: by place (class, pc: local, class, field), by what is called (method: class, field, field) -/
def hGx (hs : List (Nat × Nat × Nat × Nat × Nat)) (cs : List (Nat × Nat × Nat × Nat)) (own pc : Nat) (i : Instr) (A : sA) : Option sE := match hs.find? fun h => Nat.beq h.1 own && Nat.beq h.2.1 pc with
  | some h => (match sgl A.2.2.2.2.1 h.2.2.1 with
    | some (3, c, o) => (match cond (Nat.beq c h.2.2.2.1) (sffF A.1.1 c h.2.2.2.2 o A.2.2.1) none with
      | some a => cond (spos (sub_ A.1.1 a.2.2 - slb A.1.1 a.2.2 - 1)) (some (ssub a.2.2 (sC (slb A.1.1 a.2.2 + 1)))) none
      | none => none)
    | _ => none)
  | none => match i with
    | .invokevirtual x => (match zlk own x with
      | some (_, a, n, _) => (match cs.find? fun c => Nat.beq c.1 a with
        | some c => (match A.2.2.2.2.2.drop n with
          | (3, _, o) :: _ => (match sffF A.1.1 c.2.1 c.2.2.1 o A.2.2.1 with
            | some a1 => (match sffF A.1.1 c.2.1 c.2.2.2 o A.2.2.1 with
              | some a2 => cond (sge0 A.1 (ssub a1.2.2 a2.2.2) || sge0 A.1 (sM1 (ssub a1.2.2 a2.2.2))) none (some (ssub a1.2.2 a2.2.2))
              | none => none)
            | none => none)
          | _ => none)
        | none => none)
      | none => none)
    | _ => none
