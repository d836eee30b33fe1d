/-! PREDICATES AS TABLES, 5: what is left of a predicate behind a store -/
/-- whose parameters a place may belong to -/
def psol (A : sA) (c : pC) (lo li : sE) : Option (List sE) := match c.1, c.2.1, c.2.2.2.2.1, c.2.2.2.2.2 with
  | 0, 0, (x, [(0, 1)]), _ => some [ssub lo (sC x)]
  | 2, _, (x, [(0, 1)]), _ => some [ssub lo (sC x)]
  | 1, 1, (x, [(0, 1)]), (y, [(1, 1)]) => some [ssub lo (sC x), ssub li (sC y)]
  | 3, 0, (63, [(0, 1), (_, 7)]), _ => (match A.2.2.1.find? fun g => Nat.beq g.1 0 && (Nat.beq g.2.1 1 && (sge0 A.1 (ssub (ssub lo g.2.2.2.1) (sC 63)) && sge0 A.1 (ssub (sC 84) (ssub lo g.2.2.2.1)))) with
    | some g => some [g.2.2.2.1]
    | none => none)
  | _, _, _, _ => none
/-- the systems' numbers lie 91 apart -/
theorem sSh_forth {k : Nat} (h : sSh k = some (0, 1, 0)) : k % 91 = 19 := by
  have e := sSh_all (p := fun k x => match x with
    | (0, 1, 0) => Nat.beq (k % 91) 19
    | _ => true) (by decide +kernel) h
  exact Nat.eq_of_beq_eq_true e
section PSOL
variable {Qs : Nat → List Int → zM → Prop} {ρ : Nat → Int} {ls : zL} {st : List Value} {M M' : zM} {A : sA} {pd : pD} {p : List Int}
/-- the task that a cell tells is one of four -/
theorem pok_task (hM : sMem M) (hp : pDom pd p) (hk : pok pd = true) {m s : Nat} {c : pC} (hm : pd.2.2.2.2.1[m]? = some c) (hc : c.2.2.2.2.1 = (63, [(0, 1), (s, 7)])) : pd.1 = 1 ∧ 0 ≤ lget (peM M pd.2.2.2.2.1 p) s ∧ lget (peM M pd.2.2.2.2.1 p) s ≤ 3 := by
  obtain ⟨o, i, l, hp, ho, -⟩ := hp
  have hpl : p.length = 3 := by rw [hp]; rfl
  have hat := peM_at M pd.2.2.2.2.1 p pd.1 pd.2.2.2.2.1 (by rw [hpl]; exact hk)
  obtain ⟨-, -, -, -, h⟩ := hat m c hm
  have e0 : lget (peM M pd.2.2.2.2.1 p) 0 = o := by
    obtain ⟨r, hr⟩ := peM_pre M pd.2.2.2.2.1 p
    rw [hr, lget_pre (by rw [hpl]; decide), hp]
    rfl
  unfold pokc at h
  rw [hc] at h
  have h : (Nat.beq pd.1 1 && (Nat.beq c.2.1 0 && (Nat.beq c.2.2.1 8 && (match pd.2.2.2.2.1[s - 3]? with
    | some (_, 0, 1, j, (0, [(0, 1)]), _) => Nat.ble 3 s && (match (sFk 1).getD j (9, 0, 0) with
      | (0, lo, hi) => spos lo && (spos (3 - hi) && Nat.blt j (sFk 1).length)
      | _ => false)
    | _ => false)))) = true := h
  simp only [Bool.and_eq_true] at h
  obtain ⟨c1, c2, c3, c4⟩ := h
  have c1 := Nat.eq_of_beq_eq_true c1
  refine ⟨c1, ?_⟩
  rw [c1] at ho
  obtain ⟨k, k1, k2⟩ := ho
  rw [if_neg (by decide)] at k2
  generalize hE : peM M pd.2.2.2.2.1 p = E at hat e0 ⊢
  split at c4
  · rename_i q1 j q2 hs
    rw [Bool.and_eq_true] at c4
    have s3 := Nat.le_of_ble_eq_true c4.1
    obtain ⟨v1, -, -, -, -⟩ := hat (s - 3) _ hs
    have c5 := c4.2
    split at c5
    · rename_i lo hi hf
      simp only [Bool.and_eq_true] at c5
      have b1 := spos_ok c5.1
      have b2 := spos_ok c5.2.1
      have hv : pvM M (q1, 0, 1, j, (0, [(0, 1)]), q2) E = cvM M 0 1 j k 0 := by
        unfold pvM
        show cvM M 0 1 j (0 + (1 * lget E 0 + 0)) _ = _
        rw [e0, ← k1, show (0 : Int) + (1 * (k : Int) + 0) = k by omega]
        exact cvM_fld _ _ _ _ _ _
      rw [hv] at v1
      obtain ⟨r1, r2⟩ := fld_range hM k2 (sbltt c5.2.2) hf
      rw [← v1, hpl, show 3 + (s - 3) = s by omega] at r1 r2
      exact ⟨by omega, by omega⟩
    · cases c5
  · cases c4
theorem psol_ok (h : sR Qs ρ A ls st M) (hp : pDom pd p) (hk : pok pd = true) {m : Nat} {c : pC} (hm : pd.2.2.2.2.1[m]? = some c) {k0 i0 : Nat} {lo li : sE} (hh : phl c (peM M pd.2.2.2.2.1 p) k0 i0) (h0 : (k0 : Int) = se ρ lo) (h1 : (i0 : Int) = se ρ li) (w0 : swE A.1.1.length lo) (w1 : swE A.1.1.length li) {ps : List sE} (hs : psol A c lo li = some ps) : ps.map (se ρ) = p.take ps.length ∧ ∀ e ∈ ps, swE A.1.1.length e := by
  obtain ⟨o, i, l, hpp, ho, -⟩ := id hp
  have hpl : p.length = 3 := by rw [hpp]; rfl
  have pre : ∀ x, x < 3 → lget (peM M pd.2.2.2.2.1 p) x = lget p x := fun x hx => by
    obtain ⟨r, hr⟩ := peM_pre M pd.2.2.2.2.1 p
    rw [hr, lget_pre (by omega)]
  have e0 : lget (peM M pd.2.2.2.2.1 p) 0 = o := by rw [pre 0 (by decide), hpp]; rfl
  have e1 : lget (peM M pd.2.2.2.2.1 p) 1 = i := by rw [pre 1 (by decide), hpp]; rfl
  have one : ∀ x : Int, c.2.2.2.2.1 = (x, [(0, 1)]) → [ssub lo (sC x)].map (se ρ) = p.take 1 ∧ ∀ e ∈ [ssub lo (sC x)], swE A.1.1.length e := by
    intro x hx
    have g := hh.1
    rw [hx] at g
    have g : x + (1 * lget (peM M pd.2.2.2.2.1 p) 0 + 0) = (k0 : Int) := g
    refine ⟨?_, fun e he => by rw [List.mem_singleton.mp he]; exact swE_sub w0 (swE_C _)⟩
    rw [hpp]
    show [se ρ (ssub lo (sC x))] = [o]
    rw [se_sub, se_C, ← h0, ← g, e0]
    congr 1
    omega
  unfold psol at hs
  split at hs
  · rename_i h1 hd heq
    cases hs
    exact one _ heq
  · rename_i h1 heq
    cases hs
    exact one _ heq
  · rename_i x y h1' hd heq heq2
    cases hs
    have g1 := hh.1
    have g2 := hh.2 hd
    rw [heq] at g1
    rw [heq2] at g2
    have g1 : x + (1 * lget (peM M pd.2.2.2.2.1 p) 0 + 0) = (k0 : Int) := g1
    have g2 : y + (1 * lget (peM M pd.2.2.2.2.1 p) 1 + 0) = (i0 : Int) := g2
    refine ⟨?_, List.forall_mem_cons.mpr ⟨swE_sub w0 (swE_C _), fun e he => by rw [List.mem_singleton.mp he]; exact swE_sub w1 (swE_C _)⟩⟩
    rw [hpp]
    show [se ρ (ssub lo (sC x)), se ρ (ssub li (sC y))] = [o, i]
    rw [se_sub, se_C, se_sub, se_C, ← h0, ← h1, ← g1, ← g2, e0, e1]
    have a1 : x + (1 * o + 0) - x = o := by omega
    have a2 : y + (1 * i + 0) - y = i := by omega
    rw [a1, a2]
  · rename_i h1' hd heq0
    obtain ⟨s, heq⟩ : ∃ s : Nat, c.2.2.2.2.1 = (63, [(0, 1), (s, 7)]) := ⟨_, heq0⟩
    split at hs
    · rename_i g hg
      cases hs
      have hgm := List.mem_of_find?_eq_some hg
      have hgp := List.find?_some hg
      simp only [Bool.and_eq_true] at hgp
      obtain ⟨b1, b2, b3, b4⟩ := hgp
      have b1 := Nat.eq_of_beq_eq_true b1
      have b2 := Nat.eq_of_beq_eq_true b2
      have b3 := sge0_ok h.1 b3
      have b4 := sge0_ok h.1 b4
      rw [se_sub, se_sub, se_C] at b3
      rw [se_sub, se_C, se_sub] at b4
      have hfac := h.2.2.1 g hgm
      have wf := h.2.2.2.2.2.2.2.2.2.1 g hgm
      unfold sFac at hfac
      rw [b1, b2] at hfac
      obtain ⟨kg, kg1, kg2, -⟩ := hfac
      obtain ⟨hcl, t1, t2⟩ := pok_task h.2.2.2.2.2.2.1 hp hk hm heq
      rw [hcl] at ho
      obtain ⟨ko, ko1, ko2⟩ := ho
      rw [if_neg (by decide)] at ko2
      have m1 := sSh_forth kg2
      have m2 := sSh_forth ko2
      have g1 := hh.1
      rw [heq] at g1
      have g1 : 63 + (1 * lget (peM M pd.2.2.2.2.1 p) 0 + (7 * lget (peM M pd.2.2.2.2.1 p) s + 0)) = (k0 : Int) := g1
      rw [e0] at g1
      refine ⟨?_, fun e he => by rw [List.mem_singleton.mp he]; exact wf.1⟩
      rw [hpp]
      show [se ρ g.2.2.2.1] = [o]
      congr 1
      omega
    · cases hs
  · cases hs
end PSOL
/-- 1: a store surely meets the cell, 2: surely not, 0: perhaps -/
def phit (K : sK) (c : pC) (env : pE) (lo li : sE) : Nat := cond (Nat.ble c.1 1) 1 (match csub c.2.2.2.2.1 env with
  | some o => (match csub c.2.2.2.2.2 env with
    | some i => cond (sDf K o lo || (Nat.beq c.2.1 1 && sDf K i li)) 2 (cond (sSm K.1 o lo && sSm K.1 i li) 1 0)
    | none => 0)
  | none => 0)
/-- as if the store meets the cell -/
def peqA (A : sA) (c : pC) (env : pE) (lo li : sE) : Option sA := match csub c.2.2.2.2.1 env with
  | some o => (match csub c.2.2.2.2.2 env with
    | some i => (match sasm ([ssub o lo, ssub lo o] ++ cond (Nat.beq c.2.1 1) [ssub i li, ssub li i] []) A.1 with
      | some K => some (K, A.2)
      | none => none)
    | none => some A)
  | none => some A
/-- all symbols from 3 on are the same -/
def peq (K : sK) : List (Option sE) → List (Option sE) → Bool
  | [], [] => true
  | some a :: l, some b :: m => sSm K.1 a b && peq K l m
  | _, _ => false
def pcl3 (n : Nat) (cls : List (List sE)) : Bool := cls.all fun cl => cl.all fun e => e.2.all fun t => Nat.ble 3 t.1 && Nat.blt t.1 n
/-- the same stands at other parameters, where it holds -/
def pelse (A : sA) (pd : pD) (ps : List sE) (new : pE) (ex : List sE) : Bool := pcl3 (3 + pd.2.2.2.2.1.length) pd.2.2.2.2.2.1 && (match pd.2.2.2.2.1 with
  | c :: _ => Nat.ble c.1 1 && A.2.2.1.any fun g => psame c g && (match psol A c g.2.2.2.1 g.2.2.2.2.1 with
    | some p2 => Nat.beq p2.length ps.length && (pdif A.1 p2 ps && (pin A pd p2 && ((Nat.beq ex.length 0 || (teqL A.1 ex ps || pdif A.1 ex p2)) && peq A.1 ((penv A pd p2 none).drop 3) (new.drop 3))))
    | none => false)
  | _ => false)
/-- what counts the places grows by one: the new place is good -/
def pgrow (A : sA) (pd : pD) (k : Nat) (ps : List sE) (v : sE) : Bool := Nat.beq k 0 && (Nat.beq pd.2.2.2.1 2 && (match ps with
  | [o] => (match pgt (penv A pd ps none) 3 with
    | some t => sSm A.1.1 v (sadd t (sC 1)) && (cond (pd.2.2.2.2.1.drop 1 |>.any fun c => puses c [3]) false (match pd.2.2.2.2.2.1.reverse with
      | [(0, [(1, 1), (3, -1)])] :: cls => (cls.all fun cl => cl.all fun e => e.2.all fun t => !(Nat.beq t.1 3)) && okc A.1 cls (penv A pd [o, t] none)
      | _ => false))
    | none => false)
  | _ => false))
