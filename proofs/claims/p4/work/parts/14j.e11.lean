/-! THE ENGINE, 11: memory: what is read -/
theorem sMem_ob {M : zM} (h : sMem M) {k c : Nat} (hk : sSh k = some (0, c, 0)) : ∃ fs, zob M k = some (.inr (c, fs)) ∧ fs.length = (sFk c).length ∧ (∀ j, j < (sFk c).length → sFldOk k ((sFk c).getD j (9, 0, 0)) (fs.getD j .null)) ∧ ∀ j, sgf M k j = fs.getD j .null := by
  obtain ⟨h0, h1, -, -⟩ := h
  obtain ⟨fs, f1, f2, f3⟩ := h1 k c hk
  refine ⟨fs, ?_, f2, f3, fun j => ?_⟩
  · unfold zob
    rw [h0, if_pos (sSh_lt hk), f1]
  · unfold sgf
    rw [f1]
theorem sMem_row {M : zM} (h : sMem M) {k r o : Nat} (hk : sSh k = some (1, r, o)) : ∃ f, zob M k = some (.inl (srty r, srln r, .inl f)) ∧ sRowOk r f ∧ ∀ i, sgr M r o i = f i := by
  obtain ⟨h0, -, h1, -⟩ := h
  obtain ⟨f, f1, f2⟩ := h1 k r o hk
  refine ⟨f, ?_, f2, fun i => ?_⟩
  · unfold zob
    rw [h0, if_pos (sSh_lt hk), f1]
  · unfold sgr
    rw [← (sSh_row hk).1, f1]
theorem sMem_rr {M : zM} (h : sMem M) {k t o : Nat} (hk : sSh k = some (2, t, o)) : ∃ f, zob M k = some (.inl ((sRr t).2.2.2.1, (sRr t).2.2.2.2.1, .inr (.inr (.inr (.inr f))))) ∧ ∀ i, i < (sRr t).2.2.2.2.1 → f i = some (o + (sRr t).2.2.2.2.2.1 + (sRr t).2.2.2.2.2.2.1 * i) := by
  obtain ⟨h0, -, -, h1⟩ := h
  obtain ⟨f, f1, f2⟩ := h1 k t o hk
  refine ⟨f, ?_, f2⟩
  unfold zob
  rw [h0, if_pos (sSh_lt hk), f1]
theorem sSh_big {k : Nat} (h : 486 ≤ k) : sSh k = none := by
  unfold sSh
  cases hq : Nat.blt k 486 with
  | true => have : k < 486 := Nat.le_of_ble_eq_true hq; omega
  | false => rfl
/-- two expressions that are the same number -/
def sSm (B : sB) (a b : sE) : Bool := siz (slb B (ssub a b)) && siz (sub_ B (ssub a b))
theorem sSm_ok {ρ : Nat → Int} {B : sB} {a b : sE} (h : sok ρ B) (hs : sSm B a b = true) : se ρ a = se ρ b := by
  unfold sSm at hs
  rw [Bool.and_eq_true] at hs
  have h1 := siz_0 hs.1
  have h2 := siz_0 hs.2
  have h3 := slb_ok h (ssub a b)
  have h4 := sub_ok h (ssub a b)
  rw [se_sub] at h3 h4
  omega
/-- two expressions that are never the same number -/
def sDg (d : sE) : Bool := match d.2 with
  | [] => false
  | _ :: _ => !(siz (d.1 % (sgcd d.2 : Int)))
theorem sDg_ok {ρ : Nat → Int} {d : sE} (h : sDg d = true) : se ρ d ≠ 0 := by
  intro h0
  unfold sDg at h
  split at h
  · cases h
  · obtain ⟨z, hz⟩ := sgcd_ok (ρ := ρ) d.2
    unfold se at h0
    rw [hz] at h0
    have e : d.1 % (sgcd d.2 : Int) = 0 := by
      have e1 : d.1 = (sgcd d.2 : Int) * (-z) := by rw [Int.mul_neg]; omega
      rw [e1, Int.mul_emod_right]
    rw [e] at h
    cases h
def srem (B : sB) (p : Nat) (e : sE) : sE := (e.1 - p * (slb B (e.1, e.2.filter fun t => !(siz (t.2 % (p : Int)))) / (p : Int)), e.2.filter fun t => !(siz (t.2 % (p : Int))))
theorem sv_filter {ρ : Nat → Int} {p : Int} : ∀ l : sT, ∃ z, sv ρ l = sv ρ (l.filter fun t => !(siz (t.2 % p))) + p * z := by
  intro l
  induction l with
  | nil => exact ⟨0, by rw [Int.mul_zero]; rfl⟩
  | cons t l ih =>
    obtain ⟨z, hz⟩ := ih
    cases hq : siz (t.2 % p) with
    | true =>
      obtain ⟨d, hd⟩ := Int.dvd_of_emod_eq_zero (siz_0 hq)
      refine ⟨d * ρ t.1 + z, ?_⟩
      rw [List.filter_cons_of_neg (by rw [hq]; exact Bool.false_ne_true)]
      show t.2 * ρ t.1 + sv ρ l = _
      rw [hz, hd, Int.mul_add, Int.mul_assoc]
      omega
    | false =>
      refine ⟨z, ?_⟩
      rw [List.filter_cons_of_pos (by rw [hq]; rfl)]
      show t.2 * ρ t.1 + sv ρ l = t.2 * ρ t.1 + sv ρ _ + p * z
      rw [hz]
      omega
theorem srem_ok {ρ : Nat → Int} {B : sB} {p : Nat} {e : sE} : ∃ z : Int, se ρ e = se ρ (srem B p e) + p * z := by
  obtain ⟨z, hz⟩ := sv_filter (ρ := ρ) (p := (p : Int)) e.2
  refine ⟨z + slb B (e.1, e.2.filter fun t => !(siz (t.2 % (p : Int)))) / (p : Int), ?_⟩
  unfold srem se
  dsimp only
  rw [hz, Int.mul_add]
  omega
theorem srem_nat {ρ : Nat → Int} {B : sB} {p q : Nat} {e : sE} (hB : sok ρ B) (hq : (q : Int) = se ρ e) (h0 : spos (slb B (srem B p e)) = true) (h1 : spos ((p : Int) - 1 - sub_ B (srem B p e)) = true) : ((q % p : Nat) : Int) = se ρ (srem B p e) := by
  obtain ⟨z, hz⟩ := srem_ok (ρ := ρ) (B := B) (p := p) (e := e)
  have a := spos_ok h0
  have b := spos_ok h1
  have c := slb_ok hB (srem B p e)
  have d := sub_ok hB (srem B p e)
  rw [Int.natCast_emod, hq, hz, Int.add_mul_emod_self_left]
  exact Int.emod_eq_of_lt (by omega) (by omega)
/-- what is left by a factor lies strictly between 0 and it -/
def sDm (B : sB) (d : sE) : Bool := d.2.any fun t => Nat.blt 1 t.2.natAbs && (spos (slb B (srem B t.2.natAbs d) - 1) && spos ((t.2.natAbs : Int) - 1 - sub_ B (srem B t.2.natAbs d)))
theorem sDm_ok {ρ : Nat → Int} {B : sB} {d : sE} (hB : sok ρ B) (h : sDm B d = true) : se ρ d ≠ 0 := by
  intro h0
  obtain ⟨t, -, h⟩ := List.any_eq_true.mp h
  simp only [Bool.and_eq_true] at h
  obtain ⟨-, h1, h2⟩ := h
  generalize t.2.natAbs = c at h1 h2
  obtain ⟨z, hz⟩ := srem_ok (ρ := ρ) (B := B) (p := c) (e := d)
  have a := spos_ok h1
  have b := spos_ok h2
  have e1 := slb_ok hB (srem B c d)
  have e2 := sub_ok hB (srem B c d)
  rw [h0] at hz
  have e3 : se ρ (srem B c d) % (c : Int) = 0 := by
    have : se ρ (srem B c d) = (c : Int) * (-z) := by rw [Int.mul_neg]; omega
    rw [this, Int.mul_emod_right]
  rw [Int.emod_eq_of_lt (by omega) (by omega)] at e3
  omega
def sDf (K : sK) (a b : sE) : Bool := sDg (ssub a b) || (sge0 K (sP1 (ssub a b)) || (sge0 K (sM1 (ssub a b)) || sDm K.1 (ssub a b)))
theorem sDf_ok {ρ : Nat → Int} {K : sK} {a b : sE} (h : skok ρ K) (hs : sDf K a b = true) : se ρ a ≠ se ρ b := by
  unfold sDf at hs
  rw [Bool.or_eq_true, Bool.or_eq_true, Bool.or_eq_true] at hs
  rcases hs with hs | hs | hs | hs
  · have := sDg_ok (ρ := ρ) hs
    rw [se_sub] at this
    omega
  · have := sge0_ok h hs
    rw [se_P1, se_sub] at this
    omega
  · have := sge0_ok h hs
    rw [se_M1, se_sub] at this
    omega
  · have := sDm_ok h.1 hs
    rw [se_sub] at this
    omega
/-- the fact of a field, of a row's number -/
def sffF (B : sB) (c j : Nat) (o : sE) : List sF → Option sV
  | [] => none
  | f :: l => cond (Nat.beq f.1 0 && (Nat.beq f.2.1 c && (Nat.beq f.2.2.1 j && sSm B f.2.2.2.1 o))) (some f.2.2.2.2.2) (sffF B c j o l)
def sffR (B : sB) (r : Nat) (o i : sE) : List sF → Option sV
  | [] => none
  | f :: l => cond (Nat.beq f.1 1 && (Nat.beq f.2.1 r && (sSm B f.2.2.2.1 o && sSm B f.2.2.2.2.1 i))) (some f.2.2.2.2.2) (sffR B r o i l)
theorem sffF_ok {B : sB} {c j : Nat} {o : sE} {a : sV} : ∀ {l : List sF}, sffF B c j o l = some a → ∃ o' i', (0, c, j, o', i', a) ∈ l ∧ sSm B o' o = true
  | [], h => by cases h
  | f :: l, h => by
    obtain ⟨d, c', j', o', i', a'⟩ := f
    unfold sffF at h
    cases hq : (Nat.beq d 0 && (Nat.beq c' c && (Nat.beq j' j && sSm B o' o))) with
    | true =>
      rw [hq] at h
      cases h
      simp only [Bool.and_eq_true] at hq
      obtain ⟨h1, h2, h3, h4⟩ := hq
      have e1 := Nat.eq_of_beq_eq_true h1
      have e2 := Nat.eq_of_beq_eq_true h2
      have e3 := Nat.eq_of_beq_eq_true h3
      subst e1 e2 e3
      exact ⟨o', i', List.mem_cons_self, h4⟩
    | false =>
      rw [hq] at h
      obtain ⟨o1, i1, h1, h2⟩ := sffF_ok h
      exact ⟨o1, i1, List.mem_cons_of_mem _ h1, h2⟩
theorem sffR_ok {B : sB} {r : Nat} {o i : sE} {a : sV} : ∀ {l : List sF}, sffR B r o i l = some a → ∃ j' o' i', (1, r, j', o', i', a) ∈ l ∧ sSm B o' o = true ∧ sSm B i' i = true
  | [], h => by cases h
  | f :: l, h => by
    obtain ⟨d, c', j', o', i', a'⟩ := f
    unfold sffR at h
    cases hq : (Nat.beq d 1 && (Nat.beq c' r && (sSm B o' o && sSm B i' i))) with
    | true =>
      rw [hq] at h
      cases h
      simp only [Bool.and_eq_true] at hq
      obtain ⟨h1, h2, h3, h4⟩ := hq
      have e1 := Nat.eq_of_beq_eq_true h1
      have e2 := Nat.eq_of_beq_eq_true h2
      subst e1 e2
      exact ⟨j', o', i', List.mem_cons_self, h3, h4⟩
    | false =>
      rw [hq] at h
      obtain ⟨j1, o1, i1, h1, h2⟩ := sffR_ok h
      exact ⟨j1, o1, i1, List.mem_cons_of_mem _ h1, h2⟩
/-- the bounds of a row's number -/
def spart (l : List (Int × Int)) (a b : Int) : List (Int × Int) := (l.drop a.toNat).take (b.toNat + 1 - a.toNat)
theorem spart_ok {l : List (Int × Int)} {a b v : Int} {q : Nat} (h1 : a ≤ v) (h2 : v ≤ b) (h0 : 0 ≤ a) (hl : b.toNat < l.length) (hq : (q : Int) = v) : l.getD q sI32 ∈ spart l a b := by
  have e : q = a.toNat + (q - a.toNat) := by omega
  have h3 : q < l.length := by omega
  rw [List.getD_eq_getElem?_getD, List.getElem?_eq_getElem h3]
  refine List.mem_of_getElem? (i := q - a.toNat) ?_
  unfold spart
  rw [List.getElem?_take_of_lt (by omega), List.getElem?_drop, ← e, List.getElem?_eq_getElem h3]
  rfl
def ssf2 (B : sB) (e : sE) : List sG2 → Option (List (Int × Int))
  | [] => none
  | g :: l => cond (spos (slb B e - g.1) && spos ((g.1 : Int) + g.2.1 - 1 - sub_ B e))
      (cond (spos (slb B (srem B g.2.2.1 (ssub e (sC g.1)))) && (spos ((g.2.2.1 : Int) - 1 - sub_ B (srem B g.2.2.1 (ssub e (sC g.1)))) && Nat.blt (sub_ B (srem B g.2.2.1 (ssub e (sC g.1)))).toNat g.2.2.2.length)) (some (spart g.2.2.2 (slb B (srem B g.2.2.1 (ssub e (sC g.1)))) (sub_ B (srem B g.2.2.1 (ssub e (sC g.1)))))) none)
      (cond (spos ((g.1 : Int) - 1 - sub_ B e) || spos (slb B e - g.1 - g.2.1)) (ssf2 B e l) none)
theorem ssf2_ok {ρ : Nat → Int} {B : sB} {e : sE} {q : Nat} (hB : sok ρ B) (hq : (q : Int) = se ρ e) : ∀ {l : List sG2} {bs : List (Int × Int)}, ssf2 B e l = some bs → ssg2 q l ∈ bs := by
  intro l
  have c := slb_ok hB e
  have d := sub_ok hB e
  induction l with
  | nil => intro bs h; cases h
  | cons g l ih =>
    intro bs h
    unfold ssf2 at h
    unfold ssg2
    cases h1 : (spos (slb B e - g.1) && spos ((g.1 : Int) + g.2.1 - 1 - sub_ B e)) with
    | true =>
      rw [h1] at h
      rw [Bool.and_eq_true] at h1
      have a1 := spos_ok h1.1
      have a2 := spos_ok h1.2
      have b1 : Nat.ble g.1 q = true := Nat.ble_eq_true_of_le (by omega)
      have b2 : Nat.blt q (g.1 + g.2.1) = true := Nat.ble_eq_true_of_le (show q + 1 ≤ _ by omega)
      rw [b1, b2]
      have hq2 : ((q - g.1 : Nat) : Int) = se ρ (ssub e (sC g.1)) := by
        rw [se_sub, se_C]
        omega
      generalize ssub e (sC g.1) = e2 at h hq2
      dsimp only [cond] at h
      cases h2 : (spos (slb B (srem B g.2.2.1 e2)) && (spos ((g.2.2.1 : Int) - 1 - sub_ B (srem B g.2.2.1 e2)) && Nat.blt (sub_ B (srem B g.2.2.1 e2)).toNat g.2.2.2.length)) with
      | false => rw [h2] at h; cases h
      | true =>
        rw [h2] at h
        cases h
        rw [Bool.and_eq_true, Bool.and_eq_true] at h2
        obtain ⟨u1, u2, u3⟩ := h2
        have hm := srem_nat hB hq2 u1 u2
        exact spart_ok (slb_ok hB _) (sub_ok hB _) (spos_ok u1) (Nat.le_of_ble_eq_true u3) hm
    | false =>
      rw [h1] at h
      dsimp only [cond] at h
      cases h2 : (spos ((g.1 : Int) - 1 - sub_ B e) || spos (slb B e - g.1 - g.2.1)) with
      | false => rw [h2] at h; cases h
      | true =>
        rw [h2] at h
        have h3 : (Nat.ble g.1 q && Nat.blt q (g.1 + g.2.1)) = false := by
          rw [Bool.or_eq_true] at h2
          rcases h2 with h2 | h2
          · have := spos_ok h2
            have : Nat.ble g.1 q = false := by
              cases hb : Nat.ble g.1 q with
              | false => rfl
              | true => have := Nat.le_of_ble_eq_true hb; omega
            rw [this]
            rfl
          · have := spos_ok h2
            have : Nat.blt q (g.1 + g.2.1) = false := by
              cases hb : Nat.blt q (g.1 + g.2.1) with
              | false => rfl
              | true => have : q + 1 ≤ g.1 + g.2.1 := Nat.le_of_ble_eq_true hb; omega
            rw [this, Bool.and_false]
        rw [h3]
        exact ih h
def ssf1 (B : sB) (e : sE) : List sG1 → Option (List (Int × Int))
  | [] => none
  | g :: l => cond (spos (slb B e - g.1) && spos ((g.1 : Int) + g.2.1 - 1 - sub_ B e))
      (cond (spos (slb B (srem B g.2.2.1 (ssub e (sC g.1)))) && spos ((g.2.2.1 : Int) - 1 - sub_ B (srem B g.2.2.1 (ssub e (sC g.1))))) (ssf2 B (srem B g.2.2.1 (ssub e (sC g.1))) g.2.2.2) none)
      (cond (spos ((g.1 : Int) - 1 - sub_ B e) || spos (slb B e - g.1 - g.2.1)) (ssf1 B e l) none)
theorem ssf1_ok {ρ : Nat → Int} {B : sB} {e : sE} {q : Nat} (hB : sok ρ B) (hq : (q : Int) = se ρ e) : ∀ {l : List sG1} {bs : List (Int × Int)}, ssf1 B e l = some bs → ssg1 q l ∈ bs := by
  intro l
  have c := slb_ok hB e
  have d := sub_ok hB e
  induction l with
  | nil => intro bs h; cases h
  | cons g l ih =>
    intro bs h
    unfold ssf1 at h
    unfold ssg1
    cases h1 : (spos (slb B e - g.1) && spos ((g.1 : Int) + g.2.1 - 1 - sub_ B e)) with
    | true =>
      rw [h1] at h
      rw [Bool.and_eq_true] at h1
      have a1 := spos_ok h1.1
      have a2 := spos_ok h1.2
      have b1 : Nat.ble g.1 q = true := Nat.ble_eq_true_of_le (by omega)
      have b2 : Nat.blt q (g.1 + g.2.1) = true := Nat.ble_eq_true_of_le (show q + 1 ≤ _ by omega)
      rw [b1, b2]
      have hq2 : ((q - g.1 : Nat) : Int) = se ρ (ssub e (sC g.1)) := by
        rw [se_sub, se_C]
        omega
      generalize ssub e (sC g.1) = e2 at h hq2
      dsimp only [cond] at h
      cases h2 : (spos (slb B (srem B g.2.2.1 e2)) && spos ((g.2.2.1 : Int) - 1 - sub_ B (srem B g.2.2.1 e2))) with
      | false => rw [h2] at h; cases h
      | true =>
        rw [h2] at h
        rw [Bool.and_eq_true] at h2
        exact ssf2_ok hB (srem_nat hB hq2 h2.1 h2.2) h
    | false =>
      rw [h1] at h
      dsimp only [cond] at h
      cases h2 : (spos ((g.1 : Int) - 1 - sub_ B e) || spos (slb B e - g.1 - g.2.1)) with
      | false => rw [h2] at h; cases h
      | true =>
        rw [h2] at h
        have h3 : (Nat.ble g.1 q && Nat.blt q (g.1 + g.2.1)) = false := by
          rw [Bool.or_eq_true] at h2
          rcases h2 with h2 | h2
          · have := spos_ok h2
            have : Nat.ble g.1 q = false := by
              cases hb : Nat.ble g.1 q with
              | false => rfl
              | true => have := Nat.le_of_ble_eq_true hb; omega
            rw [this]
            rfl
          · have := spos_ok h2
            have : Nat.blt q (g.1 + g.2.1) = false := by
              cases hb : Nat.blt q (g.1 + g.2.1) with
              | false => rfl
              | true => have : q + 1 ≤ g.1 + g.2.1 := Nat.le_of_ble_eq_true hb; omega
            rw [this, Bool.and_false]
        rw [h3]
        exact ih h
/-- the bounds that a row's number may have, by a place that is known as an expression -/
def sebl0 (K : sK) (r : Nat) (i : sE) : Option (List (Int × Int)) := cond (sge0 K (ssub (sC ((sSgA r).2.1 - 1 : Int)) i) && (spos (slb K.1 (srem K.1 (sSgA r).1 i)) && spos (((sSgA r).1 : Int) - 1 - sub_ K.1 (srem K.1 (sSgA r).1 i)))) (ssf1 K.1 (srem K.1 (sSgA r).1 i) (sSgA r).2.2) none
theorem sebl0_ok {ρ : Nat → Int} {K : sK} {r q : Nat} {i : sE} {bs : List (Int × Int)} (h : skok ρ K) (hq : (q : Int) = se ρ i) (hs : sebl0 K r i = some bs) : setb r q ∈ bs := by
  unfold sebl0 at hs
  cases h1 : (sge0 K (ssub (sC ((sSgA r).2.1 - 1 : Int)) i) && (spos (slb K.1 (srem K.1 (sSgA r).1 i)) && spos (((sSgA r).1 : Int) - 1 - sub_ K.1 (srem K.1 (sSgA r).1 i)))) with
  | false => rw [h1] at hs; cases hs
  | true =>
    rw [h1] at hs
    rw [Bool.and_eq_true, Bool.and_eq_true] at h1
    obtain ⟨a1, a2, a3⟩ := h1
    have b1 := sge0_ok h a1
    rw [se_sub, se_C] at b1
    unfold setb
    have b2 : Nat.blt q (sSgA r).2.1 = true := Nat.ble_eq_true_of_le (show q + 1 ≤ _ by omega)
    rw [b2]
    exact ssf1_ok h.1 (srem_nat h.1 hq a2 a3) hs
/-- a row of one stretch with one pair of bounds -/
def sseg1 (r : Nat) : Option (Int × Int) := match sSgA r with
  | (p, m, [(0, n, 1, [(0, 1, 1, [b])])]) => cond (Nat.beq n (srln r) && (Nat.ble n p && Nat.ble n m)) (some b) none
  | _ => none
theorem sseg1_ok {r q : Nat} {b : Int × Int} (h : sseg1 r = some b) (hq : q < srln r) : setb r q = b := by
  unfold sseg1 at h
  split at h
  · rename_i p m n b' heq
    cases hc : (Nat.beq n (srln r) && (Nat.ble n p && Nat.ble n m)) with
    | false => rw [hc] at h; cases h
    | true =>
      rw [hc] at h
      cases h
      simp only [Bool.and_eq_true] at hc
      have h1 := Nat.eq_of_beq_eq_true hc.1
      have h2 := Nat.le_of_ble_eq_true hc.2.1
      have h3 := Nat.le_of_ble_eq_true hc.2.2
      unfold setb
      rw [heq]
      dsimp only
      have b1 : Nat.blt q m = true := Nat.ble_eq_true_of_le (show q + 1 ≤ m by omega)
      rw [b1, Nat.mod_eq_of_lt (show q < p by omega)]
      unfold ssg1
      dsimp only
      have b2 : Nat.ble 0 q = true := Nat.ble_eq_true_of_le (Nat.zero_le _)
      have b3 : Nat.blt q (0 + n) = true := Nat.ble_eq_true_of_le (show q + 1 ≤ 0 + n by omega)
      rw [b2, b3, Nat.mod_one]
      rfl
  · cases h
/-- by the prover: the stretch that the place lies in -/
def ssf2P (K : sK) (e : sE) : List sG2 → Option (Nat × Nat × List (Int × Int))
  | [] => none
  | g :: l => cond (sge0 K (ssub e (sC g.1)) && sge0 K (ssub (sC (g.1 + g.2.1 - 1 : Int)) e))
      (cond (spos (slb K.1 (srem K.1 g.2.2.1 (ssub e (sC g.1)))) && (spos ((g.2.2.1 : Int) - 1 - sub_ K.1 (srem K.1 g.2.2.1 (ssub e (sC g.1)))) && Nat.blt (sub_ K.1 (srem K.1 g.2.2.1 (ssub e (sC g.1)))).toNat g.2.2.2.length)) (some (g.1, g.1 + g.2.1, spart g.2.2.2 (slb K.1 (srem K.1 g.2.2.1 (ssub e (sC g.1)))) (sub_ K.1 (srem K.1 g.2.2.1 (ssub e (sC g.1)))))) none)
      (match ssf2P K e l with
        | some p => cond (Nat.ble p.2.1 g.1 || Nat.ble (g.1 + g.2.1) p.1) (some p) none
        | none => none)
theorem ssf2P_ok {ρ : Nat → Int} {K : sK} {e : sE} {q : Nat} (hK : skok ρ K) (hq : (q : Int) = se ρ e) : ∀ {l : List sG2} {p : Nat × Nat × List (Int × Int)}, ssf2P K e l = some p → (p.1 ≤ q ∧ q < p.2.1) ∧ ssg2 q l ∈ p.2.2
  | [], p, h => by cases h
  | g :: l, p, h => by
    unfold ssf2P at h
    cases h1 : (sge0 K (ssub e (sC g.1)) && sge0 K (ssub (sC (g.1 + g.2.1 - 1 : Int)) e)) with
    | true =>
      rw [h1, cond_true] at h
      rw [Bool.and_eq_true] at h1
      have a1 := sge0_ok hK h1.1
      have a2 := sge0_ok hK h1.2
      rw [se_sub, se_C] at a1 a2
      cases h2 : (spos (slb K.1 (srem K.1 g.2.2.1 (ssub e (sC g.1)))) && (spos ((g.2.2.1 : Int) - 1 - sub_ K.1 (srem K.1 g.2.2.1 (ssub e (sC g.1)))) && Nat.blt (sub_ K.1 (srem K.1 g.2.2.1 (ssub e (sC g.1)))).toNat g.2.2.2.length)) with
      | false => rw [h2, cond_false] at h; cases h
      | true =>
        rw [h2, cond_true] at h
        cases h
        simp only [Bool.and_eq_true] at h2
        obtain ⟨b1, b2, b3⟩ := h2
        have q1 : g.1 ≤ q := by omega
        have q2 : q < g.1 + g.2.1 := by omega
        refine ⟨⟨q1, q2⟩, ?_⟩
        have c1 : Nat.ble g.1 q = true := Nat.ble_eq_true_of_le q1
        have c2 : Nat.blt q (g.1 + g.2.1) = true := Nat.ble_eq_true_of_le q2
        unfold ssg2
        rw [c1, c2]
        have hm := srem_nat (q := q - g.1) hK.1 (show ((q - g.1 : Nat) : Int) = se ρ (ssub e (sC g.1)) by rw [se_sub, se_C]; omega) b1 b2
        exact spart_ok (slb_ok hK.1 _) (sub_ok hK.1 _) (spos_ok b1) (Nat.le_of_ble_eq_true b3) hm
    | false =>
      rw [h1, cond_false] at h
      split at h
      · rename_i p' hp
        obtain ⟨⟨i1, i2⟩, i3⟩ := ssf2P_ok hK hq hp
        cases h2 : (Nat.ble p'.2.1 g.1 || Nat.ble (g.1 + g.2.1) p'.1) with
        | false => rw [h2, cond_false] at h; cases h
        | true =>
          rw [h2, cond_true] at h
          cases h
          refine ⟨⟨i1, i2⟩, ?_⟩
          have hn : (Nat.ble g.1 q && Nat.blt q (g.1 + g.2.1)) = false := by
            cases hb : (Nat.ble g.1 q && Nat.blt q (g.1 + g.2.1)) with
            | false => rfl
            | true =>
              rw [Bool.and_eq_true] at hb
              have b1 := Nat.le_of_ble_eq_true hb.1
              have b2 : q + 1 ≤ g.1 + g.2.1 := Nat.le_of_ble_eq_true hb.2
              rw [Bool.or_eq_true] at h2
              rcases h2 with h2 | h2
              · have := Nat.le_of_ble_eq_true h2; omega
              · have := Nat.le_of_ble_eq_true h2; omega
          unfold ssg2
          rw [hn]
          exact i3
      · cases h
def ssf1P (K : sK) (e : sE) : List sG1 → Option (Nat × Nat × List (Int × Int))
  | [] => none
  | g :: l => cond (sge0 K (ssub e (sC g.1)) && sge0 K (ssub (sC (g.1 + g.2.1 - 1 : Int)) e))
      (cond (spos (slb K.1 (srem K.1 g.2.2.1 (ssub e (sC g.1)))) && spos ((g.2.2.1 : Int) - 1 - sub_ K.1 (srem K.1 g.2.2.1 (ssub e (sC g.1))))) (match ssf2 K.1 (srem K.1 g.2.2.1 (ssub e (sC g.1))) g.2.2.2 with
        | some bs => some (g.1, g.1 + g.2.1, bs)
        | none => (match ssf2P K (srem K.1 g.2.2.1 (ssub e (sC g.1))) g.2.2.2 with
          | some p => some (g.1, g.1 + g.2.1, p.2.2)
          | none => none)) none)
      (match ssf1P K e l with
        | some p => cond (Nat.ble p.2.1 g.1 || Nat.ble (g.1 + g.2.1) p.1) (some p) none
        | none => none)
theorem ssf1P_ok {ρ : Nat → Int} {K : sK} {e : sE} {q : Nat} (hK : skok ρ K) (hq : (q : Int) = se ρ e) : ∀ {l : List sG1} {p : Nat × Nat × List (Int × Int)}, ssf1P K e l = some p → (p.1 ≤ q ∧ q < p.2.1) ∧ ssg1 q l ∈ p.2.2
  | [], p, h => by cases h
  | g :: l, p, h => by
    unfold ssf1P at h
    cases h1 : (sge0 K (ssub e (sC g.1)) && sge0 K (ssub (sC (g.1 + g.2.1 - 1 : Int)) e)) with
    | true =>
      rw [h1, cond_true] at h
      rw [Bool.and_eq_true] at h1
      have a1 := sge0_ok hK h1.1
      have a2 := sge0_ok hK h1.2
      rw [se_sub, se_C] at a1 a2
      cases h2 : (spos (slb K.1 (srem K.1 g.2.2.1 (ssub e (sC g.1)))) && spos ((g.2.2.1 : Int) - 1 - sub_ K.1 (srem K.1 g.2.2.1 (ssub e (sC g.1))))) with
      | false => rw [h2, cond_false] at h; cases h
      | true =>
        rw [h2, cond_true] at h
        rw [Bool.and_eq_true] at h2
        have q1 : g.1 ≤ q := by omega
        have q2 : q < g.1 + g.2.1 := by omega
        have c1 : Nat.ble g.1 q = true := Nat.ble_eq_true_of_le q1
        have c2 : Nat.blt q (g.1 + g.2.1) = true := Nat.ble_eq_true_of_le q2
        have hm := srem_nat (q := q - g.1) hK.1 (show ((q - g.1 : Nat) : Int) = se ρ (ssub e (sC g.1)) by rw [se_sub, se_C]; omega) h2.1 h2.2
        unfold ssg1
        rw [c1, c2]
        split at h
        · rename_i bs hbs
          cases h
          exact ⟨⟨q1, q2⟩, ssf2_ok hK.1 hm hbs⟩
        · split at h
          · rename_i p' hp
            cases h
            exact ⟨⟨q1, q2⟩, (ssf2P_ok hK hm hp).2⟩
          · cases h
    | false =>
      rw [h1, cond_false] at h
      split at h
      · rename_i p' hp
        obtain ⟨⟨i1, i2⟩, i3⟩ := ssf1P_ok hK hq hp
        cases h2 : (Nat.ble p'.2.1 g.1 || Nat.ble (g.1 + g.2.1) p'.1) with
        | false => rw [h2, cond_false] at h; cases h
        | true =>
          rw [h2, cond_true] at h
          cases h
          refine ⟨⟨i1, i2⟩, ?_⟩
          have hn : (Nat.ble g.1 q && Nat.blt q (g.1 + g.2.1)) = false := by
            cases hb : (Nat.ble g.1 q && Nat.blt q (g.1 + g.2.1)) with
            | false => rfl
            | true =>
              rw [Bool.and_eq_true] at hb
              have b1 := Nat.le_of_ble_eq_true hb.1
              have b2 : q + 1 ≤ g.1 + g.2.1 := Nat.le_of_ble_eq_true hb.2
              rw [Bool.or_eq_true] at h2
              rcases h2 with h2 | h2
              · have := Nat.le_of_ble_eq_true h2; omega
              · have := Nat.le_of_ble_eq_true h2; omega
          unfold ssg1
          rw [hn]
          exact i3
      · cases h
/-- the place less what is divisible by the period -/
def smod (p : Nat) (e : sE) : sE := (e.1 % (p : Int), e.2.filter fun t => !(siz (t.2 % (p : Int))))
theorem smod_ok {ρ : Nat → Int} {p : Nat} {e : sE} : ∃ z : Int, se ρ e = se ρ (smod p e) + p * z := by
  obtain ⟨z, hz⟩ := sv_filter (ρ := ρ) (p := (p : Int)) e.2
  refine ⟨z + e.1 / (p : Int), ?_⟩
  have h := Int.mul_ediv_add_emod e.1 (p : Int)
  unfold smod se
  dsimp only
  rw [hz, Int.mul_add]
  omega
def seblP (K : sK) (r : Nat) (i : sE) : Option (List (Int × Int)) := cond (Nat.beq (sSgA r).2.1 0) none
  (cond (sge0 K (ssub i (sC ((sSgA r).2.1 : Int)))) (some [sI32])
    (cond (sge0 K (ssub (sC ((sSgA r).2.1 - 1 : Int)) i)) (match ssf1P K (smod (sSgA r).1 i) (sSgA r).2.2 with
      | some p => cond (Nat.ble p.2.1 (sSgA r).1) (some p.2.2) none
      | none => none) none))
theorem seblP_ok {ρ : Nat → Int} {K : sK} {r q : Nat} {i : sE} {bs : List (Int × Int)} (h : skok ρ K) (hq : (q : Int) = se ρ i) (hs : seblP K r i = some bs) : setb r q ∈ bs := by
  unfold seblP at hs
  cases h0 : Nat.beq (sSgA r).2.1 0 with
  | true => rw [h0, cond_true] at hs; cases hs
  | false =>
    rw [h0, cond_false] at hs
    cases h1 : sge0 K (ssub i (sC ((sSgA r).2.1 : Int))) with
    | true =>
      rw [h1, cond_true] at hs
      cases hs
      have b1 := sge0_ok h h1
      rw [se_sub, se_C] at b1
      unfold setb
      have b2 : Nat.blt q (sSgA r).2.1 = false := by
        cases hb : Nat.blt q (sSgA r).2.1 with
        | false => rfl
        | true => have : q + 1 ≤ (sSgA r).2.1 := Nat.le_of_ble_eq_true hb; omega
      rw [b2]
      exact List.mem_singleton.mpr rfl
    | false =>
      rw [h1, cond_false] at hs
      cases h2 : sge0 K (ssub (sC ((sSgA r).2.1 - 1 : Int)) i) with
      | false => rw [h2, cond_false] at hs; cases hs
      | true =>
        rw [h2, cond_true] at hs
        have b1 := sge0_ok h h2
        rw [se_sub, se_C] at b1
        have b2 : Nat.blt q (sSgA r).2.1 = true := Nat.ble_eq_true_of_le (show q + 1 ≤ _ by omega)
        split at hs
        · rename_i p hp
          cases h3 : Nat.ble p.2.1 (sSgA r).1 with
          | false => rw [h3, cond_false] at hs; cases hs
          | true =>
            rw [h3, cond_true] at hs
            cases hs
            have h3 := Nat.le_of_ble_eq_true h3
            obtain ⟨z, hz⟩ := smod_ok (ρ := ρ) (p := (sSgA r).1) (e := i)
            -- what is left is a number of its own
            have key : ∀ n : Nat, (n : Int) = se ρ (smod (sSgA r).1 i) → n = q % (sSgA r).1 := by
              intro n hn
              obtain ⟨⟨j1, j2⟩, -⟩ := ssf1P_ok h hn hp
              have : ((q % (sSgA r).1 : Nat) : Int) = n := by
                rw [Int.natCast_emod, hq, hz, Int.add_mul_emod_self_left, ← hn]
                exact Int.emod_eq_of_lt (by omega) (by omega)
              omega
            have hpos : 0 ≤ se ρ (smod (sSgA r).1 i) := by
              generalize (sSgA r).2.2 = l at hp
              clear key
              induction l with
              | nil => cases hp
              | cons g l ih =>
                unfold ssf1P at hp
                cases k1 : (sge0 K (ssub (smod (sSgA r).1 i) (sC g.1)) && sge0 K (ssub (sC (g.1 + g.2.1 - 1 : Int)) (smod (sSgA r).1 i))) with
                | true =>
                  rw [Bool.and_eq_true] at k1
                  have := sge0_ok h k1.1
                  rw [se_sub, se_C] at this
                  omega
                | false =>
                  rw [k1, cond_false] at hp
                  split at hp
                  · rename_i p' hp'
                    cases k2 : (Nat.ble p'.2.1 g.1 || Nat.ble (g.1 + g.2.1) p'.1) with
                    | false => rw [k2, cond_false] at hp; cases hp
                    | true =>
                      rw [k2, cond_true] at hp
                      cases hp
                      exact ih hp'
                  · cases hp
            have hn : ((se ρ (smod (sSgA r).1 i)).toNat : Int) = se ρ (smod (sSgA r).1 i) := Int.toNat_of_nonneg hpos
            have e1 := key _ hn
            unfold setb
            rw [b2, ← e1]
            exact (ssf1P_ok h hn hp).2
        · cases hs
/-- the bounds that a row's number may have, by a place that is known as an expression -/
def sebl (K : sK) (r : Nat) (i : sE) : Option (List (Int × Int)) := match sseg1 r with
  | some b => some [b]
  | none => (match sebl0 K r i with
    | some bs => some bs
    | none => seblP K r i)
theorem sebl_ok {ρ : Nat → Int} {K : sK} {r q : Nat} {i : sE} {bs : List (Int × Int)} (h : skok ρ K) (hq : (q : Int) = se ρ i) (hl : q < srln r) (hs : sebl K r i = some bs) : setb r q ∈ bs := by
  unfold sebl at hs
  split at hs
  · rename_i b hb
    cases hs
    rw [sseg1_ok hb hl]
    exact List.mem_singleton.mpr rfl
  · split at hs
    · rename_i bs' hb
      cases hs
      exact sebl0_ok h hq hb
    · exact seblP_ok h hq hs
def shul : Int × Int → List (Int × Int) → Int × Int
  | h, [] => h
  | h, b :: l => shul (cond (spos (b.1 - h.1)) h.1 b.1, cond (spos (h.2 - b.2)) h.2 b.2) l
theorem shul_ok : ∀ {l : List (Int × Int)} {h : Int × Int}, ((shul h l).1 ≤ h.1 ∧ h.2 ≤ (shul h l).2) ∧ ∀ b ∈ l, (shul h l).1 ≤ b.1 ∧ b.2 ≤ (shul h l).2
  | [], h => ⟨⟨Int.le_refl _, Int.le_refl _⟩, fun b q => by cases q⟩
  | b :: l, h => by
    obtain ⟨⟨h1, h2⟩, h3⟩ := shul_ok (l := l) (h := (cond (spos (b.1 - h.1)) h.1 b.1, cond (spos (h.2 - b.2)) h.2 b.2))
    have e1 : (cond (spos (b.1 - h.1)) h.1 b.1) ≤ h.1 ∧ (cond (spos (b.1 - h.1)) h.1 b.1) ≤ b.1 := by
      cases hq : spos (b.1 - h.1) with
      | true => have := spos_ok hq; exact ⟨Int.le_refl _, by show h.1 ≤ b.1; omega⟩
      | false => have := spos_no hq; exact ⟨by show b.1 ≤ h.1; omega, Int.le_refl _⟩
    have e2 : h.2 ≤ (cond (spos (h.2 - b.2)) h.2 b.2) ∧ b.2 ≤ (cond (spos (h.2 - b.2)) h.2 b.2) := by
      cases hq : spos (h.2 - b.2) with
      | true => have := spos_ok hq; exact ⟨Int.le_refl _, by show b.2 ≤ h.2; omega⟩
      | false => have := spos_no hq; exact ⟨by show h.2 ≤ b.2; omega, Int.le_refl _⟩
    dsimp only at h1 h2
    refine ⟨⟨Int.le_trans h1 e1.1, Int.le_trans e2.1 h2⟩, fun c hc => ?_⟩
    rcases List.mem_cons.mp hc with rfl | hc
    · exact ⟨Int.le_trans h1 e1.2, Int.le_trans e2.2 h2⟩
    · exact h3 c hc
def sebd (K : sK) (r : Nat) (i : sE) : Int × Int := match sebl K r i with
  | some (b :: l) => shul b l
  | _ => sI32
theorem sebd_ok {ρ : Nat → Int} {K : sK} {r q : Nat} {i : sE} {f : Nat → Int32} (h : skok ρ K) (hf : sRowOk r f) (hq : (q : Int) = se ρ i) (hl : q < srln r) : sRn (sebd K r i) (f q).toInt := by
  have h1 := hf q hl
  unfold sebd
  split
  · rename_i b l hs
    have h2 := sebl_ok h hq hl hs
    obtain ⟨⟨a1, a2⟩, a3⟩ := shul_ok (l := l) (h := b)
    rcases List.mem_cons.mp h2 with e | h2
    · rw [e] at h1
      exact ⟨Int.le_trans a1 h1.1, Int.le_trans h1.2 a2⟩
    · obtain ⟨c1, c2⟩ := a3 _ h2
      exact ⟨Int.le_trans c1 h1.1, Int.le_trans h1.2 c2⟩
  · exact sr32 _
