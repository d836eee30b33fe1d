/-! PREDICATES AS TABLES, 4: a store -/
def pprov (K : sK) (e : sE) (env : pE) : Bool := match csub e env with
  | some x => sge0 K x
  | none => false
theorem pprov_ok {ρ : Nat → Int} {K : sK} {n : Nat} {env : pE} {E : List Int} (hK : skok ρ K) (h : pOK ρ n env E) {e : sE} (hs : pprov K e env = true) : 0 ≤ se (lget E) e := by
  unfold pprov at hs
  split at hs
  · rename_i x hx
    rw [← (csub_ok h hx).1]
    exact sge0_ok hK hs
  · cases hs
def okc (K : sK) (cls : List (List sE)) (env : pE) : Bool := cls.any fun cl => cl.all fun e => pprov K e env
theorem okc_ok {ρ : Nat → Int} {K : sK} {n : Nat} {env : pE} {E : List Int} (hK : skok ρ K) (h : pOK ρ n env E) {cls : List (List sE)} (hs : okc K cls env = true) : ∃ cl ∈ cls, ∀ e ∈ cl, 0 ≤ se (lget E) e := by
  obtain ⟨cl, c1, c2⟩ := List.any_eq_true.mp hs
  exact ⟨cl, c1, fun e he => pprov_ok hK h (List.all_eq_true.mp c2 e he)⟩
/-- how much more an expression is than it was -/
def pdlT (old new : pE) (dirty : List Nat) : sT → Option sE
  | [] => some (0, [])
  | t :: l => match pdlT old new dirty l with
    | some r => cond (dirty.any fun y => Nat.beq y t.1) (match pgt old t.1 with
      | some a => (match pgt new t.1 with
        | some b => some (sadd (smul t.2 (ssub b a)) r)
        | none => none)
      | none => none) (some r)
    | none => none
theorem pdlT_ok {ρ : Nat → Int} {n : Nat} {old new : pE} {dirty : List Nat} {E E' : List Int} (h1 : pOK ρ n old E) (h2 : pOK ρ n new E') (hc : ∀ x, (dirty.any fun y => Nat.beq y x) = false → lget E' x = lget E x) : ∀ {l : sT} {r : sE}, pdlT old new dirty l = some r → se ρ r = sv (lget E') l - sv (lget E) l
  | [], r, hs => by
    cases hs
    rfl
  | t :: l, r, hs => by
    unfold pdlT at hs
    split at hs
    · rename_i r' hr
      have ih := pdlT_ok h1 h2 hc hr
      cases hd : (dirty.any fun y => Nat.beq y t.1) with
      | false =>
        rw [hd, cond_false] at hs
        have hs := Option.some.inj hs
        show se ρ r = t.2 * lget E' t.1 + sv (lget E') l - (t.2 * lget E t.1 + sv (lget E) l)
        rw [← hs, ih, hc t.1 hd]
        omega
      | true =>
        rw [hd, cond_true] at hs
        split at hs
        · rename_i a ha
          split at hs
          · rename_i b hb
            have hs := Option.some.inj hs
            show se ρ r = t.2 * lget E' t.1 + sv (lget E') l - (t.2 * lget E t.1 + sv (lget E) l)
            rw [← hs, se_add, se_mul, se_sub, ih, (h1 _ _ ha).1, (h2 _ _ hb).1, Int.mul_sub]
            omega
          · cases hs
        · cases hs
    · cases hs
def pdelta (K : sK) (e : sE) (old new : pE) (dirty : List Nat) : Bool := match pdlT old new dirty e.2 with
  | some r => sge0 K r
  | none => false
theorem pdelta_ok {ρ : Nat → Int} {K : sK} {n : Nat} {old new : pE} {dirty : List Nat} {E E' : List Int} (hK : skok ρ K) (h1 : pOK ρ n old E) (h2 : pOK ρ n new E') (hc : ∀ x, (dirty.any fun y => Nat.beq y x) = false → lget E' x = lget E x) {e : sE} (hs : pdelta K e old new dirty = true) (he : 0 ≤ se (lget E) e) : 0 ≤ se (lget E') e := by
  unfold pdelta at hs
  split at hs
  · rename_i r hr
    have h3 := pdlT_ok h1 h2 hc hr
    have h4 := sge0_ok hK hs
    unfold se at *
    omega
  · cases hs
def pknown (cl : List sE) (env : pE) : List sE := cl.filterMap fun e => csub e env
def pfs (pd : pD) (k : Nat) (f : sF) : Option (Nat × sE) := match pd.2.2.2.2.1[k]? with
  | some (2, 1, _, _, _, (0, [(s, 1)])) => some (s, f.2.2.2.2.1)
  | _ => none
def pold (A : sA) (pd : pD) (ps : Option (List sE)) (k : Nat) (f : sF) : pE := match ps with
  | some p => penv A pd p (pfs pd k f)
  | none => []
def pnew (A : sA) (pd : pD) (ps : Option (List sE)) (k : Nat) (v : sE) (f : sF) : pE × List Nat := pnewL A f k v (pold A pd ps k f) pd.2.2.2.2.1 0 [pgt (pold A pd ps k f) 0, pgt (pold A pd ps k f) 1, pgt (pold A pd ps k f) 2] []
def pcst (K : sK) (cl : List sE) (old new : pE) (dirty : List Nat) (cls : List (List sE)) : Bool := cls.any fun c2 => c2.all fun e => pprov K e new || (cl.any (fun x => sEq x e) && pdelta K e old new dirty)
/-- each clause that may have held gives one that holds -/
def pstep (A : sA) (pd : pD) (ps : Option (List sE)) (k : Nat) (v : sE) (f : sF) : Bool := pd.2.2.2.2.2.1.all fun cl => match sasm (pknown cl (pold A pd ps k f)) A.1 with
  | none => true
  | some K => pcst K cl (pold (K, A.2) pd ps k f) (pnew (K, A.2) pd ps k v f).1 (pnew (K, A.2) pd ps k v f).2 pd.2.2.2.2.2.1
section PSTEP
variable {Qs : Nat → List Int → zM → Prop} {ρ : Nat → Int} {ls : zL} {st : List Value} {M M' : zM} {A : sA} {f : sF} {k0 i0 : Nat} {v : Value} {pd : pD} {p : List Int}
/-- a store that meets cell k of parameters p -/
def pMeet (ρ : Nat → Int) (M M' : zM) (f : sF) (k0 i0 : Nat) (v : Value) (pd : pD) (p : List Int) (k : Nat) (ve : sE) (n : Nat) : Prop := pSt ρ M M' f k0 i0 v ∧ pDom pd p ∧ pok pd = true ∧ (∃ ck, pd.2.2.2.2.1[k]? = some ck ∧ psame ck f = true ∧ phl ck (peM M pd.2.2.2.2.1 p) k0 i0) ∧ (∀ (m : Nat) (c : pC), pd.2.2.2.2.1[m]? = some c → psame c f = true → m = k) ∧ vnum v = se ρ ve ∧ swE n ve
theorem pfs_ok {n k0' : Nat} {ve : sE} (hm : pMeet ρ M M' f k0 i0 v pd p k0' ve n) (wf : swF n f) : ∀ q, pfs pd k0' f = some q → 3 ≤ q.1 → se ρ q.2 = lget (peM M pd.2.2.2.2.1 p) q.1 ∧ swE n q.2 := by
  obtain ⟨hS, hp, hk, ⟨ck, h1, h2, h3⟩, -⟩ := hm
  intro q hq _
  unfold pfs at hq
  split at hq
  · rename_i a b c s hc
    cases hq
    rw [h1] at hc
    cases hc
    have h4 := h3.2 rfl
    have h4 : 0 + (1 * lget (peM M pd.2.2.2.2.1 p) s + 0) = (i0 : Int) := h4
    obtain ⟨-, -, -, h5, -⟩ := hS
    exact ⟨by dsimp only; omega, wf.2.1⟩
  · cases hq
theorem pold_ok (h : sR Qs ρ A ls st M) (wf : swF A.1.1.length f) {k : Nat} {ve : sE} (hm : pMeet ρ M M' f k0 i0 v pd p k ve A.1.1.length) {ps : Option (List sE)} (hps : ∀ q, ps = some q → q.map (se ρ) = p.take q.length ∧ ∀ e ∈ q, swE A.1.1.length e) : pOK ρ A.1.1.length (pold A pd ps k f) (peM M pd.2.2.2.2.1 p) := by
  unfold pold
  cases ps with
  | none =>
    intro x a hx
    cases hx
  | some q =>
    obtain ⟨h1, h2⟩ := hps q rfl
    obtain ⟨o, i, l, hp, -⟩ := hm.2.1
    have hf := pfs_ok hm wf
    rw [hp] at h1 hf ⊢
    exact penv_ok h h1 h2 hf
theorem pnew_ok (h : sR Qs ρ A ls st M) (wf : swF A.1.1.length f) {k : Nat} {ve : sE} (hm : pMeet ρ M M' f k0 i0 v pd p k ve A.1.1.length) {ps : Option (List sE)} (hps : ∀ q, ps = some q → q.map (se ρ) = p.take q.length ∧ ∀ e ∈ q, swE A.1.1.length e) : pOK ρ A.1.1.length (pnew A pd ps k ve f).1 (peM M' pd.2.2.2.2.1 p) ∧ ∀ x, ((pnew A pd ps k ve f).2.any fun y => Nat.beq y x) = false → lget (peM M' pd.2.2.2.2.1 p) x = lget (peM M pd.2.2.2.2.1 p) x := by
  have ho := pold_ok h wf hm hps
  obtain ⟨hS, hp, hk, ⟨ck, h1, h2, h3⟩, h4, h5, h6⟩ := hm
  have hpl : p.length = 3 := by
    obtain ⟨o, i, l, q, -⟩ := hp
    rw [q]
    rfl
  have pre : ∀ x, x < 3 → lget (peM M' pd.2.2.2.2.1 p) x = lget (peM M pd.2.2.2.2.1 p) x := fun x hx => by
    obtain ⟨r, hr⟩ := peM_pre M pd.2.2.2.2.1 p
    obtain ⟨r', hr'⟩ := peM_pre M' pd.2.2.2.2.1 p
    rw [hr, hr', lget_pre (by omega), lget_pre (by omega)]
  refine pnewL_ok h hS hp hk h1 h2 h4 h3 h5 h6 ho pd.2.2.2.2.1 0 _ [] rfl rfl (fun x a ha => ?_) (fun _ => rfl) (fun x hx _ => pre x hx)
  match x, ha with
  | 0, ha => rw [pre 0 (by decide)]; exact ho 0 a ha
  | 1, ha => rw [pre 1 (by decide)]; exact ho 1 a ha
  | 2, ha => rw [pre 2 (by decide)]; exact ho 2 a ha
  | x + 3, ha => cases ha
theorem pknown_ok {n : Nat} {env : pE} {E : List Int} (h : pOK ρ n env E) {cl : List sE} (hc : ∀ e ∈ cl, 0 ≤ se (lget E) e) : ∀ e ∈ pknown cl env, swE n e ∧ 0 ≤ se ρ e := by
  intro e he
  obtain ⟨x, x1, x2⟩ := List.mem_filterMap.mp he
  obtain ⟨h1, h2⟩ := csub_ok h x2
  exact ⟨h2, by rw [h1]; exact hc x x1⟩
theorem pstep_ok (h : sR Qs ρ A ls st M) (wf : swF A.1.1.length f) {k : Nat} {ve : sE} (hm : pMeet ρ M M' f k0 i0 v pd p k ve A.1.1.length) {ps : Option (List sE)} (hps : ∀ q, ps = some q → q.map (se ρ) = p.take q.length ∧ ∀ e ∈ q, swE A.1.1.length e) (hs : pstep A pd ps k ve f = true) (hh : pHolds M pd p) : pHolds M' pd p := by
  obtain ⟨cl, c1, c2⟩ := hh
  have h1 := List.all_eq_true.mp hs cl c1
  have hkn := pknown_ok (pold_ok h wf hm hps) c2
  obtain ⟨K, D, F, Q, L, T⟩ := A
  obtain ⟨K', k1, k2, k3⟩ := sR_asm h (fun e he => (hkn e he).1) (fun e he => (hkn e he).2)
  rw [k1] at h1
  have h1 : pcst K' cl (pold (K', D, F, Q, L, T) pd ps k f) (pnew (K', D, F, Q, L, T) pd ps k ve f).1 (pnew (K', D, F, Q, L, T) pd ps k ve f).2 pd.2.2.2.2.2.1 = true := h1
  have e2 : K.1.length = K'.1.length := k2.symm
  have wf' : swF K'.1.length f := by rw [← e2]; exact wf
  have hm' : pMeet ρ M M' f k0 i0 v pd p k ve K'.1.length := by rw [← e2]; exact hm
  have hps' : ∀ q, ps = some q → q.map (se ρ) = p.take q.length ∧ ∀ e ∈ q, swE K'.1.length e := by rw [← e2]; exact hps
  have g1 := pold_ok (A := (K', D, F, Q, L, T)) k3 wf' hm' hps'
  obtain ⟨g2, g3⟩ := pnew_ok (A := (K', D, F, Q, L, T)) k3 wf' hm' hps'
  obtain ⟨c3, d1, d2⟩ := List.any_eq_true.mp h1
  refine ⟨c3, d1, fun e he => ?_⟩
  have d3 := List.all_eq_true.mp d2 e he
  rw [Bool.or_eq_true, Bool.and_eq_true] at d3
  rcases d3 with d3 | ⟨d3, d4⟩
  · exact pprov_ok k3.1 g2 d3
  · obtain ⟨x, x1, x2⟩ := List.any_eq_true.mp d3
    rw [← sEq_ok x2] at d4 ⊢
    exact pdelta_ok k3.1 g1 g2 g3 d4 (c2 x x1)
end PSTEP
/-- lists that differ somewhere -/
def pdif (K : sK) : List sE → List sE → Bool
  | a :: l, b :: m => sDf K a b || pdif K l m
  | _, _ => false
theorem pdif_ok {ρ : Nat → Int} {K : sK} (hK : skok ρ K) : ∀ {l m : List sE}, pdif K l m = true → ∃ x, x < l.length ∧ x < m.length ∧ (l.map (se ρ)).getD x 0 ≠ (m.map (se ρ)).getD x 0
  | [], _, h => by cases h
  | _ :: _, [], h => by cases h
  | a :: l, b :: m, h => by
    unfold pdif at h
    rw [Bool.or_eq_true] at h
    rcases h with h | h
    · exact ⟨0, Nat.zero_lt_succ _, Nat.zero_lt_succ _, sDf_ok hK h⟩
    · obtain ⟨x, x1, x2, x3⟩ := pdif_ok hK h
      exact ⟨x + 1, Nat.succ_lt_succ x1, Nat.succ_lt_succ x2, x3⟩
def pvo (A : sA) (cls : Nat) (o : sE) : Bool := A.2.2.1.any fun g => svo1 A.1 (cond (Nat.beq g.1 0) g.2.1 (sRo g.2.1).1) g.2.2.2.1 cls o
/-- parameters that there are -/
def pin (A : sA) (pd : pD) (ps : List sE) : Bool := (!(Nat.beq pd.1 99) && ps.all (twE A.1.1.length)) && (match ps with
  | [o] => Nat.beq pd.2.2.2.1 1 && (Nat.blt 0 pd.2.1 && (Nat.blt 0 pd.2.2.1 && pvo A pd.1 o))
  | [o, i] => Nat.beq pd.2.2.2.1 2 && (Nat.blt 0 pd.2.2.1 && (sge0 A.1 i && (sge0 A.1 (ssub (sC (pd.2.1 - 1 : Int)) i) && pvo A pd.1 o)))
  | _ => false)
section PIN
variable {Qs : Nat → List Int → zM → Prop} {ρ : Nat → Int} {ls : zL} {st : List Value} {M : zM} {A : sA} {pd : pD}
theorem pvo_ok (h : sR Qs ρ A ls st M) {cls : Nat} {o : sE} (hs : pvo A cls o = true) : ∃ k : Nat, (k : Int) = se ρ o ∧ sSh k = some (0, cls, 0) := by
  obtain ⟨g, hg, h2⟩ := List.any_eq_true.mp hs
  have hf := h.2.2.1 g hg
  obtain ⟨d, c, j, o', i', a⟩ := g
  unfold sFac at hf
  cases d with
  | zero =>
    obtain ⟨k, k1, k2, -⟩ := hf
    exact svo1_ok h.1 k2 k1 h2
  | succ d =>
    obtain ⟨k, i, k1, k2, k3, -⟩ := hf
    exact svo1_ok h.1 (sSh_row k3).2.1 k1 h2
theorem pin_ok (h : sR Qs ρ A ls st M) {ps : List sE} (hs : pin A pd ps = true) : (∀ e ∈ ps, swE A.1.1.length e) ∧ ∃ p, pDom pd p ∧ ps.map (se ρ) = p.take ps.length := by
  unfold pin at hs
  simp only [Bool.and_eq_true] at hs
  obtain ⟨⟨s0, s1⟩, s2⟩ := hs
  have s0 := sbeqf s0
  refine ⟨fun e he => twE_ok (List.all_eq_true.mp s1 e he), ?_⟩
  split at s2
  · rename_i o
    simp only [Bool.and_eq_true] at s2
    obtain ⟨-, t1, t2, t3⟩ := s2
    obtain ⟨k, k1, k2⟩ := pvo_ok h t3
    have t1 : 0 < pd.2.1 := sbltt t1
    have t2 : 0 < pd.2.2.1 := sbltt t2
    exact ⟨[se ρ o, 0, 0], ⟨_, 0, 0, rfl, ⟨k, k1, by rw [if_neg s0]; exact k2⟩, Int.le_refl _, by omega, Int.le_refl _, by omega⟩, rfl⟩
  · rename_i o i
    simp only [Bool.and_eq_true] at s2
    obtain ⟨-, t2, t4, t5, t3⟩ := s2
    obtain ⟨k, k1, k2⟩ := pvo_ok h t3
    have t2 : 0 < pd.2.2.1 := sbltt t2
    have t4 := sge0_ok h.1 t4
    have t5 := sge0_ok h.1 t5
    rw [se_sub, se_C] at t5
    exact ⟨[se ρ o, se ρ i, 0], ⟨_, se ρ i, 0, rfl, ⟨k, k1, by rw [if_neg s0]; exact k2⟩, t4, by omega, Int.le_refl _, by omega⟩, rfl⟩
  · cases s2
theorem pdif_ne (hK : skok ρ A.1) {ex ps : List sE} {p : List Int} (hps : ps.map (se ρ) = p.take ps.length) (hs : pdif A.1 ex ps = true) : ¬ pexc (ex.map (se ρ)) p := by
  rintro ⟨n1, n2⟩
  obtain ⟨x, x1, x2, x3⟩ := pdif_ok hK hs
  apply x3
  have a1 : (ex.map (se ρ)).getD x 0 = p.getD x 0 := by
    rw [n2, List.length_map, List.getD_eq_getElem?_getD, List.getElem?_take_of_lt x1, ← List.getD_eq_getElem?_getD]
  have a2 : (ps.map (se ρ)).getD x 0 = p.getD x 0 := by
    rw [hps, List.getD_eq_getElem?_getD, List.getElem?_take_of_lt x2, ← List.getD_eq_getElem?_getD]
  rw [a1, a2]
end PIN
