/-! PREDICATES AS TABLES, 1: what they say -/
/-- a cell: (how it is found, field or row, class or role, field, owner, place): owner and place by symbols: 0, 1, 2 the parameters, from 3 on the cells ahead of it -/
abbrev pC : Type := Nat × Nat × Nat × Nat × sE × sE
/-- class of parameter 0 (99: 0 .. 5), bounds of parameters 1 and 2, how many parameters, cells, clauses, learnt at branches, learnt before static rows -/
abbrev pD : Type := Nat × Nat × Nat × Nat × List pC × List (List sE) × Bool × Bool
def lget (e : List Int) (x : Nat) : Int := e.getD x 0
def cvM (M : zM) (d c j : Nat) (zo zi : Int) : Int := match d with
  | 0 => (match sgf M zo.toNat j with
    | .int x => x.toInt
    | .ref k => (match sAr k with
      | some (_, n) => n
      | none => 0)
    | _ => 0)
  | _ => cond (spos zi && Nat.blt zi.toNat (srln c)) (sgr M c zo.toNat zi.toNat).toInt 0
def pvM (M : zM) (c : pC) (e : List Int) : Int := cvM M c.2.1 c.2.2.1 c.2.2.2.1 (se (lget e) c.2.2.2.2.1) (se (lget e) c.2.2.2.2.2)
def peM (M : zM) : List pC → List Int → List Int
  | [], e => e
  | c :: l, e => peM M l (e ++ [pvM M c e])
def pdm (n : Nat) (o : Int) : Prop := ∃ k : Nat, (k : Int) = o ∧ (if n = 99 then k < 6 else sSh k = some (0, n, 0))
def pexc (exv p : List Int) : Prop := exv ≠ [] ∧ exv = p.take exv.length
def pHolds (M : zM) (pd : pD) (p : List Int) : Prop := ∃ cl ∈ pd.2.2.2.2.2.1, ∀ e ∈ cl, 0 ≤ se (lget (peM M pd.2.2.2.2.1 p)) e
def pDom (pd : pD) (p : List Int) : Prop := ∃ o i l : Int, p = [o, i, l] ∧ pdm pd.1 o ∧ 0 ≤ i ∧ i < pd.2.1 ∧ 0 ≤ l ∧ l < pd.2.2.1
def pQ (pd : pD) (exv : List Int) (M : zM) : Prop := ∀ p, pDom pd p → ¬ pexc exv p → pHolds M pd p
/-! what is known of the symbols -/
abbrev pE : Type := List (Option sE)
def pgt (env : pE) (x : Nat) : Option sE := env.getD x none
def pOK (σ : Nat → Int) (n : Nat) (env : pE) (e : List Int) : Prop := ∀ x a, pgt env x = some a → se σ a = lget e x ∧ swE n a
def csubT (env : pE) : sT → Option sE
  | [] => some (0, [])
  | t :: l => match pgt env t.1 with
    | some a => (match csubT env l with
      | some r => some (sadd (smul t.2 a) r)
      | none => none)
    | none => none
def csub (e : sE) (env : pE) : Option sE := match csubT env e.2 with
  | some r => some (sadd (sC e.1) r)
  | none => none
theorem csubT_ok {σ : Nat → Int} {n : Nat} {env : pE} {ev : List Int} (h : pOK σ n env ev) : ∀ {l : sT} {r : sE}, csubT env l = some r → se σ r = sv (lget ev) l ∧ swE n r
  | [], r, hs => by
    cases hs
    exact ⟨rfl, fun t q => by cases q⟩
  | t :: l, r, hs => by
    unfold csubT at hs
    split at hs
    · rename_i a ha
      split at hs
      · rename_i r' hr
        cases hs
        obtain ⟨h1, h2⟩ := csubT_ok h hr
        obtain ⟨g1, g2⟩ := h t.1 a ha
        refine ⟨?_, swE_add (swE_mul g2) h2⟩
        rw [se_add, se_mul, h1, g1]
        rfl
      · cases hs
    · cases hs
theorem csub_ok {σ : Nat → Int} {n : Nat} {env : pE} {ev : List Int} (h : pOK σ n env ev) {e r : sE} (hs : csub e env = some r) : se σ r = se (lget ev) e ∧ swE n r := by
  unfold csub at hs
  split at hs
  · rename_i r' hr
    cases hs
    obtain ⟨h1, h2⟩ := csubT_ok h hr
    refine ⟨?_, swE_add (swE_C _) h2⟩
    rw [se_add, se_C, h1]
    rfl
  · cases hs
/-- the value of a fact, as a number -/
def pfv (a : sV) : Option sE := cond (Nat.beq a.1 0 || Nat.beq a.1 5) (some a.2.2) none
def cval (A : sA) (c : pC) (env : pE) : Option sE := match csub c.2.2.2.2.1 env with
  | some o => (match csub c.2.2.2.2.2 env with
    | some i => (match (match c.2.1 with
        | 0 => sffF A.1.1 c.2.2.1 c.2.2.2.1 o A.2.2.1
        | _ => cond (Nat.beq c.2.1 1 && Nat.beq c.2.2.2.1 0) (sffR A.1.1 c.2.2.1 o i A.2.2.1) none) with
      | some a => pfv a
      | none => none)
    | none => none)
  | none => none
theorem cvM_fld (M : zM) (c j : Nat) (zo zi zi' : Int) : cvM M 0 c j zo zi = cvM M 0 c j zo zi' := by simp only [cvM]
theorem cvM_row (M : zM) (c j j' : Nat) (zo zi : Int) : cvM M 1 c j zo zi = cvM M 1 c j' zo zi := by simp only [cvM]
theorem cvM_fac {M : zM} {zo zi z : Int} {d c j t q : Nat} (h : sFacE zo zi z M d c j t q) (ht : t = 0 ∨ t = 5) (hd : d = 0 ∨ d = 1) : cvM M d c j zo zi = z := by
  rcases hd with rfl | rfl
  · obtain ⟨k, k1, -, k3⟩ := h
    have e : zo.toNat = k := by omega
    unfold cvM
    rw [e]
    rcases ht with rfl | rfl
    · obtain ⟨x, x1, x2⟩ := k3
      rw [x1]
      exact x2
    · obtain ⟨k', n, x1, x2, x3⟩ := k3
      rw [x1]
      dsimp only
      rw [x3]
      exact x2
  · obtain ⟨k, i, k1, k2, -, k4, k3⟩ := h
    have e : zo.toNat = k := by omega
    have e2 : zi.toNat = i := by omega
    have e3 : (spos zi && Nat.blt i (srln c)) = true := by
      rw [Bool.and_eq_true]
      refine ⟨?_, Nat.ble_eq_true_of_le k4⟩
      rw [← k2]
      rfl
    unfold cvM
    rw [e, e2, e3]
    dsimp only [cond]
    rcases ht with rfl | rfl
    · obtain ⟨x, x1, x2⟩ := k3
      cases x1
      exact x2
    · obtain ⟨k', n, x1, -⟩ := k3
      cases x1
section PV
variable {Qs : Nat → List Int → zM → Prop} {ρ : Nat → Int} {ls : zL} {st : List Value} {M : zM}
theorem pfv_ok {a : sV} {e : sE} (h : pfv a = some e) : (a.1 = 0 ∨ a.1 = 5) ∧ a.2.2 = e := by
  unfold pfv at h
  cases hq : (Nat.beq a.1 0 || Nat.beq a.1 5) with
  | false => rw [hq] at h; cases h
  | true =>
    rw [hq] at h
    cases h
    rw [Bool.or_eq_true] at hq
    exact ⟨hq.imp Nat.eq_of_beq_eq_true Nat.eq_of_beq_eq_true, rfl⟩
theorem cval_ok {A : sA} (h : sR Qs ρ A ls st M) {c : pC} {env : pE} {ev : List Int} (he : pOK ρ A.1.1.length env ev) {e : sE} (hs : cval A c env = some e) : se ρ e = pvM M c ev ∧ swE A.1.1.length e := by
  obtain ⟨K, D, F, Q, L, T⟩ := A
  unfold cval at hs
  split at hs
  · rename_i o ho
    split at hs
    · rename_i i hi
      obtain ⟨o1, o2⟩ := csub_ok he ho
      obtain ⟨i1, i2⟩ := csub_ok he hi
      split at hs
      · rename_i a ha
        obtain ⟨t1, t2⟩ := pfv_ok hs
        unfold pvM
        split at ha
        · rename_i hd
          obtain ⟨o', i', m1, m2⟩ := sffF_ok ha
          have hf := h.2.2.1 _ m1
          have wf := h.2.2.2.2.2.2.2.2.2.1 _ m1
          have e1 := sSm_ok h.1.1 m2
          rw [hd]
          refine ⟨?_, t2 ▸ wf.2.2⟩
          have hf : sFacE (se ρ o') (se ρ i') (se ρ a.2.2) M 0 c.2.2.1 c.2.2.2.1 a.1 a.2.1 := hf
          have := cvM_fac hf t1 (Or.inl rfl)
          rw [← t2, ← this, e1, o1]
          exact cvM_fld _ _ _ _ _ _
        · rename_i hd
          cases hc : (Nat.beq c.2.1 1 && Nat.beq c.2.2.2.1 0) with
          | false => rw [hc] at ha; cases ha
          | true =>
            rw [hc] at ha
            rw [Bool.and_eq_true] at hc
            have c1 : c.2.1 = 1 := Nat.eq_of_beq_eq_true hc.1
            obtain ⟨j', o', i', m1, m2, m3⟩ := sffR_ok ha
            have hf := h.2.2.1 _ m1
            have wf := h.2.2.2.2.2.2.2.2.2.1 _ m1
            have e1 := sSm_ok h.1.1 m2
            have e2 := sSm_ok h.1.1 m3
            rw [c1]
            refine ⟨?_, t2 ▸ wf.2.2⟩
            have hf : sFacE (se ρ o') (se ρ i') (se ρ a.2.2) M 1 c.2.2.1 j' a.1 a.2.1 := hf
            have := cvM_fac hf t1 (Or.inr rfl)
            rw [← t2, ← this, e1, e2, o1, i1]
            exact cvM_row _ _ _ _ _ _
      · cases hs
    · cases hs
  · cases hs
/-- what is known of a predicate's symbols; fs: what stands for a cell that no fact tells -/
def pevL (A : sA) (fs : Option (Nat × sE)) : List pC → pE → pE
  | [], env => env
  | c :: l, env => pevL A fs l (env ++ [match cval A c env with
    | some e => some e
    | none => (match fs with
      | some q => cond (Nat.beq q.1 env.length) (some q.2) none
      | none => none)])
def pars (ps : List sE) : pE := match ps with
  | [a] => [some a, none, none]
  | [a, b] => [some a, some b, none]
  | [a, b, c] => [some a, some b, some c]
  | _ => [none, none, none]
def penv (A : sA) (pd : pD) (ps : List sE) (fs : Option (Nat × sE)) : pE := pevL A fs pd.2.2.2.2.1 (pars ps)
theorem pgt_app {env : pE} {a : Option sE} {x : Nat} : pgt (env ++ [a]) x = if x < env.length then pgt env x else if x = env.length then a else none := by
  unfold pgt
  rw [List.getD_eq_getElem?_getD, List.getD_eq_getElem?_getD]
  by_cases h : x < env.length
  · rw [List.getElem?_append_left h, if_pos h]
  · rw [if_neg h, List.getElem?_append_right (by omega)]
    by_cases h2 : x = env.length
    · rw [if_pos h2, h2, Nat.sub_self]
      rfl
    · rw [if_neg h2, List.getElem?_eq_none (by rw [List.length_singleton]; omega)]
      rfl
theorem lget_app {e : List Int} {v : Int} {x : Nat} : lget (e ++ [v]) x = if x < e.length then lget e x else if x = e.length then v else 0 := by
  unfold lget
  rw [List.getD_eq_getElem?_getD, List.getD_eq_getElem?_getD]
  by_cases h : x < e.length
  · rw [List.getElem?_append_left h, if_pos h]
  · rw [if_neg h, List.getElem?_append_right (by omega)]
    by_cases h2 : x = e.length
    · rw [if_pos h2, h2, Nat.sub_self]
      rfl
    · rw [if_neg h2, List.getElem?_eq_none (by rw [List.length_singleton]; omega)]
      rfl
theorem peM_pre (M : zM) : ∀ (l : List pC) (e : List Int), ∃ r, peM M l e = e ++ r
  | [], e => ⟨[], (List.append_nil e).symm⟩
  | c :: l, e => by
    obtain ⟨r, hr⟩ := peM_pre M l (e ++ [pvM M c e])
    exact ⟨[pvM M c e] ++ r, by unfold peM; rw [hr, List.append_assoc]⟩
theorem lget_pre {e r : List Int} {x : Nat} (h : x < e.length) : lget (e ++ r) x = lget e x := by
  unfold lget
  rw [List.getD_eq_getElem?_getD, List.getD_eq_getElem?_getD, List.getElem?_append_left h]
theorem pevL_ok {A : sA} (h : sR Qs ρ A ls st M) {fs : Option (Nat × sE)} : ∀ (l : List pC) (env : pE) (ev : List Int), env.length = ev.length → pOK ρ A.1.1.length env ev → (∀ q, fs = some q → q.1 < ev.length + l.length → ev.length ≤ q.1 → se ρ q.2 = lget (peM M l ev) q.1 ∧ swE A.1.1.length q.2) → pOK ρ A.1.1.length (pevL A fs l env) (peM M l ev) ∧ (pevL A fs l env).length = (peM M l ev).length
  | [], env, ev, hl, he, _ => ⟨he, hl⟩
  | c :: l, env, ev, hl, he, hf => by
    unfold pevL peM
    obtain ⟨r, hr⟩ := peM_pre M l (ev ++ [pvM M c ev])
    have hlast : lget (peM M (c :: l) ev) ev.length = pvM M c ev := by
      show lget (peM M l (ev ++ [pvM M c ev])) ev.length = _
      rw [hr, lget_pre (by rw [List.length_append]; exact Nat.lt_succ_self _), lget_app, if_neg (Nat.lt_irrefl _), if_pos rfl]
    refine pevL_ok h l _ _ (by rw [List.length_append, List.length_append, hl]; rfl) ?_ (fun q hq h1 h2 => ?_)
    · intro x a ha
      rw [pgt_app] at ha
      rw [lget_app]
      by_cases c1 : x < env.length
      · rw [if_pos c1] at ha
        rw [if_pos (by omega)]
        exact he x a ha
      · rw [if_neg c1] at ha
        rw [if_neg (by omega)]
        by_cases c2 : x = env.length
        · rw [if_pos c2] at ha
          rw [if_pos (by omega)]
          split at ha
          · rename_i e hcv
            cases ha
            exact cval_ok h he hcv
          · split at ha
            · rename_i q
              cases hb : Nat.beq q.1 env.length with
              | false => rw [hb] at ha; cases ha
              | true =>
                rw [hb] at ha
                cases ha
                have hb := Nat.eq_of_beq_eq_true hb
                obtain ⟨g1, g2⟩ := hf q rfl (by rw [List.length_cons]; omega) (by omega)
                rw [hb, hl, hlast] at g1
                exact ⟨g1, g2⟩
            · cases ha
        · rw [if_neg c2] at ha
          cases ha
    · rw [List.length_append, List.length_singleton] at h1 h2
      exact hf q hq (by rw [List.length_cons]; omega) (by omega)
theorem pars_ok {n : Nat} {ps : List sE} {o i l : Int} (h : ps.map (se ρ) = [o, i, l].take ps.length) (hw : ∀ e ∈ ps, swE n e) : pOK ρ n (pars ps) [o, i, l] ∧ (pars ps).length = 3 := by
  unfold pars
  split
  · rename_i a
    refine ⟨fun x b hb => ?_, rfl⟩
    match x, hb with
    | 0, hb => cases hb; exact ⟨(List.cons.inj h).1, hw _ List.mem_cons_self⟩
    | 1, hb => cases hb
    | 2, hb => cases hb
    | x + 3, hb => cases hb
  · rename_i a b
    have h1 := List.cons.inj h
    refine ⟨fun x c hc => ?_, rfl⟩
    match x, hc with
    | 0, hc => cases hc; exact ⟨h1.1, hw _ List.mem_cons_self⟩
    | 1, hc => cases hc; exact ⟨(List.cons.inj h1.2).1, hw _ (List.mem_cons_of_mem _ List.mem_cons_self)⟩
    | 2, hc => cases hc
    | x + 3, hc => cases hc
  · rename_i a b c
    have h1 := List.cons.inj h
    have h2 := List.cons.inj h1.2
    refine ⟨fun x d hd => ?_, rfl⟩
    match x, hd with
    | 0, hd => cases hd; exact ⟨h1.1, hw _ List.mem_cons_self⟩
    | 1, hd => cases hd; exact ⟨h2.1, hw _ (List.mem_cons_of_mem _ List.mem_cons_self)⟩
    | 2, hd => cases hd; exact ⟨(List.cons.inj h2.2).1, hw _ (List.mem_cons_of_mem _ (List.mem_cons_of_mem _ List.mem_cons_self))⟩
    | x + 3, hd => cases hd
  · refine ⟨fun x b hb => ?_, rfl⟩
    match x, hb with
    | 0, hb => cases hb
    | 1, hb => cases hb
    | 2, hb => cases hb
    | x + 3, hb => cases hb
theorem penv_ok {A : sA} (h : sR Qs ρ A ls st M) {pd : pD} {ps : List sE} {fs : Option (Nat × sE)} {o i l : Int} (hp : ps.map (se ρ) = [o, i, l].take ps.length) (hw : ∀ e ∈ ps, swE A.1.1.length e) (hf : ∀ q, fs = some q → 3 ≤ q.1 → se ρ q.2 = lget (peM M pd.2.2.2.2.1 [o, i, l]) q.1 ∧ swE A.1.1.length q.2) : pOK ρ A.1.1.length (penv A pd ps fs) (peM M pd.2.2.2.2.1 [o, i, l]) := by
  obtain ⟨h1, h2⟩ := pars_ok hp hw
  exact (pevL_ok h pd.2.2.2.2.1 (pars ps) [o, i, l] h2 h1 (fun q hq _ h4 => hf q hq h4)).1
end PV
