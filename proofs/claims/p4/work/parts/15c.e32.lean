/-! PREDICATES AS TABLES, 3: cells behind a store -/
def puses (c : pC) (dirty : List Nat) : Bool := (c.2.2.2.2.1.2.any fun t => dirty.any fun x => Nat.beq x t.1) || (c.2.2.2.2.2.2.any fun t => dirty.any fun x => Nat.beq x t.1)
def psame (c : pC) (f : sF) : Bool := Nat.beq c.2.1 f.1 && (Nat.beq c.2.2.1 f.2.1 && Nat.beq c.2.2.2.1 f.2.2.1)
def pnewL (A : sA) (f : sF) (k : Nat) (v : sE) (old : pE) : List pC → Nat → pE → List Nat → pE × List Nat
  | [], _, new, dirty => (new, dirty)
  | c :: l, m, new, dirty => cond (Nat.beq m k) (pnewL A f k v old l (m + 1) (new ++ [some v]) ((3 + m) :: dirty)) (cond (puses c dirty) (pnewL A f k v old l (m + 1) (new ++ [cond (psame c f) none (cval A c new)]) ((3 + m) :: dirty)) (pnewL A f k v old l (m + 1) (new ++ [pgt old (3 + m)]) dirty))
/-- where a cell of these parameters lies, there a store was -/
def phl (c : pC) (E : List Int) (k i : Nat) : Prop := se (lget E) c.2.2.2.2.1 = k ∧ (c.2.1 = 1 → se (lget E) c.2.2.2.2.2 = i)
theorem se_clean {E E' : List Int} {dirty : List Nat} {n : Nat} (h : ∀ x, x < n → (dirty.any fun y => Nat.beq y x) = false → lget E' x = lget E x) {e : sE} (w : swE n e) (hd : (e.2.any fun t => dirty.any fun x => Nat.beq x t.1) = false) : se (lget E') e = se (lget E) e := by
  have : ∀ l : sT, swf n l → (l.any fun t => dirty.any fun x => Nat.beq x t.1) = false → sv (lget E') l = sv (lget E) l := by
    intro l
    induction l with
    | nil => intro _ _; rfl
    | cons t l ih =>
      intro w hd
      rw [List.any_cons, Bool.or_eq_false_iff] at hd
      show t.2 * lget E' t.1 + sv (lget E') l = t.2 * lget E t.1 + sv (lget E) l
      rw [h t.1 (w t List.mem_cons_self) hd.1, ih (fun q hq => w q (List.mem_cons_of_mem _ hq)) hd.2]
  unfold se
  rw [this e.2 w hd]
theorem psame_ok {c : pC} {f : sF} (h : psame c f = true) : c.2.1 = f.1 ∧ c.2.2.1 = f.2.1 ∧ c.2.2.2.1 = f.2.2.1 := by
  unfold psame at h
  simp only [Bool.and_eq_true] at h
  exact ⟨Nat.eq_of_beq_eq_true h.1, Nat.eq_of_beq_eq_true h.2.1, Nat.eq_of_beq_eq_true h.2.2⟩
theorem psame_no {c : pC} {f : sF} (h : psame c f = false) : ¬ (c.2.1 = f.1 ∧ c.2.2.1 = f.2.1 ∧ c.2.2.2.1 = f.2.2.1) := by
  rintro ⟨h1, h2, h3⟩
  unfold psame at h
  rw [h1, h2, h3, show Nat.beq f.1 f.1 = true from Nat.beq_refl _, show Nat.beq f.2.1 f.2.1 = true from Nat.beq_refl _, show Nat.beq f.2.2.1 f.2.2.1 = true from Nat.beq_refl _] at h
  cases h
section PNEW
variable {Qs : Nat → List Int → zM → Prop} {ρ : Nat → Int} {ls : zL} {st : List Value} {M M' : zM} {A : sA} {f : sF} {k0 i0 : Nat} {v : Value} {pd : pD} {p : List Int}
/-- what stands in a store's own place -/
def pSt (ρ : Nat → Int) (M M' : zM) (f : sF) (k0 i0 : Nat) (v : Value) : Prop := (f.1 = 0 ∨ f.1 = 1) ∧ (f.1 = 1 → f.2.2.1 = 0) ∧ (k0 : Int) = se ρ f.2.2.2.1 ∧ (i0 : Int) = se ρ f.2.2.2.2.1 ∧ sPl f.1 f.2.1 k0 i0 ∧ sUpd M M' f.1 f.2.1 f.2.2.1 k0 i0 v ∧ (f.1 = 1 → ∃ x, v = .int x) ∧ sMem M'
theorem pno_ok (hS : pSt ρ M M' f k0 i0 v) (hp : pDom pd p) (hk : pok pd = true) (hn : ∀ (m : Nat) (c : pC), pd.2.2.2.2.1[m]? = some c → psame c f = true → ¬ phl c (peM M pd.2.2.2.2.1 p) k0 i0) : lget (peM M' pd.2.2.2.2.1 p) = lget (peM M pd.2.2.2.2.1 p) := by
  obtain ⟨o, i, l, hp, ho, -⟩ := hp
  obtain ⟨s1, s2, s3, s4, s5, s6, s7, s8⟩ := hS
  have hpl : p.length = 3 := by rw [hp]; rfl
  have at0 := peM_at M pd.2.2.2.2.1 p pd.1 pd.2.2.2.2.1 (by rw [hpl]; exact hk)
  have at1 := peM_at M' pd.2.2.2.2.1 p pd.1 pd.2.2.2.2.1 (by rw [hpl]; exact hk)
  rw [hpl] at at0 at1
  have pre : ∀ (N : zM) x, x < 3 → lget (peM N pd.2.2.2.2.1 p) x = lget p x := fun N x hx => by
    obtain ⟨r, hr⟩ := peM_pre N pd.2.2.2.2.1 p
    rw [hr, lget_pre (by omega)]
  have main : ∀ m, ∀ x, x < 3 + m → lget (peM M' pd.2.2.2.2.1 p) x = lget (peM M pd.2.2.2.2.1 p) x := by
    intro m
    induction m with
    | zero => intro x hx; rw [pre M' x hx, pre M x hx]
    | succ m ih =>
      intro x hx
      rcases Nat.lt_or_ge x (3 + m) with q | q
      · exact ih x q
      · have hx : x = 3 + m := by omega
        subst hx
        cases hc : pd.2.2.2.2.1[m]? with
        | none =>
          have hl := List.getElem?_eq_none_iff.mp hc
          have e : ∀ N : zM, lget (peM N pd.2.2.2.2.1 p) (3 + m) = 0 := fun N => by
            unfold lget
            rw [List.getD_eq_getElem?_getD, List.getElem?_eq_none (by rw [peM_len, hpl]; omega)]
            rfl
          rw [e, e]
        | some c =>
          obtain ⟨a1, a2, a3, a4, a5⟩ := at0 m c hc
          obtain ⟨b1, -, -, -, -⟩ := at1 m c hc
          have e1 : se (lget (peM M' pd.2.2.2.2.1 p)) c.2.2.2.2.1 = se (lget (peM M pd.2.2.2.2.1 p)) c.2.2.2.2.1 := se_agr (n := 3 + m) ih a2
          have e2 : se (lget (peM M' pd.2.2.2.2.1 p)) c.2.2.2.2.2 = se (lget (peM M pd.2.2.2.2.1 p)) c.2.2.2.2.2 := se_agr (n := 3 + m) ih a3
          rw [b1, a1]
          unfold pvM
          rw [e1, e2]
          have hv := pokc_ok s8 hp ho hk hc
          rw [e1] at hv
          refine cvM_same s6 s1 s5 a4 hv s2 fun q => ?_
          refine hn m c hc ?_ ⟨q.2.2.2.1, fun w => q.2.2.2.2 (q.1.symm.trans w)⟩
          unfold psame
          rw [q.1, q.2.1, q.2.2.1, show Nat.beq f.1 f.1 = true from Nat.beq_refl _, show Nat.beq f.2.1 f.2.1 = true from Nat.beq_refl _, show Nat.beq f.2.2.1 f.2.2.1 = true from Nat.beq_refl _]
          rfl
  funext x
  exact main (x + 1) x (by omega)
theorem pnewL_ok (h : sR Qs ρ A ls st M) (hS : pSt ρ M M' f k0 i0 v) (hp : pDom pd p) (hk : pok pd = true) {k : Nat} {ck : pC} (hck : pd.2.2.2.2.1[k]? = some ck) (hsm : psame ck f = true) (hun : ∀ (m : Nat) (c : pC), pd.2.2.2.2.1[m]? = some c → psame c f = true → m = k) (hh : phl ck (peM M pd.2.2.2.2.1 p) k0 i0) {ve : sE} (hve : vnum v = se ρ ve) (wve : swE A.1.1.length ve) {old : pE} (hold : pOK ρ A.1.1.length old (peM M pd.2.2.2.2.1 p)) :
    ∀ (l : List pC) (m : Nat) (new : pE) (dirty : List Nat), pd.2.2.2.2.1.drop m = l → new.length = 3 + m → pOK ρ A.1.1.length new (peM M' pd.2.2.2.2.1 p) → (m ≤ k → dirty = []) → (∀ x, x < 3 + m → (dirty.any fun y => Nat.beq y x) = false → lget (peM M' pd.2.2.2.2.1 p) x = lget (peM M pd.2.2.2.2.1 p) x) →
    pOK ρ A.1.1.length (pnewL A f k ve old l m new dirty).1 (peM M' pd.2.2.2.2.1 p) ∧ ∀ x, ((pnewL A f k ve old l m new dirty).2.any fun y => Nat.beq y x) = false → lget (peM M' pd.2.2.2.2.1 p) x = lget (peM M pd.2.2.2.2.1 p) x := by
  obtain ⟨o, i, l0, hp, ho, -⟩ := hp
  obtain ⟨s1, s2, s3, s4, s5, s6, s7, s8⟩ := hS
  have hpl : p.length = 3 := by rw [hp]; rfl
  have at0 := peM_at M pd.2.2.2.2.1 p pd.1 pd.2.2.2.2.1 (by rw [hpl]; exact hk)
  have at1 := peM_at M' pd.2.2.2.2.1 p pd.1 pd.2.2.2.2.1 (by rw [hpl]; exact hk)
  rw [hpl] at at0 at1
  intro l
  induction l with
  | nil =>
    intro m new dirty hl hn hok _ hcl
    refine ⟨hok, fun x hx => ?_⟩
    have hm : pd.2.2.2.2.1.length ≤ m := List.drop_eq_nil_iff.mp hl
    rcases Nat.lt_or_ge x (3 + m) with q | q
    · exact hcl x q hx
    · have e : ∀ N : zM, lget (peM N pd.2.2.2.2.1 p) x = 0 := fun N => by
        unfold lget
        rw [List.getD_eq_getElem?_getD, List.getElem?_eq_none (by rw [peM_len, hpl]; omega)]
        rfl
      rw [e, e]
  | cons c l ih =>
    intro m new dirty hl hn hok hd hcl
    have hc : pd.2.2.2.2.1[m]? = some c := by
      have := congrArg (fun q : List pC => q[0]?) hl
      simp only [List.getElem?_drop, Nat.add_zero, List.getElem?_cons_zero] at this
      exact this
    have hl' : pd.2.2.2.2.1.drop (m + 1) = l := by
      rw [← List.drop_drop, hl]
      rfl
    obtain ⟨a1, a2, a3, a4, a5⟩ := at0 m c hc
    obtain ⟨b1, -, -, -, -⟩ := at1 m c hc
    -- one cell more
    have ext : ∀ (q : Option sE), (∀ a, q = some a → se ρ a = lget (peM M' pd.2.2.2.2.1 p) (3 + m) ∧ swE A.1.1.length a) → pOK ρ A.1.1.length (new ++ [q]) (peM M' pd.2.2.2.2.1 p) := by
      intro q hq x a ha
      rw [pgt_app, hn] at ha
      by_cases c1 : x < 3 + m
      · rw [if_pos c1] at ha
        exact hok x a ha
      · rw [if_neg c1] at ha
        by_cases c2 : x = 3 + m
        · rw [if_pos c2] at ha
          rw [c2]
          exact hq a ha
        · rw [if_neg c2] at ha
          cases ha
    have hn1 : ∀ q : Option sE, (new ++ [q]).length = 3 + (m + 1) := fun q => by rw [List.length_append, hn]; rfl
    have dcl : ∀ x, x < 3 + (m + 1) → (((3 + m) :: dirty).any fun y => Nat.beq y x) = false → lget (peM M' pd.2.2.2.2.1 p) x = lget (peM M pd.2.2.2.2.1 p) x := by
      intro x hx hq
      rw [List.any_cons, Bool.or_eq_false_iff] at hq
      have : x ≠ 3 + m := fun w => by
        have h1 := hq.1
        rw [w, show Nat.beq (3 + m) (3 + m) = true from Nat.beq_refl _] at h1
        cases h1
      exact hcl x (by omega) hq.2
    unfold pnewL
    cases hmk : Nat.beq m k with
    | true =>
      have hmk := Nat.eq_of_beq_eq_true hmk
      rw [cond_true]
      refine ih (m + 1) _ _ hl' (hn1 _) (ext _ fun a ha => ?_) (fun q => by omega) dcl
      cases ha
      refine ⟨?_, wve⟩
      have hcc : c = ck := by
        rw [hmk, hck] at hc
        cases hc
        rfl
      have hdd := hd (Nat.le_of_eq hmk)
      have hall : ∀ x, x < 3 + m → lget (peM M' pd.2.2.2.2.1 p) x = lget (peM M pd.2.2.2.2.1 p) x := fun x hx => hcl x hx (by rw [hdd]; rfl)
      obtain ⟨g1, g2, g3⟩ := psame_ok hsm
      obtain ⟨hh1, hh2⟩ := hh
      rw [← hcc] at g1 g2 g3 hh1 hh2
      rw [b1, ← hve]
      unfold pvM
      rw [se_agr (n := 3 + m) hall a2, se_agr (n := 3 + m) hall a3, hh1, g1, g2, g3]
      rcases s1 with s1 | s1
      · rw [← cvM_hit s6 (Or.inl s1) s5 s7, s1]
        exact (cvM_fld _ _ _ _ _ _).symm
      · rw [hh2 (g1.trans s1)]
        exact (cvM_hit s6 (Or.inr s1) s5 s7).symm
    | false =>
      have hmk : m ≠ k := fun w => by rw [w, show Nat.beq k k = true from Nat.beq_refl _] at hmk; cases hmk
      have hns : psame c f = false := by
        cases hq : psame c f with
        | false => rfl
        | true => exact absurd (hun m c hc hq) hmk
      have hsame : ∀ {zo zi : Int}, pcv c.2.1 c.2.2.1 zo → cvM M' c.2.1 c.2.2.1 c.2.2.2.1 zo zi = cvM M c.2.1 c.2.2.1 c.2.2.2.1 zo zi := fun hv => cvM_same s6 s1 s5 a4 hv s2 fun q => psame_no hns ⟨q.1, q.2.1, q.2.2.1⟩
      have hv' := pokc_ok s8 hp ho hk hc
      rw [cond_false]
      cases hu : puses c dirty with
      | true =>
        rw [cond_true]
        refine ih (m + 1) _ _ hl' (hn1 _) (ext _ fun a ha => ?_) (fun q => ?_) dcl
        · rw [hns, cond_false] at ha
          obtain ⟨r1, r2⟩ := cval_ok h hok ha
          refine ⟨?_, r2⟩
          rw [b1, r1]
          unfold pvM
          exact (hsame hv').symm
        · have hdd := hd (by omega)
          rw [hdd] at hu
          unfold puses at hu
          have e : ∀ l : sT, (l.any fun t => ([] : List Nat).any fun x => Nat.beq x t.1) = false := fun l => by
            induction l with
            | nil => rfl
            | cons t l ih => rw [List.any_cons, ih]; rfl
          rw [e, e] at hu
          cases hu
      | false =>
        rw [cond_false]
        unfold puses at hu
        rw [Bool.or_eq_false_iff] at hu
        have e1 := se_clean hcl a2 hu.1
        have e2 := se_clean hcl a3 hu.2
        have ev : lget (peM M' pd.2.2.2.2.1 p) (3 + m) = lget (peM M pd.2.2.2.2.1 p) (3 + m) := by
          rw [b1, a1]
          unfold pvM
          rw [hsame hv', e1, e2]
        refine ih (m + 1) _ _ hl' (hn1 _) (ext _ fun a ha => ?_) (fun q => hd (by omega)) (fun x hx hq => ?_)
        · rw [ev]
          exact hold _ a ha
        · rcases Nat.lt_or_ge x (3 + m) with w | w
          · exact hcl x w hq
          · have : x = 3 + m := by omega
            rw [this, ev]
end PNEW
