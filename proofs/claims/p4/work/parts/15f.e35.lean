/-! PREDICATES AS TABLES, 6: the rule of a store -/
def pidx (f : sF) : List pC → Nat → List Nat
  | [], _ => []
  | c :: l, m => cond (psame c f) (m :: pidx f l (m + 1)) (pidx f l (m + 1))
def pgood (A : sA) (f : sF) (pd : pD) (k : Nat) (v : sE) (ps ex : List sE) : Bool := Nat.beq ps.length pd.2.2.2.1 && (okc A.1 pd.2.2.2.2.2.1 (pnew A pd (some ps) k v f).1 || pelse A pd ps (pnew A pd (some ps) k v f).1 ex)
def hS3 (A A1 : sA) (f : sF) (q : sQ) (pd : pD) (k : Nat) (v : sE) (ps : List sE) (h : Nat) : List sQ := match q.2 with
  | [] => cond (pgood A1 f pd k v ps [] || (pstep A1 pd (some ps) k v f || pgrow A pd k ps v)) [q] [(q.1, ps)]
  | x :: ex => cond (teqL A.1 (x :: ex) (ps.take (ex.length + 1))) (cond (Nat.beq h 1 && (Nat.beq (ex.length + 1) ps.length && (Nat.beq ps.length pd.2.2.2.1 && pgood A1 f pd k v ps (x :: ex)))) [(q.1, [])] [q]) (cond (pgood A1 f pd k v ps (x :: ex) || (pstep A1 pd (some ps) k v f || pgrow A pd k ps v)) [q] [])
def hS1 (pdt : Nat → Option pD) (A : sA) (f : sF) (q : sQ) : List sQ := match pdt q.1 with
  | none => []
  | some pd => (match pidx f pd.2.2.2.2.1 0 with
    | [] => [q]
    | [k] => (match pd.2.2.2.2.1[k]? with
      | some c => (match pfv f.2.2.2.2.2 with
        | some v => (match psol A c f.2.2.2.1 f.2.2.2.2.1 with
          | none => cond (pstep A pd none k v f) [q] []
          | some ps => cond (Nat.beq (phit A.1 c (penv A pd ps none) f.2.2.2.1 f.2.2.2.2.1) 2) [q] (match cond (Nat.beq (phit A.1 c (penv A pd ps none) f.2.2.2.1 f.2.2.2.2.1) 1) (some A) (peqA A c (penv A pd ps none) f.2.2.2.1 f.2.2.2.2.1) with
            | none => [q]
            | some A1 => hS3 A A1 f q pd k v ps (phit A.1 c (penv A pd ps none) f.2.2.2.1 f.2.2.2.2.1)))
        | none => [])
      | none => [])
    | _ => [])
theorem pidx_ok {f : sF} : ∀ {l : List pC} {m : Nat} {x : Nat}, x ∈ pidx f l m ↔ ∃ c, m ≤ x ∧ l[x - m]? = some c ∧ psame c f = true
  | [], m, x => ⟨fun h => (by cases h), fun h => (by obtain ⟨c, _, h, _⟩ := h; simp at h)⟩
  | a :: l, m, x => by
    have ih := @pidx_ok f l (m + 1) x
    have tail : (∃ c, m + 1 ≤ x ∧ l[x - (m + 1)]? = some c ∧ psame c f = true) → ∃ c, m ≤ x ∧ (a :: l)[x - m]? = some c ∧ psame c f = true := by
      rintro ⟨c, h1, h2, h3⟩
      refine ⟨c, by omega, ?_, h3⟩
      rw [show x - m = (x - (m + 1)) + 1 by omega]
      exact h2
    have back : (∃ c, m ≤ x ∧ (a :: l)[x - m]? = some c ∧ psame c f = true) → x ≠ m → ∃ c, m + 1 ≤ x ∧ l[x - (m + 1)]? = some c ∧ psame c f = true := by
      rintro ⟨c, h1, h2, h3⟩ hne
      rw [show x - m = (x - (m + 1)) + 1 by omega] at h2
      exact ⟨c, by omega, h2, h3⟩
    unfold pidx
    cases hp : psame a f with
    | true =>
      rw [cond_true, List.mem_cons, ih]
      constructor
      · rintro (rfl | h)
        · exact ⟨a, Nat.le_refl _, by rw [Nat.sub_self]; rfl, hp⟩
        · exact tail h
      · intro h
        by_cases e : x = m
        · exact Or.inl e
        · exact Or.inr (back h e)
    | false =>
      rw [cond_false, ih]
      refine ⟨tail, fun h => back h fun e => ?_⟩
      obtain ⟨c, -, h2, h3⟩ := h
      rw [e, Nat.sub_self] at h2
      cases h2
      rw [hp] at h3
      cases h3
theorem pevL_len (A : sA) (fs : Option (Nat × sE)) : ∀ (l : List pC) (env : pE), (pevL A fs l env).length = env.length + l.length
  | [], env => rfl
  | c :: l, env => by
    unfold pevL
    rw [pevL_len A fs l, List.length_append, List.length_cons]
    show env.length + 1 + l.length = env.length + (l.length + 1)
    omega
theorem pars_len (ps : List sE) : (pars ps).length = 3 := by
  unfold pars
  split <;> rfl
theorem penv_len (A : sA) (pd : pD) (ps : List sE) (fs : Option (Nat × sE)) : (penv A pd ps fs).length = 3 + pd.2.2.2.2.1.length := by
  unfold penv
  rw [pevL_len, pars_len]
theorem peq_ok {ρ : Nat → Int} {K : sK} (hK : skok ρ K) : ∀ {l m : List (Option sE)}, peq K l m = true → ∀ x, x < l.length → ∃ a b, l.getD x none = some a ∧ m.getD x none = some b ∧ se ρ a = se ρ b
  | [], [], _, x, hx => absurd hx (Nat.not_lt_zero x)
  | some a :: l, some b :: m, h, x, hx => by
    unfold peq at h
    rw [Bool.and_eq_true] at h
    cases x with
    | zero => exact ⟨a, b, rfl, rfl, sSm_ok hK.1 h.1⟩
    | succ x => exact peq_ok hK h.2 x (Nat.lt_of_succ_lt_succ hx)
  | none :: _, _, h, _, _ => by cases h
  | some _ :: _, none :: _, h, _, _ => by cases h
  | some _ :: _, [], h, _, _ => by cases h
  | [], _ :: _, h, _, _ => by cases h
theorem sv_on {F G : Nat → Int} {P : Nat → Bool} (h : ∀ x, P x = true → F x = G x) : ∀ l : sT, (l.all fun t => P t.1) = true → sv F l = sv G l
  | [], _ => rfl
  | t :: l, w => by
    rw [List.all_cons, Bool.and_eq_true] at w
    have ih := sv_on h l w.2
    show t.2 * F t.1 + sv F l = t.2 * G t.1 + sv G l
    rw [h t.1 w.1, ih]
theorem se_on {F G : Nat → Int} {P : Nat → Bool} (h : ∀ x, P x = true → F x = G x) {e : sE} (w : (e.2.all fun t => P t.1) = true) : se F e = se G e := by
  unfold se
  rw [sv_on h e.2 w]
section HS
variable {Qs : Nat → List Int → zM → Prop} {ρ : Nat → Int} {ls : zL} {st : List Value} {M M' : zM} {A A1 : sA} {f : sF} {k0 i0 : Nat} {v : Value} {pd : pD} {p : List Int}
theorem pHolds_eq {E : lget (peM M' pd.2.2.2.2.1 p) = lget (peM M pd.2.2.2.2.1 p)} (h : pHolds M pd p) : pHolds M' pd p := by
  obtain ⟨cl, c1, c2⟩ := h
  refine ⟨cl, c1, fun e he => ?_⟩
  rw [E]
  exact c2 e he
/-- a store meets the one cell that it may meet, or all is as it was -/
theorem pcase (hS : pSt ρ M M' f k0 i0 v) (hp : pDom pd p) (hk : pok pd = true) {k : Nat} (hi : pidx f pd.2.2.2.2.1 0 = [k]) {ve : sE} {n : Nat} (hv : vnum v = se ρ ve) (w : swE n ve) : pMeet ρ M M' f k0 i0 v pd p k ve n ∨ lget (peM M' pd.2.2.2.2.1 p) = lget (peM M pd.2.2.2.2.1 p) := by
  have un : ∀ (m : Nat) (c : pC), pd.2.2.2.2.1[m]? = some c → psame c f = true → m = k := fun m c h1 h2 => by
    have : m ∈ pidx f pd.2.2.2.2.1 0 := pidx_ok.mpr ⟨c, Nat.zero_le _, h1, h2⟩
    rw [hi] at this
    exact List.mem_singleton.mp this
  by_cases h : ∃ (m : Nat) (c : pC), pd.2.2.2.2.1[m]? = some c ∧ psame c f = true ∧ phl c (peM M pd.2.2.2.2.1 p) k0 i0
  · obtain ⟨m, c, h1, h2, h3⟩ := h
    have e := un m c h1 h2
    subst e
    exact Or.inl ⟨hS, hp, hk, ⟨c, h1, h2, h3⟩, un, hv, w⟩
  · exact Or.inr (pno_ok hS hp hk fun m c h1 h2 h3 => h ⟨m, c, h1, h2, h3⟩)
theorem pelse_ok (h : sR Qs ρ A ls st M) (wf : swF A.1.1.length f) {k : Nat} {ve : sE} {ps ex : List sE} (hm : pMeet ρ M M' f k0 i0 v pd p k ve A.1.1.length) (hps : ps.map (se ρ) = p.take ps.length ∧ ∀ e ∈ ps, swE A.1.1.length e) (hun : ∀ p', pDom pd p' → (pMeet ρ M M' f k0 i0 v pd p' k ve A.1.1.length → ps.map (se ρ) = p'.take ps.length) ∧ (pMeet ρ M M' f k0 i0 v pd p' k ve A.1.1.length ∨ lget (peM M' pd.2.2.2.2.1 p') = lget (peM M pd.2.2.2.2.1 p'))) (hQ : pQ pd (ex.map (se ρ)) M) (hs : pelse A pd ps (pnew A pd (some ps) k ve f).1 ex = true) : pHolds M' pd p := by
  unfold pelse at hs
  rw [Bool.and_eq_true] at hs
  obtain ⟨s2, s3⟩ := hs
  split at s3
  · rename_i c cells hcells
    rw [Bool.and_eq_true] at s3
    obtain ⟨g, hg, t4⟩ := List.any_eq_true.mp s3.2
    rw [Bool.and_eq_true] at t4
    have t5 := t4.2
    split at t5
    · rename_i p2 _
      simp only [Bool.and_eq_true] at t5
      obtain ⟨u0, u4, u7, u5, u6⟩ := t5
      have u0 := Nat.eq_of_beq_eq_true u0
      obtain ⟨w2, p', hp2, hp2m⟩ := pin_ok h u7
      have hdiff : p2.map (se ρ) ≠ ps.map (se ρ) := fun w => by
        obtain ⟨x, x1, x2, x3⟩ := pdif_ok h.1 u4
        rw [w] at x3
        exact x3 rfl
      have hE : lget (peM M' pd.2.2.2.2.1 p') = lget (peM M pd.2.2.2.2.1 p') := by
        obtain ⟨v1, v2⟩ := hun _ hp2
        rcases v2 with v2 | v2
        · have := v1 v2
          rw [← u0, ← hp2m] at this
          exact absurd this.symm hdiff
        · exact v2
      have hnex : ¬ pexc (ex.map (se ρ)) p' := by
        rw [Bool.or_eq_true, Bool.or_eq_true] at u5
        rcases u5 with u5 | u5 | u5
        · have := Nat.eq_of_beq_eq_true u5
          intro n
          rw [List.length_eq_zero_iff.mp this] at n
          exact n.1 rfl
        · rintro ⟨-, n2⟩
          have e1 := teqL_ok h.1 u5
          have e2 : ex.length = ps.length := by
            have := congrArg List.length e1
            rw [List.length_map, List.length_map] at this
            exact this
          rw [List.length_map, e2, ← u0, ← hp2m, e1] at n2
          exact hdiff n2.symm
        · exact pdif_ne h.1 hp2m u5
      obtain ⟨cl, c1, c2⟩ := hQ _ hp2 hnex
      refine ⟨cl, c1, fun e he => ?_⟩
      have hpe : pOK ρ A.1.1.length (penv A pd p2 none) (peM M pd.2.2.2.2.1 p') := by
        obtain ⟨o', i', l', hpp', -⟩ := id hp2
        rw [hpp'] at hp2m ⊢
        exact penv_ok h hp2m w2 (fun q hq => by cases hq)
      obtain ⟨hpn, -⟩ := pnew_ok (ps := some ps) h wf hm (fun q hq => by cases hq; exact hps)
      have hsy : ∀ x, 3 ≤ x → x < 3 + pd.2.2.2.2.1.length → lget (peM M' pd.2.2.2.2.1 p) x = lget (peM M pd.2.2.2.2.1 p') x := by
        intro x x1 x2
        obtain ⟨a, b, a1, b1, ab⟩ := peq_ok h.1 u6 (x - 3) (by rw [List.length_drop, penv_len]; omega)
        rw [List.getD_eq_getElem?_getD, List.getElem?_drop, show 3 + (x - 3) = x by omega, ← List.getD_eq_getElem?_getD] at a1 b1
        rw [← (hpn x b b1).1, ← (hpe x a a1).1, ab]
      have hse : se (lget (peM M' pd.2.2.2.2.1 p)) e = se (lget (peM M pd.2.2.2.2.1 p')) e := by
        have hc3 := List.all_eq_true.mp (List.all_eq_true.mp s2 cl c1) e he
        refine se_on (P := fun x => Nat.ble 3 x && Nat.blt x (3 + pd.2.2.2.2.1.length)) (fun x hx => ?_) hc3
        rw [Bool.and_eq_true] at hx
        exact hsy x (Nat.le_of_ble_eq_true hx.1) (sbltt hx.2)
      rw [hse]
      exact c2 e he
    · cases t5
  · cases s3
theorem pgood_ok (h : sR Qs ρ A ls st M) (wf : swF A.1.1.length f) {k : Nat} {ve : sE} {ps ex : List sE} (hm : pMeet ρ M M' f k0 i0 v pd p k ve A.1.1.length) (hps : ps.map (se ρ) = p.take ps.length ∧ ∀ e ∈ ps, swE A.1.1.length e) (hun : ∀ p', pDom pd p' → (pMeet ρ M M' f k0 i0 v pd p' k ve A.1.1.length → ps.map (se ρ) = p'.take ps.length) ∧ (pMeet ρ M M' f k0 i0 v pd p' k ve A.1.1.length ∨ lget (peM M' pd.2.2.2.2.1 p') = lget (peM M pd.2.2.2.2.1 p'))) (hQ : pQ pd (ex.map (se ρ)) M) (hs : pgood A f pd k ve ps ex = true) : pHolds M' pd p := by
  unfold pgood at hs
  rw [Bool.and_eq_true, Bool.or_eq_true] at hs
  have hl := Nat.eq_of_beq_eq_true hs.1
  rcases hs.2 with h1 | h1
  · obtain ⟨g1, -⟩ := pnew_ok (ps := some ps) h wf hm (fun q hq => by cases hq; exact hps)
    exact okc_ok h.1 g1 h1
  · exact pelse_ok h wf hm hps hun hQ h1
theorem pgrow_ok (h : sR Qs ρ A ls st M) {k : Nat} {ve : sE} {ps : List sE} (hm : pMeet ρ M M' f k0 i0 v pd p k ve A.1.1.length) (hps : ps.map (se ρ) = p.take ps.length ∧ ∀ e ∈ ps, swE A.1.1.length e) (hh : pHolds M pd p) (hs : pgrow A pd k ps ve = true) : pHolds M' pd p := by
  unfold pgrow at hs
  simp only [Bool.and_eq_true] at hs
  obtain ⟨s1, s2, s3⟩ := hs
  have s1 := Nat.eq_of_beq_eq_true s1
  subst s1
  obtain ⟨hS, hp, hk, ⟨ck, hck, hsm, hhl⟩, hun, hve, wve⟩ := id hm
  obtain ⟨o, i, l, hpp, -⟩ := id hp
  split at s3
  · rename_i e0
    split at s3
    · rename_i t ht
      rw [Bool.and_eq_true] at s3
      obtain ⟨s3, s4⟩ := s3
      have hpe : pOK ρ A.1.1.length (penv A pd [e0] none) (peM M pd.2.2.2.2.1 p) := by
        have h1 := hps.1
        rw [hpp] at h1 ⊢
        exact penv_ok h h1 hps.2 (fun q hq => by cases hq)
      have ht := hpe 3 t ht
      have e1 := sSm_ok h.1.1 s3
      rw [se_add, se_C] at e1
      have hpl : p.length = 3 := by rw [hpp]; rfl
      have at1 := peM_at M' pd.2.2.2.2.1 p pd.1 pd.2.2.2.2.1 (by rw [hpl]; exact hk)
      have at0 := peM_at M pd.2.2.2.2.1 p pd.1 pd.2.2.2.2.1 (by rw [hpl]; exact hk)
      rw [hpl] at at0 at1
      have pre : ∀ x, x < 3 → lget (peM M' pd.2.2.2.2.1 p) x = lget (peM M pd.2.2.2.2.1 p) x := fun x hx => by
        obtain ⟨r, hr⟩ := peM_pre M pd.2.2.2.2.1 p
        obtain ⟨r', hr'⟩ := peM_pre M' pd.2.2.2.2.1 p
        rw [hr, hr', lget_pre (by omega), lget_pre (by omega)]
      have pi : lget (peM M pd.2.2.2.2.1 p) 1 = i := by
        obtain ⟨r, hr⟩ := peM_pre M pd.2.2.2.2.1 p
        rw [hr, lget_pre (by omega), hpp]
        rfl
      -- the cell itself
      have hnew : lget (peM M' pd.2.2.2.2.1 p) 3 = lget (peM M pd.2.2.2.2.1 p) 3 + 1 := by
        obtain ⟨b1, b2, b3, b4, -⟩ := at1 0 ck hck
        obtain ⟨s1', s2', s3', s4', s5', s6', s7', s8'⟩ := hS
        obtain ⟨g1, g2, g3⟩ := psame_ok hsm
        rw [show (3 : Nat) = 3 + 0 from rfl, b1]
        unfold pvM
        rw [se_agr (n := 3) (fun x hx => pre x hx) b2, se_agr (n := 3) (fun x hx => pre x hx) b3, hhl.1, g1, g2, g3]
        have hv : vnum v = lget (peM M pd.2.2.2.2.1 p) (3 + 0) + 1 := by rw [hve, e1, ht.1]
        rcases s1' with q | q
        · rw [← hv, ← cvM_hit s6' (Or.inl q) s5' s7', q]
          exact cvM_fld _ _ _ _ _ _
        · rw [hhl.2 (g1.trans q), ← hv]
          exact cvM_hit s6' (Or.inr q) s5' s7'
      cases hq : ((pd.2.2.2.2.1.drop 1).any fun c => puses c [3]) with
      | true => rw [hq] at s4; cases s4
      | false =>
        rw [hq, cond_false] at s4
        -- all others are as they were
        have hoth : ∀ m, ∀ x, x < 3 + m → x ≠ 3 → lget (peM M' pd.2.2.2.2.1 p) x = lget (peM M pd.2.2.2.2.1 p) x := by
          intro m
          induction m with
          | zero => intro x hx _; exact pre x hx
          | succ m ih =>
            intro x hx hx3
            rcases Nat.lt_or_ge x (3 + m) with w | w
            · exact ih x w hx3
            · have hxm : x = 3 + m := by omega
              subst hxm
              cases hc : pd.2.2.2.2.1[m]? with
              | none =>
                have hl := List.getElem?_eq_none_iff.mp hc
                have e : ∀ N : zM, lget (peM N pd.2.2.2.2.1 p) (3 + m) = 0 := fun N => by
                  unfold lget
                  rw [List.getD_eq_getElem?_getD, List.getElem?_eq_none (by rw [peM_len, hpl]; omega)]
                  rfl
                rw [e, e]
              | some c =>
                obtain ⟨a1, a2, a3, a4, -⟩ := at0 m c hc
                obtain ⟨b1, -, -, -, -⟩ := at1 m c hc
                have hu : puses c [3] = false := by
                  have hmem : c ∈ pd.2.2.2.2.1.drop 1 := List.mem_iff_getElem?.mpr ⟨m - 1, by rw [List.getElem?_drop, show 1 + (m - 1) = m by omega]; exact hc⟩
                  cases hu : puses c [3] with
                  | false => rfl
                  | true =>
                    have h9 : ((pd.2.2.2.2.1.drop 1).any fun c => puses c [3]) = true := List.any_eq_true.mpr ⟨c, hmem, hu⟩
                    rw [hq] at h9
                    cases h9
                unfold puses at hu
                rw [Bool.or_eq_false_iff] at hu
                have hcl : ∀ x, x < 3 + m → (([3] : List Nat).any fun y => Nat.beq y x) = false → lget (peM M' pd.2.2.2.2.1 p) x = lget (peM M pd.2.2.2.2.1 p) x := fun x hx hb => ih x hx fun w => by
                  rw [w] at hb
                  cases hb
                have hns : psame c f = false := by
                  cases hz : psame c f with
                  | false => rfl
                  | true => have := hun m c hc hz; omega
                obtain ⟨s1', s2', s3', s4', s5', s6', s7', s8'⟩ := hS
                obtain ⟨o', i', l', hpp', ho', -⟩ := id hp
                rw [b1, a1]
                unfold pvM
                rw [se_clean hcl a2 hu.1, se_clean hcl a3 hu.2]
                have hv' := pokc_ok s8' hpp' ho' hk hc
                rw [se_clean hcl a2 hu.1] at hv'
                exact cvM_same s6' s1' s5' a4 hv' s2' fun w => psame_no hns ⟨w.1, w.2.1, w.2.2.1⟩
        have hsv : ∀ e : sE, (e.2.all fun t => !(Nat.beq t.1 3)) = true → se (lget (peM M' pd.2.2.2.2.1 p)) e = se (lget (peM M pd.2.2.2.2.1 p)) e := by
          intro e he
          exact se_on (P := fun x => !(Nat.beq x 3)) (fun x hx => hoth (x + 1) x (by omega) (sbeqf hx)) he
        split at s4
        · rename_i cls hrev
          rw [Bool.and_eq_true] at s4
          have hcls : pd.2.2.2.2.2.1 = cls.reverse ++ [[((0 : Int), [((1 : Nat), (1 : Int)), (3, -1)])]] := by
            have := congrArg List.reverse hrev
            rw [List.reverse_reverse, List.reverse_cons] at this
            exact this
          have keep : (∃ cl ∈ cls, ∀ e ∈ cl, 0 ≤ se (lget (peM M pd.2.2.2.2.1 p)) e) → pHolds M' pd p := by
            rintro ⟨cl, c1, c2⟩
            refine ⟨cl, by rw [hcls]; exact List.mem_append_left _ (List.mem_reverse.mpr c1), fun e he => ?_⟩
            rw [hsv e (List.all_eq_true.mp (List.all_eq_true.mp s4.1 cl c1) e he)]
            exact c2 e he
          by_cases hit : i = lget (peM M pd.2.2.2.2.1 p) 3
          · have hpt : pOK ρ A.1.1.length (penv A pd [e0, t] none) (peM M pd.2.2.2.2.1 p) := by
              have h1 : [e0, t].map (se ρ) = [o, i, l].take 2 := by
                have h0 := hps.1
                rw [hpp] at h0
                have h0 := (List.cons.inj h0).1
                show [se ρ e0, se ρ t] = [o, i]
                rw [h0, ht.1, ← hit]
              rw [hpp]
              refine penv_ok h h1 (List.forall_mem_cons.mpr ⟨hps.2 _ List.mem_cons_self, fun e he => by rw [List.mem_singleton.mp he]; exact ht.2⟩) (fun q hq => by cases hq)
            exact keep (okc_ok h.1 hpt s4.2)
          · obtain ⟨cl, c1, c2⟩ := hh
            rw [hcls] at c1
            rcases List.mem_append.mp c1 with c1 | c1
            · exact keep ⟨cl, List.mem_reverse.mp c1, c2⟩
            · have c1 := List.mem_singleton.mp c1
              subst c1
              refine ⟨_, by rw [hcls]; exact List.mem_append_right _ (List.mem_singleton.mpr rfl), fun e he => ?_⟩
              have he := List.mem_singleton.mp he
              subst he
              have h0 : (0 : Int) ≤ 0 + (1 * lget (peM M pd.2.2.2.2.1 p) 1 + (-1 * lget (peM M pd.2.2.2.2.1 p) 3 + 0)) := c2 _ (List.mem_singleton.mpr rfl)
              show (0 : Int) ≤ 0 + (1 * lget (peM M' pd.2.2.2.2.1 p) 1 + (-1 * lget (peM M' pd.2.2.2.2.1 p) 3 + 0))
              rw [pre 1 (by decide), hnew]
              rw [pi] at h0 ⊢
              omega
        · cases s4
    · cases s3
  · cases s3
end HS
