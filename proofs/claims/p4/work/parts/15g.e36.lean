/-! PREDICATES AS TABLES, 7: the rule of a store is right -/
section HS1
variable {Qs : Nat → List Int → zM → Prop} {ρ : Nat → Int} {ls : zL} {st : List Value} {M M' : zM} {A A1 : sA} {f : sF} {k0 i0 : Nat} {v : Value} {pd : pD} {p : List Int} {pdt : Nat → Option pD}
/-- what numbers of predicates mean by the table -/
def pTab (Qs : Nat → List Int → zM → Prop) (pdt : Nat → Option pD) : Prop := ∀ n pd, pdt n = some pd → pok pd = true ∧ ∀ exv M, (Qs n exv M ↔ pQ pd exv M)
theorem psol_wf (h : sR Qs ρ A ls st M) {c : pC} {lo li : sE} (w0 : swE A.1.1.length lo) (w1 : swE A.1.1.length li) {ps : List sE} (hs : psol A c lo li = some ps) : ∀ e ∈ ps, swE A.1.1.length e := by
  unfold psol at hs
  split at hs
  · cases hs
    exact fun e he => by rw [List.mem_singleton.mp he]; exact swE_sub w0 (swE_C _)
  · cases hs
    exact fun e he => by rw [List.mem_singleton.mp he]; exact swE_sub w0 (swE_C _)
  · cases hs
    exact List.forall_mem_cons.mpr ⟨swE_sub w0 (swE_C _), fun e he => by rw [List.mem_singleton.mp he]; exact swE_sub w1 (swE_C _)⟩
  · split at hs
    · rename_i g hg
      cases hs
      have hgm := List.mem_of_find?_eq_some hg
      exact fun e he => by rw [List.mem_singleton.mp he]; exact (h.2.2.2.2.2.2.2.2.2.1 g hgm).1
    · cases hs
  · cases hs
/-- a store that surely misses a cell -/
theorem phit_2 (h : sR Qs ρ A ls st M) {c : pC} {lo li : sE} (h0 : (k0 : Int) = se ρ lo) (h1 : (i0 : Int) = se ρ li) {env : pE} {E : List Int} (he : pOK ρ A.1.1.length env E) (hs : Nat.beq (phit A.1 c env lo li) 2 = true) : ¬ phl c E k0 i0 := by
  rintro ⟨g1, g2⟩
  have hs := Nat.eq_of_beq_eq_true hs
  unfold phit at hs
  cases ht : Nat.ble c.1 1 with
  | true => rw [ht, cond_true] at hs; cases hs
  | false =>
    rw [ht, cond_false] at hs
    split at hs
    · rename_i o ho
      split at hs
      · rename_i i hi
        obtain ⟨o1, -⟩ := csub_ok he ho
        obtain ⟨i1, -⟩ := csub_ok he hi
        cases hd : (sDf A.1 o lo || (Nat.beq c.2.1 1 && sDf A.1 i li)) with
        | true =>
          rw [Bool.or_eq_true, Bool.and_eq_true] at hd
          rcases hd with hd | ⟨hd1, hd⟩
          · exact sDf_ok h.1 hd (by rw [o1, g1, h0])
          · exact sDf_ok h.1 hd (by rw [i1, g2 (Nat.eq_of_beq_eq_true hd1), h1])
        | false =>
          rw [hd, cond_false] at hs
          cases hq : (sSm A.1.1 o lo && sSm A.1.1 i li) with
          | true => rw [hq, cond_true] at hs; cases hs
          | false => rw [hq, cond_false] at hs; cases hs
      · cases hs
    · cases hs
/-- a store that surely meets the cell of its parameters -/
theorem phit_1 (h : sR Qs ρ A ls st M) {c : pC} {lo li : sE} (h0 : (k0 : Int) = se ρ lo) (h1 : (i0 : Int) = se ρ li) (hp : pDom pd p) {ps : List sE} (hsol : psol A c lo li = some ps) (hps : ps.map (se ρ) = p.take ps.length) (he : pOK ρ A.1.1.length (penv A pd ps none) (peM M pd.2.2.2.2.1 p)) (hs : Nat.beq (phit A.1 c (penv A pd ps none) lo li) 1 = true) : phl c (peM M pd.2.2.2.2.1 p) k0 i0 := by
  obtain ⟨o, i, l, hpp, -⟩ := id hp
  have hpl : p.length = 3 := by rw [hpp]; rfl
  have pre : ∀ x, x < 3 → lget (peM M pd.2.2.2.2.1 p) x = lget p x := fun x hx => by
    obtain ⟨r, hr⟩ := peM_pre M pd.2.2.2.2.1 p
    rw [hr, lget_pre (by omega)]
  have e0 : lget (peM M pd.2.2.2.2.1 p) 0 = o := by rw [pre 0 (by decide), hpp]; rfl
  have e1 : lget (peM M pd.2.2.2.2.1 p) 1 = i := by rw [pre 1 (by decide), hpp]; rfl
  have hs := Nat.eq_of_beq_eq_true hs
  unfold phit at hs
  cases ht : Nat.ble c.1 1 with
  | true =>
    have ht := Nat.le_of_ble_eq_true ht
    unfold psol at hsol
    split at hsol
    · rename_i x h1' hd heq
      cases hsol
      rw [hpp] at hps
      have hps := (List.cons.inj hps).1
      rw [se_sub, se_C] at hps
      refine ⟨?_, fun q => ?_⟩
      · rw [heq]
        show x + (1 * lget (peM M pd.2.2.2.2.1 p) 0 + 0) = (k0 : Int)
        rw [e0]
        omega
      · rw [hd] at q
        cases q
    · rename_i h1' heq
      omega
    · rename_i x y h1' hd heq heq2
      cases hsol
      rw [hpp] at hps
      have q1 := (List.cons.inj hps).1
      have q2 := (List.cons.inj (List.cons.inj hps).2).1
      rw [se_sub, se_C] at q1 q2
      refine ⟨?_, fun _ => ?_⟩
      · rw [heq]
        show x + (1 * lget (peM M pd.2.2.2.2.1 p) 0 + 0) = (k0 : Int)
        rw [e0]
        omega
      · rw [heq2]
        show y + (1 * lget (peM M pd.2.2.2.2.1 p) 1 + 0) = (i0 : Int)
        rw [e1]
        omega
    · rename_i h1' hd heq
      omega
    · cases hsol
  | false =>
    rw [ht, cond_false] at hs
    split at hs
    · rename_i o' ho
      split at hs
      · rename_i i' hi
        obtain ⟨o1, -⟩ := csub_ok he ho
        obtain ⟨i1, -⟩ := csub_ok he hi
        cases hd : (sDf A.1 o' lo || (Nat.beq c.2.1 1 && sDf A.1 i' li)) with
        | true => rw [hd, cond_true] at hs; cases hs
        | false =>
          rw [hd, cond_false] at hs
          cases hq : (sSm A.1.1 o' lo && sSm A.1.1 i' li) with
          | true =>
            rw [Bool.and_eq_true] at hq
            exact ⟨by rw [← o1, sSm_ok h.1.1 hq.1, h0], fun _ => by rw [← i1, sSm_ok h.1.1 hq.2, h1]⟩
          | false => rw [hq, cond_false] at hs; cases hs
      · cases hs
    · cases hs
theorem peqA_ok (h : sR Qs ρ A ls st M) {c : pC} {lo li : sE} (h0 : (k0 : Int) = se ρ lo) (h1 : (i0 : Int) = se ρ li) (w0 : swE A.1.1.length lo) (w1 : swE A.1.1.length li) {env : pE} {E : List Int} (he : pOK ρ A.1.1.length env E) (hh : phl c E k0 i0) : ∃ A1, peqA A c env lo li = some A1 ∧ sR Qs ρ A1 ls st M ∧ A1.1.1.length = A.1.1.length := by
  unfold peqA
  split
  · rename_i o ho
    split
    · rename_i i hi
      obtain ⟨o1, o2⟩ := csub_ok he ho
      obtain ⟨i1, i2⟩ := csub_ok he hi
      obtain ⟨K, D, F, Q, L, T⟩ := A
      have hl : ∀ e ∈ ([ssub o lo, ssub lo o] ++ cond (Nat.beq c.2.1 1) [ssub i li, ssub li i] []), swE K.1.length e ∧ 0 ≤ se ρ e := by
        intro e hm
        rcases List.mem_append.mp hm with hm | hm
        · rcases List.mem_cons.mp hm with rfl | hm
          · exact ⟨swE_sub o2 w0, by rw [se_sub, o1, hh.1, h0]; omega⟩
          · rw [List.mem_singleton.mp hm]
            exact ⟨swE_sub w0 o2, by rw [se_sub, o1, hh.1, h0]; omega⟩
        · cases hd : Nat.beq c.2.1 1 with
          | false => rw [hd, cond_false] at hm; cases hm
          | true =>
            rw [hd, cond_true] at hm
            have hd := Nat.eq_of_beq_eq_true hd
            rcases List.mem_cons.mp hm with rfl | hm
            · exact ⟨swE_sub i2 w1, by rw [se_sub, i1, hh.2 hd, h1]; omega⟩
            · rw [List.mem_singleton.mp hm]
              exact ⟨swE_sub w1 i2, by rw [se_sub, i1, hh.2 hd, h1]; omega⟩
      obtain ⟨K', k1, k2, k3⟩ := sR_asm h (fun e hm => (hl e hm).1) (fun e hm => (hl e hm).2)
      rw [k1]
      exact ⟨_, rfl, k3, k2⟩
    · exact ⟨A, rfl, h, rfl⟩
  · exact ⟨A, rfl, h, rfl⟩
theorem hS1_ok (HT : pTab Qs pdt) (h : sR Qs ρ A ls st M) (hS : pSt ρ M M' f k0 i0 v) (hval : sVal ρ v f.2.2.2.2.2) (wf : swF A.1.1.length f) {q : sQ} (hq : q ∈ A.2.2.2.1) : ∀ r ∈ hS1 pdt A f q, Qs r.1 (r.2.map (se ρ)) M' ∧ ∀ e ∈ r.2, swE A.1.1.length e := by
  have hq0 := h.2.2.2.1 q hq
  have wq := h.2.2.2.2.2.2.2.2.2.2.1 q hq
  intro r hr
  unfold hS1 at hr
  split at hr
  · cases hr
  · rename_i pd hpd
    obtain ⟨hk, hQ⟩ := HT _ _ hpd
    have hq0 := (hQ _ _).mp hq0
    split at hr
    · rename_i hidx
      rw [List.mem_singleton.mp hr]
      refine ⟨(hQ _ _).mpr fun p hp hx => ?_, wq⟩
      refine pHolds_eq (E := pno_ok hS hp hk fun m c h1 h2 _ => ?_) (hq0 p hp hx)
      have : m ∈ pidx f pd.2.2.2.2.1 0 := pidx_ok.mpr ⟨c, Nat.zero_le _, h1, h2⟩
      rw [hidx] at this
      cases this
    · rename_i k hidx
      split at hr
      · rename_i c hc
        split at hr
        · rename_i ve hve
          have hv := vnum_ok hval hve
          have wve : swE A.1.1.length ve := (pfv_ok hve).2 ▸ wf.2.2
          have h0 := hS.2.2.1
          have h1 := hS.2.2.2.1
          have cs : ∀ {p : List Int}, pDom pd p → pMeet ρ M M' f k0 i0 v pd p k ve A.1.1.length ∨ lget (peM M' pd.2.2.2.2.1 p) = lget (peM M pd.2.2.2.2.1 p) := fun hp => pcase hS hp hk hidx hv wve
          have mt : ∀ {p : List Int}, pMeet ρ M M' f k0 i0 v pd p k ve A.1.1.length → phl c (peM M pd.2.2.2.2.1 p) k0 i0 := fun hm => by
            obtain ⟨-, -, -, ⟨ck, g1, g2, g3⟩, -⟩ := hm
            rw [hc] at g1
            cases g1
            exact g3
          -- the predicate stays, where each that is met holds
          have keep : (∀ p, pMeet ρ M M' f k0 i0 v pd p k ve A.1.1.length → ¬ pexc (q.2.map (se ρ)) p → pHolds M pd p → pHolds M' pd p) → Qs q.1 (q.2.map (se ρ)) M' ∧ ∀ e ∈ q.2, swE A.1.1.length e := fun hk' => by
            refine ⟨(hQ _ _).mpr fun p hp hx => ?_, wq⟩
            rcases cs hp with hm | hE
            · exact hk' p hm hx (hq0 p hp hx)
            · exact pHolds_eq (E := hE) (hq0 p hp hx)
          split at hr
          · cases hst : pstep A pd none k ve f with
            | false => rw [hst, cond_false] at hr; cases hr
            | true =>
              rw [hst, cond_true] at hr
              rw [List.mem_singleton.mp hr]
              exact keep fun p hm _ hh => pstep_ok h wf hm (fun q hq => by cases hq) hst hh
          · rename_i ps hsol
            have wps := psol_wf h wf.1 wf.2.1 hsol
            have hps : ∀ {p : List Int}, pMeet ρ M M' f k0 i0 v pd p k ve A.1.1.length → ps.map (se ρ) = p.take ps.length ∧ ∀ e ∈ ps, swE A.1.1.length e := fun hm => psol_ok h hm.2.1 hk hc (mt hm) h0 h1 wf.1 wf.2.1 hsol
            have henv : ∀ {p : List Int}, pDom pd p → ps.map (se ρ) = p.take ps.length → pOK ρ A.1.1.length (penv A pd ps none) (peM M pd.2.2.2.2.1 p) := fun hp hm => by
              obtain ⟨o, i, l, hpp, -⟩ := hp
              rw [hpp] at hm ⊢
              exact penv_ok h hm wps (fun q hq => by cases hq)
            generalize hph : phit A.1 c (penv A pd ps none) f.2.2.2.1 f.2.2.2.2.1 = ph at hr
            cases h2 : Nat.beq ph 2 with
            | true =>
              rw [h2, cond_true] at hr
              rw [List.mem_singleton.mp hr]
              exact keep fun p hm _ _ => absurd (mt hm) (phit_2 h h0 h1 (henv hm.2.1 (hps hm).1) (by rw [hph]; exact h2))
            | false =>
              rw [h2, cond_false] at hr
              -- the state in which the store meets the cell
              have met : ∀ {p : List Int}, pMeet ρ M M' f k0 i0 v pd p k ve A.1.1.length → ∃ A1, cond (Nat.beq ph 1) (some A) (peqA A c (penv A pd ps none) f.2.2.2.1 f.2.2.2.2.1) = some A1 ∧ sR Qs ρ A1 ls st M ∧ A1.1.1.length = A.1.1.length := fun hm => by
                cases Nat.beq ph 1 with
                | true => exact ⟨A, rfl, h, rfl⟩
                | false => exact peqA_ok h h0 h1 wf.1 wf.2.1 (henv hm.2.1 (hps hm).1) (mt hm)
              split at hr
              · rename_i hA1
                rw [List.mem_singleton.mp hr]
                refine keep fun p hm _ _ => ?_
                obtain ⟨A1, g1, -⟩ := met hm
                rw [hA1] at g1
                cases g1
              · rename_i A1 hA1
                have met : ∀ {p : List Int}, pMeet ρ M M' f k0 i0 v pd p k ve A.1.1.length → sR Qs ρ A1 ls st M ∧ A1.1.1.length = A.1.1.length := fun hm => by
                  obtain ⟨A2, g1, g2⟩ := met hm
                  rw [hA1] at g1
                  cases g1
                  exact g2
                -- what holds behind the store, of parameters that are met
                have good : ∀ {ex : List sE}, pQ pd (ex.map (se ρ)) M → pgood A1 f pd k ve ps ex = true → ∀ {p : List Int}, pMeet ρ M M' f k0 i0 v pd p k ve A.1.1.length → pHolds M' pd p := fun hex hg p hm => by
                  obtain ⟨g1, g2⟩ := met hm
                  refine pgood_ok g1 (by rw [g2]; exact wf) (by rw [g2]; exact hm) (by rw [g2]; exact hps hm) (fun p' hp' => ?_) hex hg
                  rw [g2]
                  exact ⟨fun hm' => (hps hm').1, cs hp'⟩
                have step : pstep A1 pd (some ps) k ve f = true → ∀ {p : List Int}, pMeet ρ M M' f k0 i0 v pd p k ve A.1.1.length → pHolds M pd p → pHolds M' pd p := fun hg p hm hh => by
                  obtain ⟨g1, g2⟩ := met hm
                  exact pstep_ok g1 (by rw [g2]; exact wf) (by rw [g2]; exact hm) (fun q hq => by cases hq; rw [g2]; exact hps hm) hg hh
                have stay : ∀ {ex : List sE}, pQ pd (ex.map (se ρ)) M → (pgood A1 f pd k ve ps ex || (pstep A1 pd (some ps) k ve f || pgrow A pd k ps ve)) = true → ∀ {p : List Int}, pMeet ρ M M' f k0 i0 v pd p k ve A.1.1.length → pHolds M pd p → pHolds M' pd p := fun hex hg p hm hh => by
                  rw [Bool.or_eq_true, Bool.or_eq_true] at hg
                  rcases hg with hg | hg | hg
                  · exact good hex hg hm
                  · exact step hg hm hh
                  · exact pgrow_ok h hm (hps hm) hh hg
                unfold hS3 at hr
                split at hr
                · rename_i hex
                  rw [hex] at hq0 keep
                  cases hst : (pgood A1 f pd k ve ps [] || (pstep A1 pd (some ps) k ve f || pgrow A pd k ps ve)) with
                  | true =>
                    rw [hst, cond_true] at hr
                    rw [List.mem_singleton.mp hr, hex]
                    exact keep fun p hm _ hh => stay hq0 hst hm hh
                  | false =>
                    rw [hst, cond_false] at hr
                    rw [List.mem_singleton.mp hr]
                    refine ⟨(hQ _ _).mpr fun p hp hx => ?_, wps⟩
                    have hh := hq0 p hp (fun w => w.1 rfl)
                    rcases cs hp with hm | hE
                    · refine absurd ⟨?_, ?_⟩ hx
                      · intro w
                        have w : ps.map (se ρ) = [] := w
                        have w := List.map_eq_nil_iff.mp w
                        rw [w] at hsol
                        unfold psol at hsol
                        split at hsol
                        · cases hsol
                        · cases hsol
                        · cases hsol
                        · split at hsol
                          · cases hsol
                          · cases hsol
                        · cases hsol
                      · show ps.map (se ρ) = p.take (ps.map (se ρ)).length
                        rw [List.length_map]
                        exact (hps hm).1
                    · exact pHolds_eq (E := hE) hh
                · rename_i x ex hex
                  rw [hex] at hq0 keep wq
                  cases hte : teqL A.1 (x :: ex) (ps.take (ex.length + 1)) with
                  | true =>
                    rw [hte, cond_true] at hr
                    have te := teqL_ok h.1 hte
                    have exc : ∀ {p : List Int}, pMeet ρ M M' f k0 i0 v pd p k ve A.1.1.length → pexc ((x :: ex).map (se ρ)) p := fun {p} hm => by
                      refine ⟨fun w => (by cases w), ?_⟩
                      have h1 := (hps hm).1
                      have hlen : ex.length + 1 ≤ ps.length := by
                        have := congrArg List.length te
                        rw [List.length_map, List.length_map, List.length_take, List.length_cons] at this
                        omega
                      rw [te, List.map_take, h1, List.take_take, List.length_take]
                      congr 1
                      have hpl : p.length = 3 := by
                        obtain ⟨o, i, l, hpp, -⟩ := hm.2.1
                        rw [hpp]
                        rfl
                      have : ps.length ≤ 3 := by
                        have := congrArg List.length h1
                        rw [List.length_map, List.length_take] at this
                        omega
                      omega
                    cases hcl : (Nat.beq ph 1 && (Nat.beq (ex.length + 1) ps.length && (Nat.beq ps.length pd.2.2.2.1 && pgood A1 f pd k ve ps (x :: ex)))) with
                    | false =>
                      rw [hcl, cond_false] at hr
                      rw [List.mem_singleton.mp hr, hex]
                      exact keep fun p hm hx _ => absurd (exc hm) hx
                    | true =>
                      rw [hcl, cond_true] at hr
                      rw [List.mem_singleton.mp hr]
                      simp only [Bool.and_eq_true] at hcl
                      obtain ⟨b1, b2, b3, b4⟩ := hcl
                      have b2 := Nat.eq_of_beq_eq_true b2
                      refine ⟨(hQ _ _).mpr fun p hp _ => ?_, fun e he => by cases he⟩
                      rcases cs hp with hm | hE
                      · exact good hq0 b4 hm
                      · by_cases hx : pexc ((x :: ex).map (se ρ)) p
                        case neg => exact pHolds_eq (E := hE) (hq0 p hp hx)
                        obtain ⟨-, n2⟩ := hx
                        -- these parameters are met: as the store's own
                        have hpm : ps.map (se ρ) = p.take ps.length := by
                          rw [te, b2, List.take_length, List.length_map] at n2
                          exact n2
                        have hl := phit_1 h h0 h1 hp hsol hpm (henv hp hpm) (by rw [hph]; exact b1)
                        have hmem : k ∈ pidx f pd.2.2.2.2.1 0 := by rw [hidx]; exact List.mem_singleton.mpr rfl
                        obtain ⟨c', -, hc', hsm⟩ := pidx_ok.mp hmem
                        have hun : ∀ (m : Nat) (c : pC), pd.2.2.2.2.1[m]? = some c → psame c f = true → m = k := fun m c h1 h2 => by
                          have : m ∈ pidx f pd.2.2.2.2.1 0 := pidx_ok.mpr ⟨c, Nat.zero_le _, h1, h2⟩
                          rw [hidx] at this
                          exact List.mem_singleton.mp this
                        have hcc : pd.2.2.2.2.1[k]? = some c' := hc'
                        have : c' = c := by
                          rw [hc] at hcc
                          cases hcc
                          rfl
                        rw [this] at hsm
                        have hm : pMeet ρ M M' f k0 i0 v pd p k ve A.1.1.length := ⟨hS, hp, hk, ⟨c, hc, hsm, hl⟩, hun, hv, wve⟩
                        exact good hq0 b4 hm
                  | false =>
                    rw [hte, cond_false] at hr
                    cases hst : (pgood A1 f pd k ve ps (x :: ex) || (pstep A1 pd (some ps) k ve f || pgrow A pd k ps ve)) with
                    | true =>
                      rw [hst, cond_true] at hr
                      rw [List.mem_singleton.mp hr, hex]
                      exact keep fun p hm _ hh => stay hq0 hst hm hh
                    | false => rw [hst, cond_false] at hr; cases hr
        · cases hr
      · cases hr
    · cases hr
end HS1
