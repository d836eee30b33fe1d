/-! PREDICATES AS TABLES, 8: rows that are alike; calls, copies -/
/-- where cells keep their values, parameters keep theirs -/
theorem peM_keep {M M' : zM} {pd : pD} {p : List Int} (hp : pDom pd p) (hk : pok pd = true) (hM : sMem M) (hc : ∀ (m : Nat) (c : pC), pd.2.2.2.2.1[m]? = some c → pcv c.2.1 c.2.2.1 (se (lget (peM M pd.2.2.2.2.1 p)) c.2.2.2.2.1) → (c.2.1 = 0 ∨ (c.2.1 = 1 ∧ c.2.2.2.1 = 0)) → cvM M' c.2.1 c.2.2.1 c.2.2.2.1 (se (lget (peM M pd.2.2.2.2.1 p)) c.2.2.2.2.1) (se (lget (peM M pd.2.2.2.2.1 p)) c.2.2.2.2.2) = cvM M c.2.1 c.2.2.1 c.2.2.2.1 (se (lget (peM M pd.2.2.2.2.1 p)) c.2.2.2.2.1) (se (lget (peM M pd.2.2.2.2.1 p)) c.2.2.2.2.2)) : lget (peM M' pd.2.2.2.2.1 p) = lget (peM M pd.2.2.2.2.1 p) := by
  obtain ⟨o, i, l, hpp, ho, -⟩ := id hp
  have hpl : p.length = 3 := by rw [hpp]; rfl
  have at0 := peM_at M pd.2.2.2.2.1 p pd.1 pd.2.2.2.2.1 (by rw [hpl]; exact hk)
  have at1 := peM_at M' pd.2.2.2.2.1 p pd.1 pd.2.2.2.2.1 (by rw [hpl]; exact hk)
  rw [hpl] at at0 at1
  have pre : ∀ (N : zM) x, x < 3 → lget (peM N pd.2.2.2.2.1 p) x = lget p x := fun N x hx => by
    obtain ⟨r, hr⟩ := peM_pre N pd.2.2.2.2.1 p
    rw [hr, lget_pre (by omega)]
  have main : ∀ m, ∀ x, x < 3 + m → lget (peM M' pd.2.2.2.2.1 p) x = lget (peM M pd.2.2.2.2.1 p) x := by
    intro m
    induction m with
    | zero => intro x hx; rw [pre M' x hx, pre M x hx]
    | succ m ih =>
      intro x hx
      rcases Nat.lt_or_ge x (3 + m) with q | q
      · exact ih x q
      · have hx : x = 3 + m := by omega
        subst hx
        cases hcm : pd.2.2.2.2.1[m]? with
        | none =>
          have hl := List.getElem?_eq_none_iff.mp hcm
          have e : ∀ N : zM, lget (peM N pd.2.2.2.2.1 p) (3 + m) = 0 := fun N => by
            unfold lget
            rw [List.getD_eq_getElem?_getD, List.getElem?_eq_none (by rw [peM_len, hpl]; omega)]
            rfl
          rw [e, e]
        | some c =>
          obtain ⟨a1, a2, a3, a4, a5⟩ := at0 m c hcm
          obtain ⟨b1, -, -, -, -⟩ := at1 m c hcm
          have e1 : se (lget (peM M' pd.2.2.2.2.1 p)) c.2.2.2.2.1 = se (lget (peM M pd.2.2.2.2.1 p)) c.2.2.2.2.1 := se_agr (n := 3 + m) ih a2
          have e2 : se (lget (peM M' pd.2.2.2.2.1 p)) c.2.2.2.2.2 = se (lget (peM M pd.2.2.2.2.1 p)) c.2.2.2.2.2 := se_agr (n := 3 + m) ih a3
          rw [b1, a1]
          unfold pvM
          rw [e1, e2]
          exact hc m c hcm (pokc_ok hM hpp ho hk hcm) a4
  funext x
  exact main (x + 1) x (by omega)
/-- two rows that are alike -/
def pRows (n : Nat) (exv : List Int) (M : zM) : Prop := match exv with
  | [a, b] => ∃ ka kb : Nat, (ka : Int) = a ∧ (kb : Int) = b ∧ sSh (ka + soff (n - 200)) = some (1, n - 200, ka) ∧ sSh (kb + soff (n - 200)) = some (1, n - 200, kb) ∧ ∀ i, i < srln (n - 200) → sgr M (n - 200) ka i = sgr M (n - 200) kb i
  | _ => True
/-- what the numbers of predicates mean: by a table below 200, rows that are alike from there on -/
def pMean (Qs : Nat → List Int → zM → Prop) (pdt : Nat → Option pD) : Prop := pTab Qs pdt ∧ ∀ n exv M, 200 ≤ n → (Qs n exv M ↔ pRows n exv M)
def pfok (f : sF) : Bool := Nat.beq f.1 0 || (Nat.beq f.1 1 && (Nat.beq f.2.2.1 0 && Nat.beq f.2.2.2.2.2.1 0))
def hSx (pdt : Nat → Option pD) (A : sA) (f : sF) : List sQ := cond (pfok f) (A.2.2.2.1.flatMap fun q => cond (Nat.ble 200 q.1) (cond (Nat.beq f.1 1 && Nat.beq f.2.1 (q.1 - 200)) [] [q]) (hS1 pdt A f q)) []
def ptouch (pd : pD) (ms : List sMo) : Bool := ms.any fun m => pd.2.2.2.2.1.any fun c => Nat.beq m.1 c.2.1 && (Nat.beq m.2.1 c.2.2.1 && (Nat.beq m.1 1 || Nat.beq m.2.2.1 c.2.2.2.1))
def hMx (pdt : Nat → Option pD) (A : sA) (ms : List sMo) : List sQ := A.2.2.2.1.filter fun q => cond (Nat.ble 200 q.1) (!(ms.any fun m => Nat.beq m.1 1 && Nat.beq m.2.1 (q.1 - 200))) (match pdt q.1 with
  | some pd => !(ptouch pd ms)
  | none => false)
def hC1 (pdt : Nat → Option pD) (A : sA) (q : sQ) (r : Nat) (o : sE) : List sQ := cond (Nat.ble 200 q.1) (cond (Nat.beq r (q.1 - 200)) [] [q]) (match pdt q.1 with
  | some pd => (match pd.2.2.2.2.1.filter fun c => Nat.beq c.2.1 1 && Nat.beq c.2.2.1 r with
    | [] => [q]
    | [(_, _, _, _, (x, [(0, 1)]), _)] => cond (Nat.beq q.2.length 0 || teqL A.1 (q.2.take 1) [ssub o (sC x)]) [(q.1, [ssub o (sC x)])] []
    | _ => [])
  | none => [])
def hCx (pdt : Nat → Option pD) (A : sA) (y : sCy) : List sQ := (A.2.2.2.1.flatMap fun q => hC1 pdt A q y.1 y.2.1) ++ cond (Nat.beq y.1 y.2.2.2.2.1 && (sEq y.2.2.2.2.2.2 (sC 0) && (sEq y.2.2.1 (sC 0) && sEq y.2.2.2.1 (sC (srln y.1 : Int))))) [(200 + y.1, [y.2.1, y.2.2.2.2.2.1])] []
section HX
variable {Qs : Nat → List Int → zM → Prop} {pdt : Nat → Option pD}
theorem hSx_ok (HT : pMean Qs pdt) : sHS Qs (hSx pdt) := by
  intro ρ A ls st M M' f k i v h h0 h1 hp hu hM hv wf r hr
  unfold hSx at hr
  cases hf : pfok f with
  | false => rw [hf, cond_false] at hr; cases hr
  | true =>
    rw [hf, cond_true] at hr
    unfold pfok at hf
    simp only [Bool.or_eq_true, Bool.and_eq_true] at hf
    have hd : f.1 = 0 ∨ f.1 = 1 := hf.imp Nat.eq_of_beq_eq_true (fun q => Nat.eq_of_beq_eq_true q.1)
    have hj : f.1 = 1 → f.2.2.1 = 0 ∧ f.2.2.2.2.2.1 = 0 := fun q => by
      rcases hf with w | w
      · have := Nat.eq_of_beq_eq_true w
        rw [q] at this
        cases this
      · exact ⟨Nat.eq_of_beq_eq_true w.2.1, Nat.eq_of_beq_eq_true w.2.2⟩
    obtain ⟨q, hq, hr⟩ := List.mem_flatMap.mp hr
    cases h2 : Nat.ble 200 q.1 with
    | true =>
      rw [h2, cond_true] at hr
      have h2 := Nat.le_of_ble_eq_true h2
      cases hc : (Nat.beq f.1 1 && Nat.beq f.2.1 (q.1 - 200)) with
      | true => rw [hc, cond_true] at hr; cases hr
      | false =>
        rw [hc, cond_false] at hr
        rw [List.mem_singleton.mp hr]
        refine ⟨?_, h.2.2.2.2.2.2.2.2.2.2.1 q hq⟩
        have hq0 := (HT.2 _ _ _ h2).mp (h.2.2.2.1 q hq)
        refine (HT.2 _ _ _ h2).mpr ?_
        unfold pRows at hq0 ⊢
        split at hq0
        · obtain ⟨ka, kb, q1, q2, q3, q4, q5⟩ := hq0
          have same : ∀ {kk i' : Nat}, sSh (kk + soff (q.1 - 200)) = some (1, q.1 - 200, kk) → sgr M' (q.1 - 200) kk i' = sgr M (q.1 - 200) kk i' := fun hs => cvM_same1 hu hd hs fun w => by
            rw [← w.1, ← w.2.1, show Nat.beq 1 1 = true from rfl, show Nat.beq (q.1 - 200) (q.1 - 200) = true from Nat.beq_refl _] at hc
            cases hc
          exact ⟨ka, kb, q1, q2, q3, q4, fun i' hi' => by rw [same q3, same q4]; exact q5 i' hi'⟩
        · trivial
    | false =>
      rw [h2, cond_false] at hr
      exact hS1_ok HT.1 h ⟨hd, fun w => (hj w).1, h0, h1, hp, hu, fun w => (by
        have w2 := (hj w).2
        obtain ⟨d, c, j, o, ie, t, u, e⟩ := f
        dsimp only at w2
        subst w2
        obtain ⟨x, rfl, -⟩ := hv
        exact ⟨x, rfl⟩), hM⟩ hv wf hq r hr
theorem hMx_ok (HT : pMean Qs pdt) : sHM Qs (hMx pdt) := by
  intro ρ A ls st M M' ms h wm hf hM r hr
  obtain ⟨hq, hr⟩ := List.mem_filter.mp hr
  refine ⟨?_, h.2.2.2.2.2.2.2.2.2.2.1 r hq⟩
  have hq0 := h.2.2.2.1 r hq
  cases h2 : Nat.ble 200 r.1 with
  | true =>
    rw [h2, cond_true] at hr
    have h2 := Nat.le_of_ble_eq_true h2
    have hq0 := (HT.2 _ _ _ h2).mp hq0
    refine (HT.2 _ _ _ h2).mpr ?_
    unfold pRows at hq0 ⊢
    split at hq0
    · obtain ⟨ka, kb, q1, q2, q3, q4, q5⟩ := hq0
      have same : ∀ {kk i' : Nat}, sSh (kk + soff (r.1 - 200)) = some (1, r.1 - 200, kk) → i' < srln (r.1 - 200) → sgr M' (r.1 - 200) kk i' = sgr M (r.1 - 200) kk i' := fun hs hi => hf.2 _ _ _ hs hi fun m hm w => by
        have : (ms.any fun m => Nat.beq m.1 1 && Nat.beq m.2.1 (r.1 - 200)) = true := List.any_eq_true.mpr ⟨m, hm, by
          rw [w.1, w.2.1, show Nat.beq 1 1 = true from rfl, show Nat.beq (r.1 - 200) (r.1 - 200) = true from Nat.beq_refl _]
          rfl⟩
        rw [this] at hr
        cases hr
      exact ⟨ka, kb, q1, q2, q3, q4, fun i' hi' => by rw [same q3 hi', same q4 hi']; exact q5 i' hi'⟩
    · trivial
  | false =>
    rw [h2, cond_false] at hr
    split at hr
    · rename_i pd hpd
      obtain ⟨hk, hQ⟩ := HT.1 _ _ hpd
      have hq0 := (hQ _ _).mp hq0
      refine (hQ _ _).mpr fun p hp hx => ?_
      refine pHolds_eq (E := peM_keep hp hk h.2.2.2.2.2.2.1 fun m c hc hv hd => ?_) (hq0 p hp hx)
      have hnt : ∀ m ∈ ms, ¬ (m.1 = c.2.1 ∧ m.2.1 = c.2.2.1 ∧ (m.1 = 1 ∨ m.2.2.1 = c.2.2.2.1)) := fun m' hm' w => by
        have : ptouch pd ms = true := List.any_eq_true.mpr ⟨m', hm', List.any_eq_true.mpr ⟨c, List.mem_of_getElem? hc, by
          simp only [Bool.and_eq_true, Bool.or_eq_true]
          exact ⟨by rw [w.1]; exact Nat.beq_refl _, by rw [w.2.1]; exact Nat.beq_refl _, w.2.2.imp (fun e => by rw [e]; rfl) (fun e => by rw [e]; exact Nat.beq_refl _)⟩⟩⟩
        rw [this] at hr
        cases hr
      rcases hd with hd | ⟨hd, hj⟩
      · rw [hd] at hv hnt ⊢
        obtain ⟨k', hk', hs⟩ := pcv_0 hv
        rw [← hk', cvM_0, cvM_0, hf.1 k' c.2.2.1 c.2.2.2.1 hs fun m hm w => hnt m hm ⟨w.1, w.2.1, Or.inr w.2.2⟩]
      · rw [hd] at hv hnt ⊢
        obtain ⟨k', hk', hs⟩ := pcv_1 hv
        rw [← hk', cvM_1, cvM_1]
        cases hz : (spos (se (lget (peM M pd.2.2.2.2.1 p)) c.2.2.2.2.2) && Nat.blt (se (lget (peM M pd.2.2.2.2.1 p)) c.2.2.2.2.2).toNat (srln c.2.2.1)) with
        | false => rw [cond_false, cond_false]
        | true =>
          rw [cond_true, cond_true]
          rw [Bool.and_eq_true] at hz
          rw [hf.2 c.2.2.1 k' _ hs (sbltt hz.2) fun m hm w => hnt m hm ⟨w.1, w.2.1, Or.inl w.1⟩]
    · cases hr
theorem hCx_ok (HT : pMean Qs pdt) : sHC Qs (hCx pdt) := by
  intro ρ A ls st M M' r o dp n r0 o0 sp k k0 d1 n1 s1 h e0 e1 e2 e3 e4 v0 v1 b0 b1 m2 m3 hM wo wd wn wo0 ws x hx
  have one : ∀ {c' k' i' : Nat}, sSh (k' + soff c') = some (1, c', k') → ¬ (c' = r ∧ k' = k) → sgr M' c' k' i' = sgr M c' k' i' := fun {c' k' i'} hs hn => by
    rw [m3 c' k' i' hs, if_neg fun w => hn ⟨w.1, w.2.1⟩]
  have cell : ∀ {c : pC} {zo zi : Int}, pcv c.2.1 c.2.2.1 zo → (c.2.1 = 0 ∨ (c.2.1 = 1 ∧ c.2.2.2.1 = 0)) → ¬ (c.2.1 = 1 ∧ c.2.2.1 = r ∧ zo = k) → cvM M' c.2.1 c.2.2.1 c.2.2.2.1 zo zi = cvM M c.2.1 c.2.2.1 c.2.2.2.1 zo zi := by
    intro c zo zi hv hd hn
    rcases hd with hd | ⟨hd, hj⟩
    · rw [hd] at hv ⊢
      obtain ⟨k', hk', hs⟩ := pcv_0 hv
      rw [← hk', cvM_0, cvM_0, m2 k' c.2.2.1 _ hs]
    · rw [hd] at hv hn ⊢
      obtain ⟨k', hk', hs⟩ := pcv_1 hv
      rw [← hk', cvM_1, cvM_1]
      cases hz : (spos zi && Nat.blt zi.toNat (srln c.2.2.1)) with
      | false => rw [cond_false, cond_false]
      | true => rw [cond_true, cond_true, one hs fun w => hn ⟨rfl, w.1, by rw [← hk', w.2]⟩]
  rcases List.mem_append.mp hx with hx | hx
  · obtain ⟨q, hq, hx⟩ := List.mem_flatMap.mp hx
    have hq0 := h.2.2.2.1 q hq
    have wq := h.2.2.2.2.2.2.2.2.2.2.1 q hq
    unfold hC1 at hx
    cases h2 : Nat.ble 200 q.1 with
    | true =>
      rw [h2, cond_true] at hx
      have h2 := Nat.le_of_ble_eq_true h2
      cases hc : Nat.beq r (q.1 - 200) with
      | true =>
        have hx : x ∈ cond (Nat.beq r (q.1 - 200)) [] [q] := hx
        rw [hc, cond_true] at hx
        cases hx
      | false =>
        have hx : x ∈ cond (Nat.beq r (q.1 - 200)) [] [q] := hx
        rw [hc, cond_false] at hx
        rw [List.mem_singleton.mp hx]
        refine ⟨?_, wq⟩
        have hq0 := (HT.2 _ _ _ h2).mp hq0
        refine (HT.2 _ _ _ h2).mpr ?_
        unfold pRows at hq0 ⊢
        split at hq0
        · obtain ⟨ka, kb, q1, q2, q3, q4, q5⟩ := hq0
          have same : ∀ {kk i' : Nat}, sSh (kk + soff (q.1 - 200)) = some (1, q.1 - 200, kk) → sgr M' (q.1 - 200) kk i' = sgr M (q.1 - 200) kk i' := fun hs => one hs fun w => by
            rw [← w.1, show Nat.beq (q.1 - 200) (q.1 - 200) = true from Nat.beq_refl _] at hc
            cases hc
          exact ⟨ka, kb, q1, q2, q3, q4, fun i' hi' => by rw [same q3, same q4]; exact q5 i' hi'⟩
        · trivial
    | false =>
      rw [h2, cond_false] at hx
      split at hx
      · rename_i pd hpd
        obtain ⟨hk, hQ⟩ := HT.1 _ _ hpd
        have hq0 := (hQ _ _).mp hq0
        split at hx
        · rename_i hfl
          rw [List.mem_singleton.mp hx]
          refine ⟨(hQ _ _).mpr fun p hp hex => ?_, wq⟩
          refine pHolds_eq (E := peM_keep hp hk h.2.2.2.2.2.2.1 fun m c hc hv hd => cell hv hd fun w => ?_) (hq0 p hp hex)
          have : c ∈ (pd.2.2.2.2.1.filter fun c => Nat.beq c.2.1 1 && Nat.beq c.2.2.1 r) := List.mem_filter.mpr ⟨List.mem_of_getElem? hc, by rw [w.1, w.2.1, show Nat.beq 1 1 = true from rfl, show Nat.beq r r = true from Nat.beq_refl _]; rfl⟩
          have hfl : (pd.2.2.2.2.1.filter fun c => Nat.beq c.2.1 1 && Nat.beq c.2.2.1 r) = [] := hfl
          rw [hfl] at this
          cases this
        · rename_i a1 a2 a3 a4 xo a5 hfl
          have hfl : (pd.2.2.2.2.1.filter fun c => Nat.beq c.2.1 1 && Nat.beq c.2.2.1 r) = [(a1, a2, a3, a4, (xo, [(0, 1)]), a5)] := hfl
          cases hce : (Nat.beq q.2.length 0 || teqL A.1 (q.2.take 1) [ssub o (sC xo)]) with
          | false => rw [hce, cond_false] at hx; cases hx
          | true =>
            rw [hce, cond_true] at hx
            rw [List.mem_singleton.mp hx]
            have wown : swE A.1.1.length (ssub o (sC xo)) := swE_sub wo (swE_C _)
            refine ⟨(hQ _ _).mpr fun p hp hex => ?_, fun e he => by rw [List.mem_singleton.mp he]; exact wown⟩
            obtain ⟨po, pi, pl, hpp, -⟩ := id hp
            have hpl : p.length = 3 := by rw [hpp]; rfl
            have e0' : lget (peM M pd.2.2.2.2.1 p) 0 = po := by
              obtain ⟨rr, hr⟩ := peM_pre M pd.2.2.2.2.1 p
              rw [hr, lget_pre (by omega), hpp]
              rfl
            have hne : po ≠ se ρ (ssub o (sC xo)) := fun w => hex ⟨fun z => (by cases z), by
              rw [hpp]
              show [se ρ (ssub o (sC xo))] = [po]
              rw [w]⟩
            have hnx : ¬ pexc (q.2.map (se ρ)) p := by
              rintro ⟨n1, n2⟩
              rw [Bool.or_eq_true] at hce
              rcases hce with hce | hce
              · have := Nat.eq_of_beq_eq_true hce
                rw [List.length_eq_zero_iff.mp this] at n1
                exact n1 rfl
              · have te := teqL_ok h.1 hce
                cases hq2 : q.2 with
                | nil => rw [hq2] at n1; exact n1 rfl
                | cons b bs =>
                  rw [hq2] at te n2
                  have te : se ρ b = se ρ (ssub o (sC xo)) := (List.cons.inj te).1
                  rw [hpp] at n2
                  have n2 : se ρ b :: bs.map (se ρ) = po :: _ := n2
                  have := (List.cons.inj n2).1
                  exact hne (this.symm.trans te)
            refine pHolds_eq (E := peM_keep hp hk h.2.2.2.2.2.2.1 fun m c hc hv hd => cell hv hd fun w => ?_) (hq0 p hp hnx)
            have hmem : c ∈ (pd.2.2.2.2.1.filter fun c => Nat.beq c.2.1 1 && Nat.beq c.2.2.1 r) := List.mem_filter.mpr ⟨List.mem_of_getElem? hc, by rw [w.1, w.2.1, show Nat.beq 1 1 = true from rfl, show Nat.beq r r = true from Nat.beq_refl _]; rfl⟩
            rw [hfl] at hmem
            have hcc := List.mem_singleton.mp hmem
            have w3 := w.2.2
            rw [hcc] at w3
            have w3 : xo + (1 * lget (peM M pd.2.2.2.2.1 p) 0 + 0) = (k : Int) := w3
            rw [e0'] at w3
            apply hne
            rw [se_sub, se_C, ← e0]
            omega
        · cases hx
      · cases hx
  · cases hc : (Nat.beq r r0 && (sEq sp (sC 0) && (sEq dp (sC 0) && sEq n (sC (srln r : Int))))) with
    | false =>
      have hx : x ∈ cond (Nat.beq r r0 && (sEq sp (sC 0) && (sEq dp (sC 0) && sEq n (sC (srln r : Int))))) [(200 + r, [o, o0])] [] := hx
      rw [hc, cond_false] at hx
      cases hx
    | true =>
      have hx : x ∈ cond (Nat.beq r r0 && (sEq sp (sC 0) && (sEq dp (sC 0) && sEq n (sC (srln r : Int))))) [(200 + r, [o, o0])] [] := hx
      rw [hc, cond_true] at hx
      rw [List.mem_singleton.mp hx]
      simp only [Bool.and_eq_true] at hc
      obtain ⟨c1, c2, c3, c4⟩ := hc
      have c1 := Nat.eq_of_beq_eq_true c1
      have c2 := sEq_ok c2
      have c3 := sEq_ok c3
      have c4 := sEq_ok c4
      subst c1 c2 c3 c4
      rw [se_C] at e2 e3 e4
      refine ⟨(HT.2 _ _ _ (Nat.le_add_right 200 r)).mpr ?_, List.forall_mem_cons.mpr ⟨wo, fun e he => by rw [List.mem_singleton.mp he]; exact wo0⟩⟩
      show ∃ ka kb : Nat, _
      rw [show 200 + r - 200 = r by omega]
      refine ⟨k, k0, e0, e1, v0, v1, fun i hi => ?_⟩
      rw [m3 r k i v0, if_pos ⟨rfl, rfl, by omega, by omega⟩, m3 r k0 i v1]
      by_cases hkk : k0 = k
      · rw [if_pos ⟨rfl, hkk, by omega, by omega⟩, hkk]
        try (congr 1; omega)
      · rw [if_neg fun w => hkk w.2.1]
        try (congr 1; omega)
end HX
