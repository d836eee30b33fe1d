/-! PREDICATES AS TABLES, 10: what shows them is right -/
section HN
variable {Qs : Nat → List Int → zM → Prop} {pdt : Nat → Option pD} {ρ : Nat → Int} {ls : zL} {st : List Value} {M : zM} {A : sA} {pd : pD}
theorem pOK_one {n : Nat} {o : sE} {E : List Int} (w : swE n o) (h : se ρ o = lget E 0) : pOK ρ n [some o] E := by
  intro x a ha
  match x, ha with
  | 0, ha => cases ha; exact ⟨h, w⟩
  | x + 1, ha => cases ha
theorem peqrow_ok (HT : pMean Qs pdt) (h : sR Qs ρ A ls st M) {r : Nat} {o o0 : sE} (hs : peqrow A r o o0 = true) : ∃ ka kb : Nat, (ka : Int) = se ρ o ∧ (kb : Int) = se ρ o0 ∧ ∀ i, i < srln r → sgr M r ka i = sgr M r kb i := by
  obtain ⟨q, hq, h2⟩ := List.any_eq_true.mp hs
  rw [Bool.and_eq_true] at h2
  have h3 := Nat.eq_of_beq_eq_true h2.1
  have h4 := teqL_ok h.1 h2.2
  have h5 := h.2.2.2.1 q hq
  rw [h3, h4] at h5
  have h6 := (HT.2 _ _ _ (Nat.le_add_right 200 r)).mp h5
  have h6 : ∃ ka kb : Nat, (ka : Int) = se ρ o ∧ (kb : Int) = se ρ o0 ∧ sSh (ka + soff (200 + r - 200)) = some (1, 200 + r - 200, ka) ∧ sSh (kb + soff (200 + r - 200)) = some (1, 200 + r - 200, kb) ∧ ∀ i, i < srln (200 + r - 200) → sgr M (200 + r - 200) ka i = sgr M (200 + r - 200) kb i := h6
  rw [show 200 + r - 200 = r by omega] at h6
  obtain ⟨ka, kb, k1, k2, -, -, k3⟩ := h6
  exact ⟨ka, kb, k1, k2, k3⟩
theorem plike_ok (HT : pMean Qs pdt) (h : sR Qs ρ A ls st M) (hk : pok pd = true) {o o0 : sE} (wo : swE A.1.1.length o) (wo0 : swE A.1.1.length o0) (hs : plike A pd o o0 = true) {i l : Int} (hd : pDom pd [se ρ o, i, l]) : se ρ o0 ≠ se ρ o ∧ pDom pd [se ρ o0, i, l] ∧ (pHolds M pd [se ρ o0, i, l] → pHolds M pd [se ρ o, i, l]) := by
  unfold plike at hs
  simp only [Bool.and_eq_true] at hs
  obtain ⟨⟨s0, s1, s2, s3⟩, s4⟩ := hs
  have s0 := sbeqf s0
  have hne := sDf_ok h.1 s1
  obtain ⟨k0, k1, k2⟩ := pvo_ok h s2
  obtain ⟨a1, a2, a3, a4, -, d1, d2, d3, d4⟩ := id hd
  have hd0 : pDom pd [se ρ o0, i, l] := by
    cases a4
    exact ⟨_, _, _, rfl, ⟨k0, k1, by rw [if_neg s0]; exact k2⟩, d1, d2, d3, d4⟩
  refine ⟨fun w => hne w.symm, hd0, ?_⟩
  have len3 : ∀ x : Int, ([x, i, l] : List Int).length = 3 := fun _ => rfl
  have atA := peM_at M pd.2.2.2.2.1 [se ρ o, i, l] pd.1 pd.2.2.2.2.1 hk
  have atB := peM_at M pd.2.2.2.2.1 [se ρ o0, i, l] pd.1 pd.2.2.2.2.1 hk
  rw [len3] at atA atB
  have pre : ∀ (z : Int) x, x < 3 → lget (peM M pd.2.2.2.2.1 [z, i, l]) x = lget [z, i, l] x := fun z x hx => by
    obtain ⟨r, hr⟩ := peM_pre M pd.2.2.2.2.1 [z, i, l]
    rw [hr, lget_pre (by rw [len3]; exact hx)]
  have main : ∀ m, ∀ x, 1 ≤ x → x < 3 + m → lget (peM M pd.2.2.2.2.1 [se ρ o, i, l]) x = lget (peM M pd.2.2.2.2.1 [se ρ o0, i, l]) x := by
    intro m
    induction m with
    | zero =>
      intro x x1 x2
      rw [pre _ x x2, pre _ x x2]
      match x, x1, x2 with
      | 1, _, _ => rfl
      | 2, _, _ => rfl
    | succ m ih =>
      intro x x1 x2
      rcases Nat.lt_or_ge x (3 + m) with q | q
      · exact ih x x1 q
      · have hx : x = 3 + m := by omega
        subst hx
        cases hcm : pd.2.2.2.2.1[m]? with
        | none =>
          have hl := List.getElem?_eq_none_iff.mp hcm
          have e : ∀ z : Int, lget (peM M pd.2.2.2.2.1 [z, i, l]) (3 + m) = 0 := fun z => by
            unfold lget
            rw [List.getD_eq_getElem?_getD, List.getElem?_eq_none (by rw [peM_len, len3]; omega)]
            rfl
          rw [e, e]
        | some c =>
          obtain ⟨u1, u2, u3, u4, -⟩ := atA m c hcm
          obtain ⟨v1, -, -, -, -⟩ := atB m c hcm
          have hc := List.all_eq_true.mp s4 c (List.mem_of_getElem? hcm)
          split at hc
          · rename_i j1 j2 x1 x2
            split at hc
            · rename_i a ha
              split at hc
              · rename_i b hb
                have g1 := (cval_ok h (pOK_one (E := peM M pd.2.2.2.2.1 [se ρ o, i, l]) wo (by rw [pre _ 0 (by decide)]; rfl)) ha).1
                have g2 := (cval_ok h (pOK_one (E := peM M pd.2.2.2.2.1 [se ρ o0, i, l]) wo0 (by rw [pre _ 0 (by decide)]; rfl)) hb).1
                rw [u1, v1, ← g1, ← g2]
                exact sSm_ok h.1.1 hc
              · cases hc
            · cases hc
          · rename_i tag r x0 ei
            rw [Bool.and_eq_true] at hc
            obtain ⟨ka, kb, k1, k2, k3⟩ := peqrow_ok HT h hc.2
            rw [se_add, se_C] at k1 k2
            have hei : se (lget (peM M pd.2.2.2.2.1 [se ρ o, i, l])) ei = se (lget (peM M pd.2.2.2.2.1 [se ρ o0, i, l])) ei := by
              have hw : (ei.2.all fun t => Nat.ble 1 t.1 && Nat.blt t.1 (3 + m)) = true := List.all_eq_true.mpr fun t ht => by
                rw [Bool.and_eq_true]
                exact ⟨List.all_eq_true.mp hc.1 t ht, Nat.ble_eq_true_of_le (u3 t ht)⟩
              refine se_on (P := fun x => Nat.ble 1 x && Nat.blt x (3 + m)) (fun x hx => ?_) hw
              rw [Bool.and_eq_true] at hx
              exact ih x (Nat.le_of_ble_eq_true hx.1) (sbltt hx.2)
            have eA : pvM M (tag, 1, r, 0, (x0, [(0, 1)]), ei) (peM M pd.2.2.2.2.1 [se ρ o, i, l]) = cvM M 1 r 0 (ka : Int) (se (lget (peM M pd.2.2.2.2.1 [se ρ o0, i, l])) ei) := by
              unfold pvM
              show cvM M 1 r 0 (x0 + (1 * lget (peM M pd.2.2.2.2.1 [se ρ o, i, l]) 0 + 0)) (se (lget (peM M pd.2.2.2.2.1 [se ρ o, i, l])) ei) = _
              rw [hei, pre _ 0 (by decide), k1]
              congr 1
              show x0 + (1 * se ρ o + 0) = se ρ o + x0
              omega
            have eB : pvM M (tag, 1, r, 0, (x0, [(0, 1)]), ei) (peM M pd.2.2.2.2.1 [se ρ o0, i, l]) = cvM M 1 r 0 (kb : Int) (se (lget (peM M pd.2.2.2.2.1 [se ρ o0, i, l])) ei) := by
              unfold pvM
              show cvM M 1 r 0 (x0 + (1 * lget (peM M pd.2.2.2.2.1 [se ρ o0, i, l]) 0 + 0)) (se (lget (peM M pd.2.2.2.2.1 [se ρ o0, i, l])) ei) = _
              rw [pre _ 0 (by decide), k2]
              congr 1
              show x0 + (1 * se ρ o0 + 0) = se ρ o0 + x0
              omega
            rw [u1, v1, eA, eB, cvM_1, cvM_1]
            cases hz : (spos (se (lget (peM M pd.2.2.2.2.1 [se ρ o0, i, l])) ei) && Nat.blt (se (lget (peM M pd.2.2.2.2.1 [se ρ o0, i, l])) ei).toNat (srln r)) with
            | false => rw [cond_false, cond_false]
            | true =>
              rw [cond_true, cond_true]
              rw [Bool.and_eq_true] at hz
              rw [k3 _ (sbltt hz.2)]
          · cases hc
  rintro ⟨cl, c1, c2⟩
  refine ⟨cl, c1, fun e he => ?_⟩
  rw [se_on (P := fun x => Nat.ble 1 x) (fun x hx => main (x + 1) x (Nat.le_of_ble_eq_true hx) (by omega)) (List.all_eq_true.mp (List.all_eq_true.mp s3 cl c1) e he)]
  exact c2 e he
theorem hNx_ok (HT : pMean Qs pdt) : sHN Qs (hNx pdt) := by
  intro ρ A ls st M q h hs
  unfold hNx at hs
  split at hs
  · cases hs
  · rename_i pd hpd
    obtain ⟨hk, hQ⟩ := HT.1 _ _ hpd
    refine (hQ _ _).mpr ?_
    obtain ⟨p, hp, h2⟩ := List.any_eq_true.mp hs
    rw [Bool.and_eq_true, Bool.or_eq_true] at h2
    obtain ⟨e1, h2⟩ := h2
    have e1 := Nat.eq_of_beq_eq_true e1
    have hp0 := h.2.2.2.1 p hp
    have wp := h.2.2.2.2.2.2.2.2.2.2.1 p hp
    rw [e1] at hp0
    have hp0 := (hQ _ _).mp hp0
    rcases h2 with h2 | h2
    · have e2 := List.length_eq_zero_iff.mp (Nat.eq_of_beq_eq_true h2)
      rw [e2] at hp0
      exact fun pp hd _ => hp0 pp hd fun w => w.1 rfl
    · rw [Bool.and_eq_true, Bool.or_eq_true] at h2
      intro pp hd _
      by_cases hx : pexc (p.2.map (se ρ)) pp
      case neg => exact hp0 pp hd hx
      obtain ⟨-, hx⟩ := hx
      rw [List.length_map] at hx
      obtain ⟨o, i, l, hpp, -⟩ := id hd
      rcases h2.2 with h3 | h3
      · rw [Bool.and_eq_true] at h3
        have henv : pOK ρ A.1.1.length (penv A pd p.2 none) (peM M pd.2.2.2.2.1 pp) := by
          rw [hpp] at hx ⊢
          exact penv_ok h hx wp (fun q hq => by cases hq)
        exact okc_ok h.1 henv h3.2
      · split at h3
        · rename_i eo hep
          obtain ⟨r, hr, h4⟩ := List.any_eq_true.mp h3
          rw [Bool.and_eq_true] at h4
          split at h4
          · rename_i a b hab
            obtain ⟨c, -, h5⟩ := List.any_eq_true.mp h4.2
            simp only [Bool.and_eq_true] at h5
            have wb := h.2.2.2.2.2.2.2.2.2.2.1 r hr b (by rw [hab]; exact List.mem_cons_of_mem _ List.mem_cons_self)
            have weo := wp eo (by rw [hep]; exact List.mem_cons_self)
            rw [hep, hpp] at hx
            have hx : se ρ eo = o := (List.cons.inj hx).1
            rw [hpp, ← hx] at hd ⊢
            obtain ⟨g1, g2, g3⟩ := plike_ok HT h hk weo (swE_sub wb (swE_C _)) h5.2.2.2 hd
            refine g3 (hp0 _ g2 ?_)
            rintro ⟨-, n2⟩
            rw [hep] at n2
            have n2 : se ρ eo = se ρ (ssub b (sC c.2.2.2.2.1.1)) := (List.cons.inj n2).1
            exact g1 n2.symm
          · cases h4.2
        · cases h3
end HN
