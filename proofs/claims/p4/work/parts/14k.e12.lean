/-! THE ENGINE, 12: rows that read memory -/
section SRD
variable {Qs : Nat → List Int → zM → Prop} {ρ : Nat → Int} {K : sK} {D : List sD} {F : List sF} {Q : List sQ} {L : List (Nat × sV)} {T : List sV} {ls : zL} {st : List Value} {M : zM} {X : zX}
theorem sR_fact (h : sR Qs ρ (K, D, F, Q, L, T) ls st M) {f : sF} (hf : sFac ρ M f) (w : swF K.1.length f) : sR Qs ρ (K, D, f :: F, Q, L, T) ls st M := by
  obtain ⟨h1, h2, h3, h4, h5, h6, h7, w1, w2, w3, w4, w5, w6⟩ := h
  exact ⟨h1, h2, List.forall_mem_cons.mpr ⟨hf, h3⟩, h4, h5, h6, h7, w1, w2, List.forall_mem_cons.mpr ⟨w, w3⟩, w4, w5, w6⟩
theorem sclamp {j : Int32} (h : 0 ≤ j.toInt) : ¬ j < 0 ∧ (j.toNatClampNeg : Int) = j.toInt := by
  have h1 : (0 : Int32) ≤ j := Int32.le_iff_toInt_le.mpr h
  refine ⟨fun q => ?_, (Int32.toInt_eq_toNatClampNeg h1).symm⟩
  have := Int32.lt_iff_toInt_lt.mp q
  have e : (0 : Int32).toInt = 0 := rfl
  omega
/-- a symbol more for a value that was read, kept as a fact -/
theorem sR_read {pc : Nat} (h : sR Qs ρ (K, D, F, Q, L, T) ls st M) {d c j t q : Nat} {o i : sE} {lo hi z : Int} {v : Value} (hz : lo ≤ z ∧ z ≤ hi) (hv : sValE z v t q) (wo : swE K.1.length o) (wi : swE K.1.length i) (hf : sFacE (se ρ o) (se ρ i) z M d c j t q) : sHit Qs ρ K.1.length [(pc, sfresh K lo hi, D, (d, c, j, o, i, (t, q, sS K.1.length)) :: F, Q, L, (t, q, sS K.1.length) :: T)] pc ls (v :: st) M := by
  have h2 := sR_fresh h hz
  have hl : (sfresh K lo hi).1.length = K.1.length + 1 := List.length_append
  have ws : swE (sfresh K lo hi).1.length (sS K.1.length) := by rw [hl]; exact swE_S (Nat.lt_succ_self _)
  have es : se (supd ρ K.1.length z) (sS K.1.length) = z := by rw [se_S]; exact supd_self
  have hle : K.1.length ≤ (sfresh K lo hi).1.length := by rw [hl]; exact Nat.le_succ _
  refine sHit_1 supd_agr hle (sR_push (a := (t, q, sS K.1.length)) (sR_fact (f := (d, c, j, o, i, (t, q, sS K.1.length))) h2 ?_ ⟨wo.le hle, wi.le hle, ws⟩) ?_ ws)
  · show sFacE (se _ o) (se _ i) (se _ (sS K.1.length)) M d c j t q
    rw [se_agr supd_agr wo, se_agr supd_agr wi, es]
    exact hf
  · show sValE (se _ (sS K.1.length)) v t q
    rw [es]
    exact hv
end SRD
def sgetf (own pc x : Nat) (A : sA) : Option (List (Nat × sA)) := match A with
  | (K, D, F, Q, L, T) => match zlk own x with
    | some (0, c, j, _) => (match T with
      | (3, c', o) :: T' => cond (Nat.beq c' c && Nat.blt j (sFk c).length) (match sffF K.1 c j o F with
        | some a => some [(pc + 3, K, D, F, Q, L, a :: T')]
        | none => (match (sFk c).getD j (9, 0, 0) with
          | (0, lo, hi) => some [(pc + 3, sfresh K lo hi, D, (0, c, j, o, sC 0, (0, 0, sS K.1.length)) :: F, Q, L, (0, 0, sS K.1.length) :: T')]
          | (1, _, _) => some [(pc + 3, sfresh K sI64.1 sI64.2, D, (0, c, j, o, sC 0, (1, 0, sS K.1.length)) :: F, Q, L, (1, 0, sS K.1.length) :: T')]
          | (2, c2, d) => some [(pc + 3, K, D, F, Q, L, (3, c2.toNat, sadd o (sC d)) :: T')]
          | (3, r, _) => some [(pc + 3, K, D, F, Q, L, (4, r.toNat, o) :: T')]
          | (4, t, _) => some [(pc + 3, K, D, F, Q, L, (8, t.toNat, o) :: T')]
          | (5, c2, _) => some [(pc + 3, sfresh K (sNm c2.toNat).1 (sNm c2.toNat).2, D, (0, c, j, o, sC 0, (3, c2.toNat, sS K.1.length)) :: F, Q, L, (3, c2.toNat, sS K.1.length) :: T')]
          | (6, _, _) => some [(pc + 3, sfresh K 0 300000, D, (0, c, j, o, sC 0, (5, 1, sS K.1.length)) :: F, Q, L, (5, 1, sS K.1.length) :: T')]
          | _ => none)) none
      | _ => none)
    | _ => none
theorem srln_le : ∀ r, srln r ≤ 300000 := by
  intro r
  unfold srln sRo
  by_cases h : r < sRoL.length
  · have : (sRoL.all fun q => Nat.ble q.2.2.2.2 300000) = true := by decide +kernel
    have h2 := List.all_eq_true.mp this (sRoL[r]) (List.getElem_mem h)
    rw [List.getD_eq_getElem?_getD, List.getElem?_eq_getElem h]
    exact Nat.le_of_ble_eq_true h2
  · rw [List.getD_eq_getElem?_getD, List.getElem?_eq_none (Nat.not_lt.mp h)]
    exact Nat.zero_le _
theorem sAr_ok {k t n : Nat} (h : sAr k = some (t, n)) : ∃ r o, sSh k = some (1, r, o) ∧ t = srty r ∧ n = srln r := by
  unfold sAr at h
  split at h
  · rename_i r o hsk
    cases h
    exact ⟨r, o, hsk, rfl, rfl⟩
  · cases h
theorem sAr_le {k t n : Nat} (h : sAr k = some (t, n)) : n ≤ 300000 := by
  obtain ⟨r, o, -, -, rfl⟩ := sAr_ok h
  exact srln_le r
section SGF
variable {Qs : Nat → List Int → zM → Prop} {ρ : Nat → Int} {ls : zL} {st : List Value} {M : zM} {X : zX}
theorem sgetf_ok {A : sA} (h : sR Qs ρ A ls st M) {own pc x : Nat} {ini : Bool} {outs : List (Nat × sA)} (hs : sgetf own pc x A = some outs) : ∃ pc' ls' st', zs1 X own ini pc ls st M (.getfield x) = some (pc', ls', st', M) ∧ sHit Qs ρ A.1.1.length outs pc' ls' st' M := by
  obtain ⟨K, D, F, Q, L, T⟩ := A
  unfold sgetf at hs
  dsimp only at hs
  split at hs
  · rename_i c j p hlk
    split at hs
    · rename_i c' o T'
      cases hc : (Nat.beq c' c && Nat.blt j (sFk c).length) with
      | false => rw [hc] at hs; cases hs
      | true =>
        rw [hc] at hs
        rw [Bool.and_eq_true] at hc
        have e1 := Nat.eq_of_beq_eq_true hc.1
        have hj : j < (sFk c).length := sbltt hc.2
        subst e1
        obtain ⟨v, r, rfl, ⟨k, rfl, hk, hsh⟩, w, h'⟩ := sR_pop h
        have hk : (k : Int) = se ρ o := hk
        have w : swE K.1.length o := w
        obtain ⟨fs, g1, g2, g3, g4⟩ := sMem_ob h'.2.2.2.2.2.2.1 hsh
        have gv : fs[j]? = some (fs.getD j .null) := by
          rw [List.getD_eq_getElem?_getD, List.getElem?_eq_getElem (by rw [g2]; exact hj)]
          rfl
        have step : zs1 X own ini pc ls (.ref k :: r) M (.getfield x) = some (pc + 3, ls, fs.getD j .null :: r, M) := by
          simp only [zs1, hlk, g1, if_true, gv]
        have hF := g3 j hj
        refine ⟨_, _, _, step, ?_⟩
        have mk : ∀ {lo hi z : Int} {t q : Nat}, lo ≤ z ∧ z ≤ hi → sValE z (fs.getD j .null) t q → sHit Qs ρ K.1.length [(pc + 3, sfresh K lo hi, D, (0, c', j, o, sC 0, (t, q, sS K.1.length)) :: F, Q, L, (t, q, sS K.1.length) :: T')] (pc + 3) ls (fs.getD j .null :: r) M := fun hz hv => sR_read h' hz hv w (swE_C _) ⟨k, hk, hsh, by rw [g4]; exact hv⟩
        have hs : (match sffF K.1 c' j o F with
          | some a => some [(pc + 3, K, D, F, Q, L, a :: T')]
          | none => (match (sFk c').getD j (9, 0, 0) with
            | (0, lo, hi) => some [(pc + 3, sfresh K lo hi, D, (0, c', j, o, sC 0, (0, 0, sS K.1.length)) :: F, Q, L, (0, 0, sS K.1.length) :: T')]
            | (1, _, _) => some [(pc + 3, sfresh K sI64.1 sI64.2, D, (0, c', j, o, sC 0, (1, 0, sS K.1.length)) :: F, Q, L, (1, 0, sS K.1.length) :: T')]
            | (2, c2, d) => some [(pc + 3, K, D, F, Q, L, (3, c2.toNat, sadd o (sC d)) :: T')]
            | (3, r, _) => some [(pc + 3, K, D, F, Q, L, (4, r.toNat, o) :: T')]
            | (4, t, _) => some [(pc + 3, K, D, F, Q, L, (8, t.toNat, o) :: T')]
            | (5, c2, _) => some [(pc + 3, sfresh K (sNm c2.toNat).1 (sNm c2.toNat).2, D, (0, c', j, o, sC 0, (3, c2.toNat, sS K.1.length)) :: F, Q, L, (3, c2.toNat, sS K.1.length) :: T')]
            | (6, _, _) => some [(pc + 3, sfresh K 0 300000, D, (0, c', j, o, sC 0, (5, 1, sS K.1.length)) :: F, Q, L, (5, 1, sS K.1.length) :: T')]
            | _ => none)) = some outs := hs
        split at hs
        · rename_i a ha
          cases hs
          obtain ⟨o', i', m1, m2⟩ := sffF_ok ha
          have hfac := h'.2.2.1 _ m1
          have wf := h'.2.2.2.2.2.2.2.2.2.1 _ m1
          obtain ⟨k1, u1, -, this⟩ := hfac
          have hkk : k1 = k := by
            have e := sSm_ok h'.1.1 m2
            have u1 : (k1 : Int) = se ρ o' := u1
            omega
          rw [hkk, g4] at this
          exact sHit_0 (sR_push h' this wf.2.2)
        · split at hs
          · rename_i lo hi hk0
            cases hs
            rw [hk0] at hF
            obtain ⟨x, hx, x1, x2⟩ := hF
            exact mk (z := x.toInt) ⟨x1, x2⟩ ⟨x, hx, rfl⟩
          · rename_i a b hk0
            cases hs
            rw [hk0] at hF
            obtain ⟨x, hx⟩ := hF
            exact mk (z := x.toInt) (sr64 x) ⟨x, hx, rfl⟩
          · rename_i c2 d hk0
            cases hs
            rw [hk0] at hF
            obtain ⟨q, hq, q1, q2⟩ := hF
            rw [hq]
            exact sHit_0 (sR_push (v := .ref q) (a := (3, c2.toNat, sadd o (sC d))) h' ⟨q, rfl, by show (q : Int) = se ρ (sadd o (sC d)); rw [se_add, se_C, q1, hk], q2⟩ (swE_add w (swE_C _)))
          · rename_i r2 d hk0
            cases hs
            rw [hk0] at hF
            obtain ⟨q, hq, q1, q2⟩ := hF
            rw [hq]
            exact sHit_0 (sR_push (v := .ref q) (a := (4, r2.toNat, o)) h' ⟨q, k, rfl, hk, q2⟩ w)
          · rename_i t2 d hk0
            cases hs
            rw [hk0] at hF
            obtain ⟨q, hq, q1, q2⟩ := hF
            rw [hq]
            exact sHit_0 (sR_push (v := .ref q) (a := (8, t2.toNat, o)) h' ⟨q, k, rfl, hk, q2⟩ w)
          · rename_i c2 d hk0
            cases hs
            rw [hk0] at hF
            obtain ⟨q, hq, q2⟩ := hF
            have := sNm_ok q2
            exact mk (z := q) ⟨by omega, by omega⟩ ⟨q, hq, rfl, q2⟩
          · rename_i a b hk0
            cases hs
            rw [hk0] at hF
            obtain ⟨q, n, hq, q2⟩ := hF
            have := sAr_le q2
            exact mk (z := n) ⟨by omega, by omega⟩ ⟨q, n, hq, rfl, q2⟩
          · cases hs
    · cases hs
  · cases hs
end SGF
/-- a row's number is read -/
def salen (a : sV) : Option sE := match a with
  | (4, r, _) => some (sC (srln r))
  | (5, _, n) => some n
  | (8, t, _) => some (sC (sRr t).2.2.2.2.1)
  | _ => none
def sstt (q : Nat) : List Int32 := cond (Nat.beq q 13) zTAKES (cond (Nat.beq q 14) zLEAVES zTRAITS)
def sgeta (pc ty : Nat) (A : sA) : Option (List (Nat × sA)) := match A with
  | (K, D, F, Q, L, T) => match T with
    | (0, _, j) :: (4, r, o) :: T' => cond ((Nat.beq (srty r) ty || (Nat.beq (srty r) 2 && Nat.beq ty 1)) && (sge0 K j && sge0 K (ssub (sC (srln r - 1 : Int)) j))) (match sffR K.1 r o j F with
      | some a => some [(pc + 1, K, D, F, Q, L, a :: T')]
      | none => some [(pc + 1, sfresh K (sebd K r j).1 (sebd K r j).2, D, (1, r, 0, o, j, (0, 0, sS K.1.length)) :: F, Q, L, (0, 0, sS K.1.length) :: T')]) none
    | (0, _, j) :: (5, t, n) :: T' => cond (Nat.beq t ty && (sge0 K j && sge0 K (ssub (sP1 n) j))) (some [(pc + 1, sfresh K sI32.1 sI32.2, D, F, Q, L, (0, 0, sS K.1.length) :: T')]) none
    | (0, _, j) :: (12, q, _) :: T' => cond (Nat.beq ty 1) (match scon K.1 j with
      | some c => cond (spos c && Nat.blt c.toNat 172) (some [(pc + 1, K, D, F, Q, L, (0, 0, sC ((sstt q).getD c.toNat 0).toInt) :: T')]) none
      | none => cond (sge0 K j && sge0 K (ssub (sC 171) j)) (some [(pc + 1, sfresh K 0 10, D, F, Q, L, (0, 0, sS K.1.length) :: T')]) none) none
    | _ => none
theorem zstat_none {k : Nat} (h : k < 486) : zstat k = none := by
  unfold zstat
  rw [if_neg (by omega), if_neg (by omega), if_neg (by omega)]
theorem zstat_some {q : Nat} (h : q = 13 ∨ q = 14 ∨ q = 15) : zstat (1000000 + q) = some (sstt q) ∧ (sstt q).length = 172 ∧ ∀ n, 0 ≤ ((sstt q).getD n 0).toInt ∧ ((sstt q).getD n 0).toInt ≤ 10 := by
  have all : ∀ l : List Int32, (l.all fun x => decide (0 ≤ x.toInt ∧ x.toInt ≤ 10)) = true → ∀ n, 0 ≤ (l.getD n 0).toInt ∧ (l.getD n 0).toInt ≤ 10 := by
    intro l hl n
    rw [List.getD_eq_getElem?_getD]
    cases hq : l[n]? with
    | none => exact ⟨by decide, by decide⟩
    | some x => exact of_decide_eq_true (List.all_eq_true.mp hl x (List.mem_of_getElem? hq))
  rcases h with rfl | rfl | rfl
  · exact ⟨rfl, by decide +kernel, all _ (by decide +kernel)⟩
  · exact ⟨rfl, by decide +kernel, all _ (by decide +kernel)⟩
  · exact ⟨rfl, by decide +kernel, all _ (by decide +kernel)⟩
section SGA
variable {Qs : Nat → List Int → zM → Prop} {ρ : Nat → Int} {ls : zL} {st : List Value} {M : zM} {X : zX}
/-- a number of a row of the world is read by iaload, baload -/
theorem sld_row {M : zM} {k ty n : Nat} {f : Nat → Int32} {j : Int32} {r : List Value} {own pc : Nat} {ini : Bool} (hk : k < 486) (hob : zob M k = some (.inl (ty, n, .inl f))) (h0 : 0 ≤ j.toInt) (h1 : j.toInt < n) :
    (ty = 0 → zs1 X own ini pc ls (.int j :: .ref k :: r) M .iaload = some (pc + 1, ls, .int (f j.toNatClampNeg) :: r, M)) ∧ (ty = 1 ∨ ty = 2 → zs1 X own ini pc ls (.int j :: .ref k :: r) M .baload = some (pc + 1, ls, .int (f j.toNatClampNeg) :: r, M)) := by
  obtain ⟨c1, c2⟩ := sclamp h0
  have hc : ¬ (j < 0 ∨ n ≤ j.toNatClampNeg) := by
    rintro (q | q)
    · exact c1 q
    · omega
  constructor
  · rintro rfl
    simp only [zs1, hob]
    rw [if_neg (show ¬ k = 1000016 by omega), if_neg hc]
  · rintro (rfl | rfl)
    · simp only [zs1, zstat_none hk, hob]
      rw [if_neg hc]
    · simp only [zs1, zstat_none hk, hob]
      rw [if_neg hc]
theorem sgeta_ok {A : sA} (h : sR Qs ρ A ls st M) {own pc ty : Nat} {ini : Bool} {outs : List (Nat × sA)} (hs : sgeta pc ty A = some outs) :
    (ty = 0 → ∃ pc' ls' st', zs1 X own ini pc ls st M .iaload = some (pc', ls', st', M) ∧ sHit Qs ρ A.1.1.length outs pc' ls' st' M) ∧ (ty = 1 → ∃ pc' ls' st', zs1 X own ini pc ls st M .baload = some (pc', ls', st', M) ∧ sHit Qs ρ A.1.1.length outs pc' ls' st' M) := by
  obtain ⟨K, D, F, Q, L, T⟩ := A
  unfold sgeta at hs
  dsimp only at hs
  split at hs
  · rename_i q1 j r o T'
    cases hc : ((Nat.beq (srty r) ty || (Nat.beq (srty r) 2 && Nat.beq ty 1)) && (sge0 K j && sge0 K (ssub (sC (srln r - 1 : Int)) j))) with
    | false => rw [hc] at hs; cases hs
    | true =>
      rw [hc] at hs
      simp only [Bool.and_eq_true, Bool.or_eq_true] at hc
      obtain ⟨hty, hj0, hj1⟩ := hc
      obtain ⟨v, r0, rfl, ⟨x, rfl, hx⟩, w, h'⟩ := sR_pop h
      obtain ⟨v2, r2, rfl, ⟨k, o', rfl, ho, hsh⟩, w2, h''⟩ := sR_pop h'
      have hx : x.toInt = se ρ j := hx
      have ho : (o' : Int) = se ρ o := ho
      have hsh : sSh k = some (1, r, o') := hsh
      have w : swE K.1.length j := w
      have w2 : swE K.1.length o := w2
      have p0 := sge0_ok h.1 hj0
      have p1 := sge0_ok h.1 hj1
      rw [se_sub, se_C] at p1
      obtain ⟨f, g1, g2, g3⟩ := sMem_row h''.2.2.2.2.2.2.1 hsh
      obtain ⟨c1, c2⟩ := sclamp (j := x) (by rw [hx]; exact p0)
      have hlt : x.toNatClampNeg < srln r := by omega
      obtain ⟨s1, s2⟩ := sld_row (X := X) (ls := ls) (r := r2) (own := own) (pc := pc) (ini := ini) (sSh_lt hsh) g1 (j := x) (by rw [hx]; exact p0) (by omega)
      have hit : sHit Qs ρ K.1.length outs (pc + 1) ls (.int (f x.toNatClampNeg) :: r2) M := by
        have hs : (match sffR K.1 r o j F with
          | some a => some [(pc + 1, K, D, F, Q, L, a :: T')]
          | none => some [(pc + 1, sfresh K (sebd K r j).1 (sebd K r j).2, D, (1, r, 0, o, j, (0, 0, sS K.1.length)) :: F, Q, L, (0, 0, sS K.1.length) :: T')]) = some outs := hs
        have hrow : sSh (o' + soff r) = some (1, r, o') := by rw [← (sSh_row hsh).1]; exact hsh
        split at hs
        · rename_i a ha
          cases hs
          obtain ⟨j', o1, i1, m1, m2, m3⟩ := sffR_ok ha
          have hfac := h''.2.2.1 _ m1
          have wf := h''.2.2.2.2.2.2.2.2.2.1 _ m1
          obtain ⟨k1, n1, u1, u2, -, -, this⟩ := hfac
          have e1 : k1 = o' := by
            have e := sSm_ok h''.1.1 m2
            have u1 : (k1 : Int) = se ρ o1 := u1
            omega
          have e2 : n1 = x.toNatClampNeg := by
            have e := sSm_ok h''.1.1 m3
            have u2 : (n1 : Int) = se ρ i1 := u2
            omega
          rw [e1, e2, g3] at this
          exact sHit_0 (sR_push h'' this wf.2.2)
        · cases hs
          have hb := sebd_ok (i := j) h''.1 g2 (c2.trans hx) hlt
          refine sR_read h'' (z := (f x.toNatClampNeg).toInt) hb ⟨_, rfl, rfl⟩ w2 w ⟨o', x.toNatClampNeg, ho, c2.trans hx, hrow, hlt, ?_⟩
          rw [g3]
          exact ⟨_, rfl, rfl⟩
      refine ⟨fun e => ⟨_, _, _, s1 ?_, hit⟩, fun e => ⟨_, _, _, s2 ?_, hit⟩⟩
      · rcases hty with q | ⟨q, q'⟩
        · rw [Nat.eq_of_beq_eq_true q, e]
        · have := Nat.eq_of_beq_eq_true q'
          omega
      · rcases hty with q | ⟨q, q'⟩
        · exact Or.inl (by rw [Nat.eq_of_beq_eq_true q, e])
        · exact Or.inr (Nat.eq_of_beq_eq_true q)
  · rename_i q1 j t n T'
    cases hc : (Nat.beq t ty && (sge0 K j && sge0 K (ssub (sP1 n) j))) with
    | false => rw [hc] at hs; cases hs
    | true =>
      rw [hc] at hs
      have hs := Option.some.inj hs
      simp only [Bool.and_eq_true] at hc
      obtain ⟨hty, hj0, hj1⟩ := hc
      have hty := Nat.eq_of_beq_eq_true hty
      obtain ⟨v, r0, rfl, ⟨x, rfl, hx⟩, w, h'⟩ := sR_pop h
      obtain ⟨v2, r2, rfl, ⟨k, n', rfl, hn, hsh⟩, w2, h''⟩ := sR_pop h'
      have hx : x.toInt = se ρ j := hx
      have hn : (n' : Int) = se ρ n := hn
      have p0 := sge0_ok h.1 hj0
      have p1 := sge0_ok h.1 hj1
      rw [se_sub, se_P1] at p1
      have fin : ∀ y : Int32, sHit Qs ρ K.1.length outs (pc + 1) ls (.int y :: r2) M := by
        intro y
        rw [← hs]
        have h2 := sR_fresh h'' (sr32 y)
        have hl : (sfresh K sI32.1 sI32.2).1.length = K.1.length + 1 := List.length_append
        exact sHit_1 supd_agr (by dsimp only; rw [hl]; exact Nat.le_succ _) (sR_push (v := .int y) (a := (0, 0, sS K.1.length)) h2 ⟨y, rfl, by show y.toInt = se _ (sS K.1.length); rw [se_S]; exact supd_self.symm⟩ (by show swE _ _; rw [hl]; exact swE_S (Nat.lt_succ_self _)))
      obtain ⟨r, o', hsk, rfl, rfl⟩ := sAr_ok hsh
      obtain ⟨f, g1, g2, g3⟩ := sMem_row h''.2.2.2.2.2.2.1 hsk
      obtain ⟨s1, s2⟩ := sld_row (X := X) (ls := ls) (r := r2) (own := own) (pc := pc) (ini := ini) (sSh_lt hsk) g1 (j := x) (by rw [hx]; exact p0) (by omega)
      exact ⟨fun e => ⟨_, _, _, s1 (hty.trans e), fin _⟩, fun e => ⟨_, _, _, s2 (Or.inl (hty.trans e)), fin _⟩⟩
  · rename_i q1 j q e T'
    cases hty : Nat.beq ty 1 with
    | false => rw [hty] at hs; cases hs
    | true =>
      rw [hty] at hs
      have hty := Nat.eq_of_beq_eq_true hty
      obtain ⟨v, r0, rfl, ⟨x, rfl, hx⟩, w, h'⟩ := sR_pop h
      obtain ⟨v2, r2, rfl, ⟨rfl, hq⟩, w2, h''⟩ := sR_pop h'
      have hx : x.toInt = se ρ j := hx
      obtain ⟨l1, l2, l3⟩ := zstat_some hq
      have st : 0 ≤ x.toInt → x.toInt ≤ 171 → zs1 X own ini pc ls (.int x :: .ref (1000000 + q) :: r2) M .baload = some (pc + 1, ls, .int ((sstt q).getD x.toNatClampNeg 0) :: r2, M) := by
        intro u1 u2
        obtain ⟨c1, c2⟩ := sclamp u1
        simp only [zs1, l1]
        rw [if_neg]
        rintro (u | u)
        · exact c1 u
        · rw [l2] at u
          omega
      refine ⟨fun e => absurd (hty.symm.trans e) (by decide), fun _ => ?_⟩
      dsimp only [cond] at hs
      split at hs
      · rename_i c hc
        cases h0 : (spos c && Nat.blt c.toNat 172) with
        | false => rw [h0] at hs; cases hs
        | true =>
          rw [h0] at hs
          cases hs
          rw [Bool.and_eq_true] at h0
          have c0 := spos_ok h0.1
          have c1 : c.toNat < 172 := sbltt h0.2
          have ec := scon_ok h.1.1 hc
          obtain ⟨d1, d2⟩ := sclamp (j := x) (by omega)
          have d3 : x.toNatClampNeg = c.toNat := by omega
          have := st (by omega) (by omega)
          rw [d3] at this
          exact ⟨_, _, _, this, sHit_0 (sR_push (v := .int ((sstt q).getD c.toNat 0)) (a := (0, 0, sC ((sstt q).getD c.toNat 0).toInt)) h'' ⟨_, rfl, (se_C _).symm⟩ (swE_C _))⟩
      · cases h0 : (sge0 K j && sge0 K (ssub (sC 171) j)) with
        | false => rw [h0] at hs; cases hs
        | true =>
          rw [h0] at hs
          cases hs
          rw [Bool.and_eq_true] at h0
          have p0 := sge0_ok h.1 h0.1
          have p1 := sge0_ok h.1 h0.2
          rw [se_sub, se_C] at p1
          have h2 := sR_fresh h'' (lo := 0) (hi := 10) (l3 x.toNatClampNeg)
          have hl : (sfresh K 0 10).1.length = K.1.length + 1 := List.length_append
          exact ⟨_, _, _, st (by omega) (by omega), sHit_1 supd_agr (by dsimp only; rw [hl]; exact Nat.le_succ _) (sR_push (v := .int ((sstt q).getD x.toNatClampNeg 0)) (a := (0, 0, sS K.1.length)) h2 ⟨_, rfl, by show _ = se _ (sS K.1.length); rw [se_S]; exact supd_self.symm⟩ (by show swE _ _; rw [hl]; exact swE_S (Nat.lt_succ_self _)))⟩
  · cases hs
end SGA
/-- a row's length; a reference out of a row; constants -/
def srdM (own pc : Nat) (A : sA) (i : Instr) : Option (List (Nat × sA)) := match A with
  | (K, D, F, Q, L, T) => match i with
    | .getfield x => sgetf own pc x (K, D, F, Q, L, T)
    | .iaload => sgeta pc 0 (K, D, F, Q, L, T)
    | .baload => sgeta pc 1 (K, D, F, Q, L, T)
    | .arraylength => (match T with
      | a :: T' => (match salen a with
        | some n => some [(pc + 1, K, D, F, Q, L, (0, 0, n) :: T')]
        | none => none)
      | _ => none)
    | .aaload => (match T with
      | (0, _, j) :: (8, t, o) :: T' => cond (sge0 K j && sge0 K (ssub (sC ((sRr t).2.2.2.2.1 - 1 : Int)) j)) (some [(pc + 1, K, D, F, Q, L, (3, (sRr t).2.2.2.2.2.2.2, sadd (sadd o (sC (sRr t).2.2.2.2.2.1)) (smul (sRr t).2.2.2.2.2.2.1 j)) :: T')]) none
      | _ => none)
    | .ldc x => (match zlk own x with
      | some (5, a, _, _) => some [(pc + 2, K, D, F, Q, L, (0, 0, sC (Int32.ofNat a).toInt) :: T)]
      | some (7, a, _, _) => cond (Nat.blt a 13) (some [(pc + 2, K, D, F, Q, L, (6, a, sC 0) :: T)]) none
      | _ => none)
    | .ldc_w x => (match zlk own x with
      | some (5, a, _, _) => some [(pc + 3, K, D, F, Q, L, (0, 0, sC (Int32.ofNat a).toInt) :: T)]
      | some (7, a, _, _) => cond (Nat.blt a 13) (some [(pc + 3, K, D, F, Q, L, (6, a, sC 0) :: T)]) none
      | _ => none)
    | .ldc2_w x => (match zlk own x with
      | some (6, a, _, _) => some [(pc + 3, K, D, F, Q, L, (1, 0, sC (Int64.ofNat a).toInt) :: T)]
      | _ => none)
    | .getstatic x => (match zlk own x with
      | some (8, a, _, _) => cond (Nat.beq a 13 || (Nat.beq a 14 || Nat.beq a 15)) (some [(pc + 3, K, D, F, Q, L, (12, a, sC 0) :: T)]) none
      | _ => none)
    | _ => none
section SRM
variable {Qs : Nat → List Int → zM → Prop} {ρ : Nat → Int} {ls : zL} {st : List Value} {M : zM} {X : zX}
theorem salen_ok {M : zM} (h : sMem M) {v : Value} {a : sV} {n : sE} (hv : sVal ρ v a) (hs : salen a = some n) : ∃ (k ty m : Nat) (x : (Nat → Int32) ⊕ (Nat → Int64) ⊕ (Nat → UInt32) ⊕ (Nat → UInt64) ⊕ (Nat → Option Nat)), v = .ref k ∧ k ≠ 1000016 ∧ (m : Int) = se ρ n ∧ m ≤ 300000 ∧ zob M k = some (.inl (ty, m, x)) := by
  obtain ⟨t, q, e⟩ := a
  unfold salen at hs
  split at hs
  · rename_i heq
    cases heq
    cases hs
    obtain ⟨k, o, rfl, ho, hsh⟩ := hv
    have hsh : sSh k = some (1, q, o) := hsh
    obtain ⟨f, g1, -, -⟩ := sMem_row h hsh
    have := sSh_lt hsh
    exact ⟨k, _, srln q, _, rfl, fun q => by rw [q] at this; revert this; decide, (se_C _).symm, srln_le _, g1⟩
  · rename_i heq
    cases heq
    cases hs
    obtain ⟨k, m, rfl, ho, hsh⟩ := hv
    have ho : (m : Int) = se ρ n := ho
    have hsh : sAr k = some (q, m) := hsh
    have hle := sAr_le hsh
    obtain ⟨r, o', hsk, rfl, rfl⟩ := sAr_ok hsh
    obtain ⟨f, g1, -, -⟩ := sMem_row h hsk
    have := sSh_lt hsk
    exact ⟨k, _, _, _, rfl, fun q => by rw [q] at this; revert this; decide, ho, hle, g1⟩
  · rename_i heq
    cases heq
    cases hs
    obtain ⟨k, o, rfl, ho, hsh⟩ := hv
    have hsh : sSh k = some (2, q, o) := hsh
    obtain ⟨f, g1, -⟩ := sMem_rr h hsh
    have := sSh_lt hsh
    have hb : (sRr q).2.2.2.2.1 ≤ 300000 := by
      have := sSh_all (p := fun k x => match x with
        | (2, q, o) => Nat.ble (sRr q).2.2.2.2.1 300000
        | _ => true) (by decide +kernel) hsh
      exact Nat.le_of_ble_eq_true this
    exact ⟨k, _, _, _, rfl, fun q => by rw [q] at this; revert this; decide, (se_C _).symm, hb, g1⟩
  · cases hs
theorem srdM_ok {A : sA} (h : sR Qs ρ A ls st M) {own pc : Nat} {ini : Bool} {i : Instr} {outs : List (Nat × sA)} (hs : srdM own pc A i = some outs) : ∃ pc' ls' st', zs1 X own ini pc ls st M i = some (pc', ls', st', M) ∧ sHit Qs ρ A.1.1.length outs pc' ls' st' M := by
  obtain ⟨K, D, F, Q, L, T⟩ := A
  unfold srdM at hs
  dsimp only at hs
  split at hs
  · exact sgetf_ok h hs
  · exact (sgeta_ok h hs).1 rfl
  · exact (sgeta_ok h hs).2 rfl
  · split at hs
    · rename_i a T'
      split at hs
      · rename_i n hn
        cases hs
        obtain ⟨v, r, rfl, hv, w, h'⟩ := sR_pop h
        obtain ⟨k, ty, m, x, rfl, k1, hm, hle, hz⟩ := salen_ok h'.2.2.2.2.2.2.1 hv hn
        have wn : swE K.1.length n := by
          obtain ⟨t, q, e⟩ := a
          unfold salen at hn
          split at hn
          · cases hn; exact swE_C _
          · rename_i heq
            cases heq
            cases hn
            exact w
          · cases hn; exact swE_C _
          · cases hn
        have tI : (Int32.ofNat m).toInt = (m : Int) := Int32.toInt_ofNat_of_lt (by omega)
        refine ⟨pc + 1, ls, .int (Int32.ofNat m) :: r, ?_, sHit_0 (sR_push (v := .int (Int32.ofNat m)) (a := (0, 0, n)) h' ⟨_, rfl, by rw [tI]; exact hm⟩ wn)⟩
        simp only [zs1, hz]
        rw [if_neg k1]
      · cases hs
    · cases hs
  · split at hs
    · rename_i q1 j t o T'
      cases hc : (sge0 K j && sge0 K (ssub (sC ((sRr t).2.2.2.2.1 - 1 : Int)) j)) with
      | false => rw [hc] at hs; cases hs
      | true =>
        rw [hc] at hs
        have hs := Option.some.inj hs
        rw [Bool.and_eq_true] at hc
        obtain ⟨v, r0, rfl, ⟨x, rfl, hx⟩, w, h'⟩ := sR_pop h
        obtain ⟨v2, r2, rfl, ⟨k, o', rfl, ho, hsh⟩, w2, h''⟩ := sR_pop h'
        have hx : x.toInt = se ρ j := hx
        have ho : (o' : Int) = se ρ o := ho
        have hsh : sSh k = some (2, t, o') := hsh
        have w : swE K.1.length j := w
        have w2 : swE K.1.length o := w2
        have p0 := sge0_ok h.1 hc.1
        have p1 := sge0_ok h.1 hc.2
        rw [se_sub, se_C] at p1
        obtain ⟨f, g1, g2⟩ := sMem_rr h''.2.2.2.2.2.2.1 hsh
        obtain ⟨g3, g4⟩ := sSh_rr hsh
        obtain ⟨c1, c2⟩ := sclamp (j := x) (by rw [hx]; exact p0)
        have hlt : x.toNatClampNeg < (sRr t).2.2.2.2.1 := by omega
        have hc : ¬ ((sRr t).2.2.2.1 < 3 ∨ x < 0 ∨ (sRr t).2.2.2.2.1 ≤ x.toNatClampNeg) := by
          rintro (q | q | q)
          · omega
          · exact c1 q
          · omega
        refine ⟨pc + 1, ls, .ref (o' + (sRr t).2.2.2.2.2.1 + (sRr t).2.2.2.2.2.2.1 * x.toNatClampNeg) :: r2, ?_, ?_⟩
        · simp only [zs1, g1]
          rw [if_neg hc, g2 _ hlt]
          rfl
        · rw [← hs]
          refine sHit_0 (sR_push (v := .ref (o' + (sRr t).2.2.2.2.2.1 + (sRr t).2.2.2.2.2.2.1 * x.toNatClampNeg)) h'' ⟨_, rfl, ?_, g3 _ hlt⟩ (swE_add (swE_add w2 (swE_C _)) (swE_mul w)))
          show _ = se ρ (sadd (sadd o (sC (sRr t).2.2.2.2.2.1)) (smul (sRr t).2.2.2.2.2.2.1 j))
          rw [se_add, se_add, se_C, se_mul, ← hx, ← c2, ← ho, Int.natCast_add, Int.natCast_add, Int.natCast_mul]
    · cases hs
  · split at hs
    · rename_i a b c hlk
      cases hs
      exact ⟨_, _, _, by simp only [zs1, hlk], sHit_0 (sR_push (v := .int (Int32.ofNat a)) (a := (0, 0, sC (Int32.ofNat a).toInt)) h ⟨_, rfl, (se_C _).symm⟩ (swE_C _))⟩
    · rename_i a b c hlk
      cases hq : Nat.blt a 13 with
      | false => rw [hq] at hs; cases hs
      | true =>
        rw [hq] at hs
        cases hs
        exact ⟨_, _, _, by simp only [zs1, hlk], sHit_0 (sR_push (v := .ref (1000000 + a)) (a := (6, a, sC 0)) h ⟨rfl, Nat.le_of_ble_eq_true hq⟩ (swE_C _))⟩
    · cases hs
  · split at hs
    · rename_i a b c hlk
      cases hs
      exact ⟨_, _, _, by simp only [zs1, hlk], sHit_0 (sR_push (v := .int (Int32.ofNat a)) (a := (0, 0, sC (Int32.ofNat a).toInt)) h ⟨_, rfl, (se_C _).symm⟩ (swE_C _))⟩
    · rename_i a b c hlk
      cases hq : Nat.blt a 13 with
      | false => rw [hq] at hs; cases hs
      | true =>
        rw [hq] at hs
        cases hs
        exact ⟨_, _, _, by simp only [zs1, hlk], sHit_0 (sR_push (v := .ref (1000000 + a)) (a := (6, a, sC 0)) h ⟨rfl, Nat.le_of_ble_eq_true hq⟩ (swE_C _))⟩
    · cases hs
  · split at hs
    · rename_i a b c hlk
      cases hs
      exact ⟨_, _, _, by simp only [zs1, hlk], sHit_0 (sR_push (v := .long (Int64.ofNat a)) (a := (1, 0, sC (Int64.ofNat a).toInt)) h ⟨_, rfl, (se_C _).symm⟩ (swE_C _))⟩
    · cases hs
  · split at hs
    · rename_i a b c hlk
      cases hq : (Nat.beq a 13 || (Nat.beq a 14 || Nat.beq a 15)) with
      | false => rw [hq] at hs; cases hs
      | true =>
        rw [hq] at hs
        cases hs
        simp only [Bool.or_eq_true] at hq
        have hq : a = 13 ∨ a = 14 ∨ a = 15 := hq.imp Nat.eq_of_beq_eq_true (fun q => q.imp Nat.eq_of_beq_eq_true Nat.eq_of_beq_eq_true)
        refine ⟨_, _, _, by simp only [zs1, hlk]; rw [if_pos hq], sHit_0 (sR_push (v := .ref (1000000 + a)) (a := (12, a, sC 0)) h ⟨rfl, hq⟩ (swE_C _))⟩
    · cases hs
  · cases hs
end SRM
