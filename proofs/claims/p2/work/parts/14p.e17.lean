/-! THE ENGINE, 17: what a contract says, and how it is matched -/
def tsbT (τ : List sE) : sT → sE
  | [] => (0, [])
  | t :: l => sadd (smul t.2 (τ.getD t.1 (sC 0))) (tsbT τ l)
def tsb (τ : List sE) (e : sE) : sE := sadd (sC e.1) (tsbT τ e.2)
/-- the meaning of a contract's symbols -/
def tmn (σ : Nat → Int) (τ : List sE) : Nat → Int := fun x => se σ (τ.getD x (sC 0))
theorem se_sbT {σ : Nat → Int} {τ : List sE} : ∀ l : sT, se σ (tsbT τ l) = sv (tmn σ τ) l
  | [] => rfl
  | t :: l => by
    unfold tsbT
    rw [se_add, se_mul, se_sbT l]
    rfl
theorem se_sb {σ : Nat → Int} {τ : List sE} (e : sE) : se σ (tsb τ e) = se (tmn σ τ) e := by
  unfold tsb
  rw [se_add, se_C, se_sbT]
  rfl
theorem tget_wf {n : Nat} {τ : List sE} (h : ∀ e ∈ τ, swE n e) (x : Nat) : swE n (τ.getD x (sC 0)) := by
  rw [List.getD_eq_getElem?_getD]
  cases hq : τ[x]? with
  | none => exact swE_C 0
  | some e => exact h e (List.mem_of_getElem? hq)
theorem swE_sb {n : Nat} {τ : List sE} (h : ∀ e ∈ τ, swE n e) (e : sE) : swE n (tsb τ e) := by
  refine swE_add (swE_C _) ?_
  generalize e.2 = l
  induction l with
  | nil => intro t ht; cases ht
  | cons t l ih => exact swE_add (swE_mul (tget_wf h _)) ih
def tdv (k : Int) (e : sE) : Option sE := cond (siz (e.1 % k) && (e.2.all fun t => siz (t.2 % k))) (some (e.1 / k, e.2.map fun t => (t.1, t.2 / k))) none
theorem tdv_ok {ρ : Nat → Int} {k : Int} {e x : sE} (h : tdv k e = some x) : k * se ρ x = se ρ e ∧ ∀ n, swE n e → swE n x := by
  unfold tdv at h
  cases hq : (siz (e.1 % k) && (e.2.all fun t => siz (t.2 % k))) with
  | false => rw [hq] at h; cases h
  | true =>
    rw [hq] at h
    cases h
    rw [Bool.and_eq_true] at hq
    have h1 : k * (e.1 / k) = e.1 := Int.mul_ediv_cancel' (Int.dvd_of_emod_eq_zero (siz_0 hq.1))
    have h2 : ∀ l : sT, (l.all fun t => siz (t.2 % k)) = true → k * sv ρ (l.map fun t => (t.1, t.2 / k)) = sv ρ l := by
      intro l
      induction l with
      | nil => intro _; exact Int.mul_zero k
      | cons t l ih =>
        intro hl
        rw [List.all_cons, Bool.and_eq_true] at hl
        show k * (t.2 / k * ρ t.1 + sv ρ (l.map fun t => (t.1, t.2 / k))) = t.2 * ρ t.1 + sv ρ l
        rw [Int.mul_add, ih hl.2, ← Int.mul_assoc, Int.mul_ediv_cancel' (Int.dvd_of_emod_eq_zero (siz_0 hl.1))]
    refine ⟨?_, fun n hn t ht => ?_⟩
    · show k * (e.1 / k + sv ρ (e.2.map fun t => (t.1, t.2 / k))) = e.1 + sv ρ e.2
      rw [Int.mul_add, h1, h2 _ hq.2]
    · obtain ⟨q, q1, rfl⟩ := List.mem_map.mp ht
      exact hn q q1
/-- where a symbol's value comes from: (0, local), (1, class, field, object), (2, role, _, owner, place); what it is: tag, what, offset, stride, bounds -/
abbrev sBn : Type := (Nat × Nat × Nat × sE × sE) × (Nat × Nat × sE × Int × Int × Int)
/-- a value seen as one that says less -/
def tco (tag : Nat) (a : sV) : sV := match tag, a with
  | 5, (4, r, _) => (5, srty r, sC (srln r))
  | 9, _ => (9, 0, sC 0)
  | 11, (t, q, e) => cond (srf t) (11, 0, sC 0) (t, q, e)
  | _, a => a
theorem tco_ok {ρ : Nat → Int} {v : Value} {a : sV} (tag : Nat) (h : sVal ρ v a) {n : Nat} (w : swV n a) : sVal ρ v (tco tag a) ∧ swV n (tco tag a) := by
  unfold tco
  split
  · obtain ⟨k, o, rfl, ho, hsh⟩ := h
    exact ⟨⟨k, _, rfl, (se_C _).symm, sAr_row hsh⟩, swE_C _⟩
  · exact ⟨trivial, swE_C _⟩
  · rename_i t q e
    cases hc : srf t with
    | false => exact ⟨h, w⟩
    | true => exact ⟨srf_ok (a := (t, q, e)) h hc, swE_C _⟩
  · exact ⟨h, w⟩
def tmv (K : sK) (τ : List sE) (b : Nat × Nat × sE × Int × Int × Int) (a : sV) : Option sE := cond (Nat.beq a.1 b.1 && Nat.beq a.2.1 b.2.1) (match (cond (siz b.2.2.2.1) (cond (sSm K.1 a.2.2 (tsb τ b.2.2.1)) (some (sC 0)) none) (tdv b.2.2.2.1 (ssub a.2.2 (tsb τ b.2.2.1)))) with
  | some x => cond (sin_ K x b.2.2.2.2) (some x) none
  | none => none) none
/-- what the symbol of number n stands for in its place -/
def tbV (n : Nat) (b : Nat × Nat × sE × Int × Int × Int) : sV := (b.1, b.2.1, sadd b.2.2.1 (smul b.2.2.2.1 (sS n)))
theorem tmv_ok {σ : Nat → Int} {K : sK} (hK : skok σ K) {τ : List sE} {n : Nat} (hτ : ∀ e ∈ τ, swE n e) {b : Nat × Nat × sE × Int × Int × Int} {a : sV} {x : sE} (wa : swV n a) (h : tmv K τ b a = some x) : swE n x ∧ sRn b.2.2.2.2 (se σ x) ∧ a.1 = b.1 ∧ a.2.1 = b.2.1 ∧ se σ a.2.2 = se (tmn σ τ) b.2.2.1 + b.2.2.2.1 * se σ x := by
  unfold tmv at h
  cases hc : (Nat.beq a.1 b.1 && Nat.beq a.2.1 b.2.1) with
  | false => rw [hc] at h; cases h
  | true =>
    rw [hc] at h
    rw [Bool.and_eq_true] at hc
    dsimp only [cond] at h
    split at h
    · rename_i y hy
      cases hs : sin_ K y b.2.2.2.2 with
      | false => rw [hs] at h; cases h
      | true =>
        rw [hs] at h
        cases h
        refine ⟨?_, sin_ok hK hs, Nat.eq_of_beq_eq_true hc.1, Nat.eq_of_beq_eq_true hc.2, ?_⟩
        · cases hz : siz b.2.2.2.1 with
          | true =>
            rw [hz] at hy
            cases hm : sSm K.1 a.2.2 (tsb τ b.2.2.1) with
            | false => rw [hm] at hy; cases hy
            | true => rw [hm] at hy; cases hy; exact swE_C _
          | false =>
            rw [hz] at hy
            exact (tdv_ok (ρ := σ) hy).2 n (swE_sub wa (swE_sb hτ _))
        · cases hz : siz b.2.2.2.1 with
          | true =>
            rw [hz] at hy
            cases hm : sSm K.1 a.2.2 (tsb τ b.2.2.1) with
            | false => rw [hm] at hy; cases hy
            | true =>
              rw [hm] at hy
              cases hy
              have h1 := sSm_ok hK.1 hm
              rw [se_sb] at h1
              rw [h1, siz_0 hz, Int.zero_mul, Int.add_zero]
          | false =>
            rw [hz] at hy
            have h1 := (tdv_ok (ρ := σ) hy).1
            rw [se_sub, se_sb] at h1
            omega
    · cases h
/-- a field, a number of a row is looked up, or read -/
def tfF (K : sK) (F : List sF) (c j : Nat) (o : sE) : Option (sK × List sF × sV) := match sffF K.1 c j o F with
  | some a => some (K, F, a)
  | none => cond (Nat.blt j (sFk c).length) (match (sFk c).getD j (9, 0, 0) with
    | (0, lo, hi) => cond (spos (hi - lo)) (some (sfresh K lo hi, (0, c, j, o, sC 0, (0, 0, sS K.1.length)) :: F, (0, 0, sS K.1.length))) none
    | (1, _, _) => some (sfresh K sI64.1 sI64.2, (0, c, j, o, sC 0, (1, 0, sS K.1.length)) :: F, (1, 0, sS K.1.length))
    | (6, _, _) => some (sfresh K 0 300000, (0, c, j, o, sC 0, (5, 1, sS K.1.length)) :: F, (5, 1, sS K.1.length))
    | (5, c2, _) => some (sfresh K 0 486, (0, c, j, o, sC 0, (3, c2.toNat, sS K.1.length)) :: F, (3, c2.toNat, sS K.1.length))
    | _ => none) none
def tfR (K : sK) (F : List sF) (r : Nat) (o i : sE) : Option (sK × List sF × sV) := match sffR K.1 r o i F with
  | some a => some (K, F, a)
  | none => cond (spos ((sebd K r i).2 - (sebd K r i).1)) (some (sfresh K (sebd K r i).1 (sebd K r i).2, (1, r, 0, o, i, (0, 0, sS K.1.length)) :: F, (0, 0, sS K.1.length))) none
section TF
variable {Qs : Nat → List Int → zM → Prop} {ρ : Nat → Int} {K : sK} {D : List sD} {F : List sF} {Q : List sQ} {L : List (Nat × sV)} {T : List sV} {ls : zL} {st : List Value} {M : zM}
/-- a fact more, of a symbol more -/
theorem sR_more (h : sR Qs ρ (K, D, F, Q, L, T) ls st M) {d c j t q : Nat} {o i : sE} {lo hi z : Int} (hz : lo ≤ z ∧ z ≤ hi) (wo : swE K.1.length o) (wi : swE K.1.length i) (hf : sFacE (se ρ o) (se ρ i) z M d c j t q) : sR Qs (supd ρ K.1.length z) (sfresh K lo hi, D, (d, c, j, o, i, (t, q, sS K.1.length)) :: F, Q, L, T) ls st M := by
  have h2 := sR_fresh h hz
  have hl : (sfresh K lo hi).1.length = K.1.length + 1 := List.length_append
  have ws : swE (sfresh K lo hi).1.length (sS K.1.length) := by rw [hl]; exact swE_S (Nat.lt_succ_self _)
  have es : se (supd ρ K.1.length z) (sS K.1.length) = z := by rw [se_S]; exact supd_self
  have hle : K.1.length ≤ (sfresh K lo hi).1.length := by rw [hl]; exact Nat.le_succ _
  refine sR_fact (f := (d, c, j, o, i, (t, q, sS K.1.length))) h2 ?_ ⟨wo.le hle, wi.le hle, ws⟩
  show sFacE (se _ o) (se _ i) (se _ (sS K.1.length)) M d c j t q
  rw [se_agr supd_agr wo, se_agr supd_agr wi, es]
  exact hf
/-- what a look-up gives: a state that says as much, with the fact in it -/
def tAns (Qs : Nat → List Int → zM → Prop) (ρ : Nat → Int) (n : Nat) (D : List sD) (Q : List sQ) (L : List (Nat × sV)) (T : List sV) (ls : zL) (st : List Value) (M : zM) (d c j : Nat) (o i : sE) (p : sK × List sF × sV) : Prop := ∃ σ, sagr n ρ σ ∧ n ≤ p.1.1.length ∧ sR Qs σ (p.1, D, p.2.1, Q, L, T) ls st M ∧ swV p.1.1.length p.2.2 ∧ sFacE (se σ o) (se σ i) (se σ p.2.2.2.2) M d c j p.2.2.1 p.2.2.2.1
theorem tAns_more (h : sR Qs ρ (K, D, F, Q, L, T) ls st M) {d c j t q : Nat} {o i : sE} {lo hi z : Int} (hz : lo ≤ z ∧ z ≤ hi) (wo : swE K.1.length o) (wi : swE K.1.length i) (hf : sFacE (se ρ o) (se ρ i) z M d c j t q) : tAns Qs ρ K.1.length D Q L T ls st M d c j o i (sfresh K lo hi, (d, c, j, o, i, (t, q, sS K.1.length)) :: F, (t, q, sS K.1.length)) := by
  have hl : (sfresh K lo hi).1.length = K.1.length + 1 := List.length_append
  refine ⟨supd ρ K.1.length z, supd_agr, by dsimp only; rw [hl]; exact Nat.le_succ _, sR_more h hz wo wi hf, by show swE _ _; dsimp only; rw [hl]; exact swE_S (Nat.lt_succ_self _), ?_⟩
  show sFacE (se _ o) (se _ i) (se _ (sS K.1.length)) M d c j t q
  rw [se_agr supd_agr wo, se_agr supd_agr wi, se_S, supd_self]
  exact hf
theorem tfF_ok (h : sR Qs ρ (K, D, F, Q, L, T) ls st M) {c j : Nat} {o : sE} (wo : swE K.1.length o) {p : sK × List sF × sV} (hs : tfF K F c j o = some p) : tAns Qs ρ K.1.length D Q L T ls st M 0 c j o (sC 0) p := by
  unfold tfF at hs
  split at hs
  · rename_i a ha
    cases hs
    obtain ⟨o', i', m1, m2⟩ := sffF_ok ha
    refine ⟨ρ, fun _ _ => rfl, Nat.le_refl _, h, (h.2.2.2.2.2.2.2.2.2.1 _ m1).2.2, fun k q1 q2 => ?_⟩
    exact h.2.2.1 _ m1 k (q1.trans (sSm_ok h.1.1 m2).symm) q2
  · cases hj : Nat.blt j (sFk c).length with
    | false => rw [hj] at hs; cases hs
    | true =>
      rw [hj] at hs
      have hj : j < (sFk c).length := sbltt hj
      have hM := h.2.2.2.2.2.2.1
      by_cases hq : ∃ k : Nat, (k : Int) = se ρ o ∧ sSh k = some (0, c, 0)
      · obtain ⟨k, hk, hsh⟩ := hq
        obtain ⟨fs, g1, g2, g3, g4⟩ := sMem_ob hM hsh
        have hF := g3 j hj
        have uniq : ∀ k' : Nat, (k' : Int) = se ρ o → k' = k := fun k' q => by omega
        have mk : ∀ {lo hi z : Int} {t q : Nat}, lo ≤ z ∧ z ≤ hi → sValE z (fs.getD j .null) t q → tAns Qs ρ K.1.length D Q L T ls st M 0 c j o (sC 0) (sfresh K lo hi, (0, c, j, o, sC 0, (t, q, sS K.1.length)) :: F, (t, q, sS K.1.length)) := fun hz hv => tAns_more h hz wo (swE_C _) (fun k' q1 _ => by
          rw [uniq k' q1, g4]
          exact hv)
        dsimp only [cond] at hs
        split at hs
        · rename_i lo hi hk0
          cases hsp : spos (hi - lo) with
          | false => rw [hsp] at hs; cases hs
          | true =>
            rw [hsp] at hs
            cases hs
            rw [hk0] at hF
            obtain ⟨x, hx, x1, x2⟩ := hF
            exact mk (z := x.toInt) ⟨x1, x2⟩ ⟨x, hx, rfl⟩
        · rename_i a b hk0
          cases hs
          rw [hk0] at hF
          obtain ⟨x, hx⟩ := hF
          exact mk (z := x.toInt) (sr64 x) ⟨x, hx, rfl⟩
        · rename_i a b hk0
          cases hs
          rw [hk0] at hF
          obtain ⟨q, n, hq, q2⟩ := hF
          have := sAr_le q2
          exact mk (z := n) ⟨by omega, by omega⟩ ⟨q, n, hq, rfl, q2⟩
        · rename_i c2 d hk0
          cases hs
          rw [hk0] at hF
          obtain ⟨q, hq, q2⟩ := hF
          have := sSh_lt q2
          exact mk (z := q) ⟨by omega, by omega⟩ ⟨q, hq, rfl, q2⟩
        · cases hs
      · have no : ∀ {z : Int} {t q : Nat}, sFacE (se ρ o) (se ρ (sC 0)) z M 0 c j t q := fun k q1 q2 => absurd ⟨k, q1, q2⟩ hq
        dsimp only [cond] at hs
        split at hs
        · rename_i lo hi hk0
          cases hsp : spos (hi - lo) with
          | false => rw [hsp] at hs; cases hs
          | true =>
            rw [hsp] at hs
            cases hs
            exact tAns_more h (z := lo) ⟨Int.le_refl _, by have := spos_ok hsp; omega⟩ wo (swE_C _) no
        · cases hs
          exact tAns_more h (z := 0) ⟨by decide, by decide⟩ wo (swE_C _) no
        · cases hs
          exact tAns_more h (z := 0) ⟨by decide, by decide⟩ wo (swE_C _) no
        · cases hs
          exact tAns_more h (z := 0) ⟨by decide, by decide⟩ wo (swE_C _) no
        · cases hs
theorem tfR_ok (h : sR Qs ρ (K, D, F, Q, L, T) ls st M) {r : Nat} {o i : sE} (wo : swE K.1.length o) (wi : swE K.1.length i) {p : sK × List sF × sV} (hs : tfR K F r o i = some p) : tAns Qs ρ K.1.length D Q L T ls st M 1 r 0 o i p := by
  unfold tfR at hs
  split at hs
  · rename_i a ha
    cases hs
    obtain ⟨j', o', i', m1, m2, m3⟩ := sffR_ok ha
    refine ⟨ρ, fun _ _ => rfl, Nat.le_refl _, h, (h.2.2.2.2.2.2.2.2.2.1 _ m1).2.2, fun k n q1 q2 q3 q4 => ?_⟩
    exact h.2.2.1 _ m1 k n (q1.trans (sSm_ok h.1.1 m2).symm) (q2.trans (sSm_ok h.1.1 m3).symm) q3 q4
  · cases hsp : spos ((sebd K r i).2 - (sebd K r i).1) with
    | false => rw [hsp] at hs; cases hs
    | true =>
      rw [hsp] at hs
      cases hs
      have hM := h.2.2.2.2.2.2.1
      by_cases hq : ∃ k n : Nat, (k : Int) = se ρ o ∧ (n : Int) = se ρ i ∧ sSh (k + soff r) = some (1, r, k) ∧ n < srln r
      · obtain ⟨k, n, hk, hn, hsh, hl⟩ := hq
        obtain ⟨f, g1, g2, g3⟩ := sMem_row hM hsh
        have hb := sebd_ok (i := i) h.1 g2 hn hl
        refine tAns_more h (z := (f n).toInt) hb wo wi (fun k' n' q1 q2 _ _ => ?_)
        have e1 : k' = k := by omega
        have e2 : n' = n := by omega
        rw [e1, e2, g3]
        exact ⟨_, rfl, rfl⟩
      · exact tAns_more h (z := (sebd K r i).1) ⟨Int.le_refl _, by have := spos_ok hsp; omega⟩ wo wi (fun k n q1 q2 q3 q4 => absurd ⟨k, n, q1, q2, q3, q4⟩ hq)
end TF
