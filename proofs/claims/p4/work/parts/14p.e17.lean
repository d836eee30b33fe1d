/-! THE ENGINE, 17: what a contract says, and how it is matched -/
def tsbT (τ : List sE) : sT → sE
  | [] => (0, [])
  | t :: l => sadd (smul t.2 (τ.getD t.1 (sC 0))) (tsbT τ l)
def tsb (τ : List sE) (e : sE) : sE := sadd (sC e.1) (tsbT τ e.2)
/-- the meaning of a contract's symbols -/
def tmn (σ : Nat → Int) (τ : List sE) : Nat → Int := fun x => se σ (τ.getD x (sC 0))
theorem se_sbT {σ : Nat → Int} {τ : List sE} : ∀ l : sT, se σ (tsbT τ l) = sv (tmn σ τ) l
  | [] => rfl
  | t :: l => by
    unfold tsbT
    rw [se_add, se_mul, se_sbT l]
    rfl
theorem se_sb {σ : Nat → Int} {τ : List sE} (e : sE) : se σ (tsb τ e) = se (tmn σ τ) e := by
  unfold tsb
  rw [se_add, se_C, se_sbT]
  rfl
theorem tget_wf {n : Nat} {τ : List sE} (h : ∀ e ∈ τ, swE n e) (x : Nat) : swE n (τ.getD x (sC 0)) := by
  rw [List.getD_eq_getElem?_getD]
  cases hq : τ[x]? with
  | none => exact swE_C 0
  | some e => exact h e (List.mem_of_getElem? hq)
theorem swE_sb {n : Nat} {τ : List sE} (h : ∀ e ∈ τ, swE n e) (e : sE) : swE n (tsb τ e) := by
  refine swE_add (swE_C _) ?_
  generalize e.2 = l
  induction l with
  | nil => intro t ht; cases ht
  | cons t l ih => exact swE_add (swE_mul (tget_wf h _)) ih
/-- where a symbol's value comes from: (0, local), (1, class, field, object), (2, role, _, owner, place); what it is: tag, what, offset, stride, bounds -/
abbrev sBn : Type := (Nat × Nat × Nat × sE × sE) × (Nat × Nat × sE × Int × Int × Int)
/-- a value seen as one that says less -/
def tco (tag : Nat) (a : sV) : sV := match tag, a with
  | 5, (4, r, _) => (5, srty r, sC (srln r))
  | 9, _ => (9, 0, sC 0)
  | 11, (t, q, e) => cond (srf t) (11, 0, sC 0) (t, q, e)
  | _, a => a
theorem tco_ok {ρ : Nat → Int} {v : Value} {a : sV} (tag : Nat) (h : sVal ρ v a) {n : Nat} (w : swV n a) : sVal ρ v (tco tag a) ∧ swV n (tco tag a) := by
  unfold tco
  split
  · obtain ⟨k, o, rfl, ho, hsh⟩ := h
    exact ⟨⟨k, _, rfl, (se_C _).symm, sAr_row hsh⟩, swE_C _⟩
  · exact ⟨trivial, swE_C _⟩
  · rename_i t q e
    cases hc : srf t with
    | false => exact ⟨h, w⟩
    | true => exact ⟨srf_ok (a := (t, q, e)) h hc, swE_C _⟩
  · exact ⟨h, w⟩
/-- symbols of one value put in -/
def scfs (B : sB) : sT → sE
  | [] => (0, [])
  | t :: l => cond (siz ((sbd B t.1).1 - (sbd B t.1).2)) ((scfs B l).1 + t.2 * (sbd B t.1).1, (scfs B l).2) ((scfs B l).1, t :: (scfs B l).2)
def scf (B : sB) (e : sE) : sE := (e.1 + (scfs B e.2).1, (scfs B e.2).2)
theorem scfs_ok {ρ : Nat → Int} {B : sB} (h : sok ρ B) : ∀ l : sT, se ρ (scfs B l) = sv ρ l ∧ ∀ t ∈ (scfs B l).2, t ∈ l
  | [] => ⟨Int.add_zero 0, fun _ q => q⟩
  | t :: l => by
    obtain ⟨h1, h2⟩ := scfs_ok h l
    have h1 : (scfs B l).1 + sv ρ (scfs B l).2 = sv ρ l := h1
    unfold scfs
    cases hc : siz ((sbd B t.1).1 - (sbd B t.1).2) with
    | true =>
      have c := siz_0 hc
      have b := h t.1
      have e : ρ t.1 = (sbd B t.1).1 := by omega
      refine ⟨?_, fun u hu => List.mem_cons_of_mem _ (h2 u hu)⟩
      show (scfs B l).1 + t.2 * (sbd B t.1).1 + sv ρ (scfs B l).2 = t.2 * ρ t.1 + sv ρ l
      rw [e]
      omega
    | false =>
      refine ⟨?_, fun u hu => ?_⟩
      · show (scfs B l).1 + (t.2 * ρ t.1 + sv ρ (scfs B l).2) = t.2 * ρ t.1 + sv ρ l
        omega
      · rcases List.mem_cons.mp hu with q | q
        · rw [q]; exact List.mem_cons_self
        · exact List.mem_cons_of_mem _ (h2 u q)
theorem scf_ok {ρ : Nat → Int} {B : sB} (h : sok ρ B) (e : sE) : se ρ (scf B e) = se ρ e := by
  have h1 : (scfs B e.2).1 + sv ρ (scfs B e.2).2 = sv ρ e.2 := (scfs_ok h e.2).1
  show e.1 + (scfs B e.2).1 + sv ρ (scfs B e.2).2 = e.1 + sv ρ e.2
  omega
def tdw (B : sB) (k : Int) (e : sE) : Option sE := match tdv k e with
  | some x => some x
  | none => tdv k (scf B e)
theorem tdw_ok {ρ : Nat → Int} {B : sB} (hB : sok ρ B) {k : Int} {e x : sE} (h : tdw B k e = some x) : k * se ρ x = se ρ e ∧ ∀ n, swE n e → swE n x := by
  unfold tdw at h
  cases hc : tdv k e with
  | some y => rw [hc] at h; cases h; exact tdv_ok hc
  | none =>
    rw [hc] at h
    obtain ⟨h1, h2⟩ := tdv_ok (ρ := ρ) h
    refine ⟨h1.trans (scf_ok hB e), fun n w => h2 n fun t ht => w t ((scfs_ok hB e.2).2 t ht)⟩
def tmv (K : sK) (τ : List sE) (b : Nat × Nat × sE × Int × Int × Int) (a : sV) : Option sE := cond (Nat.beq a.1 b.1 && Nat.beq a.2.1 b.2.1) (match (cond (siz b.2.2.2.1) (cond (sSm K.1 a.2.2 (tsb τ b.2.2.1)) (some (sC 0)) none) (tdw K.1 b.2.2.2.1 (ssub a.2.2 (tsb τ b.2.2.1)))) with
  | some x => cond (sin_ K x b.2.2.2.2) (some x) none
  | none => none) none
/-- what the symbol of number n stands for in its place -/
def tbV (n : Nat) (b : Nat × Nat × sE × Int × Int × Int) : sV := (b.1, b.2.1, sadd b.2.2.1 (smul b.2.2.2.1 (sS n)))
theorem tmv_ok {σ : Nat → Int} {K : sK} (hK : skok σ K) {τ : List sE} {n : Nat} (hτ : ∀ e ∈ τ, swE n e) {b : Nat × Nat × sE × Int × Int × Int} {a : sV} {x : sE} (wa : swV n a) (h : tmv K τ b a = some x) : swE n x ∧ sRn b.2.2.2.2 (se σ x) ∧ a.1 = b.1 ∧ a.2.1 = b.2.1 ∧ se σ a.2.2 = se (tmn σ τ) b.2.2.1 + b.2.2.2.1 * se σ x := by
  unfold tmv at h
  cases hc : (Nat.beq a.1 b.1 && Nat.beq a.2.1 b.2.1) with
  | false => rw [hc] at h; cases h
  | true =>
    rw [hc] at h
    rw [Bool.and_eq_true] at hc
    dsimp only [cond] at h
    split at h
    · rename_i y hy
      cases hs : sin_ K y b.2.2.2.2 with
      | false => rw [hs] at h; cases h
      | true =>
        rw [hs] at h
        cases h
        refine ⟨?_, sin_ok hK hs, Nat.eq_of_beq_eq_true hc.1, Nat.eq_of_beq_eq_true hc.2, ?_⟩
        · cases hz : siz b.2.2.2.1 with
          | true =>
            rw [hz] at hy
            cases hm : sSm K.1 a.2.2 (tsb τ b.2.2.1) with
            | false => rw [hm] at hy; cases hy
            | true => rw [hm] at hy; cases hy; exact swE_C _
          | false =>
            rw [hz] at hy
            exact (tdw_ok hK.1 hy).2 n (swE_sub wa (swE_sb hτ _))
        · cases hz : siz b.2.2.2.1 with
          | true =>
            rw [hz] at hy
            cases hm : sSm K.1 a.2.2 (tsb τ b.2.2.1) with
            | false => rw [hm] at hy; cases hy
            | true =>
              rw [hm] at hy
              cases hy
              have h1 := sSm_ok hK.1 hm
              rw [se_sb] at h1
              rw [h1, siz_0 hz, Int.zero_mul, Int.add_zero]
          | false =>
            rw [hz] at hy
            have h1 := (tdw_ok hK.1 hy).1
            rw [se_sub, se_sb] at h1
            omega
    · cases h
/-- an object that there is, as one that is known to be lies to it -/
def svo1 (K : sK) (c1 : Nat) (o1 : sE) (c : Nat) (o : sE) : Bool := (match scon K.1 (ssub o o1) with
  | some d => (Nat.beq c1 c && siz d) || sOfL.any fun x => Nat.beq x.1 c1 && (siz (x.2.1 - d) && Nat.beq x.2.2 c)
  | none => false) || (Nat.beq c1 1 && (Nat.beq c 8 && (match tdv 7 (ssub (ssub o o1) (sC 63)) with
  | some x => sge0 K x && sge0 K (ssub (sC 3) x)
  | none => false)))
theorem svo1_ok {σ : Nat → Int} {K : sK} (h : skok σ K) {c1 c k1 : Nat} {o1 o : sE} (h1 : sSh k1 = some (0, c1, 0)) (hk : (k1 : Int) = se σ o1) (hs : svo1 K c1 o1 c o = true) : ∃ k : Nat, (k : Int) = se σ o ∧ sSh k = some (0, c, 0) := by
  unfold svo1 at hs
  rw [Bool.or_eq_true] at hs
  rcases hs with hs | hs
  · split at hs
    · rename_i d hd
      have e := scon_ok h.1 hd
      rw [se_sub] at e
      rw [Bool.or_eq_true, Bool.and_eq_true, List.any_eq_true] at hs
      rcases hs with ⟨a1, a2⟩ | ⟨x, x1, x2⟩
      · have a2 := siz_0 a2
        exact ⟨k1, by omega, by rw [h1, (Nat.eq_of_beq_eq_true a1 : c1 = c)]⟩
      · simp only [Bool.and_eq_true] at x2
        obtain ⟨b1, b2, b3⟩ := x2
        have b1 := Nat.eq_of_beq_eq_true b1
        have b2 := siz_0 b2
        have b3 := Nat.eq_of_beq_eq_true b3
        subst b1 b3
        obtain ⟨q, q1, q2⟩ := sOf_ok x1 h1
        exact ⟨q, by omega, q2⟩
    · cases hs
  · simp only [Bool.and_eq_true] at hs
    obtain ⟨a1, a2, a3⟩ := hs
    have a1 := Nat.eq_of_beq_eq_true a1
    have a2 := Nat.eq_of_beq_eq_true a2
    subst a1 a2
    split at a3
    · rename_i x hx
      obtain ⟨e, -⟩ := tdv_ok (ρ := σ) hx
      rw [se_sub, se_sub, se_C] at e
      rw [Bool.and_eq_true] at a3
      have p1 := sge0_ok h a3.1
      have p2 := sge0_ok h a3.2
      rw [se_sub, se_C] at p2
      refine ⟨k1 + 63 + 7 * (se σ x).toNat, by omega, sSh_task h1 (by omega)⟩
    · cases a3
def svo (K : sK) (args : List (Nat × sV)) (c : Nat) (o : sE) : Bool := args.any fun p => Nat.beq p.2.1 3 && svo1 K p.2.2.1 p.2.2.2 c o
/-- a field, a number of a row is looked up, or read -/
def tfF (args : List (Nat × sV)) (K : sK) (F : List sF) (c j : Nat) (o : sE) : Option (sK × List sF × sV) := match sffF K.1 c j o F with
  | some a => some (K, F, a)
  | none => cond (svo K args c o && Nat.blt j (sFk c).length) (match (sFk c).getD j (9, 0, 0) with
    | (0, lo, hi) => some (sfresh K lo hi, (0, c, j, o, sC 0, (0, 0, sS K.1.length)) :: F, (0, 0, sS K.1.length))
    | (1, _, _) => some (sfresh K sI64.1 sI64.2, (0, c, j, o, sC 0, (1, 0, sS K.1.length)) :: F, (1, 0, sS K.1.length))
    | (6, _, _) => some (sfresh K 0 300000, (0, c, j, o, sC 0, (5, 1, sS K.1.length)) :: F, (5, 1, sS K.1.length))
    | (5, c2, _) => some (sfresh K (sNm c2.toNat).1 (sNm c2.toNat).2, (0, c, j, o, sC 0, (3, c2.toNat, sS K.1.length)) :: F, (3, c2.toNat, sS K.1.length))
    | _ => none) none
def tfR (args : List (Nat × sV)) (K : sK) (F : List sF) (r : Nat) (o i : sE) : Option (sK × List sF × sV) := match sffR K.1 r o i F with
  | some a => some (K, F, a)
  | none => cond (svo K args (sRo r).1 o && (sge0 K i && (sge0 K (ssub (sC (srln r - 1 : Int)) i) && Nat.blt r 69))) (some (sfresh K (sebd K r i).1 (sebd K r i).2, (1, r, 0, o, i, (0, 0, sS K.1.length)) :: F, (0, 0, sS K.1.length))) none
/-- the row of an object that there is -/
theorem sSh_rowof {k r : Nat} (h : sSh k = some (0, (sRo r).1, 0)) (hr : r < 69) : sSh (k + soff r) = some (1, r, k) := by
  have e := sSh_all (p := fun k x => match x with
    | (0, c, 0) => (List.range 69).all fun r => !(Nat.beq (sRo r).1 c) || (match sSh (k + soff r) with
      | some (1, r', k') => Nat.beq r' r && Nat.beq k' k
      | _ => false)
    | _ => true) (by decide +kernel) h
  have e2 := List.all_eq_true.mp e r (List.mem_range.mpr hr)
  rw [Bool.or_eq_true] at e2
  rcases e2 with e2 | e2
  · exact absurd rfl (sbeqf e2)
  · split at e2
    · rename_i r' k' hq
      rw [Bool.and_eq_true] at e2
      rw [hq, Nat.eq_of_beq_eq_true e2.1, Nat.eq_of_beq_eq_true e2.2]
    · cases e2
section TF
variable {Qs : Nat → List Int → zM → Prop} {ρ : Nat → Int} {K : sK} {D : List sD} {F : List sF} {Q : List sQ} {L : List (Nat × sV)} {T : List sV} {ls : zL} {st : List Value} {M : zM}
/-- a fact more, of a symbol more -/
theorem sR_more (h : sR Qs ρ (K, D, F, Q, L, T) ls st M) {d c j t q : Nat} {o i : sE} {lo hi z : Int} (hz : lo ≤ z ∧ z ≤ hi) (wo : swE K.1.length o) (wi : swE K.1.length i) (hf : sFacE (se ρ o) (se ρ i) z M d c j t q) : sR Qs (supd ρ K.1.length z) (sfresh K lo hi, D, (d, c, j, o, i, (t, q, sS K.1.length)) :: F, Q, L, T) ls st M := by
  have h2 := sR_fresh h hz
  have hl : (sfresh K lo hi).1.length = K.1.length + 1 := List.length_append
  have ws : swE (sfresh K lo hi).1.length (sS K.1.length) := by rw [hl]; exact swE_S (Nat.lt_succ_self _)
  have es : se (supd ρ K.1.length z) (sS K.1.length) = z := by rw [se_S]; exact supd_self
  have hle : K.1.length ≤ (sfresh K lo hi).1.length := by rw [hl]; exact Nat.le_succ _
  refine sR_fact (f := (d, c, j, o, i, (t, q, sS K.1.length))) h2 ?_ ⟨wo.le hle, wi.le hle, ws⟩
  show sFacE (se _ o) (se _ i) (se _ (sS K.1.length)) M d c j t q
  rw [se_agr supd_agr wo, se_agr supd_agr wi, es]
  exact hf
/-- what a look-up gives: a state that says as much, with the fact in it -/
def tAns (Qs : Nat → List Int → zM → Prop) (ρ : Nat → Int) (n : Nat) (D : List sD) (Q : List sQ) (L : List (Nat × sV)) (T : List sV) (ls : zL) (st : List Value) (M : zM) (d c j : Nat) (o i : sE) (p : sK × List sF × sV) : Prop := ∃ σ, sagr n ρ σ ∧ n ≤ p.1.1.length ∧ sR Qs σ (p.1, D, p.2.1, Q, L, T) ls st M ∧ swV p.1.1.length p.2.2 ∧ sFacE (se σ o) (se σ i) (se σ p.2.2.2.2) M d c j p.2.2.1 p.2.2.2.1
theorem tAns_more (h : sR Qs ρ (K, D, F, Q, L, T) ls st M) {d c j t q : Nat} {o i : sE} {lo hi z : Int} (hz : lo ≤ z ∧ z ≤ hi) (wo : swE K.1.length o) (wi : swE K.1.length i) (hf : sFacE (se ρ o) (se ρ i) z M d c j t q) : tAns Qs ρ K.1.length D Q L T ls st M d c j o i (sfresh K lo hi, (d, c, j, o, i, (t, q, sS K.1.length)) :: F, (t, q, sS K.1.length)) := by
  have hl : (sfresh K lo hi).1.length = K.1.length + 1 := List.length_append
  refine ⟨supd ρ K.1.length z, supd_agr, by dsimp only; rw [hl]; exact Nat.le_succ _, sR_more h hz wo wi hf, by show swE _ _; dsimp only; rw [hl]; exact swE_S (Nat.lt_succ_self _), ?_⟩
  show sFacE (se _ o) (se _ i) (se _ (sS K.1.length)) M d c j t q
  rw [se_agr supd_agr wo, se_agr supd_agr wi, se_S, supd_self]
  exact hf
/-- what is given has its values -/
def tAr (ρ : Nat → Int) (n : Nat) (la : zL) (args : List (Nat × sV)) : Prop := ∀ p ∈ args, swV n p.2 ∧ ∃ v, zget la p.1 = some v ∧ sVal ρ v p.2
theorem tAr.to {la : zL} {ρ σ : Nat → Int} {n m : Nat} {args : List (Nat × sV)} (h : tAr ρ n la args) (ha : sagr n ρ σ) (hm : n ≤ m) : tAr σ m la args := fun p hp => by
  obtain ⟨h1, v, h2, h3⟩ := h p hp
  exact ⟨swE.le h1 hm, v, h2, sVal_agr ha h1 h3⟩
theorem svo_ok {σ : Nat → Int} {K : sK} {la : zL} {args : List (Nat × sV)} {n c : Nat} {o : sE} (h : skok σ K) (ha : tAr σ n la args) (hs : svo K args c o = true) : ∃ k : Nat, (k : Int) = se σ o ∧ sSh k = some (0, c, 0) := by
  obtain ⟨p, hp, h2⟩ := List.any_eq_true.mp hs
  rw [Bool.and_eq_true] at h2
  obtain ⟨-, v, -, hv⟩ := ha p hp
  obtain ⟨i, t, q, e⟩ := p
  have ht := Nat.eq_of_beq_eq_true h2.1
  dsimp only at ht
  subst ht
  obtain ⟨k, -, hk, hsh⟩ := hv
  exact svo1_ok h hsh hk h2.2
theorem tfF_ok (h : sR Qs ρ (K, D, F, Q, L, T) ls st M) {la : zL} {args : List (Nat × sV)} {n : Nat} (ha : tAr ρ n la args) {c j : Nat} {o : sE} (wo : swE K.1.length o) {p : sK × List sF × sV} (hs : tfF args K F c j o = some p) : tAns Qs ρ K.1.length D Q L T ls st M 0 c j o (sC 0) p := by
  unfold tfF at hs
  split at hs
  · rename_i a ha
    cases hs
    obtain ⟨o', i', m1, m2⟩ := sffF_ok ha
    refine ⟨ρ, fun _ _ => rfl, Nat.le_refl _, h, (h.2.2.2.2.2.2.2.2.2.1 _ m1).2.2, ?_⟩
    obtain ⟨k, k1, k2, k3⟩ := h.2.2.1 _ m1
    exact ⟨k, k1.trans (sSm_ok h.1.1 m2), k2, k3⟩
  · cases hj : (svo K args c o && Nat.blt j (sFk c).length) with
    | false => rw [hj] at hs; cases hs
    | true =>
      rw [hj] at hs
      rw [Bool.and_eq_true] at hj
      obtain ⟨k, hk, hsh⟩ := svo_ok h.1 ha hj.1
      have hj : j < (sFk c).length := sbltt hj.2
      have hM := h.2.2.2.2.2.2.1
      obtain ⟨fs, g1, g2, g3, g4⟩ := sMem_ob hM hsh
      have hF := g3 j hj
      have mk : ∀ {lo hi z : Int} {t q : Nat}, lo ≤ z ∧ z ≤ hi → sValE z (fs.getD j .null) t q → tAns Qs ρ K.1.length D Q L T ls st M 0 c j o (sC 0) (sfresh K lo hi, (0, c, j, o, sC 0, (t, q, sS K.1.length)) :: F, (t, q, sS K.1.length)) := fun hz hv => tAns_more h hz wo (swE_C _) ⟨k, hk, hsh, by rw [g4]; exact hv⟩
      dsimp only [cond] at hs
      split at hs
      · rename_i lo hi hk0
        cases hs
        rw [hk0] at hF
        obtain ⟨x, hx, x1, x2⟩ := hF
        exact mk (z := x.toInt) ⟨x1, x2⟩ ⟨x, hx, rfl⟩
      · rename_i a b hk0
        cases hs
        rw [hk0] at hF
        obtain ⟨x, hx⟩ := hF
        exact mk (z := x.toInt) (sr64 x) ⟨x, hx, rfl⟩
      · rename_i a b hk0
        cases hs
        rw [hk0] at hF
        obtain ⟨q, n, hq, q2⟩ := hF
        have := sAr_le q2
        exact mk (z := n) ⟨by omega, by omega⟩ ⟨q, n, hq, rfl, q2⟩
      · rename_i c2 d hk0
        cases hs
        rw [hk0] at hF
        obtain ⟨q, hq, q2⟩ := hF
        have := sNm_ok q2
        exact mk (z := q) ⟨by omega, by omega⟩ ⟨q, hq, rfl, q2⟩
      · cases hs
theorem tfR_ok (h : sR Qs ρ (K, D, F, Q, L, T) ls st M) {la : zL} {args : List (Nat × sV)} {n : Nat} (ha : tAr ρ n la args) {r : Nat} {o i : sE} (wo : swE K.1.length o) (wi : swE K.1.length i) {p : sK × List sF × sV} (hs : tfR args K F r o i = some p) : tAns Qs ρ K.1.length D Q L T ls st M 1 r 0 o i p := by
  unfold tfR at hs
  split at hs
  · rename_i a ha
    cases hs
    obtain ⟨j', o', i', m1, m2, m3⟩ := sffR_ok ha
    refine ⟨ρ, fun _ _ => rfl, Nat.le_refl _, h, (h.2.2.2.2.2.2.2.2.2.1 _ m1).2.2, ?_⟩
    obtain ⟨k, n, k1, k2, k3⟩ := h.2.2.1 _ m1
    exact ⟨k, n, k1.trans (sSm_ok h.1.1 m2), k2.trans (sSm_ok h.1.1 m3), k3⟩
  · cases hj : (svo K args (sRo r).1 o && (sge0 K i && (sge0 K (ssub (sC (srln r - 1 : Int)) i) && Nat.blt r 69))) with
    | false => rw [hj] at hs; cases hs
    | true =>
      rw [hj] at hs
      cases hs
      simp only [Bool.and_eq_true] at hj
      obtain ⟨j1, j2, j3, j4⟩ := hj
      obtain ⟨k, hk, hsh⟩ := svo_ok h.1 ha j1
      have p1 := sge0_ok h.1 j2
      have p2 := sge0_ok h.1 j3
      rw [se_sub, se_C] at p2
      have hrow := sSh_rowof hsh (sbltt j4)
      have hM := h.2.2.2.2.2.2.1
      obtain ⟨f, g1, g2, g3⟩ := sMem_row hM hrow
      have hn : ((se ρ i).toNat : Int) = se ρ i := Int.toNat_of_nonneg p1
      have hl : (se ρ i).toNat < srln r := by omega
      have hb := sebd_ok (i := i) h.1 g2 hn hl
      exact tAns_more h (z := (f (se ρ i).toNat).toInt) hb wo wi ⟨k, (se ρ i).toNat, hk, hn, hrow, hl, by rw [g3]; exact ⟨_, rfl, rfl⟩⟩
end TF
