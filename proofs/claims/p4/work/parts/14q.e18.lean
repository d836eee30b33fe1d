/-! THE ENGINE, 18: the matching of a whole contract -/
/-- a ghost: the k-th expression of the first predicate of number n -/
def tgh (n k : Nat) : List sQ → Option sE
  | [] => none
  | q :: l => cond (Nat.beq q.1 n) (match q.2[k]? with
    | some e => some e
    | none => tgh n k l) (tgh n k l)
theorem tgh_wf {m n k : Nat} {e : sE} : ∀ {Q : List sQ}, (∀ q ∈ Q, ∀ e ∈ q.2, swE m e) → tgh n k Q = some e → swE m e
  | [], _, h => by cases h
  | q :: l, w, h => by
    have wl : ∀ q ∈ l, ∀ e ∈ q.2, swE m e := fun p hp => w p (List.mem_cons_of_mem _ hp)
    unfold tgh at h
    cases hc : Nat.beq q.1 n with
    | false => rw [hc] at h; exact tgh_wf wl h
    | true =>
      rw [hc] at h
      dsimp only [cond_true] at h
      cases hq : q.2[k]? with
      | none => rw [hq] at h; exact tgh_wf wl h
      | some u =>
        rw [hq] at h
        cases h
        exact w q List.mem_cons_self _ (List.mem_of_getElem? hq)
def tsrc (args : List (Nat × sV)) (τ : List sE) (Q : List sQ) (K : sK) (F : List sF) (b : sBn) : Option (sK × List sF × sV) := match b.1 with
  | (0, a, _, _, _) => (match sgl args a with
    | some v => some (K, F, tco b.2.1 v)
    | none => none)
  | (1, c, j, o, _) => tfF args K F c j (tsb τ o)
  | (2, r, _, o, i) => tfR args K F r (tsb τ o) (tsb τ i)
  | (3, n, k, o, _) => some (K, F, (0, 0, (tgh n k Q).getD (tsb τ o)))
  | _ => none
def tloc (τ : List sE) (b : sBn) : sLc := match b.1 with
  | (1, c, j, o, _) => (0, c, j, tsb τ o, sC 0)
  | (2, r, _, o, i) => (1, r, 0, tsb τ o, tsb τ i)
  | _ => slc4
/-- what is learnt of a fact that is new -/
def tlr (lrn : sK → List sF → sLc → List sE) (τ : List sE) (b : sBn) (F : List sF) (p : sK × List sF × sV) : sK := cond (Nat.blt F.length p.2.1.length) (match sasm (lrn p.1 p.2.1 (tloc τ b)) p.1 with
  | some K => K
  | none => p.1) p.1
def tmt (lrn : sK → List sF → sLc → List sE) (args : List (Nat × sV)) (Q : List sQ) : List sBn → sK → List sF → List sE → Option (sK × List sF × List sE)
  | [], K, F, τ => some (K, F, τ)
  | b :: bs, K, F, τ => match tsrc args τ Q K F b with
    | some p => (match tmv (tlr lrn τ b F p) τ b.2 p.2.2 with
      | some x => tmt lrn args Q bs (tlr lrn τ b F p) p.2.1 (τ ++ [x])
      | none => none)
    | none => none
/-- the facts and locals of a contract -/
def tF (n : Nat) (b : sBn) : List sF := match b.1 with
  | (1, c, j, o, _) => [(0, c, j, o, sC 0, tbV n b.2)]
  | (2, r, _, o, i) => [(1, r, 0, o, i, tbV n b.2)]
  | _ => []
def tL (n : Nat) (b : sBn) : List (Nat × sV) := match b.1 with
  | (0, a, _, _, _) => [(a, tbV n b.2)]
  | _ => []
def tFs : Nat → List sBn → List sF
  | _, [] => []
  | n, b :: bs => tF n b ++ tFs (n + 1) bs
def tLs : Nat → List sBn → List (Nat × sV)
  | _, [] => []
  | n, b :: bs => tL n b ++ tLs (n + 1) bs
def tB (bs : List sBn) : sB := bs.map fun b => b.2.2.2.2.2
def tBd (μ : Nat → Int) : Nat → List sBn → Prop
  | _, [] => True
  | n, b :: bs => sRn b.2.2.2.2.2 (μ n) ∧ tBd μ (n + 1) bs
/-- only symbols that there are -/
def twE (n : Nat) (e : sE) : Bool := e.2.all fun t => Nat.blt t.1 n
theorem twE_ok {n : Nat} {e : sE} (h : twE n e = true) : swE n e := fun t ht => Nat.le_of_ble_eq_true (List.all_eq_true.mp h t ht)
def twB : Nat → List sBn → Bool
  | _, [] => true
  | n, b :: bs => (twE n b.1.2.2.2.1 && (twE n b.1.2.2.2.2 && twE n b.2.2.2.1)) && twB (n + 1) bs
theorem tmn_app {σ : Nat → Int} {τ xs : List sE} : sagr τ.length (tmn σ τ) (tmn σ (τ ++ xs)) := by
  intro x hx
  unfold tmn
  rw [List.getD_eq_getElem?_getD, List.getElem?_append_left hx, ← List.getD_eq_getElem?_getD]
theorem tmn_agr {ρ σ : Nat → Int} {n : Nat} (h : sagr n ρ σ) {τ : List sE} (hτ : ∀ e ∈ τ, swE n e) : tmn σ τ = tmn ρ τ := by
  funext x
  exact se_agr h (tget_wf hτ x)
section TMT
variable {Qs : Nat → List Int → zM → Prop} {D : List sD} {Q : List sQ} {L : List (Nat × sV)} {T : List sV} {ls la : zL} {st : List Value} {M : zM}
/-- what is learnt holds -/
def tLrn (Qs : Nat → List Int → zM → Prop) (D : List sD) (Q : List sQ) (L : List (Nat × sV)) (T : List sV) (ls : zL) (st : List Value) (M : zM) (lrn : sK → List sF → sLc → List sE) : Prop := ∀ (σ : Nat → Int) (K : sK) (F : List sF) (lc : sLc), sR Qs σ (K, D, F, Q, L, T) ls st M → ∀ e ∈ lrn K F lc, swE K.1.length e ∧ 0 ≤ se σ e
theorem tlr_ok {lrn : sK → List sF → sLc → List sE} (HL : tLrn Qs D Q L T ls st M lrn) {σ : Nat → Int} {τ : List sE} {b : sBn} {F : List sF} {p : sK × List sF × sV} (h : sR Qs σ (p.1, D, p.2.1, Q, L, T) ls st M) : sR Qs σ (tlr lrn τ b F p, D, p.2.1, Q, L, T) ls st M ∧ (tlr lrn τ b F p).1.length = p.1.1.length := by
  unfold tlr
  cases Nat.blt F.length p.2.1.length with
  | false => exact ⟨h, rfl⟩
  | true =>
    have hl := HL σ p.1 p.2.1 (tloc τ b) h
    obtain ⟨K', k1, k2, k3⟩ := sR_asm h (fun e he => (hl e he).1) (fun e he => (hl e he).2)
    dsimp only [cond]
    rw [k1]
    exact ⟨k3, k2⟩
theorem tmt_ok {lrn : sK → List sF → sLc → List sE} (HL : tLrn Qs D Q L T ls st M lrn) {args : List (Nat × sV)} : ∀ (bs : List sBn) (ρ : Nat → Int) (K : sK) (F : List sF) (τ : List sE) (K' : sK) (F' : List sF) (τ' : List sE), sR Qs ρ (K, D, F, Q, L, T) ls st M → (∀ e ∈ τ, swE K.1.length e) → tAr ρ K.1.length la args → twB τ.length bs = true → tmt lrn args Q bs K F τ = some (K', F', τ') →
    ∃ σ, sagr K.1.length ρ σ ∧ K.1.length ≤ K'.1.length ∧ sR Qs σ (K', D, F', Q, L, T) ls st M ∧ (∃ xs, τ' = τ ++ xs ∧ xs.length = bs.length) ∧ (∀ e ∈ τ', swE K'.1.length e) ∧ tBd (tmn σ τ') τ.length bs ∧ (∀ f ∈ tFs τ.length bs, sFac (tmn σ τ') M f) ∧ (∀ p ∈ tLs τ.length bs, ∃ v, zget la p.1 = some v ∧ sVal (tmn σ τ') v p.2) := by
  intro bs
  induction bs with
  | nil =>
    intro ρ K F τ K' F' τ' h hτ _ _ hs
    cases hs
    exact ⟨ρ, fun _ _ => rfl, Nat.le_refl _, h, ⟨[], (List.append_nil _).symm, rfl⟩, hτ, trivial, fun f hf => (by cases hf), fun p hp => (by cases hp)⟩
  | cons b bs ih =>
    intro ρ K F τ K' F' τ' h hτ hargs hw hs
    unfold tmt at hs
    split at hs
    · rename_i p hp
      split at hs
      · rename_i x hx
        unfold twB at hw
        simp only [Bool.and_eq_true] at hw
        obtain ⟨⟨hw1, hw2, hw3⟩, hw4⟩ := hw
        have hw1 := twE_ok hw1
        have hw2 := twE_ok hw2
        have hw3 := twE_ok hw3
        -- the source: a state that goes on, and what is known of the value
        obtain ⟨σ1, a1, a2, a3, a4, a5⟩ : ∃ σ1, sagr K.1.length ρ σ1 ∧ K.1.length ≤ p.1.1.length ∧ sR Qs σ1 (p.1, D, p.2.1, Q, L, T) ls st M ∧ swV p.1.1.length p.2.2 ∧ (match b.1 with
            | (0, a, _, _, _) => ∃ v, zget la a = some v ∧ sVal σ1 v p.2.2
            | (1, c, j, o, _) => sFacE (se σ1 (tsb τ o)) (se σ1 (sC 0)) (se σ1 p.2.2.2.2) M 0 c j p.2.2.1 p.2.2.2.1
            | (2, r, _, o, i) => sFacE (se σ1 (tsb τ o)) (se σ1 (tsb τ i)) (se σ1 p.2.2.2.2) M 1 r 0 p.2.2.1 p.2.2.2.1
            | (3, _, _, _, _) => True
            | _ => True) := by
          unfold tsrc at hp
          split at hp
          · rename_i a q1 q2 q3 heq
            split at hp
            · rename_i v0 hv0
              cases hp
              obtain ⟨q, q1, q2, q3⟩ := sgl_mem hv0
              obtain ⟨g1, v, g2, g3⟩ := hargs q q1
              rw [q2] at g1 g3
              rw [q3] at g2
              obtain ⟨g4, g5⟩ := tco_ok b.2.1 g3 g1
              exact ⟨ρ, fun _ _ => rfl, Nat.le_refl _, h, g5, v, g2, g4⟩
            · cases hp
          · rename_i c j o q3 heq
            obtain ⟨σ1, g1, g2, g3, g4, g5⟩ := tfF_ok h hargs (swE_sb hτ _) hp
            exact ⟨σ1, g1, g2, g3, g4, g5⟩
          · rename_i r q1 o i heq
            obtain ⟨σ1, g1, g2, g3, g4, g5⟩ := tfR_ok h hargs (swE_sb hτ _) (swE_sb hτ _) hp
            exact ⟨σ1, g1, g2, g3, g4, g5⟩
          · rename_i n k o q3 heq
            cases hp
            refine ⟨ρ, fun _ _ => rfl, Nat.le_refl _, h, ?_, trivial⟩
            show swE K.1.length ((tgh n k Q).getD (tsb τ o))
            cases hg : tgh n k Q with
            | none => exact swE_sb hτ _
            | some e => exact tgh_wf h.2.2.2.2.2.2.2.2.2.2.1 hg
          · cases hp
        obtain ⟨a3, hlk⟩ := tlr_ok HL (τ := τ) (b := b) (F := F) a3
        rw [← hlk] at a2 a4
        have hτ1 : ∀ e ∈ τ, swE (tlr lrn τ b F p).1.length e := fun e he => (hτ e he).le a2
        obtain ⟨x1, x2, x3, x4, x5⟩ := tmv_ok a3.1 hτ1 a4 hx
        have hτ2 : ∀ e ∈ τ ++ [x], swE (tlr lrn τ b F p).1.length e := fun e he => by
          rcases List.mem_append.mp he with q | q
          · exact hτ1 e q
          · rw [List.mem_singleton.mp q]; exact x1
        have hl : (τ ++ [x]).length = τ.length + 1 := by rw [List.length_append]; rfl
        obtain ⟨σ, b1, b2, b3, ⟨xs, b4, b5⟩, b6, b7, b8, b9⟩ := ih σ1 (tlr lrn τ b F p) p.2.1 (τ ++ [x]) K' F' τ' a3 hτ2 (hargs.to a1 a2) (by rw [hl]; exact hw4) hs
        rw [hl] at b7 b8 b9
        have ha : sagr K.1.length ρ σ := fun y hy => (b1 y (Nat.lt_of_lt_of_le hy a2)).trans (a1 y hy)
        have hτ' : τ' = τ ++ ([x] ++ xs) := by rw [b4, List.append_assoc]
        have hμ : sagr τ.length (tmn σ τ) (tmn σ τ') := by rw [hτ']; exact tmn_app
        have hμx : tmn σ τ' τ.length = se σ x := by
          unfold tmn
          rw [hτ', List.getD_eq_getElem?_getD, List.getElem?_append_right (Nat.le_refl _), Nat.sub_self]
          rfl
        have hσx : se σ x = se σ1 x := se_agr b1 x1
        have hoff : ∀ {e : sE}, swE τ.length e → se (tmn σ τ') e = se σ1 (tsb τ e) := fun {e} w => by
          rw [se_agr hμ w, ← se_sb]
          exact se_agr b1 (swE_sb hτ1 _)
        have hval : se (tmn σ τ') (tbV τ.length b.2).2.2 = se σ1 p.2.2.2.2 := by
          show se (tmn σ τ') (sadd b.2.2.2.1 (smul b.2.2.2.2.1 (sS τ.length))) = _
          rw [se_add, se_mul, se_S, hμx, hσx, hoff hw3, x5, se_sb]
        have hp1 : (tbV τ.length b.2).1 = p.2.2.1 := x3.symm
        have hp2 : (tbV τ.length b.2).2.1 = p.2.2.2.1 := x4.symm
        refine ⟨σ, ha, Nat.le_trans a2 b2, b3, ⟨[x] ++ xs, hτ', by rw [List.length_append, b5]; exact Nat.add_comm _ _⟩, b6, ⟨by rw [hμx, hσx]; exact x2, b7⟩, fun f hf => ?_, fun q hq => ?_⟩
        · rcases List.mem_append.mp hf with hf | hf
          · unfold tF at hf
            split at hf
            · rename_i c j o q3 heq
              rw [heq] at a5 hw1 hw2
              rw [List.mem_singleton.mp hf]
              show sFacE (se _ o) (se _ (sC 0)) (se _ (tbV τ.length b.2).2.2) M 0 c j (tbV τ.length b.2).1 (tbV τ.length b.2).2.1
              rw [hval, hp1, hp2, hoff hw1, se_C]
              have a5 : sFacE (se σ1 (tsb τ o)) (se σ1 (sC 0)) (se σ1 p.2.2.2.2) M 0 c j p.2.2.1 p.2.2.2.1 := a5
              rw [se_C] at a5
              exact a5
            · rename_i r q1 o i heq
              rw [heq] at a5 hw1 hw2
              rw [List.mem_singleton.mp hf]
              show sFacE (se _ o) (se _ i) (se _ (tbV τ.length b.2).2.2) M 1 r 0 (tbV τ.length b.2).1 (tbV τ.length b.2).2.1
              rw [hval, hp1, hp2, hoff hw1, hoff hw2]
              exact a5
            · cases hf
          · exact b8 f hf
        · rcases List.mem_append.mp hq with hq | hq
          · unfold tL at hq
            split at hq
            · rename_i a q1 q2 q3 heq
              rw [heq] at a5
              rw [List.mem_singleton.mp hq]
              obtain ⟨v, v1, v2⟩ := a5
              refine ⟨v, v1, ?_⟩
              show sValE (se _ (tbV τ.length b.2).2.2) v (tbV τ.length b.2).1 (tbV τ.length b.2).2.1
              rw [hval, hp1, hp2]
              exact v2
            · cases hq
          · exact b9 q hq
      · cases hs
    · cases hs
end TMT
def tb0 (K : sK) : List sE → sB → Bool
  | [], [] => true
  | e :: τ, b :: l => sin_ K e b && tb0 K τ l
  | _, _ => false
theorem tb0_ok {σ : Nat → Int} {K : sK} (h : skok σ K) : ∀ {τ : List sE} {l : sB}, tb0 K τ l = true → τ.length = l.length ∧ ∀ x, x < l.length → sRn (l.getD x (0, 0)) (se σ (τ.getD x (sC 0)))
  | [], [], _ => ⟨rfl, fun x hx => absurd hx (Nat.not_lt_zero x)⟩
  | [], _ :: _, h => by cases h
  | _ :: _, [], h => by cases h
  | e :: τ, b :: l, hs => by
    unfold tb0 at hs
    rw [Bool.and_eq_true] at hs
    obtain ⟨h1, h2⟩ := tb0_ok h hs.2
    refine ⟨by rw [List.length_cons, List.length_cons, h1], fun x hx => ?_⟩
    cases x with
    | zero => exact sin_ok h hs.1
    | succ x => exact h2 x (Nat.lt_of_succ_lt_succ hx)
/-- binders, what is assumed, opaque predicates -/
abbrev sTm : Type := List sBn × List sE × List sQ
def tst (bs0 : sB) (t : sTm) : sA := ((bs0 ++ tB t.1, t.2.1), [], tFs bs0.length t.1, t.2.2, tLs bs0.length t.1, [])
def twf (n : Nat) (t : sTm) : Bool := twB n t.1 && ((t.2.1.all (twE (n + t.1.length))) && t.2.2.all fun q => q.2.all (twE (n + t.1.length)))
def teqL (K : sK) : List sE → List sE → Bool
  | [], [] => true
  | a :: l, b :: m => sSm K.1 a b && teqL K l m
  | _, _ => false
theorem teqL_ok {σ : Nat → Int} {K : sK} (h : skok σ K) : ∀ {l m : List sE}, teqL K l m = true → l.map (se σ) = m.map (se σ)
  | [], [], _ => rfl
  | [], _ :: _, h => by cases h
  | _ :: _, [], h => by cases h
  | a :: l, b :: m, hs => by
    unfold teqL at hs
    rw [Bool.and_eq_true] at hs
    rw [List.map_cons, List.map_cons, sSm_ok h.1 hs.1, teqL_ok h hs.2]
def tqh (hN : sA → sQ → Bool) (A : sA) (q : sQ) : Bool := (A.2.2.2.1.any fun p => Nat.beq p.1 q.1 && teqL A.1 p.2 q.2) || hN A q
def tmc (hN : sA → sQ → Bool) (hL : sA → sLc → List sE) (A : sA) (args : List (Nat × sV)) (bs0 : sB) (τ : List sE) (t : sTm) : Option (sA × List sE) := match A with
  | (K, D, F, Q, L, T) => match tmt (fun K F lc => hL (K, D, F, Q, L, T) lc) args Q t.1 K F τ with
    | some (K', F', τ') => cond (tb0 K' τ bs0 && (t.2.1.all (fun p => sge0 K' (tsb τ' p)) && t.2.2.all (fun q => tqh hN (K', D, F', Q, L, T) (q.1, q.2.map (tsb τ'))))) (some ((K', D, F', Q, L, T), τ')) none
    | none => none
def sHN (Qs : Nat → List Int → zM → Prop) (hN : sA → sQ → Bool) : Prop := ∀ (ρ : Nat → Int) (A : sA) (ls : zL) (st : List Value) (M : zM) (q : sQ), sR Qs ρ A ls st M → hN A q = true → Qs q.1 (q.2.map (se ρ)) M
section TMC
variable {Qs : Nat → List Int → zM → Prop} {hN : sA → sQ → Bool} {ls la : zL} {st : List Value} {M : zM}
theorem tB_len (bs : List sBn) : (tB bs).length = bs.length := List.length_map _
theorem tBd_ok {μ : Nat → Int} : ∀ {bs : List sBn} {n : Nat}, tBd μ n bs → ∀ x, x < bs.length → sRn ((tB bs).getD x (0, 0)) (μ (n + x))
  | [], _, _, x, hx => absurd hx (Nat.not_lt_zero x)
  | b :: bs, n, h, x, hx => by
    cases x with
    | zero => exact h.1
    | succ x =>
      have := tBd_ok h.2 x (Nat.lt_of_succ_lt_succ hx)
      rw [Nat.add_right_comm] at this
      exact this
theorem tFs_wf : ∀ {bs : List sBn} {n m : Nat}, twB n bs = true → n + bs.length ≤ m → ∀ f ∈ tFs n bs, swF m f
  | [], _, _, _, _, f, hf => by cases hf
  | b :: bs, n, m, h, hm, f, hf => by
    unfold twB at h
    simp only [Bool.and_eq_true] at h
    obtain ⟨⟨h1, h2, h3⟩, h4⟩ := h
    have hm' : n + 1 + bs.length ≤ m := by rw [List.length_cons] at hm; omega
    have hb : swV m (tbV n b.2) := swE_add ((twE_ok h3).le (by omega)) (swE_mul (swE_S (by rw [List.length_cons] at hm; omega)))
    rcases List.mem_append.mp hf with hf | hf
    · unfold tF at hf
      split at hf
      · rename_i c j o q heq
        rw [heq] at h1
        rw [List.mem_singleton.mp hf]
        exact ⟨(twE_ok h1).le (by omega), swE_C _, hb⟩
      · rename_i r q o i heq
        rw [heq] at h1 h2
        rw [List.mem_singleton.mp hf]
        exact ⟨(twE_ok h1).le (by omega), (twE_ok h2).le (by omega), hb⟩
      · cases hf
    · exact tFs_wf h4 hm' f hf
theorem tLs_wf : ∀ {bs : List sBn} {n m : Nat}, twB n bs = true → n + bs.length ≤ m → ∀ p ∈ tLs n bs, swV m p.2
  | [], _, _, _, _, p, hp => by cases hp
  | b :: bs, n, m, h, hm, p, hp => by
    unfold twB at h
    simp only [Bool.and_eq_true] at h
    obtain ⟨⟨h1, h2, h3⟩, h4⟩ := h
    have hm' : n + 1 + bs.length ≤ m := by rw [List.length_cons] at hm; omega
    have hb : swV m (tbV n b.2) := swE_add ((twE_ok h3).le (by omega)) (swE_mul (swE_S (by rw [List.length_cons] at hm; omega)))
    rcases List.mem_append.mp hp with hp | hp
    · unfold tL at hp
      split at hp
      · rw [List.mem_singleton.mp hp]
        exact hb
      · cases hp
    · exact tLs_wf h4 hm' p hp
/-- what a contract's state means -/
theorem tst_ok {μ : Nat → Int} {bs0 : sB} {t : sTm} (hM : sMem M) (hw : twf bs0.length t = true) (h0 : ∀ x, x < bs0.length → sRn (bs0.getD x (0, 0)) (μ x)) (h1 : tBd μ bs0.length t.1) (h2 : ∀ x, bs0.length + t.1.length ≤ x → μ x = 0) (h3 : ∀ f ∈ tFs bs0.length t.1, sFac μ M f) (h4 : ∀ p ∈ tLs bs0.length t.1, ∃ v, zget la p.1 = some v ∧ sVal μ v p.2) (h5 : ∀ p ∈ t.2.1, 0 ≤ se μ p) (h6 : ∀ q ∈ t.2.2, Qs q.1 (q.2.map (se μ)) M) : sR Qs μ (tst bs0 t) la [] M := by
  unfold twf at hw
  simp only [Bool.and_eq_true] at hw
  obtain ⟨w1, w2, w3⟩ := hw
  have hl : (bs0 ++ tB t.1).length = bs0.length + t.1.length := by rw [List.length_append, tB_len]
  refine ⟨⟨fun x => ?_, h5⟩, fun d hd => (by cases hd), h3, h6, h4, trivial, hM, fun p hp => ?_, fun d hd => (by cases hd), tFs_wf w1 (Nat.le_of_eq hl.symm), fun q hq e he => ?_, tLs_wf w1 (Nat.le_of_eq hl.symm), fun a ha => (by cases ha)⟩
  · unfold sbd
    show ((bs0 ++ tB t.1).getD x (0, 0)).1 ≤ μ x ∧ μ x ≤ ((bs0 ++ tB t.1).getD x (0, 0)).2
    rcases Nat.lt_or_ge x bs0.length with q | q
    · have := h0 x q
      rw [List.getD_eq_getElem?_getD] at this ⊢
      rw [List.getElem?_append_left q]
      exact this
    · rcases Nat.lt_or_ge x (bs0.length + t.1.length) with q2 | q2
      · have := tBd_ok h1 (x - bs0.length) (by omega)
        rw [Nat.add_sub_cancel' q] at this
        rw [List.getD_eq_getElem?_getD] at this ⊢
        rw [List.getElem?_append_right q]
        exact this
      · rw [h2 x q2, List.getD_eq_getElem?_getD, List.getElem?_eq_none (by rw [hl]; exact q2)]
        exact ⟨Int.le_refl _, Int.le_refl _⟩
  · show swE (bs0 ++ tB t.1).length p
    rw [hl]
    exact twE_ok (List.all_eq_true.mp w2 p hp)
  · show swE (bs0 ++ tB t.1).length e
    rw [hl]
    exact twE_ok (List.all_eq_true.mp (List.all_eq_true.mp w3 q hq) e he)
theorem tmc_ok {hL : sA → sLc → List sE} (HN : sHN Qs hN) (HL : sHL Qs hL) {ρ : Nat → Int} {A A' : sA} {τ τ' : List sE} {bs0 : sB} {t : sTm} {args : List (Nat × sV)} (h : sR Qs ρ A ls st M) (hτ : ∀ e ∈ τ, swE A.1.1.length e) (hargs : tAr ρ A.1.1.length la args) (hw : twf bs0.length t = true) (hs : tmc hN hL A args bs0 τ t = some (A', τ')) :
    ∃ σ, sagr A.1.1.length ρ σ ∧ A.1.1.length ≤ A'.1.1.length ∧ sR Qs σ A' ls st M ∧ A'.2.1 = A.2.1 ∧ A'.2.2.2 = A.2.2.2 ∧ (∃ xs, τ' = τ ++ xs ∧ xs.length = t.1.length) ∧ τ.length = bs0.length ∧ (∀ e ∈ τ', swE A'.1.1.length e) ∧ sR Qs (tmn σ τ') (tst bs0 t) la [] M := by
  obtain ⟨K, D, F, Q, L, T⟩ := A
  unfold tmc at hs
  dsimp only at hs
  split at hs
  · rename_i K' F' τ1 ht
    cases hc : (tb0 K' τ bs0 && (t.2.1.all (fun p => sge0 K' (tsb τ1 p)) && t.2.2.all (fun q => tqh hN (K', D, F', Q, L, T) (q.1, q.2.map (tsb τ1))))) with
    | false => rw [hc] at hs; cases hs
    | true =>
      rw [hc] at hs
      cases hs
      simp only [Bool.and_eq_true] at hc
      obtain ⟨c1, c2, c3⟩ := hc
      have hw' := hw
      unfold twf at hw'
      simp only [Bool.and_eq_true] at hw'
      have hlen : τ.length = bs0.length := by
        clear ht c2 c3 hw hw'
        induction τ generalizing bs0 with
        | nil => cases bs0 with
          | nil => rfl
          | cons b l => cases c1
        | cons e τ ih => cases bs0 with
          | nil => cases c1
          | cons b l =>
            unfold tb0 at c1
            rw [Bool.and_eq_true] at c1
            rw [List.length_cons, List.length_cons, ih (fun e he => hτ e (List.mem_cons_of_mem _ he)) c1.2]
      obtain ⟨σ, s1, s2, s3, ⟨xs, s4, s4'⟩, s5, s6, s7, s8⟩ := tmt_ok (la := la) (lrn := fun K F lc => hL (K, D, F, Q, L, T) lc) (fun σ K F lc hr => HL σ _ _ _ _ lc hr) t.1 ρ K F τ K' F' τ' h hτ hargs (by rw [hlen]; exact hw'.1) ht
      obtain ⟨-, b2⟩ := tb0_ok s3.1 c1
      rw [hlen] at s6 s7 s8
      refine ⟨σ, s1, s2, s3, rfl, rfl, ⟨xs, s4, s4'⟩, hlen, s5, tst_ok s3.2.2.2.2.2.2.1 hw (fun x hx => ?_) s6 (fun x hx => ?_) s7 s8 (fun p hp => ?_) (fun q hq => ?_)⟩
      · have := b2 x hx
        unfold tmn
        rw [s4, List.getD_eq_getElem?_getD (l := τ ++ xs), List.getElem?_append_left (by omega), ← List.getD_eq_getElem?_getD]
        exact this
      · unfold tmn
        rw [List.getD_eq_getElem?_getD, List.getElem?_eq_none (by rw [s4, List.length_append]; omega)]
        exact se_C 0
      · have := sge0_ok s3.1 (List.all_eq_true.mp c2 p hp)
        rw [se_sb] at this
        exact this
      · have h1 := List.all_eq_true.mp c3 q hq
        have e1 : (q.2.map (tsb τ')).map (se σ) = q.2.map (se (tmn σ τ')) := by
          rw [List.map_map]
          exact List.map_congr_left fun e _ => se_sb e
        rw [← e1]
        unfold tqh at h1
        rw [Bool.or_eq_true] at h1
        rcases h1 with h1 | h1
        · obtain ⟨p, p1, p2⟩ := List.any_eq_true.mp h1
          rw [Bool.and_eq_true] at p2
          have p3 := teqL_ok s3.1 p2.2
          rw [← p3, ← (Nat.eq_of_beq_eq_true p2.1 : p.1 = q.1)]
          exact s3.2.2.2.1 p p1
        · exact HN σ _ ls st M _ s3 h1
  · cases hs
end TMC
