/-! THE ENGINE, 14: rows that store -/
def sfty (ty : FieldType) (lo hi : Int) : Bool := match ty with
  | .int => true
  | .boolean => spos lo && spos (1 - hi)
  | _ => false
theorem sbool {x : Int32} (h : 0 ≤ x.toInt ∧ x.toInt ≤ 1) : x = 0 ∨ x = 1 := by
  have : x.toInt = 0 ∨ x.toInt = 1 := by omega
  rcases this with q | q
  · exact Or.inl (Int32.toInt_inj.mp q)
  · exact Or.inr (Int32.toInt_inj.mp q)
theorem sfty_ok {ty : FieldType} {lo hi : Int} {x : Int32} (h : sfty ty lo hi = true) (hx : lo ≤ x.toInt ∧ x.toInt ≤ hi) : zfit ty (.int x) = true := by
  cases ty <;> simp only [sfty, reduceCtorEq] at h
  case int => simp [zfit, narrow, fits]
  case boolean =>
    rw [Bool.and_eq_true] at h
    have h1 := spos_ok h.1
    have h2 := spos_ok h.2
    rcases sbool (x := x) ⟨by omega, by omega⟩ with rfl | rfl <;> decide
/-- what is stored in a field, as it is kept as a fact -/
def sfv (K : sK) (kd : Nat × Int × Int) (ty : FieldType) (a : sV) : Option sV := match kd with
  | (0, lo, hi) => (match a with
    | (0, _, e) => cond (sin_ K e (lo, hi) && sfty ty lo hi) (some (0, 0, e)) none
    | _ => none)
  | (1, _, _) => (match a with
    | (1, _, e) => (match ty with
      | .long => some (1, 0, e)
      | _ => none)
    | _ => none)
  | (6, _, _) => (match ty with
    | .array _ => (match a with
      | (4, r, _) => cond (Nat.beq (srty r) 1) (some (5, 1, sC (srln r))) none
      | (5, t, n) => cond (Nat.beq t 1) (some (5, 1, n)) none
      | _ => none)
    | _ => none)
  | _ => none
theorem sAr_row {k r o : Nat} (h : sSh k = some (1, r, o)) : sAr k = some (srty r, srln r) := by
  unfold sAr
  rw [h]
  rfl
theorem sfv_ok {ρ : Nat → Int} {K : sK} (h : skok ρ K) {n k : Nat} {v : Value} {a a' : sV} {kd : Nat × Int × Int} {ty : FieldType} (hv : sVal ρ v a) (w : swV n a) (hs : sfv K kd ty a = some a') : zfit ty v = true ∧ sFldOk k kd v ∧ sVal ρ v a' ∧ swV n a' := by
  unfold sfv at hs
  split at hs
  · rename_i lo hi
    split at hs
    · rename_i q e
      cases hc : (sin_ K e (lo, hi) && sfty ty lo hi) with
      | false => rw [hc] at hs; cases hs
      | true =>
        rw [hc] at hs
        cases hs
        rw [Bool.and_eq_true] at hc
        obtain ⟨x, rfl, hx⟩ := hv
        have hx : x.toInt = se ρ e := hx
        have hb := sin_ok h hc.1
        rw [← hx] at hb
        exact ⟨sfty_ok hc.2 hb, ⟨x, rfl, hb.1, hb.2⟩, ⟨x, rfl, hx⟩, w⟩
    · cases hs
  · split at hs
    · split at hs
      · cases hs
        obtain ⟨x, rfl, hx⟩ := hv
        exact ⟨by simp [zfit, narrow, fits], ⟨x, rfl⟩, ⟨x, rfl, hx⟩, w⟩
      · cases hs
    · cases hs
  · split at hs
    · rename_i ty0 
      split at hs
      · rename_i r o
        cases hc : Nat.beq (srty r) 1 with
        | false => rw [hc] at hs; cases hs
        | true =>
          rw [hc] at hs
          cases hs
          obtain ⟨k', o', rfl, ho, hsh⟩ := hv
          have e := sAr_row hsh
          rw [Nat.eq_of_beq_eq_true hc] at e
          exact ⟨by simp [zfit, narrow, fits], ⟨k', _, rfl, e⟩, ⟨k', srln r, rfl, (se_C _).symm, e⟩, swE_C _⟩
      · rename_i t m
        cases hc : Nat.beq t 1 with
        | false => rw [hc] at hs; cases hs
        | true =>
          rw [hc] at hs
          cases hs
          obtain ⟨k', m', rfl, hm, hsh⟩ := hv
          rw [Nat.eq_of_beq_eq_true hc] at hsh
          exact ⟨by simp [zfit, narrow, fits], ⟨k', m', rfl, hsh⟩, ⟨k', m', rfl, hm, hsh⟩, w⟩
      · cases hs
    · cases hs
  · cases hs
def snf (c j : Nat) : Bool := match zcls[c]? with
  | some q => Nat.blt j q.2.2 && !(q.2.1 j).2.2.2
  | none => false
def sinM (K : sK) (mods : List sMo) (f : sF) : Bool := mods.any fun m => Nat.beq m.1 f.1 && (Nat.beq m.2.1 f.2.1 && (match f.1 with
  | 0 => Nat.beq m.2.2.1 f.2.2.1
  | _ => sge0 K (ssub f.2.2.2.2.1 m.2.2.2.1) && sge0 K (ssub m.2.2.2.2 f.2.2.2.2.1)))
/-- where a fact speaks of something -/
def sPl (d c k i : Nat) : Prop := match d with
  | 0 => sSh k = some (0, c, 0)
  | _ => sSh (k + soff c) = some (1, c, k) ∧ i < srln c
/-- what the rules of opaque predicates have to keep: what is left of them behind a store -/
def sHS (Qs : Nat → List Int → zM → Prop) (hS : sA → sF → List sQ) : Prop := ∀ (ρ : Nat → Int) (A : sA) (ls : zL) (st : List Value) (M M' : zM) (f : sF) (k i : Nat) (v : Value), sR Qs ρ A ls st M → (k : Int) = se ρ f.2.2.2.1 → (i : Int) = se ρ f.2.2.2.2.1 → sPl f.1 f.2.1 k i → sUpd M M' f.1 f.2.1 f.2.2.1 k i v → sMem M' → sVal ρ v f.2.2.2.2.2 → swF A.1.1.length f → ∀ q ∈ hS A f, Qs q.1 (q.2.map (se ρ)) M' ∧ ∀ e ∈ q.2, swE A.1.1.length e
theorem sinM_ok {ρ : Nat → Int} {K : sK} (h : skok ρ K) {mods : List sMo} {f : sF} {M M' : zM} {k i : Nat} {v : Value} (hd : f.1 = 0 ∨ f.1 = 1) (hi : (i : Int) = se ρ f.2.2.2.2.1) (hp : sPl f.1 f.2.1 k i) (hu : sUpd M M' f.1 f.2.1 f.2.2.1 k i v) (hs : sinM K mods f = true) : sFrm ρ mods M M' := by
  obtain ⟨d, c, j, o, ie, a⟩ := f
  dsimp only at hd hi hp hu
  obtain ⟨m, hm, h2⟩ := List.any_eq_true.mp hs
  simp only [Bool.and_eq_true] at h2
  obtain ⟨a1, a2, a3⟩ := h2
  have a1 := Nat.eq_of_beq_eq_true a1
  have a2 := Nat.eq_of_beq_eq_true a2
  rcases hd with rfl | rfl
  · obtain ⟨u1, u2⟩ := hu
    have a3 := Nat.eq_of_beq_eq_true a3
    refine ⟨fun k' c' j' g1 g2 => ?_, fun r' o' i' g1 _ _ => u2 _ _ _ g1⟩
    rw [u1 k' c' j' g1, if_neg]
    rintro ⟨rfl, rfl⟩
    have hp : sSh k' = some (0, c, 0) := hp
    rw [hp] at g1
    cases g1
    exact g2 m hm ⟨a1, a2, a3⟩
  · obtain ⟨u1, u2⟩ := hu
    have a3 := Bool.and_eq_true _ _ ▸ a3
    have b1 := sge0_ok h a3.1
    have b2 := sge0_ok h a3.2
    rw [se_sub] at b1 b2
    refine ⟨fun k' c' j' g1 _ => u1 _ c' _ g1, fun r' o' i' g1 _ g2 => ?_⟩
    rw [u2 _ _ _ g1, if_neg]
    rintro ⟨rfl, rfl, rfl⟩
    exact g2 m hm ⟨a1, a2, by omega, by omega⟩
section SST
variable {Qs : Nat → List Int → zM → Prop} {ρ : Nat → Int} {K : sK} {D : List sD} {F : List sF} {Q : List sQ} {L : List (Nat × sV)} {T : List sV} {ls : zL} {st : List Value} {M : zM} {X : zX}
theorem sR_st (h : sR Qs ρ (K, D, F, Q, L, T) ls st M) {M' : zM} (hM : sMem M') {F' : List sF} {Q' : List sQ} (hF : ∀ g ∈ F', sFac ρ M' g ∧ swF K.1.length g) (hQ : ∀ q ∈ Q', Qs q.1 (q.2.map (se ρ)) M' ∧ ∀ e ∈ q.2, swE K.1.length e) : sR Qs ρ (K, D, F', Q', L, T) ls st M' := by
  obtain ⟨h1, h2, h3, h4, h5, h6, h7, w1, w2, w3, w4, w5, w6⟩ := h
  exact ⟨h1, h2, fun g hg => (hF g hg).1, fun q hq => (hQ q hq).1, h5, h6, hM, w1, w2, fun g hg => (hF g hg).2, fun q hq => (hQ q hq).2, w5, w6⟩
end SST
def sstF (hS : sA → sF → List sQ) (mods : List sMo) (own pc x : Nat) (A : sA) : Option (List (Nat × sA)) := match A with
  | (K, D, F, Q, L, T) => match zlk own x with
    | some (0, c, j, _) => (match T with
      | a :: (3, c', o) :: T' => (match sfv K ((sFk c).getD j (9, 0, 0)) (zfty c j) a with
        | some a' => cond (Nat.beq c' c && (Nat.blt j (sFk c).length && (snf c j && sinM K mods (0, c, j, o, sC 0, a')))) (some [(pc + 3, K, D, (0, c, j, o, sC 0, a') :: F.filter (skeepF K c j o), hS (K, D, F, Q, L, T') (0, c, j, o, sC 0, a'), L, T')]) none
        | none => none)
      | _ => none)
    | _ => none
section SSTF
variable {Qs : Nat → List Int → zM → Prop} {hS : sA → sF → List sQ} {mods : List sMo} {ρ : Nat → Int} {ls : zL} {st : List Value} {M : zM} {X : zX}
theorem sstF_ok (HS : sHS Qs hS) {A : sA} (h : sR Qs ρ A ls st M) {own pc x : Nat} {ini : Bool} {outs : List (Nat × sA)} (hs : sstF hS mods own pc x A = some outs) : ∃ pc' ls' st' M', zs1 X own ini pc ls st M (.putfield x) = some (pc', ls', st', M') ∧ sHit Qs ρ A.1.1.length outs pc' ls' st' M' ∧ sFrm ρ mods M M' := by
  obtain ⟨K, D, F, Q, L, T⟩ := A
  unfold sstF at hs
  dsimp only at hs
  split at hs
  · rename_i c j p hlk
    split at hs
    · rename_i a c' o T'
      split at hs
      · rename_i a' ha'
        cases hc : (Nat.beq c' c && (Nat.blt j (sFk c).length && (snf c j && sinM K mods (0, c, j, o, sC 0, a')))) with
        | false => rw [hc] at hs; cases hs
        | true =>
          rw [hc] at hs
          cases hs
          simp only [Bool.and_eq_true] at hc
          obtain ⟨e1, e2, e3, e4⟩ := hc
          have e1 := Nat.eq_of_beq_eq_true e1
          have hj : j < (sFk c).length := sbltt e2
          subst e1
          obtain ⟨v, r, rfl, hv, w, h'⟩ := sR_pop h
          obtain ⟨v2, r2, rfl, ⟨k, rfl, hk, hsh⟩, w2, h''⟩ := sR_pop h'
          have hk : (k : Int) = se ρ o := hk
          have hsh : sSh k = some (0, c', 0) := hsh
          have w2 : swE K.1.length o := w2
          obtain ⟨v1, v3, v4, v5⟩ := sfv_ok (k := k) h.1 hv w ha'
          have hM := h''.2.2.2.2.2.2.1
          obtain ⟨fs, g1, g2, -, -⟩ := sMem_ob hM hsh
          have g0 : M.2.2 k = .inr (c', fs) := by
            unfold zob at g1
            split at g1
            · exact Option.some.inj g1
            · cases g1
          obtain ⟨m1, m2⟩ := sMem_setF hM hsh g0 hj v3
          unfold snf at e3
          split at e3
          · rename_i q hq
            rw [Bool.and_eq_true] at e3
            have f1 : j < q.2.2 := sbltt e3.1
            have f2 : (q.2.1 j).2.2.2 = false := by
              have := e3.2
              cases hz : (q.2.1 j).2.2.2 with
              | false => rfl
              | true => rw [hz] at this; cases this
            have wf : swF K.1.length (0, c', j, o, sC 0, a') := ⟨w2, swE_C _, v5⟩
            have hfac : sFac ρ (zset M k (.inr (c', fs.set j v))) (0, c', j, o, sC 0, a') := by
              refine ⟨k, hk, hsh, ?_⟩
              rw [m2.1 k c' j hsh, if_pos ⟨rfl, rfl⟩]
              exact v4
            refine ⟨pc + 3, ls, r2, zset M k (.inr (c', fs.set j v)), ?_, sHit_0 (sR_st h'' m1 (List.forall_mem_cons.mpr ⟨⟨hfac, wf⟩, fun g hg => ?_⟩) (fun q' hq' => HS ρ (K, D, F, Q, L, T') ls r2 M _ (0, c', j, o, sC 0, a') k 0 v h'' hk ((se_C 0).symm) hsh m2 m1 v4 wf q' hq')), sinM_ok (f := (0, c', j, o, sC 0, a')) (k := k) (i := 0) h.1 (Or.inl rfl) ((se_C 0).symm) hsh m2 e4⟩
            · simp only [zs1, hlk, g1, hq]
              rw [if_pos ⟨trivial, by rw [g2]; exact hj, f1, v1, Or.inl f2⟩]
            · obtain ⟨g3, g4⟩ := List.mem_filter.mp hg
              exact ⟨skeepF_ok h.1 hsh hk m2 (h''.2.2.1 g g3) g4, h''.2.2.2.2.2.2.2.2.2.1 g g3⟩
          · cases e3
      · cases hs
    · cases hs
  · cases hs
end SSTF
