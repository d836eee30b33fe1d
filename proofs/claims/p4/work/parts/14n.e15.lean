/-! THE ENGINE, 15: rows of numbers that are stored -/
def sfree (r : Nat) : Bool := Nat.beq (sSgA r).2.1 0
theorem sfree_ok {r i : Nat} (h : sfree r = true) : setb r i = sI32 := by
  unfold sfree at h
  unfold setb
  rw [Nat.eq_of_beq_eq_true h]
  have : Nat.blt i 0 = false := by
    cases hb : Nat.blt i 0 with
    | false => rfl
    | true => have : i + 1 ≤ 0 := Nat.le_of_ble_eq_true hb; omega
  rw [this]
  rfl
def sz0 (b : Int × Int) : Bool := spos (-b.1) && spos b.2
def szok (r : Nat) : Bool := (sSgA r).2.2.all fun g => g.2.2.2.all fun g2 => g2.2.2.2.all sz0
theorem sz0_I : sz0 sI32 = true := rfl
theorem sgetD_all {p : Int × Int → Bool} (hp : p sI32 = true) {l : List (Int × Int)} (h : l.all p = true) (n : Nat) : p (l.getD n sI32) = true := by
  rw [List.getD_eq_getElem?_getD]
  cases hq : l[n]? with
  | none => exact hp
  | some b => exact List.all_eq_true.mp h b (List.mem_of_getElem? hq)
theorem ssg2_all {p : Int × Int → Bool} (hp : p sI32 = true) (j : Nat) : ∀ {l : List sG2}, (l.all fun g2 => g2.2.2.2.all p) = true → p (ssg2 j l) = true
  | [], _ => hp
  | g :: l, h => by
    rw [List.all_cons, Bool.and_eq_true] at h
    unfold ssg2
    cases (Nat.ble g.1 j && Nat.blt j (g.1 + g.2.1)) with
    | true => exact sgetD_all hp h.1 _
    | false => exact ssg2_all hp j h.2
theorem ssg1_all {p : Int × Int → Bool} (hp : p sI32 = true) (j : Nat) : ∀ {l : List sG1}, (l.all fun g => g.2.2.2.all fun g2 => g2.2.2.2.all p) = true → p (ssg1 j l) = true
  | [], _ => hp
  | g :: l, h => by
    rw [List.all_cons, Bool.and_eq_true] at h
    unfold ssg1
    cases (Nat.ble g.1 j && Nat.blt j (g.1 + g.2.1)) with
    | true => exact ssg2_all hp _ h.1
    | false => exact ssg1_all hp j h.2
theorem szok_ok {r i : Nat} (h : szok r = true) : (setb r i).1 ≤ 0 ∧ 0 ≤ (setb r i).2 := by
  have : sz0 (setb r i) = true := by
    unfold setb
    cases Nat.blt i (sSgA r).2.1 with
    | true => exact ssg1_all sz0_I _ h
    | false => exact sz0_I
  unfold sz0 at this
  rw [Bool.and_eq_true] at this
  have h1 := spos_ok this.1
  have h2 := spos_ok this.2
  omega
def sdvd (p : Int) : sT → Bool
  | [] => true
  | t :: l => siz (t.2 % p) && sdvd p l
theorem sdvd_ok {ρ : Nat → Int} {p : Int} : ∀ {l : sT}, sdvd p l = true → ∃ z, sv ρ l = p * z
  | [], _ => ⟨0, (Int.mul_zero p).symm⟩
  | t :: l, h => by
    unfold sdvd at h
    rw [Bool.and_eq_true] at h
    obtain ⟨z, hz⟩ := sdvd_ok (ρ := ρ) h.2
    have h1 := siz_0 h.1
    obtain ⟨d, hd⟩ := Int.dvd_of_emod_eq_zero h1
    refine ⟨d * ρ t.1 + z, ?_⟩
    show t.2 * ρ t.1 + sv ρ l = _
    rw [hz, hd, Int.mul_add, Int.mul_assoc]
/-- a number that stands at a place alike, a whole number of stretches away -/
def scpy (K : sK) (r : Nat) (o i e : sE) (g : sF) : Bool := Nat.beq g.1 1 && (Nat.beq g.2.1 r && (Nat.beq g.2.2.2.2.2.1 0 && (sEq g.2.2.2.2.2.2.2 e && (sSm K.1 g.2.2.2.1 o && (siz ((ssub i g.2.2.2.2.1).1 % ((sSgA r).1 : Int)) && (sdvd (sSgA r).1 (ssub i g.2.2.2.2.1).2 && (sge0 K i && (sge0 K (ssub (sC ((sSgA r).2.1 - 1 : Int)) i) && (sge0 K g.2.2.2.2.1 && (sge0 K (ssub (sC ((sSgA r).2.1 - 1 : Int)) g.2.2.2.2.1) && sge0 K (ssub (sC (srln r - 1 : Int)) g.2.2.2.2.1)))))))))))
def sstE (K : sK) (F : List sF) (r : Nat) (o i e : sE) : Bool := sfree r || ((match sebl K r i with
  | some bs => bs.all (sin_ K e)
  | none => false) || ((match scon K.1 e with
  | some c => siz c && szok r
  | none => false) || F.any (scpy K r o i e)))
theorem sstE_ok {ρ : Nat → Int} {K : sK} {F : List sF} {M : zM} {r k q : Nat} {o i e : sE} {x : Int32} (h : skok ρ K) (hM : sMem M) (hF : ∀ f ∈ F, sFac ρ M f) (hk : sSh (k + soff r) = some (1, r, k)) (ho : (k : Int) = se ρ o) (hq : (q : Int) = se ρ i) (hl : q < srln r) (hx : x.toInt = se ρ e) (hs : sstE K F r o i e = true) : (setb r q).1 ≤ x.toInt ∧ x.toInt ≤ (setb r q).2 := by
  unfold sstE at hs
  simp only [Bool.or_eq_true] at hs
  rcases hs with hs | hs | hs | hs
  · rw [sfree_ok hs]
    exact sr32 x
  · split at hs
    · rename_i bs hb
      have h1 := sebl_ok h hq hl hb
      have h2 := sin_ok h (List.all_eq_true.mp hs _ h1)
      rw [← hx] at h2
      exact h2
    · cases hs
  · split at hs
    · rename_i c hc
      rw [Bool.and_eq_true] at hs
      have h1 := scon_ok h.1 hc
      have h2 := siz_0 hs.1
      have h3 := szok_ok (i := q) hs.2
      omega
    · cases hs
  · obtain ⟨g, hg, h2⟩ := List.any_eq_true.mp hs
    obtain ⟨d, c, j, o', i', t, u, e'⟩ := g
    unfold scpy at h2
    simp only [Bool.and_eq_true] at h2
    obtain ⟨a1, a2, a3, a4, a5, a6, a7, a8, a9, b1, b2, b3⟩ := h2
    have a1 := Nat.eq_of_beq_eq_true a1
    have a2 := Nat.eq_of_beq_eq_true a2
    have a3 := Nat.eq_of_beq_eq_true a3
    have a4 := sEq_ok a4
    subst a1 a2 a3 a4
    have a5 := sSm_ok h.1 a5
    obtain ⟨z, hz⟩ := sdvd_ok (ρ := ρ) a7
    have a6 := siz_0 a6
    have c1 := sge0_ok h a8
    have c2 := sge0_ok h a9
    have c3 := sge0_ok h b1
    have c4 := sge0_ok h b2
    have c5 := sge0_ok h b3
    rw [se_sub, se_C] at c2 c4 c5
    have hf := hF _ hg
    obtain ⟨k1, n, hk1, hn, -, -, y, hy, hy2⟩ := hf
    have hk1 : (k1 : Int) = se ρ o' := hk1
    have hn : (n : Int) = se ρ i' := hn
    have hkk : k1 = k := by omega
    have hy : Value.int (sgr M c k1 n) = Value.int y := hy
    have hy2 : y.toInt = se ρ e' := hy2
    rw [hkk] at hy
    cases hy
    obtain ⟨f, g1, g2, g3⟩ := sMem_row hM hk
    have h5 := g2 n (by omega)
    rw [g3] at hy2
    have hxy : x.toInt = (f n).toInt := by omega
    have hsb : setb c q = setb c n := by
      unfold setb
      have e1 : Nat.blt q (sSgA c).2.1 = true := Nat.ble_eq_true_of_le (show q + 1 ≤ _ by omega)
      have e2 : Nat.blt n (sSgA c).2.1 = true := Nat.ble_eq_true_of_le (show n + 1 ≤ _ by omega)
      rw [e1, e2]
      have e3 : q % (sSgA c).1 = n % (sSgA c).1 := by
        have d1 : se ρ (ssub i i') = se ρ i - se ρ i' := se_sub i i'
        have d2 : se ρ (ssub i i') = (ssub i i').1 + (sSgA c).1 * z := by
          unfold se
          rw [hz]
        have d3 : ((sSgA c).1 : Int) ∣ (q : Int) - n := by
          rw [hq, hn, ← d1, d2]
          exact Int.dvd_add (Int.dvd_of_emod_eq_zero a6) ⟨z, rfl⟩
        have d4 : (q : Int) % (sSgA c).1 = (n : Int) % (sSgA c).1 := Int.emod_eq_emod_iff_emod_sub_eq_zero.mpr (Int.emod_eq_zero_of_dvd d3)
        exact_mod_cast d4
      rw [e3]
    rw [hsb, hxy]
    exact h5
def sstA (hS : sA → sF → List sQ) (mods : List sMo) (pc ty : Nat) (A : sA) : Option (List (Nat × sA)) := match A with
  | (K, D, F, Q, L, T) => match T with
    | (0, _, e) :: (0, _, j) :: (4, r, o) :: T' => cond ((Nat.beq (srty r) ty || (Nat.beq (srty r) 2 && Nat.beq ty 1)) && (sge0 K j && sge0 K (ssub (sC (srln r - 1 : Int)) j))) (match (match srty r with
      | 0 => (K, e)
      | 1 => scut K e (-128, 127)
      | _ => scut K e (0, 1)) with
      | (K1, e1) => cond (sstE K1 F r o j e1 && sinM K1 mods (1, r, 0, o, j, (0, 0, e1))) (some [(pc + 1, K1, D, (1, r, 0, o, j, (0, 0, e1)) :: F.filter (skeepR K1 r o j), hS (K1, D, F, Q, L, T') (1, r, 0, o, j, (0, 0, e1)), L, T')]) none) none
    | _ => none
theorem snar1 (x : Int32) : sRn (-128, 127) (vp_nar .byte x).toInt ∧ (sRn (-128, 127) x.toInt → (vp_nar .byte x).toInt = x.toInt) := by
  have e : (vp_nar .byte x).toInt = x.toInt8.toInt := Int8.toInt_toInt32 _
  have h1 := Int8.le_toInt x.toInt8
  have h2 := Int8.toInt_lt x.toInt8
  rw [e]
  refine ⟨⟨by show (-128 : Int) ≤ _; omega, by show _ ≤ (127 : Int); omega⟩, fun q => ?_⟩
  rw [Int32.toInt_toInt8]
  obtain ⟨q1, q2⟩ := q
  have q1 : (-128 : Int) ≤ x.toInt := q1
  have q2 : x.toInt ≤ (127 : Int) := q2
  exact Int.bmod_eq_of_le (by omega) (by omega)
theorem snar2 (x : Int32) : sRn (0, 1) (vp_nar .boolean x).toInt ∧ (sRn (0, 1) x.toInt → (vp_nar .boolean x).toInt = x.toInt) := by
  have e : (vp_nar .boolean x).toInt = (x &&& 1).toInt := rfl
  have h1 : (1 : Int32).toInt = 1 := rfl
  have h := sand32 (x := x) (y := 1) (Or.inr (by rw [h1]; decide))
  rw [h1] at h
  rw [e]
  refine ⟨⟨h.1, h.2.2 (by decide)⟩, fun q => ?_⟩
  rcases sbool (x := x) q with rfl | rfl <;> rfl
section SSTA
variable {Qs : Nat → List Int → zM → Prop} {hS : sA → sF → List sQ} {mods : List sMo} {ρ : Nat → Int} {ls : zL} {st : List Value} {M : zM} {X : zX}
theorem sstA_st (HS : sHS Qs hS) {K : sK} {D : List sD} {F : List sF} {Q : List sQ} {L : List (Nat × sV)} {T : List sV} (h : sR Qs ρ (K, D, F, Q, L, T) ls st M) {r k o' : Nat} {x x' : Int32} {o j e : sE} (hsh : sSh k = some (1, r, o')) (ho : (o' : Int) = se ρ o) (wo : swE K.1.length o) (hx : x.toInt = se ρ j) (wj : swE K.1.length j) (h0 : 0 ≤ x.toInt) (h1 : x.toInt < srln r) (he : x'.toInt = se ρ e) (we : swE K.1.length e) {f : Nat → Int32} (hf : M.2.2 k = .inl (srty r, srln r, .inl f)) (hs : (sstE K F r o j e && sinM K mods (1, r, 0, o, j, (0, 0, e))) = true) :
    sR Qs ρ (K, D, (1, r, 0, o, j, (0, 0, e)) :: F.filter (skeepR K r o j), hS (K, D, F, Q, L, T) (1, r, 0, o, j, (0, 0, e)), L, T) ls st (zset M k (.inl (srty r, srln r, .inl (upd f x.toNatClampNeg x')))) ∧ sFrm ρ mods M (zset M k (.inl (srty r, srln r, .inl (upd f x.toNatClampNeg x')))) := by
  rw [Bool.and_eq_true] at hs
  obtain ⟨c1, c2⟩ := sclamp h0
  have hM := h.2.2.2.2.2.2.1
  have hrow : sSh (o' + soff r) = some (1, r, o') := by rw [← (sSh_row hsh).1]; exact hsh
  have hq : (x.toNatClampNeg : Int) = se ρ j := c2.trans hx
  have hlt : x.toNatClampNeg < srln r := by omega
  have hb := sstE_ok h.1 hM h.2.2.1 hrow ho hq hlt he hs.1
  obtain ⟨m1, m2⟩ := sMem_setR hM hsh hf (i := x.toNatClampNeg) hb
  have hv : sVal ρ (.int x') (0, 0, e) := ⟨x', rfl, he⟩
  have wf : swF K.1.length (1, r, 0, o, j, (0, 0, e)) := ⟨wo, wj, we⟩
  refine ⟨sR_st h m1 (List.forall_mem_cons.mpr ⟨⟨?_, wf⟩, fun g hg => ?_⟩) (fun q' hq' => HS ρ (K, D, F, Q, L, T) ls st M _ (1, r, 0, o, j, (0, 0, e)) o' x.toNatClampNeg (.int x') h ho hq ⟨hrow, hlt⟩ m2 m1 hv wf q' hq'), sinM_ok (f := (1, r, 0, o, j, (0, 0, e))) (k := o') (i := x.toNatClampNeg) h.1 (Or.inr rfl) hq ⟨hrow, hlt⟩ m2 hs.2⟩
  · refine ⟨o', x.toNatClampNeg, ho, hq, hrow, hlt, ?_⟩
    rw [m2.2 _ _ _ hrow, if_pos ⟨rfl, rfl, rfl⟩]
    exact hv
  · obtain ⟨g3, g4⟩ := List.mem_filter.mp hg
    exact ⟨skeepR_ok h.1 ho hq m2 (h.2.2.1 g g3) g4, h.2.2.2.2.2.2.2.2.2.1 g g3⟩
theorem sstA_ok (HS : sHS Qs hS) {A : sA} (h : sR Qs ρ A ls st M) (wm : swM A.1.1.length mods) {own pc ty : Nat} {ini : Bool} {outs : List (Nat × sA)} (hs : sstA hS mods pc ty A = some outs) :
    (ty = 0 → ∃ pc' ls' st' M', zs1 X own ini pc ls st M .iastore = some (pc', ls', st', M') ∧ sHit Qs ρ A.1.1.length outs pc' ls' st' M' ∧ sFrm ρ mods M M') ∧ (ty = 1 → ∃ pc' ls' st' M', zs1 X own ini pc ls st M .bastore = some (pc', ls', st', M') ∧ sHit Qs ρ A.1.1.length outs pc' ls' st' M' ∧ sFrm ρ mods M M') := by
  obtain ⟨K, D, F, Q, L, T⟩ := A
  unfold sstA at hs
  dsimp only at hs
  split at hs
  · rename_i q0 e q1 j r o T'
    cases hc : ((Nat.beq (srty r) ty || (Nat.beq (srty r) 2 && Nat.beq ty 1)) && (sge0 K j && sge0 K (ssub (sC (srln r - 1 : Int)) j))) with
    | false => rw [hc] at hs; cases hs
    | true =>
      rw [hc] at hs
      simp only [Bool.and_eq_true, Bool.or_eq_true] at hc
      obtain ⟨hty, hj0, hj1⟩ := hc
      obtain ⟨v0, r0, rfl, ⟨y, rfl, hy⟩, w0, h'⟩ := sR_pop h
      obtain ⟨v, r1, rfl, ⟨x, rfl, hx⟩, w, h''⟩ := sR_pop h'
      obtain ⟨v2, r2, rfl, ⟨k, o', rfl, ho, hsh⟩, w2, h3⟩ := sR_pop h''
      have hy : y.toInt = se ρ e := hy
      have hx : x.toInt = se ρ j := hx
      have ho : (o' : Int) = se ρ o := ho
      have hsh : sSh k = some (1, r, o') := hsh
      have w0 : swE K.1.length e := w0
      have w : swE K.1.length j := w
      have w2 : swE K.1.length o := w2
      have p0 := sge0_ok h.1 hj0
      have p1 := sge0_ok h.1 hj1
      rw [se_sub, se_C] at p1
      have hM := h3.2.2.2.2.2.2.1
      obtain ⟨f, g1, -, -⟩ := sMem_row hM hsh
      have g0 : M.2.2 k = .inl (srty r, srln r, .inl f) := by
        unfold zob at g1
        split at g1
        · exact Option.some.inj g1
        · cases g1
      obtain ⟨c1, c2⟩ := sclamp (j := x) (by rw [hx]; exact p0)
      have hni : ¬ (x < 0 ∨ srln r ≤ x.toNatClampNeg) := by
        rintro (q | q)
        · exact c1 q
        · omega
      have goal : ∀ {K1 : sK} {e1 : sE} {x' : Int32} {σ : Nat → Int}, sagr K.1.length ρ σ → K.1.length ≤ K1.1.length → sR Qs σ (K1, D, F, Q, L, T') ls r2 M → x'.toInt = se σ e1 → swE K1.1.length e1 → cond (sstE K1 F r o j e1 && sinM K1 mods (1, r, 0, o, j, (0, 0, e1))) (some [(pc + 1, K1, D, (1, r, 0, o, j, (0, 0, e1)) :: F.filter (skeepR K1 r o j), hS (K1, D, F, Q, L, T') (1, r, 0, o, j, (0, 0, e1)), L, T')]) none = some outs → sHit Qs ρ K.1.length outs (pc + 1) ls r2 (zset M k (.inl (srty r, srln r, .inl (upd f x.toNatClampNeg x')))) ∧ sFrm ρ mods M (zset M k (.inl (srty r, srln r, .inl (upd f x.toNatClampNeg x')))) := by
        intro K1 e1 x' σ ha hl hR he we hs
        cases hc : (sstE K1 F r o j e1 && sinM K1 mods (1, r, 0, o, j, (0, 0, e1))) with
        | false => rw [hc] at hs; cases hs
        | true =>
          rw [hc] at hs
          cases hs
          obtain ⟨k1, k2⟩ := sstA_st (mods := mods) HS hR hsh (by rw [se_agr ha w2]; exact ho) (w2.le hl) (by rw [se_agr ha w]; exact hx) (w.le hl) (by omega) (by omega) he we g0 hc
          exact ⟨sHit_1 ha hl k1, sFrm_agr ha wm k2⟩
      cases hr : srty r with
      | zero =>
        rw [hr] at hs hty
        have hg := goal (x' := y) (fun _ _ => rfl) (Nat.le_refl _) h3 hy w0 hs
        rw [hr] at g1
        refine ⟨fun _ => ⟨_, _, _, _, ?_, by rw [hr] at hg; exact hg.1, by rw [hr] at hg; exact hg.2⟩, fun e => ?_⟩
        · simp only [zs1, g1]
          rw [if_neg hni]
        · subst e
          rcases hty with q | ⟨q, -⟩ <;> cases q
      | succ n =>
        cases n with
        | zero =>
          rw [hr] at hs hty
          obtain ⟨n1, n2⟩ := snar1 y
          obtain ⟨σ, s1, s2, s3, s4, s5⟩ := scut_ok h3 (q := (-128, 127)) w0 n1 (fun q => by rw [← hy] at q ⊢; exact n2 q)
          have hg := goal s1 s2 s3 s4.symm s5 hs
          rw [hr] at g1
          refine ⟨fun e => ?_, fun _ => ⟨_, _, _, _, ?_, by rw [hr] at hg; exact hg.1, by rw [hr] at hg; exact hg.2⟩⟩
          · subst e
            rcases hty with q | ⟨q, -⟩ <;> cases q
          · simp only [zs1, g1]
            rw [if_neg hni]
        | succ n =>
          rw [hr] at hs hty
          obtain ⟨n1, n2⟩ := snar2 y
          obtain ⟨σ, s1, s2, s3, s4, s5⟩ := scut_ok h3 (q := (0, 1)) w0 n1 (fun q => by rw [← hy] at q ⊢; exact n2 q)
          have hg := goal s1 s2 s3 s4.symm s5 hs
          refine ⟨fun e => ?_, fun e => ?_⟩
          · subst e
            rcases hty with q | ⟨-, q⟩ <;> cases q
          · have hn : n = 0 := by
              subst e
              rcases hty with q | ⟨q, -⟩
              · cases q
              · have := Nat.eq_of_beq_eq_true q
                omega
            subst hn
            rw [hr] at g1
            refine ⟨_, _, _, _, ?_, by rw [hr] at hg; exact hg.1, by rw [hr] at hg; exact hg.2⟩
            simp only [zs1, g1]
            rw [if_neg hni]
  · cases hs
end SSTA
