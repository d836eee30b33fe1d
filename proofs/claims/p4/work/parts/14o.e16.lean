/-! THE ENGINE, 16: rows that are copied; a step -/
/-- how much a stack takes at the most -/
def scat : List sV → Nat
  | [] => 0
  | a :: T => (cond (sc1 a.1) 1 2) + scat T
theorem scat2 (v : Value) : v.category ≤ 2 := by cases v <;> simp [Value.category]
theorem scat_ok {ρ : Nat → Int} : ∀ {st : List Value} {T : List sV}, sStk ρ st T → (st.map fun v => v.category).sum ≤ scat T
  | [], [], _ => Nat.le_refl _
  | [], _ :: _, h => h.elim
  | _ :: _, [], h => h.elim
  | v :: st, a :: T, h => by
    have h1 := scat_ok h.2
    rw [List.map_cons, List.sum_cons]
    unfold scat
    cases hc : sc1 a.1 with
    | true =>
      rw [sc1_ok h.1 hc]
      exact Nat.add_le_add_left h1 1
    | false => exact Nat.add_le_add (scat2 v) h1
theorem sStk_len {ρ : Nat → Int} : ∀ {st : List Value} {T : List sV}, sStk ρ st T → st.length = T.length
  | [], [], _ => rfl
  | [], _ :: _, h => h.elim
  | _ :: _, [], h => h.elim
  | v :: st, a :: T, h => by rw [List.length_cons, List.length_cons, sStk_len h.2]
/-- another row in the place of one -/
theorem sMem_row' {M : zM} (h : sMem M) {k r o : Nat} (hk : sSh k = some (1, r, o)) {f : Nat → Int32} (hf : sRowOk r f) : sMem (zset M k (.inl (srty r, srln r, .inl f))) ∧ (∀ k' c' j', sSh k' = some (0, c', 0) → sgf (zset M k (.inl (srty r, srln r, .inl f))) k' j' = sgf M k' j') ∧ (∀ r' o' i', sSh (o' + soff r') = some (1, r', o') → sgr (zset M k (.inl (srty r, srln r, .inl f))) r' o' i' = if r' = r ∧ o' = o then f i' else sgr M r' o' i') := by
  obtain ⟨h0, h1, h2, h3⟩ := id h
  refine ⟨⟨h0, fun k' c' hk' => ?_, fun k' r' o' hk' => ?_, fun k' t o' hk' => ?_⟩, fun k' c' j' hk' => ?_, fun r' o' i' hr => ?_⟩
  · obtain ⟨fs, g⟩ := h1 k' c' hk'
    exact ⟨fs, by rw [zset_at, if_neg (fun q => by rw [q, hk] at hk'; cases hk')]; exact g⟩
  · by_cases q : k' = k
    · subst q
      rw [hk] at hk'
      cases hk'
      exact ⟨f, by rw [zset_at, if_pos rfl], hf⟩
    · obtain ⟨f', g⟩ := h2 k' r' o' hk'
      exact ⟨f', by rw [zset_at, if_neg q]; exact g⟩
  · obtain ⟨f', g⟩ := h3 k' t o' hk'
    exact ⟨f', by rw [zset_at, if_neg (fun q => by rw [q, hk] at hk'; cases hk')]; exact g⟩
  · exact sgf_set fun q => by rw [q, hk] at hk'; cases hk'
  · by_cases q : o' + soff r' = k
    · rw [q, hk] at hr
      cases hr
      rw [if_pos ⟨rfl, rfl⟩]
      exact sgr_def (t := srty r) (n := srln r) (by rw [q, zset_at, if_pos rfl]) i'
    · rw [sgr_set q, if_neg]
      rintro ⟨rfl, rfl⟩
      exact q (sSh_row hk).1.symm
def sHM (Qs : Nat → List Int → zM → Prop) (hM : sA → List sMo → List sQ) : Prop := ∀ (ρ : Nat → Int) (A : sA) (ls : zL) (st : List Value) (M M' : zM) (ms : List sMo), sR Qs ρ A ls st M → swM A.1.1.length ms → sFrm ρ ms M M' → sMem M' → ∀ q ∈ hM A ms, Qs q.1 (q.2.map (se ρ)) M' ∧ ∀ e ∈ q.2, swE A.1.1.length e
/-- where rows are copied: role, owner, from where on, how many; out of which role, owner, from where on -/
abbrev sCy : Type := Nat × sE × sE × sE × Nat × sE × sE
def sHC (Qs : Nat → List Int → zM → Prop) (hC : sA → sCy → List sQ) : Prop := ∀ (ρ : Nat → Int) (A : sA) (ls : zL) (st : List Value) (M M' : zM) (r : Nat) (o dp n : sE) (r0 : Nat) (o0 sp : sE) (k k0 d1 n1 s1 : Nat), sR Qs ρ A ls st M → (k : Int) = se ρ o → (k0 : Int) = se ρ o0 → (d1 : Int) = se ρ dp → (n1 : Int) = se ρ n → (s1 : Int) = se ρ sp → sSh (k + soff r) = some (1, r, k) → sSh (k0 + soff r0) = some (1, r0, k0) → s1 + n1 ≤ srln r0 → d1 + n1 ≤ srln r → (∀ k' c' j', sSh k' = some (0, c', 0) → sgf M' k' j' = sgf M k' j') → (∀ r' o' i', sSh (o' + soff r') = some (1, r', o') → sgr M' r' o' i' = if r' = r ∧ o' = k ∧ d1 ≤ i' ∧ i' < d1 + n1 then sgr M r0 k0 (s1 + (i' - d1)) else sgr M r' o' i') → sMem M' → swE A.1.1.length o → swE A.1.1.length dp → swE A.1.1.length n → swE A.1.1.length o0 → swE A.1.1.length sp → ∀ q ∈ hC A (r, o, dp, n, r0, o0, sp), Qs q.1 (q.2.map (se ρ)) M' ∧ ∀ e ∈ q.2, swE A.1.1.length e
def sarc (hC : sA → sCy → List sQ) (mods : List sMo) (own pc x : Nat) (A : sA) : Option (List (Nat × sA)) := match A with
  | (K, D, F, Q, L, T) => match zlk own x with
    | some (10, _, _, _) => (match T with
      | (0, _, n) :: (0, _, dp) :: (4, r, o) :: (0, _, sp) :: (4, r0, o0) :: T' => cond ((sge0 K n && (sge0 K dp && (sge0 K sp && (sge0 K (ssub (ssub (sC (srln r0)) sp) n) && (sge0 K (ssub (ssub (sC (srln r)) dp) n) && (Nat.beq (srty r0) (srty r) && (Nat.blt (srty r) 2 && Nat.ble (scat T') 8))))))) && ((sfree r || (Nat.beq r0 r && sEq sp dp)) && mods.any fun m => Nat.beq m.1 1 && (Nat.beq m.2.1 r && (sge0 K (ssub dp m.2.2.2.1) && sge0 K (ssub m.2.2.2.2 (sP1 (sadd dp n))))))) (some [(pc + 3, K, D, F.filter (fun g => Nat.beq g.1 0 || (!(Nat.beq g.2.1 r) || sDf K g.2.2.2.1 o)), hC (K, D, F, Q, L, T') (r, o, dp, n, r0, o0, sp), L, T')]) none
      | _ => none)
    | _ => none
section SARC
variable {Qs : Nat → List Int → zM → Prop} {hC : sA → sCy → List sQ} {mods : List sMo} {ρ : Nat → Int} {ls : zL} {st : List Value} {M : zM} {X : zX}
theorem sarc_ok (HC : sHC Qs hC) {A : sA} (h : sR Qs ρ A ls st M) (wm : swM A.1.1.length mods) {own pc x : Nat} {ini : Bool} {outs : List (Nat × sA)} (hs : sarc hC mods own pc x A = some outs) : ∃ pc' ls' st' M', zs1 X own ini pc ls st M (.invokestatic x) = some (pc', ls', st', M') ∧ sHit Qs ρ A.1.1.length outs pc' ls' st' M' ∧ sFrm ρ mods M M' := by
  obtain ⟨K, D, F, Q, L, T⟩ := A
  unfold sarc at hs
  dsimp only at hs
  split at hs
  · rename_i a b c hlk
    split at hs
    · rename_i q1 n q2 dp r o q3 sp r0 o0 T'
      cases hc : ((sge0 K n && (sge0 K dp && (sge0 K sp && (sge0 K (ssub (ssub (sC (srln r0)) sp) n) && (sge0 K (ssub (ssub (sC (srln r)) dp) n) && (Nat.beq (srty r0) (srty r) && (Nat.blt (srty r) 2 && Nat.ble (scat T') 8))))))) && ((sfree r || (Nat.beq r0 r && sEq sp dp)) && mods.any fun m => Nat.beq m.1 1 && (Nat.beq m.2.1 r && (sge0 K (ssub dp m.2.2.2.1) && sge0 K (ssub m.2.2.2.2 (sP1 (sadd dp n))))))) with
      | false => rw [hc] at hs; cases hs
      | true =>
        rw [hc] at hs
        cases hs
        simp only [Bool.and_eq_true] at hc
        obtain ⟨⟨c1, c2, c3, c4, c5, c6, c7, c8⟩, c9, d0⟩ := hc
        obtain ⟨v, s1, rfl, ⟨xn, rfl, hxn⟩, w1, h1⟩ := sR_pop h
        obtain ⟨v, s2, rfl, ⟨xd, rfl, hxd⟩, w2, h2⟩ := sR_pop h1
        obtain ⟨v, s3, rfl, ⟨k, o', rfl, ho, hsh⟩, w3, h3⟩ := sR_pop h2
        obtain ⟨v, s4, rfl, ⟨xs, rfl, hxs⟩, w4, h4⟩ := sR_pop h3
        obtain ⟨v, s5, rfl, ⟨k0, o0', rfl, ho0, hsh0⟩, w5, h5⟩ := sR_pop h4
        have hxn : xn.toInt = se ρ n := hxn
        have hxd : xd.toInt = se ρ dp := hxd
        have hxs : xs.toInt = se ρ sp := hxs
        have ho : (o' : Int) = se ρ o := ho
        have hsh : sSh k = some (1, r, o') := hsh
        have hsh0 : sSh k0 = some (1, r0, o0') := hsh0
        have p1 := sge0_ok h.1 c1
        have p2 := sge0_ok h.1 c2
        have p3 := sge0_ok h.1 c3
        have p4 := sge0_ok h.1 c4
        have p5 := sge0_ok h.1 c5
        rw [se_sub, se_sub, se_C] at p4 p5
        have c6 := Nat.eq_of_beq_eq_true c6
        have c7 : srty r < 2 := sbltt c7
        have c8 := Nat.le_of_ble_eq_true c8
        have hMm := h5.2.2.2.2.2.2.1
        obtain ⟨f, f1, f2, -⟩ := sMem_row hMm hsh0
        obtain ⟨g, g1, g2, g3⟩ := sMem_row hMm hsh
        obtain ⟨en1, en2⟩ := sclamp (j := xn) (by omega)
        obtain ⟨ed1, ed2⟩ := sclamp (j := xd) (by omega)
        obtain ⟨es1, es2⟩ := sclamp (j := xs) (by omega)
        have hrow : sRowOk r (va_cpy f g xs.toNatClampNeg xd.toNatClampNeg xn.toNatClampNeg) := by
          intro i hi
          unfold va_cpy
          by_cases q : xd.toNatClampNeg ≤ i ∧ i < xd.toNatClampNeg + xn.toNatClampNeg
          · rw [if_pos q]
            rw [Bool.or_eq_true] at c9
            rcases c9 with c9 | c9
            · rw [sfree_ok c9]
              exact sr32 _
            · rw [Bool.and_eq_true] at c9
              have e1 := Nat.eq_of_beq_eq_true c9.1
              have e2 := sEq_ok c9.2
              subst e1 e2
              have e3 : xs.toNatClampNeg + (i - xd.toNatClampNeg) = i := by omega
              rw [e3]
              exact f2 i hi
          · rw [if_neg q]
            exact g2 i hi
        obtain ⟨m1, m2, m3⟩ := sMem_row' hMm hsh hrow
        have hfr : ∀ {ms : List sMo}, (∃ m ∈ ms, m.1 = 1 ∧ m.2.1 = r ∧ se ρ m.2.2.2.1 ≤ se ρ dp ∧ se ρ dp + se ρ n - 1 ≤ se ρ m.2.2.2.2) → sFrm ρ ms M (zset M k (.inl (srty r, srln r, .inl (va_cpy f g xs.toNatClampNeg xd.toNatClampNeg xn.toNatClampNeg)))) := by
          rintro ms ⟨m, hm, e1, e2, e3, e4⟩
          refine ⟨fun k' c' j' hk' _ => m2 k' c' j' hk', fun r' o1 i' hr hi' hn => ?_⟩
          rw [m3 r' o1 i' hr]
          by_cases q : r' = r ∧ o1 = o'
          · rw [if_pos q]
            obtain ⟨rfl, rfl⟩ := q
            unfold va_cpy
            rw [if_neg, g3]
            rintro ⟨u1, u2⟩
            exact hn m hm ⟨e1, e2, by omega, by omega⟩
          · rw [if_neg q]
        have hsgr0 : ∀ i, sgr M r0 o0' i = f i := fun i => by
          obtain ⟨f', f1', -, f3'⟩ := sMem_row hMm hsh0
          rw [f1] at f1'
          cases f1'
          exact f3' i
        have hcp : ∀ r' o1 i', sSh (o1 + soff r') = some (1, r', o1) → sgr (zset M k (.inl (srty r, srln r, .inl (va_cpy f g xs.toNatClampNeg xd.toNatClampNeg xn.toNatClampNeg)))) r' o1 i' = if r' = r ∧ o1 = o' ∧ xd.toNatClampNeg ≤ i' ∧ i' < xd.toNatClampNeg + xn.toNatClampNeg then sgr M r0 o0' (xs.toNatClampNeg + (i' - xd.toNatClampNeg)) else sgr M r' o1 i' := by
          intro r' o1 i' hr
          rw [m3 r' o1 i' hr]
          by_cases q : r' = r ∧ o1 = o'
          · rw [if_pos q]
            unfold va_cpy
            by_cases q2 : xd.toNatClampNeg ≤ i' ∧ i' < xd.toNatClampNeg + xn.toNatClampNeg
            · rw [if_pos q2, if_pos ⟨q.1, q.2, q2⟩, hsgr0]
            · rw [if_neg q2, if_neg (fun w => q2 w.2.2), ← g3, q.1, q.2]
          · rw [if_neg q, if_neg (fun w => q ⟨w.1, w.2.1⟩)]
        refine ⟨pc + 3, ls, s5, _, ?_, sHit_0 (sR_st h5 m1 (fun q hq => ?_) (HC ρ (K, D, F, Q, L, T') ls s5 M _ r o dp n r0 o0 sp o' o0' xd.toNatClampNeg xn.toNatClampNeg xs.toNatClampNeg h5 ho ho0 (ed2.trans hxd) (en2.trans hxn) (es2.trans hxs) (by rw [← (sSh_row hsh).1]; exact hsh) (by rw [← (sSh_row hsh0).1]; exact hsh0) (by omega) (by omega) m2 hcp m1 w3 w2 w1 w5 w4)), hfr ?_⟩
        · simp only [zs1, hlk, f1, g1]
          rw [if_neg]
          have hcat := scat_ok h5.2.2.2.2.2.1
          rintro (q | q | q | q | q | q | q | q)
          · exact es1 q
          · exact ed1 q
          · exact en1 q
          · omega
          · omega
          · omega
          · omega
          · exact q (Nat.le_trans hcat c8)
        · obtain ⟨q3, q4⟩ := List.mem_filter.mp hq
          refine ⟨?_, h5.2.2.2.2.2.2.2.2.2.1 q q3⟩
          have hq0 := h5.2.2.1 q q3
          obtain ⟨d, c', j', oe, ie, t, u, e⟩ := q
          unfold sFac sFacE at hq0 ⊢
          dsimp only at hq0 ⊢
          cases d with
          | zero =>
            obtain ⟨k', q5, q6, q7⟩ := hq0
            exact ⟨k', q5, q6, by rw [m2 k' c' _ q6]; exact q7⟩
          | succ d =>
            obtain ⟨k', i', q5, q6, q7, q8, q9⟩ := hq0
            refine ⟨k', i', q5, q6, q7, q8, ?_⟩
            rw [m3 c' k' i' q7, if_neg]
            · exact q9
            rintro ⟨rfl, rfl⟩
            dsimp only at q4
            simp only [Bool.or_eq_true] at q4
            rcases q4 with q4 | q4 | q4
            · cases q4
            · exact sbeqf q4 rfl
            · exact sDf_ok h.1 q4 (q5.symm.trans ho)
        · obtain ⟨m, hm, e1⟩ := List.any_eq_true.mp d0
          simp only [Bool.and_eq_true] at e1
          obtain ⟨e1, e2, e3, e4⟩ := e1
          have e3 := sge0_ok h.1 e3
          have e4 := sge0_ok h.1 e4
          rw [se_sub] at e3
          rw [se_sub, se_P1, se_add] at e4
          exact ⟨m, hm, Nat.eq_of_beq_eq_true e1, Nat.eq_of_beq_eq_true e2, by omega, by omega⟩
    · cases hs
  · cases hs
end SARC
/-- what is known of what was read -/
abbrev sLc : Type := Nat × Nat × Nat × sE × sE
def sHL (Qs : Nat → List Int → zM → Prop) (hL : sA → sLc → List sE) : Prop := ∀ (ρ : Nat → Int) (A : sA) (ls : zL) (st : List Value) (M : zM) (lc : sLc), sR Qs ρ A ls st M → ∀ e ∈ hL A lc, swE A.1.1.length e ∧ 0 ≤ se ρ e
def slrn (hL : sA → sLc → List sE) (lc : sLc) : List (Nat × sA) → List (Nat × sA)
  | [] => []
  | (pc, K, R) :: l => match sasm (hL (K, R) lc) K with
    | some K' => (pc, K', R) :: slrn hL lc l
    | none => slrn hL lc l
section SLRN
variable {Qs : Nat → List Int → zM → Prop} {hL : sA → sLc → List sE} {ρ : Nat → Int} {ls : zL} {st : List Value} {M : zM}
theorem slrn_ok (HL : sHL Qs hL) {lc : sLc} {n pc : Nat} : ∀ {outs : List (Nat × sA)}, sHit Qs ρ n outs pc ls st M → sHit Qs ρ n (slrn hL lc outs) pc ls st M
  | [], ⟨q, h, _⟩ => by cases h
  | (pc', K, R) :: l, ⟨q, h, h1, σ, h2, h3, h4⟩ => by
    unfold slrn
    rcases List.mem_cons.mp h with rfl | h
    · obtain ⟨D, F, Q, L, T⟩ := R
      have hl := HL σ (K, D, F, Q, L, T) ls st M lc h4
      obtain ⟨K', k1, k2, k3⟩ := sR_asm h4 (l := hL (K, D, F, Q, L, T) lc) (fun e he => (hl e he).1) (fun e he => (hl e he).2)
      rw [k1]
      exact ⟨_, List.mem_cons_self, h1, σ, h2, by dsimp only; rw [k2]; exact h3, k3⟩
    · have ih := slrn_ok HL (lc := lc) (outs := l) ⟨q, h, h1, σ, h2, h3, h4⟩
      split
      · obtain ⟨q', g1, g2⟩ := ih
        exact ⟨q', List.mem_cons_of_mem _ g1, g2⟩
      · exact ih
end SLRN
/-- where something is read -/
def srlc (own : Nat) (T : List sV) (i : Instr) : Option sLc := match i with
  | .getfield x => (match zlk own x, T with
    | some (0, c, j, _), (3, _, o) :: _ => some (0, c, j, o, sC 0)
    | _, _ => none)
  | .iaload | .baload => (match T with
    | (0, _, j) :: (4, r, o) :: _ => some (1, r, 0, o, j)
    | _ => none)
  | _ => none
def slc4 : sLc := (4, 0, 0, sC 0, sC 0)
/-- a static row is read at a place that isn't known to be in it -/
def sstl (hL : sA → sLc → List sE) (A : sA) : sA := match A with
  | (K, D, F, Q, L, T) => match T with
    | (0, _, j) :: (12, _, _) :: _ => cond (sge0 K j && sge0 K (ssub (sC 171) j)) (K, D, F, Q, L, T) (match sasm (hL (K, D, F, Q, L, T) (2, 0, 0, sC 0, j)) K with
      | some K' => (K', D, F, Q, L, T)
      | none => (K, D, F, Q, L, T))
    | _ => (K, D, F, Q, L, T)
/-- a step that neither calls nor returns -/
def sstp (hS : sA → sF → List sQ) (hC : sA → sCy → List sQ) (hL : sA → sLc → List sE) (mods : List sMo) (own pc nL : Nat) (A : sA) (i : Instr) (len : Nat) : Option (List (Nat × sA)) := match i with
  | .putfield x => sstF hS mods own pc x A
  | .iastore => sstA hS mods pc 0 A
  | .bastore => sstA hS mods pc 1 A
  | .invokestatic x => sarc hC mods own pc x A
  | .baload => (match srdM own pc (sstl hL A) .baload with
    | some outs => (match srlc own A.2.2.2.2.2 .baload with
      | some lc => some (slrn hL lc outs)
      | none => some outs)
    | none => none)
  | .getfield _ | .iaload | .arraylength | .aaload | .ldc _ | .ldc_w _ | .ldc2_w _ | .getstatic _ => (match srdM own pc A i with
    | some outs => (match srlc own A.2.2.2.2.2 i with
      | some lc => some (slrn hL lc outs)
      | none => some outs)
    | none => none)
  | .ifCond _ _ | .if_icmp _ _ | .tableswitch _ _ _ _ | .lookupswitch _ _ => (match sst0 pc nL A i len with
    | some outs => some (slrn hL slc4 outs)
    | none => none)
  | i => sst0 pc nL A i len
section SSTP
variable {Qs : Nat → List Int → zM → Prop} {hS : sA → sF → List sQ} {hC : sA → sCy → List sQ} {hL : sA → sLc → List sE} {mods : List sMo} {ρ : Nat → Int} {ls : zL} {st : List Value} {M : zM} {X : zX}
theorem sstl_ok (HL : sHL Qs hL) {A : sA} (h : sR Qs ρ A ls st M) : sR Qs ρ (sstl hL A) ls st M ∧ (sstl hL A).1.1.length = A.1.1.length := by
  obtain ⟨K, D, F, Q, L, T⟩ := A
  unfold sstl
  dsimp only
  split
  · rename_i q1 j q2 q3 q4
    cases (sge0 K j && sge0 K (ssub (sC 171) j)) with
    | true => exact ⟨h, rfl⟩
    | false =>
      dsimp only [cond]
      have hl := HL ρ _ ls st M (2, 0, 0, sC 0, j) h
      obtain ⟨K', k1, k2, k3⟩ := sR_asm h (fun e he => (hl e he).1) (fun e he => (hl e he).2)
      rw [k1]
      exact ⟨k3, k2⟩
  · exact ⟨h, rfl⟩
theorem sstp_ok (HS : sHS Qs hS) (HC : sHC Qs hC) (HL : sHL Qs hL) {A : sA} (h : sR Qs ρ A ls st M) (wm : swM A.1.1.length mods) {r : zMe} {pc len : Nat} {i : Instr} {outs : List (Nat × sA)} (hs : sstp hS hC hL mods r.2.2.2.2.2.1 pc r.2.2.1 A i len = some outs) : ∃ pc' ls' st' M', (∀ (meth : Nat → Option zMe) (call : Nat → List Value → zM → Option (Option Value × zM)), zstep X meth call r pc ls st M i len = some (pc', ls', st', M')) ∧ sHit Qs ρ A.1.1.length outs pc' ls' st' M' ∧ sFrm ρ mods M M' := by
  have rd : ∀ {i : Instr}, zs0 pc ls st r.2.2.1 i len = none → (match srdM r.2.2.2.2.2.1 pc A i with
    | some outs => (match srlc r.2.2.2.2.2.1 A.2.2.2.2.2 i with
      | some lc => some (slrn hL lc outs)
      | none => some outs)
    | none => none) = some outs → ∃ pc' ls' st' M', (∀ (meth : Nat → Option zMe) (call : Nat → List Value → zM → Option (Option Value × zM)), zstep X meth call r pc ls st M i len = some (pc', ls', st', M')) ∧ sHit Qs ρ A.1.1.length outs pc' ls' st' M' ∧ sFrm ρ mods M M' := by
    intro i h0 ho
    split at ho
    · rename_i outs' hr
      obtain ⟨a, b, c, d, e⟩ := srdM_ok (X := X) (ini := r.2.2.2.2.2.2.1 == 2) h hr
      refine ⟨a, b, c, M, fun _ _ => by unfold zstep; rw [h0]; dsimp only; rw [d], ?_, sFrm.rf⟩
      split at ho
      · cases ho
        exact slrn_ok HL e
      · cases ho
        exact e
    · cases ho
  have s0 : ∀ {i : Instr}, sst0 pc r.2.2.1 A i len = some outs → ∃ pc' ls' st' M', (∀ (meth : Nat → Option zMe) (call : Nat → List Value → zM → Option (Option Value × zM)), zstep X meth call r pc ls st M i len = some (pc', ls', st', M')) ∧ sHit Qs ρ A.1.1.length outs pc' ls' st' M' ∧ sFrm ρ mods M M' := by
    intro i hs
    obtain ⟨a, b, c, d, e⟩ := sst0_ok h hs
    exact ⟨a, b, c, M, fun _ _ => by unfold zstep; rw [d], e, sFrm.rf⟩
  have sb : ∀ {i : Instr}, (match sst0 pc r.2.2.1 A i len with
    | some outs => some (slrn hL slc4 outs)
    | none => none) = some outs → ∃ pc' ls' st' M', (∀ (meth : Nat → Option zMe) (call : Nat → List Value → zM → Option (Option Value × zM)), zstep X meth call r pc ls st M i len = some (pc', ls', st', M')) ∧ sHit Qs ρ A.1.1.length outs pc' ls' st' M' ∧ sFrm ρ mods M M' := by
    intro i hs
    split at hs
    · rename_i o1 ho1
      cases hs
      obtain ⟨a, b, c, d, e⟩ := sst0_ok h ho1
      exact ⟨a, b, c, M, fun _ _ => by unfold zstep; rw [d], slrn_ok HL e, sFrm.rf⟩
    · cases hs
  have rb : (match srdM r.2.2.2.2.2.1 pc (sstl hL A) .baload with
    | some outs => (match srlc r.2.2.2.2.2.1 A.2.2.2.2.2 .baload with
      | some lc => some (slrn hL lc outs)
      | none => some outs)
    | none => none) = some outs → ∃ pc' ls' st' M', (∀ (meth : Nat → Option zMe) (call : Nat → List Value → zM → Option (Option Value × zM)), zstep X meth call r pc ls st M .baload len = some (pc', ls', st', M')) ∧ sHit Qs ρ A.1.1.length outs pc' ls' st' M' ∧ sFrm ρ mods M M' := by
    intro ho
    obtain ⟨g1, g2⟩ := sstl_ok HL h
    split at ho
    · rename_i outs' hr
      obtain ⟨a, b, c, d, e⟩ := srdM_ok (X := X) (ini := r.2.2.2.2.2.2.1 == 2) g1 hr
      rw [g2] at e
      refine ⟨a, b, c, M, fun _ _ => by unfold zstep; rw [show zs0 pc ls st r.2.2.1 .baload len = none from rfl]; dsimp only; rw [d], ?_, sFrm.rf⟩
      split at ho
      · cases ho
        exact slrn_ok HL e
      · cases ho
        exact e
    · cases ho
  unfold sstp at hs
  split at hs
  · obtain ⟨a, b, c, d, e, f, g⟩ := sstF_ok (X := X) (ini := r.2.2.2.2.2.2.1 == 2) HS h hs
    exact ⟨a, b, c, d, fun _ _ => by unfold zstep; rw [show zs0 pc ls st r.2.2.1 (.putfield _) len = none from rfl]; dsimp only; rw [e], f, g⟩
  · obtain ⟨a, b, c, d, e, f, g⟩ := (sstA_ok (X := X) (own := r.2.2.2.2.2.1) (ini := r.2.2.2.2.2.2.1 == 2) HS h wm hs).1 rfl
    exact ⟨a, b, c, d, fun _ _ => by unfold zstep; rw [show zs0 pc ls st r.2.2.1 .iastore len = none from rfl]; dsimp only; rw [e], f, g⟩
  · obtain ⟨a, b, c, d, e, f, g⟩ := (sstA_ok (X := X) (own := r.2.2.2.2.2.1) (ini := r.2.2.2.2.2.2.1 == 2) HS h wm hs).2 rfl
    exact ⟨a, b, c, d, fun _ _ => by unfold zstep; rw [show zs0 pc ls st r.2.2.1 .bastore len = none from rfl]; dsimp only; rw [e], f, g⟩
  · obtain ⟨a, b, c, d, e, f, g⟩ := sarc_ok (X := X) (ini := r.2.2.2.2.2.2.1 == 2) HC h wm hs
    exact ⟨a, b, c, d, fun _ _ => by unfold zstep; rw [show zs0 pc ls st r.2.2.1 (.invokestatic _) len = none from rfl]; dsimp only; rw [e], f, g⟩
  all_goals first | exact rb hs | exact rd rfl hs | exact sb hs | exact s0 hs
end SSTP
