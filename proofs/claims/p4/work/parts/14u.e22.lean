/-! THE ENGINE, 22: what is gone through ends well -/
/-- what a contract promises from a state -/
def sGl (Qs : Nat → List Int → zM → Prop) (th : Nat) (X : zX) (mt : Nat → Option zMe) (ov : zCall) (c : sCt) (r : zMe) (pc : Nat) (ρ : Nat → Int) (ls : zL) (M : zM) : Prop := ∃ (v : Option Value) (M' : zM), (∀ d : Nat, se ρ c.2.2.2.2.1 ≤ d → zRun th X mt ov d r pc ls [] M (v, M')) ∧ sFrm ρ c.2.1 M M' ∧ v.isSome = r.2.2.2.1.isSome ∧ ∃ t ∈ c.2.2.1, ∃ σ, sagr c.1.1.length ρ σ ∧ sR Qs σ (tst (tB c.1.1) t) (vres v) [] M'
/-- all contracts hold from states whose rank is below R -/
def sTb (Qs : Nat → List Int → zM → Prop) (th : Nat) (X : zX) (mt : Nat → Option zMe) (ov : zCall) (tbl : Nat → List sCt) (R : Int) : Prop := ∀ a c, c ∈ tbl a → ∀ r, mt a = some r →
  (∀ ρ ls M, sR Qs ρ (tst [] c.1) ls [] M → se ρ c.2.2.2.1 < R → sGl Qs th X mt ov c r 0 ρ ls M) ∧
  (∀ h ∈ c.2.2.2.2.2, ∀ ρ ls M, sR Qs ρ (tst (tB c.1.1) h.2.1) ls [] M → se ρ h.2.2 < R → sGl Qs th X mt ov c r h.1 ρ ls M)
def scwf (c : sCt) : Bool := twf 0 c.1 && (c.2.2.1.all (twf c.1.1.length) && ((c.2.1.all fun m => twE c.1.1.length m.2.2.2.1 && twE c.1.1.length m.2.2.2.2) && (twE c.1.1.length c.2.2.2.1 && (twE c.1.1.length c.2.2.2.2.1 && c.2.2.2.2.2.all fun h => twf c.1.1.length h.2.1 && twE (c.1.1.length + h.2.1.1.length) h.2.2))))
/-- what is known of String's own methods on text constants -/
def zmtX (mt : Nat → Option zMe) (ov : zCall) : Prop :=
  (∃ r, mt 501 = some r ∧ zmn 501 = r.1 ∧ r.2.2.2.2.1 = 0 ∧ r.2.2.2.2.2.2.1 = 1 ∧ "java/lang/String" = r.1.cls) ∧ (∃ r, mt 502 = some r ∧ zmn 502 = r.1 ∧ r.2.2.2.2.1 = 1 ∧ r.2.2.2.2.2.2.1 = 1 ∧ "java/lang/String" = r.1.cls) ∧
  (∀ (q : Nat) (M : zM), q < 13 → M.1 ≤ 1000000 → ov 501 [.ref (1000000 + q)] M = some (some (.int (Int32.ofNat (zsb q).length)), M)) ∧
  (∀ (q : Nat) (k : Int32) (M : zM), q < 13 → M.1 ≤ 1000000 → 0 ≤ k.toInt → k.toNatClampNeg < (zsb q).length → ov 502 [.ref (1000000 + q), .int k] M = some (some (.int ((zsb q).getD k.toNatClampNeg 0)), M))
def sFs (ρ : Nat → Int) (n : Nat) : List sFr → List (zL × List Value) → Prop
  | [], [] => True
  | f :: fs, g :: gs => (sLoc ρ g.1 f.2.2.1 ∧ (∀ p ∈ f.2.2.1, swV n p.2) ∧ sStk ρ g.2 f.2.2.2 ∧ ∀ a ∈ f.2.2.2, swV n a) ∧ sFs ρ n fs gs
  | _, _ => False
theorem sFs.to {ρ σ : Nat → Int} {n m : Nat} (ha : sagr n ρ σ) (hm : n ≤ m) : ∀ {fs : List sFr} {gs : List (zL × List Value)}, sFs ρ n fs gs → sFs σ m fs gs
  | [], [], _ => trivial
  | [], _ :: _, h => h.elim
  | _ :: _, [], h => h.elim
  | f :: fs, g :: gs, ⟨⟨h1, h2, h3, h4⟩, h5⟩ => ⟨⟨fun p hp => by
      obtain ⟨v, v1, v2⟩ := h1 p hp
      exact ⟨v, v1, sVal_agr ha (h2 p hp) v2⟩, fun p hp => swE.le (h2 p hp) hm, sStk_agr ha h4 h3, fun a q => swE.le (h4 a q) hm⟩, sFs.to ha hm h5⟩
def sbot : List sFr → zMe → zMe
  | [], r => r
  | f :: fs, _ => sbot fs f.1
section SGO
variable {Qs : Nat → List Int → zM → Prop} {hS : sA → sF → List sQ} {hM : sA → List sMo → List sQ} {hN : sA → sQ → Bool} {hL : sA → sLc → List sE} {th : Nat} {X : zX} {mt : Nat → Option zMe} {ov : zCall} {sovn : Nat → Bool} {tbl : Nat → List sCt} {C : sCt} {rk : sE} {r0 : zMe} {N0 : Nat} {ρ0 : Nat → Int} {M0 : zM}
/-- behind a return -/
def sEnd (Qs : Nat → List Int → zM → Prop) (th : Nat) (X : zX) (mt : Nat → Option zMe) (ov : zCall) (C : sCt) (ρ0 : Nat → Int) (M0 : zM) : List sFr → List (zL × List Value) → Option Value → zM → Prop
  | [], _, v, M' => sFrm ρ0 C.2.1 M0 M' ∧ ∃ t ∈ C.2.2.1, ∃ σ, sagr C.1.1.length ρ0 σ ∧ sR Qs σ (tst (tB C.1.1) t) (vres v) [] M'
  | f :: fs, g :: gs, v, M' => ∃ (v2 : Option Value) (M2 : zM), (∀ d : Nat, se ρ0 C.2.2.2.2.1 ≤ d + fs.length → zRun th X mt ov d f.1 f.2.1 g.1 (v.toList ++ g.2) M' (v2, M2)) ∧ v2.isSome = f.1.2.2.2.1.isSome ∧ sEnd Qs th X mt ov C ρ0 M0 fs gs v2 M2
  | _ :: _, [], _, _ => False
theorem tfr_get {n k x : Nat} (h : x < k) : (tfr n k).getD x (sC 0) = sS (n + x) := by
  unfold tfr
  rw [List.getD_eq_getElem?_getD, List.getElem?_map, List.getElem?_range h]
  rfl
theorem tfr_len {n k : Nat} : (tfr n k).length = k := by
  unfold tfr
  rw [List.length_map, List.length_range]
theorem tmn_id {σ : Nat → Int} {k : Nat} {xs : List sE} : sagr k σ (tmn σ (tfr 0 k ++ xs)) := by
  intro x hx
  unfold tmn
  rw [List.getD_eq_getElem?_getD, List.getElem?_append_left (by rw [tfr_len]; exact hx), ← List.getD_eq_getElem?_getD, tfr_get hx, se_S, Nat.zero_add]
theorem tfr_wf {n k : Nat} (h : k ≤ n) : ∀ e ∈ tfr 0 k, swE n e := by
  intro e he
  unfold tfr at he
  obtain ⟨j, hj, rfl⟩ := List.mem_map.mp he
  have := List.mem_range.mp hj
  exact swE_S (by omega)
theorem sfst_ok {f : sCt → Option (List sA)} {A : List sA} : ∀ {l : List sCt}, sfst f l = some A → ∃ c ∈ l, f c = some A
  | [], h => by cases h
  | c :: l, h => by
    unfold sfst at h
    split at h
    · rename_i A' hA
      cases h
      exact ⟨c, List.mem_cons_self, hA⟩
    · obtain ⟨c', h1, h2⟩ := sfst_ok h
      exact ⟨c', List.mem_cons_of_mem _ h1, h2⟩
theorem sR_sub {ρ : Nat → Int} {K : sK} {D : List sD} {F : List sF} {Q : List sQ} {L L' : List (Nat × sV)} {T T' : List sV} {ls ls' : zL} {st st' : List Value} {M : zM} (h : sR Qs ρ (K, D, F, Q, L, T) ls st M) (hl : sLoc ρ ls' L') (hlw : ∀ p ∈ L', swV K.1.length p.2) (ht : sStk ρ st' T') (htw : ∀ a ∈ T', swV K.1.length a) : sR Qs ρ (K, D, F, Q, L', T') ls' st' M := by
  obtain ⟨h1, h2, h3, h4, h5, h6, h7, w1, w2, w3, w4, w5, w6⟩ := h
  exact ⟨h1, h2, h3, h4, hl, ht, h7, w1, w2, w3, w4, hlw, htw⟩
theorem sxs_ok {ρ : Nat → Int} (hX : zmtX mt ov) {A : sA} {ls : zL} {st : List Value} {M : zM} (h : sR Qs ρ A ls st M) {own pc len nL : Nat} {ini : Bool} {i : Instr} (hk : zlok i len = true) {a : Nat} {A2 : sA} (hs : sxs own i A = some (a, A2)) : ∃ (args rs : List Value) (v : Value), (∀ ret, zret ret i st = none) ∧ zs0 pc ls st nL i len = none ∧ zs1 X own ini pc ls st M i = none ∧ zs3 X own pc ls st M i = none ∧ (∀ (call : Nat → List Value → zM → Option (Option Value × zM)) (w : Option Value) (M' : zM), call a args M = some (w, M') → zs2 mt call own pc ls st M i = some (pc + 3, ls, w.toList ++ rs, M')) ∧ ov a args M = some (some v, M) ∧ ∃ σ, sagr A.1.1.length ρ σ ∧ A.1.1.length ≤ A2.1.1.length ∧ sR Qs σ A2 ls (v :: rs) M := by
  obtain ⟨K, D, F, Q, L, T⟩ := A
  unfold sxs at hs
  dsimp only at hs
  have hMm := h.2.2.2.2.2.2.1
  have hM1 : M.1 ≤ 1000000 := by rw [hMm.1]; decide
  split at hs
  · rename_i x
    have hl : len = 3 := by simpa [zlok] using hk
    subst hl
    split at hs
    · rename_i t a' n p hlk
      cases ht : (Nat.beq t 1 || Nat.beq t 2) with
      | false => rw [ht] at hs; cases hs
      | true =>
        rw [ht] at hs
        have ht : t = 1 ∨ t = 2 := by
          rw [Bool.or_eq_true] at ht
          exact ht.imp Nat.eq_of_beq_eq_true Nat.eq_of_beq_eq_true
        dsimp only [cond] at hs
        cases h1 : (Nat.beq a' 501 && Nat.beq n 0) with
        | true =>
          rw [h1] at hs
          rw [Bool.and_eq_true] at h1
          have e1 := Nat.eq_of_beq_eq_true h1.1
          have e2 := Nat.eq_of_beq_eq_true h1.2
          subst e1 e2
          obtain ⟨⟨r, m0, m1, m2, m3, m4⟩, -, x1, -⟩ := hX
          dsimp only [cond] at hs
          split at hs
          · rename_i q e rest
            cases hc : Nat.ble (scat rest) 8 with
            | false => rw [hc] at hs; cases hs
            | true =>
              rw [hc] at hs
              cases hs
              obtain ⟨v, rs, rfl, ⟨rfl, hq⟩, w, h'⟩ := sR_pop h
              have hq : q < 13 := hq
              have hb : 1000000 ≤ 1000000 + q ∧ 1000000 + q < 1000013 := by omega
              have hcat := Nat.le_trans (scat_ok h'.2.2.2.2.2.1) (Nat.le_of_ble_eq_true hc)
              refine ⟨[.ref (1000000 + q)], rs, .int (Int32.ofNat (zsb q).length), fun _ => rfl, rfl, rfl, rfl, fun call w M' hcv => ?_, x1 q M hq hM1, ρ, fun _ _ => rfl, Nat.le_refl _, sR_push h' ⟨_, rfl, (se_C _).symm⟩ (swE_C _)⟩
              simp only [zs2, hlk, m0, List.drop_zero]
              rw [if_pos hb, if_pos ⟨ht, m1, m2, m3, m4, rfl, hcat⟩]
              simp only [List.take_zero, List.reverse_nil, hcv]
          · cases hs
        | false =>
          rw [h1] at hs
          dsimp only [cond] at hs
          cases h2 : (Nat.beq a' 502 && Nat.beq n 1) with
          | false => rw [h2] at hs; cases hs
          | true =>
            rw [h2] at hs
            rw [Bool.and_eq_true] at h2
            have e1 := Nat.eq_of_beq_eq_true h2.1
            have e2 := Nat.eq_of_beq_eq_true h2.2
            subst e1 e2
            obtain ⟨-, ⟨r, m0, m1, m2, m3, m4⟩, -, x2⟩ := hX
            dsimp only [cond] at hs
            split at hs
            · rename_i q1 j q e rest
              cases hc : Nat.ble (scat rest) 8 with
              | false => rw [hc] at hs; cases hs
              | true =>
                rw [hc] at hs
                dsimp only [cond] at hs
                obtain ⟨v, s1, rfl, ⟨y, rfl, hy⟩, w, h'⟩ := sR_pop h
                obtain ⟨v, rs, rfl, ⟨rfl, hq⟩, w2, h''⟩ := sR_pop h'
                have hy : y.toInt = se ρ j := hy
                have hq : q < 13 := hq
                have hb : 1000000 ≤ 1000000 + q ∧ 1000000 + q < 1000013 := by omega
                have hcat := Nat.le_trans (scat_ok h''.2.2.2.2.2.1) (Nat.le_of_ble_eq_true hc)
                have z2 : ∀ (call : Nat → List Value → zM → Option (Option Value × zM)) (w : Option Value) (M' : zM), call 502 [.ref (1000000 + q), .int y] M = some (w, M') → zs2 mt call own pc ls (.int y :: .ref (1000000 + q) :: rs) M (.invokevirtual x) = some (pc + 3, ls, w.toList ++ rs, M') := by
                  intro call w M' hcv
                  simp only [zs2, hlk, m0, List.drop_succ_cons, List.drop_zero]
                  rw [if_pos hb, if_pos ⟨ht, m1, m2, m3, m4, rfl, hcat⟩]
                  simp only [List.take_succ_cons, List.take_zero, List.reverse_cons, List.reverse_nil, List.nil_append, hcv]
                split at hs
                · rename_i c hcn
                  cases h0 : (spos c && Nat.blt c.toNat (zsb q).length) with
                  | false => rw [h0] at hs; cases hs
                  | true =>
                    rw [h0] at hs
                    cases hs
                    rw [Bool.and_eq_true] at h0
                    have c0 := spos_ok h0.1
                    have c1 : c.toNat < (zsb q).length := sbltt h0.2
                    have ec := scon_ok h.1.1 hcn
                    obtain ⟨d1, d2⟩ := sclamp (j := y) (by omega)
                    have d3 : y.toNatClampNeg = c.toNat := by omega
                    have hov := x2 q y M hq hM1 (by omega) (by omega)
                    rw [d3] at hov
                    exact ⟨_, rs, _, fun _ => rfl, rfl, rfl, rfl, z2, hov, ρ, fun _ _ => rfl, Nat.le_refl _, sR_push h'' ⟨_, rfl, (se_C _).symm⟩ (swE_C _)⟩
                · cases h0 : (sge0 K j && sge0 K (ssub (sC ((zsb q).length - 1 : Int)) j)) with
                  | false => rw [h0] at hs; cases hs
                  | true =>
                    rw [h0] at hs
                    cases hs
                    rw [Bool.and_eq_true] at h0
                    have p0 := sge0_ok h.1 h0.1
                    have p1 := sge0_ok h.1 h0.2
                    rw [se_sub, se_C] at p1
                    obtain ⟨d1, d2⟩ := sclamp (j := y) (by omega)
                    have hov := x2 q y M hq hM1 (by omega) (by omega)
                    have h2 := sR_fresh h'' (sr32 ((zsb q).getD y.toNatClampNeg 0))
                    have hl : (sfresh K sI32.1 sI32.2).1.length = K.1.length + 1 := List.length_append
                    exact ⟨_, rs, _, fun _ => rfl, rfl, rfl, rfl, z2, hov, _, supd_agr, by dsimp only; rw [hl]; exact Nat.le_succ _, sR_push (v := .int ((zsb q).getD y.toNatClampNeg 0)) (a := (0, 0, sS K.1.length)) h2 ⟨_, rfl, by show _ = se _ (sS K.1.length); rw [se_S]; exact supd_self.symm⟩ (by show swE _ _; rw [hl]; exact swE_S (Nat.lt_succ_self _))⟩
            · cases hs
    · cases hs
  · cases hs
end SGO
