/-! THE ENGINE, 23: the walk is right -/
section SGO2
variable {Qs : Nat → List Int → zM → Prop} {hS : sA → sF → List sQ} {hM : sA → List sMo → List sQ} {hN : sA → sQ → Bool} {hL : sA → sLc → List sE} {hC : sA → sCy → List sQ} {hG : Nat → Nat → Instr → sA → Option sE} {th : Nat} {X : zX} {mt : Nat → Option zMe} {ov : zCall} {sovn : Nat → Bool} {tbl : Nat → List sCt} {C : sCt} {rk : sE} {r0 : zMe} {N0 a0 : Nat} {ρ0 : Nat → Int} {M0 : zM}
theorem sR_arg {ρ : Nat → Int} {K : sK} {D : List sD} {F : List sF} {Q : List sQ} {L : List (Nat × sV)} {T : List sV} {ls : zL} {st : List Value} {M : zM} (h : sR Qs ρ (K, D, F, Q, L, T) ls st M) : tAr ρ K.1.length ls L := by
  obtain ⟨h1, h2, h3, h4, h5, h6, h7, w1, w2, w3, w4, w5, w6⟩ := h
  exact fun p hp => ⟨w5 p hp, h5 p hp⟩
theorem sapp_ok (HM : sHM Qs hM) (HN : sHN Qs hN) (HL : sHL Qs hL) (hov : ∀ a, sovn a = true → ∀ args M, ov a args M = none) {c : sCt} (hcw : scwf c = true) {a : Nat} (hct : c ∈ tbl a) {r' : zMe} (hr' : mt a = some r') (hsv : sovn a = true) {R : Int} (hTb : sTb Qs th X mt ov tbl R) {mods : List sMo} {dep : sE} {nest : Nat} {ρ : Nat → Int} {K : sK} {D : List sD} {F : List sF} {Q : List sQ} {L : List (Nat × sV)} {T : List sV} {ls : zL} {rs : List Value} {M : zM} (h : sR Qs ρ (K, D, F, Q, L, T) ls rs M) (hrk : swE K.1.length rk ∧ se ρ rk ≤ R) (hdw : swE K.1.length dep) (wm : swM K.1.length mods) {vals : List sV} {args : List Value} (hv : sStk ρ args vals) (hvw : ∀ x ∈ vals, swV K.1.length x) (hkn : sknown vals = true) (hsl : sslots vals ≤ r'.2.2.1) {As : List sA} (hs : sapp hM hN hL mods rk dep nest (K, D, F, Q, L, T) vals r'.2.2.2.1.isSome c = some As) :
    ∃ (v : Option Value) (M' : zM), (∀ d : Nat, se ρ dep ≤ d + nest → ∃ d', d = d' + 1 ∧ zCll th X mt ov d' a args M (v, M')) ∧ sFrm ρ mods M M' ∧ ∃ A2 ∈ As, ∃ σ, sagr K.1.length ρ σ ∧ K.1.length ≤ A2.1.1.length ∧ sR Qs σ A2 ls (v.toList ++ rs) M' := by
  unfold sapp at hs
  split at hs
  · rename_i A' τ ht
    cases hc : ((c.2.1.map (tsm τ)).all (tin A'.1 mods) && (sge0 A'.1 (sP1 (ssub rk (tsb τ c.2.2.2.1))) && (sge0 A'.1 (ssub (ssub dep (sC (nest + 1 : Int))) (tsb τ c.2.2.2.2.1)) && (sge0 A'.1 (tsb τ c.2.2.2.2.1) && c.2.2.1.all fun t => tres (tLs c.1.1.length t.1) r'.2.2.2.1.isSome)))) with
    | false => rw [hc] at hs; cases hs
    | true =>
      rw [hc] at hs
      have hs := Option.some.inj hs
      simp only [Bool.and_eq_true] at hc
      obtain ⟨c1, c2, c3, c4, c5⟩ := hc
      unfold scwf at hcw
      simp only [Bool.and_eq_true] at hcw
      obtain ⟨w1, w2, w3, w4, w5, w6⟩ := hcw
      have hargs : tAr ρ K.1.length (lv_args 0 args) (sargs 0 vals) := fun p hp => by
        obtain ⟨v, v1, v2⟩ := sargs_ok vals args 0 hv hkn p hp
        refine ⟨?_, v, v1, v2⟩
        clear v1 v2 hs ht
        have : ∀ (l : List sV) (k : Nat), (∀ x ∈ l, swV K.1.length x) → ∀ p ∈ sargs k l, swV K.1.length p.2 := by
          intro l
          induction l with
          | nil => intro _ _ p hp; cases hp
          | cons a l ih =>
            intro k hl p hp
            unfold sargs at hp
            rcases List.mem_cons.mp hp with rfl | hp
            · exact hl _ List.mem_cons_self
            · exact ih _ (fun x hx => hl x (List.mem_cons_of_mem _ hx)) p hp
        exact this vals 0 hvw p hp
      obtain ⟨σ, s1, s2, s3, s4, s5, ⟨xs, s6, s6'⟩, -, s7, s8⟩ := tmc_ok HN HL (la := lv_args 0 args) (bs0 := []) h (fun e he => by cases he) hargs w1 ht
      have hτl : τ.length = c.1.1.length := by rw [s6, List.nil_append]; exact s6'
      obtain ⟨K', D', F', Q', L', T'⟩ := A'
      cases s4
      cases s5
      have e2 := sge0_ok s3.1 c2
      have e3 := sge0_ok s3.1 c3
      have e4 := sge0_ok s3.1 c4
      rw [se_P1, se_sub, se_sb, se_agr s1 hrk.1] at e2
      rw [se_sub, se_sub, se_C, se_sb, se_agr s1 hdw] at e3
      rw [se_sb] at e4
      obtain ⟨v, M', g1, g2, g3, t, ht2, σc, g4, g5⟩ := (hTb a c hct r' hr').1 (tmn σ τ) (lv_args 0 args) M s8 (by omega)
      have hK : K.1.length ≤ K'.1.length := s2
      have hmw : ∀ m ∈ c.2.1, swE K'.1.length (tsb τ m.2.2.2.1) ∧ swE K'.1.length (tsb τ m.2.2.2.2) := fun m _ => ⟨swE_sb s7 _, swE_sb s7 _⟩
      obtain ⟨A2, t0, σ2, t1, t2, t3⟩ := tpo_ok (bs0 := tB c.1.1) (post := t) HM s3 s7 (by rw [tB_len]; exact hτl) (by rw [tB_len]; exact List.all_eq_true.mp w2 t ht2) hmw g3 (by rw [tB_len]; exact List.all_eq_true.mp c5 t ht2) g2 (by rw [tB_len]; exact g4) g5
      refine ⟨v, M', fun d hd => ?_, sFrm_agr s1 wm (tin_ok s3.1 (sFrm_sb g2) c1), A2, by rw [← hs]; exact List.mem_filterMap.mpr ⟨t, ht2, t0⟩, σ2, fun x hx => (t1 x (Nat.lt_of_lt_of_le hx hK)).trans (s1 x hx), Nat.le_trans hK t2, t3⟩
      refine ⟨d - 1, by omega, zRun_cll (g1 (d - 1) (by omega)) hr' (hov a hsv _ _) ?_⟩
      rw [sslots_ok vals args hv hkn]
      exact hsl
  · cases hs
theorem sgo_ok (HS : sHS Qs hS) (HM : sHM Qs hM) (HN : sHN Qs hN) (HL : sHL Qs hL) (HC : sHC Qs hC) (hGm : zmtG mt) (hX : zmtX mt ov) (hov : ∀ a, sovn a = true → ∀ args M, ov a args M = none) (hwf : ∀ a c, c ∈ tbl a → scwf c = true) (hCm : C ∈ tbl a0) (h0 : mt a0 = some r0) (hN0 : C.1.1.length ≤ N0) (hrk : swE N0 rk) (hTb : sTb Qs th X mt ov tbl (se ρ0 rk)) :
    ∀ (n : Nat) (fst : Bool) (fs : List sFr) (r : zMe) (pc : Nat) (A : sA), sgo hS hM hN hL hC hG th mt sovn tbl C rk n fst fs r pc A = true → sbot fs r = r0 → ∀ (ρ : Nat → Int) (ls : zL) (st : List Value) (M : zM) (gs : List (zL × List Value)), sR Qs ρ A ls st M → N0 ≤ A.1.1.length → sagr N0 ρ0 ρ → sFrm ρ0 C.2.1 M0 M → sFs ρ A.1.1.length fs gs →
    ∃ (v : Option Value) (M' : zM), (∀ d : Nat, se ρ0 C.2.2.2.2.1 ≤ d + fs.length → zRun th X mt ov d r pc ls st M (v, M')) ∧ v.isSome = r.2.2.2.1.isSome ∧ sEnd Qs th X mt ov C ρ0 M0 fs gs v M' := by
  have hCw := hwf a0 C hCm
  unfold scwf at hCw
  simp only [Bool.and_eq_true] at hCw
  obtain ⟨w1, w2, w3, w4, w5, w6⟩ := hCw
  have w4 := twE_ok w4
  have w5 := twE_ok w5
  have hmw : ∀ {m : Nat}, C.1.1.length ≤ m → swM m C.2.1 := fun hm q hq => by
    have := List.all_eq_true.mp w3 q hq
    rw [Bool.and_eq_true] at this
    exact ⟨(twE_ok this.1).le hm, (twE_ok this.2).le hm⟩
  intro n
  induction n with
  | zero => intro fst fs r pc A hs; cases hs
  | succ n ih =>
    intro fst fs r pc A hs hbt ρ ls st M gs h hN1 hag hfr hfs
    obtain ⟨K, D, F, Q, L, T⟩ := A
    have hN1 : N0 ≤ K.1.length := hN1
    have hdep : se ρ C.2.2.2.2.1 = se ρ0 C.2.2.2.2.1 := se_agr hag (w5.le hN0)
    have hrkv : se ρ rk = se ρ0 rk := se_agr hag hrk
    -- frames of memory go on
    have go : ∀ {σ : Nat → Int} {m : Nat}, sagr K.1.length ρ σ → sagr N0 ρ0 σ := fun q x hx => (q x (Nat.lt_of_lt_of_le hx hN1)).trans (hag x hx)
    have hfm : ∀ {M' : zM}, sFrm ρ C.2.1 M M' → sFrm ρ0 C.2.1 M0 M' := fun q => hfr.trans (sFrm_agr hag (hmw hN0) q)
    unfold sgo at hs
    split at hs
    · rename_i hd0 hhd
      unfold shead at hhd
      cases fst with
      | true => cases hhd
      | false =>
        cases fs with
        | cons f fs => cases hhd
        | nil =>
          cases gs with
          | cons g gs => exact hfs.elim
          | nil =>
            have hbt : r = r0 := hbt
            subst hbt
            obtain ⟨hd, hmem, hs⟩ := List.any_eq_true.mp hs
            rw [Bool.and_eq_true] at hs
            have hpc : hd.1 = pc := Nat.eq_of_beq_eq_true hs.1
            have hs := hs.2
            unfold shd at hs
            dsimp only at hs
            split at hs
            · split at hs
              · rename_i A' τ ht
                have hwh := List.all_eq_true.mp w6 hd hmem
                rw [Bool.and_eq_true] at hwh
                obtain ⟨σ, s1, s2, s3, -, -, ⟨xs, s6, -⟩, -, s7, s8⟩ := tmc_ok HN HL (la := ls) h (tfr_wf (Nat.le_trans hN0 hN1)) (sR_arg h) (by rw [tB_len]; exact hwh.1) ht
                have hμ : sagr C.1.1.length σ (tmn σ τ) := by rw [s6]; exact tmn_id
                have hσ0 : sagr N0 ρ0 σ := go (m := 0) s1
                have hμ0 : sagr C.1.1.length ρ0 (tmn σ τ) := fun x hx => (hμ x hx).trans (hσ0 x (Nat.lt_of_lt_of_le hx hN0))
                have e1 := sge0_ok s3.1 hs
                rw [se_P1, se_sub, se_sb, se_agr hσ0 hrk] at e1
                obtain ⟨v, M', g1, g2, g3, t, ht2, σc, g4, g5⟩ := (hTb a0 C hCm r h0).2 hd hmem (tmn σ τ) ls M s8 (by omega)
                rw [hpc] at g1
                cases st with
                | cons y ys => exact h.2.2.2.2.2.1.elim
                | nil =>
                  refine ⟨v, M', fun d hd => g1 d ?_, g3, hfr.trans (sFrm_agr hμ0 (hmw (Nat.le_refl _)) g2), t, ht2, σc, fun x hx => (g4 x hx).trans (hμ0 x hx), g5⟩
                  rw [se_agr hμ0 w5]
                  exact hd
              · cases hs
            · cases hs
    · split at hs
      · cases hs
      · rename_i i len hcd
        split at hs
        · rename_i e hsp
          have we : swE K.1.length e := by
            have hT := h.2.2.2.2.2.2.2.2.2.2.2.2
            have hd : ∀ {e : sE}, sspl K i T = some e → swE K.1.length e := by
              intro e hsp
              unfold sspl at hsp
              split at hsp
              all_goals first
                | (cases hsp; done)
                | (split at hsp
                   · split at hsp
                     · cases hq : (spos (_ - 1) && !(sge0 K _ || sge0 K (sneg _))) with
                       | false => rw [hq] at hsp; cases hsp
                       | true => rw [hq] at hsp; cases hsp; exact hT _ (List.mem_cons_of_mem _ List.mem_cons_self)
                     · cases hsp
                   · cases hsp)
            unfold ssp2 at hsp
            split at hsp
            · rename_i e1 _
              cases hq : twE K.1.length e1 with
              | true =>
                have hsp : cond (twE K.1.length e1) (some e1) (sspl K i T) = some e := hsp
                rw [hq] at hsp
                cases hsp
                exact twE_ok hq
              | false =>
                have hsp : cond (twE K.1.length e1) (some e1) (sspl K i T) = some e := hsp
                rw [hq] at hsp
                exact hd hsp
            · exact hd hsp
          rw [Bool.and_eq_true] at hs
          have one : ∀ e' : sE, swE K.1.length e' → 0 ≤ se ρ e' → (match sasm [e'] K with
              | some K1 => sgo hS hM hN hL hC hG th mt sovn tbl C rk n fst fs r pc (K1, D, F, Q, L, T)
              | none => true) = true → ∃ (v : Option Value) (M' : zM), (∀ d : Nat, se ρ0 C.2.2.2.2.1 ≤ d + fs.length → zRun th X mt ov d r pc ls st M (v, M')) ∧ v.isSome = r.2.2.2.1.isSome ∧ sEnd Qs th X mt ov C ρ0 M0 fs gs v M' := by
            intro e' w' he hs
            obtain ⟨K1, k1, k2, k3⟩ := sR_asm h (l := [e']) (List.forall_mem_cons.mpr ⟨w', fun _ q => by cases q⟩) (List.forall_mem_cons.mpr ⟨he, fun _ q => by cases q⟩)
            rw [k1] at hs
            exact ih fst fs r pc _ hs hbt ρ ls st M gs k3 (by show N0 ≤ K1.1.length; rw [k2]; exact hN1) hag hfr (by show sFs ρ K1.1.length fs gs; rw [k2]; exact hfs)
          rcases Int.le_total 0 (se ρ e) with q | q
          · exact one e we q hs.1
          · by_cases q0 : se ρ e = 0
            · exact one e we (by omega) hs.1
            · exact one (sM1 e) (swE_sub (swE_C _) we) (by rw [se_M1]; omega) hs.2
        cases hk : zlok i len with
        | false => rw [hk] at hs; cases hs
        | true =>
          rw [hk] at hs
          dsimp only [cond] at hs
          cases hi : sisr i with
          | true =>
            rw [hi] at hs
            dsimp only [cond] at hs
            split at hs
            · rename_i v hv
              obtain ⟨w, z1, z2, z3⟩ := srt_ok h.1 h.2.2.2.2.2.1 hv
              have hT := h.2.2.2.2.2.2.2.2.2.2.2.2
              split at hs
              · cases gs with
                | cons g gs => exact hfs.elim
                | nil =>
                  have hbt : r = r0 := hbt
                  subst hbt
                  unfold sfin at hs
                  obtain ⟨t, ht2, hs⟩ := List.any_eq_true.mp hs
                  obtain ⟨q, hq⟩ := Option.isSome_iff_exists.mp hs
                  obtain ⟨A', τ⟩ := q
                  have h' : sR Qs ρ (K, D, F, Q, L, []) ls [] M := sR_sub h h.2.2.2.2.1 h.2.2.2.2.2.2.2.2.2.2.2.1 trivial (fun a q => by cases q)
                  have hargs : tAr ρ K.1.length (vres w) (slv v) := by
                    cases w with
                    | none => cases v with
                      | none => exact fun p hp => by cases hp
                      | some a => exact z3.elim
                    | some x => cases v with
                      | none => exact z3.elim
                      | some a =>
                        intro p hp
                        rw [List.mem_singleton.mp hp]
                        obtain ⟨u1, b, u2, u3⟩ := z3
                        refine ⟨?_, x, ?_, u1⟩
                        · show swE _ a.2.2
                          rw [u3]
                          exact hT b u2
                        · show zget [(0, x)] 0 = some x
                          rw [zget_cons, if_pos rfl]
                  obtain ⟨σ, s1, s2, s3, -, -, ⟨xs, s6, -⟩, -, s7, s8⟩ := tmc_ok HN HL (la := vres w) h' (tfr_wf (Nat.le_trans hN0 hN1)) hargs (by rw [tB_len]; exact List.all_eq_true.mp w2 t ht2) hq
                  have hμ : sagr C.1.1.length σ (tmn σ τ) := by rw [s6]; exact tmn_id
                  have hσ0 : sagr N0 ρ0 σ := go (m := 0) s1
                  exact ⟨w, M, fun d _ => zRun_ret hcd hk z1, z2, hfr, t, ht2, tmn σ τ, fun x hx => (hμ x hx).trans (hσ0 x (Nat.lt_of_lt_of_le hx hN0)), s8⟩
              · rename_i f fs' _
                cases gs with
                | nil => exact hfs.elim
                | cons g gs =>
                  obtain ⟨⟨f1, f2, f3, f4⟩, f5⟩ := hfs
                  have h' : sR Qs ρ (K, D, F, Q, f.2.2.1, v.toList ++ f.2.2.2) g.1 (w.toList ++ g.2) M := by
                    refine sR_sub h f1 f2 ?_ ?_
                    · cases w with
                      | none => cases v with
                        | none => exact f3
                        | some a => exact z3.elim
                      | some x => cases v with
                        | none => exact z3.elim
                        | some a => exact ⟨z3.1, f3⟩
                    · cases v with
                      | none => exact f4
                      | some a => cases w with
                        | none => exact z3.elim
                        | some x =>
                          obtain ⟨u1, b, u2, u3⟩ := z3
                          exact List.forall_mem_cons.mpr ⟨by show swE _ a.2.2; rw [u3]; exact hT b u2, f4⟩
                  obtain ⟨v2, M2, y1, y2, y3⟩ := ih false fs' f.1 f.2.1 _ hs hbt ρ g.1 (w.toList ++ g.2) M gs h' hN1 hag hfr f5
                  exact ⟨w, M, fun d _ => zRun_ret hcd hk z1, z2, v2, M2, y1, y2, y3⟩
            · cases hs
          | false =>
            rw [hi] at hs
            dsimp only [cond] at hs
            split at hs
            · rename_i a r' vals rest hsc
              obtain ⟨hr', b1, b2, args, rs, b3, b4, b5, b6, b7, b8, b9⟩ := scx_ok (X := X) (nL := r.2.2.1) (pc := pc) (ls := ls) (ini := r.2.2.2.2.2.2.1 == 2) hGm h.2.2.2.2.2.1 h.2.2.2.2.2.2.1 hk hsc
              have hT := h.2.2.2.2.2.2.2.2.2.2.2.2
              cases hc : (sovn a && (sknown vals && Nat.ble (sslots vals) r'.2.2.1)) with
              | false => rw [hc] at hs; cases hs
              | true =>
                rw [hc] at hs
                dsimp only [cond] at hs
                simp only [Bool.and_eq_true] at hc
                obtain ⟨c1, c2, c3⟩ := hc
                have c3 := Nat.le_of_ble_eq_true c3
                have hrest : sR Qs ρ (K, D, F, Q, L, rest) ls rs M := sR_sub h h.2.2.2.2.1 h.2.2.2.2.2.2.2.2.2.2.2.1 b4 (fun x hx => hT x (b2 x hx))
                split at hs
                · cases hc : sge0 K (ssub C.2.2.2.2.1 (sC (fs.length + 1 : Int))) with
                  | false => rw [hc] at hs; cases hs
                  | true =>
                    rw [hc] at hs
                    dsimp only [cond] at hs
                    have hd1 := sge0_ok h.1 hc
                    rw [se_sub, se_C, hdep] at hd1
                    have hl : sLoc ρ (lv_args 0 args) (sargs 0 vals) := fun p hp => sargs_ok vals args 0 b3 c2 p hp
                    have hlw : ∀ p ∈ sargs 0 vals, swV K.1.length p.2 := by
                      have : ∀ (l : List sV) (k : Nat), (∀ x ∈ l, swV K.1.length x) → ∀ p ∈ sargs k l, swV K.1.length p.2 := by
                        intro l
                        induction l with
                        | nil => intro _ _ p hp; cases hp
                        | cons a l ih =>
                          intro k hl p hp
                          unfold sargs at hp
                          rcases List.mem_cons.mp hp with rfl | hp
                          · exact hl _ List.mem_cons_self
                          · exact ih _ (fun x hx => hl x (List.mem_cons_of_mem _ hx)) p hp
                      exact this vals 0 (fun x hx => hT x (b1 x hx))
                    have h' : sR Qs ρ (K, D, F, Q, sargs 0 vals, []) (lv_args 0 args) [] M := sR_sub h hl hlw trivial (fun a q => by cases q)
                    obtain ⟨v, M1, y1, y2, v2, M2, y3, y4, y5⟩ := ih false ((r, pc + 3, L, rest) :: fs) r' 0 _ hs hbt ρ (lv_args 0 args) [] M ((ls, rs) :: gs) h' hN1 hag hfr ⟨⟨h.2.2.2.2.1, h.2.2.2.2.2.2.2.2.2.2.2.1, b4, fun x hx => hT x (b2 x hx)⟩, hfs⟩
                    refine ⟨v2, M2, fun d hd => ?_, y4, y5⟩
                    obtain ⟨d', rfl⟩ : ∃ d', d = d' + 1 := ⟨d - 1, by omega⟩
                    refine zRun_call hcd hk (b5 _) b6 b7 b8 (fun call => b9 call v M1) (zRun_cll (y1 d' ?_) hr' (hov a c1 _ _) ?_) (y3 (d' + 1) hd)
                    · show _ ≤ (d' : Int) + ((fs.length + 1 : Nat) : Int)
                      omega
                    · rw [sslots_ok vals args b3 c2]
                      exact c3
                · rename_i c0 cs hcs
                  split at hs
                  · rename_i As hA2
                    obtain ⟨c, hcm, hca⟩ := sfst_ok hA2
                    have hct : c ∈ tbl a := by rw [hcs]; exact hcm
                    obtain ⟨v, M1, y1, y2, A2, yA, σ, y3, y4, y5⟩ := sapp_ok (rk := rk) HM HN HL hov (hwf a c hct) hct hr' c1 hTb hrest ⟨hrk.le hN1, Int.le_of_eq hrkv⟩ (w5.le (Nat.le_trans hN0 hN1)) (hmw (Nat.le_trans hN0 hN1)) b3 (fun x hx => hT x (b1 x hx)) c2 c3 hca
                    obtain ⟨v2, M2, x1, x2, x3⟩ := ih false fs r (pc + 3) A2 (List.all_eq_true.mp hs A2 yA) hbt σ ls (v.toList ++ rs) M1 gs y5 (Nat.le_trans hN1 y4) (go (m := 0) y3) (hfm y2) (hfs.to y3 y4)
                    refine ⟨v2, M2, fun d hd => ?_, x2, x3⟩
                    obtain ⟨d', rfl, hcl⟩ := y1 d (by rw [hdep]; exact hd)
                    exact zRun_call hcd hk (b5 _) b6 b7 b8 (fun call => b9 call v M1) hcl (x1 (d' + 1) hd)
                  · cases hs
            · split at hs
              · rename_i a A2 hsx
                cases hc : sge0 K (ssub C.2.2.2.2.1 (sC (fs.length + th + 1 : Int))) with
                | false => rw [hc] at hs; cases hs
                | true =>
                  rw [hc] at hs
                  dsimp only [cond] at hs
                  have hd1 := sge0_ok h.1 hc
                  rw [se_sub, se_C, hdep] at hd1
                  obtain ⟨args, rs, v, b5, b6, b7, b8, b9, b10, σ, y3, y4, y5⟩ := sxs_ok (mt := mt) (ov := ov) (X := X) (nL := r.2.2.1) (pc := pc) (ini := r.2.2.2.2.2.2.1 == 2) hX h hk hsx
                  obtain ⟨v2, M2, x1, x2, x3⟩ := ih false fs r (pc + 3) A2 hs hbt σ ls (v :: rs) M gs y5 (Nat.le_trans hN1 y4) (go (m := 0) y3) hfr (hfs.to y3 y4)
                  refine ⟨v2, M2, fun d hd => ?_, x2, x3⟩
                  obtain ⟨d', rfl⟩ : ∃ d', d = d' + 1 := ⟨d - 1, by omega⟩
                  exact zRun_call hcd hk (b5 _) b6 b7 b8 (fun call => b9 call (some v) M) (zCll_ov b10 (by omega)) (x1 (d' + 1) hd)
              · split at hs
                · rename_i outs hou
                  obtain ⟨pc', ls', st', M1, z1, ⟨q, q1, q2, σ, q3, q4, q5⟩, z3⟩ := sstp_ok (X := X) HS HC HL h (hmw (Nat.le_trans hN0 hN1)) hou
                  have := List.all_eq_true.mp hs q q1
                  obtain ⟨v2, M2, x1, x2, x3⟩ := ih false fs r q.1 q.2 this hbt σ ls' st' M1 gs q5 (Nat.le_trans hN1 q4) (go (m := 0) q3) (hfm z3) (hfs.to q3 q4)
                  rw [q2] at x1
                  exact ⟨v2, M2, fun d hd => zRun_step hcd hk (sisr_none hi) z1 (x1 d hd), x2, x3⟩
                · cases hs
end SGO2
