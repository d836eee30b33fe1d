/-! THE LAW OVER CONTRACTS, 4: what holds between calls -/
def lrho (l : List Int) (x : Nat) : Int := l.getD x 0
def cI (t n k0 k1 : Int) (M : zM) : Prop := sMem M ∧ (∀ q ∈ cQL, cQs q [] M) ∧ sFacE 0 0 t M 0 11 1 0 0 ∧ sFacE 0 0 n M 0 11 3 0 0 ∧ sFacE 0 0 k0 M 1 57 0 0 0 ∧ sFacE 0 1 k1 M 1 57 0 0 0
def rI (t : Int) (us : List Int) (M : zM) : Prop := sMem M ∧ (∀ q ∈ rQN, hQs rQ q [] M) ∧ sFacE 474 0 t M 0 12 2 0 0 ∧ ∀ i, i < 5 → sFacE 474 (lCell i) (us.getD i 0) M 1 58 0 0 0
def lCallOK (X : zX) (a : Nat) (args : List Value) (M : zM) (x : Int32) (M' : zM) : Prop := ∃ N, ∀ k, N ≤ k → zev 10 X zmt zovT 400 k a args M = some (some (.int x), M')
section LI
variable {ρ : Nat → Int} {M M' : zM} {mods : List sMo}
theorem facF {c j q : Nat} {zo zi t : Int} (hf : sFrm ρ mods M M') (hm : (mods.all fun m => !(Nat.beq m.1 0 && (Nat.beq m.2.1 c && Nat.beq m.2.2.1 j))) = true) (h : sFacE zo zi t M 0 c j 0 q) : sFacE zo zi t M' 0 c j 0 q := by
  obtain ⟨k, k1, k2, k3⟩ := h
  refine ⟨k, k1, k2, ?_⟩
  rw [hf.1 k c j k2 (fun m hm' ⟨a1, a2, a3⟩ => by
    have h2 := List.all_eq_true.mp hm m hm'
    rw [a1, a2, a3, Nat.beq_refl, Nat.beq_refl, Nat.beq_refl] at h2
    cases h2)]
  exact k3
theorem facR {r q : Nat} {zo zi t : Int} (hf : sFrm ρ mods M M') (hm : (mods.all fun m => !(Nat.beq m.1 1 && Nat.beq m.2.1 r)) = true) (h : sFacE zo zi t M 1 r 0 0 q) : sFacE zo zi t M' 1 r 0 0 q := by
  obtain ⟨k, i, k1, k2, k3, k4, k5⟩ := h
  refine ⟨k, i, k1, k2, k3, k4, ?_⟩
  rw [hf.2 r k i k3 k4 (fun m hm' ⟨a1, a2, a3⟩ => by
    have h2 := List.all_eq_true.mp hm m hm'
    rw [a1, a2, Nat.beq_refl, Nat.beq_refl] at h2
    cases h2)]
  exact k5
def lQst (l : List Nat) : sA := (([], []), [], [], l.map fun n => (n, []), [], [])
def lkQ (hM : sA → List sMo → List sQ) (ms : List sMo) (l : List Nat) : Bool := (ms.all fun m => twE 0 m.2.2.2.1 && twE 0 m.2.2.2.2) && l.all fun n => (hM (lQst l) ms).any fun p => Nat.beq p.1 n && p.2.isEmpty
theorem keepQ {Qs : Nat → List Int → zM → Prop} {hM : sA → List sMo → List sQ} (HM : sHM Qs hM) {l : List Nat} (hs : lkQ hM mods l = true) (hf : sFrm ρ mods M M') (h : ∀ q ∈ l, Qs q [] M) (hM0 : sMem M) (hM' : sMem M') : ∀ q ∈ l, Qs q [] M' := by
  unfold lkQ at hs
  rw [Bool.and_eq_true] at hs
  have wm : swM 0 mods := fun m hm => by
    have := List.all_eq_true.mp hs.1 m hm
    rw [Bool.and_eq_true] at this
    exact ⟨twE_ok this.1, twE_ok this.2⟩
  have hf0 : sFrm (fun _ => 0) mods M M' := sFrm_agr (n := 0) (ρ := fun _ => 0) (σ := ρ) (fun x hx => absurd hx (Nat.not_lt_zero x)) wm hf
  have hR0 : sR Qs (fun _ => 0) (lQst l) [] [] M := ⟨⟨fun x => ⟨Int.le_refl _, Int.le_refl _⟩, fun p hp => (by cases hp)⟩, fun d hd => (by cases hd), fun f hf => (by cases hf), fun q hq => by
    obtain ⟨n, hn, rfl⟩ := List.mem_map.mp hq
    exact h n hn, fun p hp => (by cases hp), trivial, hM0, fun p hp => (by cases hp), fun d hd => (by cases hd), fun f hf => (by cases hf), fun q hq e he => (by
    obtain ⟨n, hn, rfl⟩ := List.mem_map.mp hq
    cases he), fun p hp => (by cases hp), fun p hp => (by cases hp)⟩
  have hq := HM _ _ [] [] M M' mods hR0 wm hf0 hM'
  intro n hn
  obtain ⟨p, hp, e⟩ := List.any_eq_true.mp (List.all_eq_true.mp hs.2 n hn)
  rw [Bool.and_eq_true] at e
  have g := (hq p hp).1
  rw [Nat.eq_of_beq_eq_true e.1, List.isEmpty_iff.mp e.2] at g
  exact g
end LI
theorem kQ_r : lkQ (rhM rHT) cMods rQN = true := by decide +kernel
theorem kQ_c : lkQ (hMx cpd) rMods cQL = true := by decide +kernel
theorem kF_r : (cMods.all fun m => !(Nat.beq m.1 0 && (Nat.beq m.2.1 12 && Nat.beq m.2.2.1 2))) = true := by decide +kernel
theorem kR_r : (cMods.all fun m => !(Nat.beq m.1 1 && Nat.beq m.2.1 58)) = true := by decide +kernel
theorem kF_c1 : (rMods.all fun m => !(Nat.beq m.1 0 && (Nat.beq m.2.1 11 && Nat.beq m.2.2.1 1))) = true := by decide +kernel
theorem kF_c3 : (rMods.all fun m => !(Nat.beq m.1 0 && (Nat.beq m.2.1 11 && Nat.beq m.2.2.1 3))) = true := by decide +kernel
theorem kR_c : (rMods.all fun m => !(Nat.beq m.1 1 && Nat.beq m.2.1 57)) = true := by decide +kernel
theorem rI_keep {ρ : Nat → Int} {M M' : zM} {t : Int} {us : List Int} (h : rI t us M) (hf : sFrm ρ cMods M M') (hM' : sMem M') : rI t us M' :=
  ⟨hM', keepQ (rhM_ok rH_ok) kQ_r hf h.2.1 h.1 hM', facF hf kF_r h.2.2.1, fun i hi => facR hf kR_r (h.2.2.2 i hi)⟩
theorem cI_keep {ρ : Nat → Int} {M M' : zM} {t n k0 k1 : Int} (h : cI t n k0 k1 M) (hf : sFrm ρ rMods M M') (hM' : sMem M') : cI t n k0 k1 M' :=
  ⟨hM', keepQ (hMx_ok cQs_ok) kQ_c hf h.2.1 h.1 hM', facF hf kF_c1 h.2.2.1, facF hf kF_c3 h.2.2.2.1, facR hf kR_c h.2.2.2.2.1, facR hf kR_c h.2.2.2.2.2⟩
section LS
variable {l : List Int} {M : zM} {P : List sE}
theorem lwC (n : Nat) (z : Int) : swE n (sC z) := fun t ht => (by cases ht)
theorem lwm (n : Nat) (mods : List sMo) (h : (mods.all fun m => twE 0 m.2.2.2.1 && twE 0 m.2.2.2.2) = true) : swM n mods := fun m hm => by
  have := List.all_eq_true.mp h m hm
  rw [Bool.and_eq_true] at this
  exact ⟨(twE_ok this.1).le (Nat.zero_le _), (twE_ok this.2).le (Nat.zero_le _)⟩
theorem lC_R {t n k0 k1 : Int} (h : cI t n k0 k1 M) (hb : sok (lrho l) lB) (h5 : lrho l 5 = t) (h6 : lrho l 6 = n) (h7 : lrho l 7 = k0) (h8 : lrho l 8 = k1) (hP : ∀ p ∈ P, 0 ≤ se (lrho l) p) (wP : P.all (twE 12) = true) : sR cQs (lrho l) (lC P) [] [] M := by
  obtain ⟨hM, hq, f1, f2, f3, f4⟩ := h
  refine ⟨⟨hb, hP⟩, fun d hd => (by cases hd), ?_, fun q hq2 => ?_, fun p hp => (by cases hp), trivial, hM, fun p hp => twE_ok (List.all_eq_true.mp wP p hp), fun d hd => (by cases hd), ?_, fun q hq2 e he => ?_, fun p hp => (by cases hp), fun p hp => (by cases hp)⟩
  · refine List.forall_mem_cons.mpr ⟨?_, List.forall_mem_cons.mpr ⟨?_, List.forall_mem_cons.mpr ⟨?_, List.forall_mem_cons.mpr ⟨?_, fun f hf => (by cases hf)⟩⟩⟩⟩
    · show sFacE (se _ (sC 0)) (se _ (sC 0)) (se _ (sS 5)) M 0 11 1 0 0
      rw [se_C, se_S, h5]
      exact f1
    · show sFacE (se _ (sC 0)) (se _ (sC 0)) (se _ (sS 6)) M 0 11 3 0 0
      rw [se_C, se_S, h6]
      exact f2
    · show sFacE (se _ (sC 0)) (se _ (sC 0)) (se _ (sS 7)) M 1 57 0 0 0
      rw [se_C, se_S, h7]
      exact f3
    · show sFacE (se _ (sC 0)) (se _ (sC 1)) (se _ (sS 8)) M 1 57 0 0 0
      rw [se_C, se_C, se_S, h8]
      exact f4
  · obtain ⟨m, hm, rfl⟩ := List.mem_map.mp hq2
    exact hq m hm
  · refine List.forall_mem_cons.mpr ⟨?_, List.forall_mem_cons.mpr ⟨?_, List.forall_mem_cons.mpr ⟨?_, List.forall_mem_cons.mpr ⟨?_, fun f hf => (by cases hf)⟩⟩⟩⟩
    · exact ⟨lwC _ _, lwC _ _, swE_S (show 5 < 12 by decide)⟩
    · exact ⟨lwC _ _, lwC _ _, swE_S (show 6 < 12 by decide)⟩
    · exact ⟨lwC _ _, lwC _ _, swE_S (show 7 < 12 by decide)⟩
    · exact ⟨lwC _ _, lwC _ _, swE_S (show 8 < 12 by decide)⟩
  · obtain ⟨m, hm, rfl⟩ := List.mem_map.mp hq2
    cases he
theorem lR_R {t : Int} {us : List sE} {vs : List Int} (h : rI t vs M) (hb : sok (lrho l) lB) (h5 : lrho l 5 = t) (hu : ∀ i, i < 5 → se (lrho l) (us.getD i (sC 0)) = vs.getD i 0) (wu : us.all (twE 12) = true) (hP : ∀ p ∈ P, 0 ≤ se (lrho l) p) (wP : P.all (twE 12) = true) : sR (hQs rQ) (lrho l) (lR us P) [] [] M := by
  obtain ⟨hM, hq, f1, f2⟩ := h
  have wg : ∀ i, swE 12 (us.getD i (sC 0)) := fun i => by
    rw [List.getD_eq_getElem?_getD]
    cases hi : us[i]? with
    | none => exact lwC _ _
    | some e => exact twE_ok (List.all_eq_true.mp wu e (List.mem_of_getElem? hi))
  refine ⟨⟨hb, hP⟩, fun d hd => (by cases hd), ?_, fun q hq2 => ?_, fun p hp => (by cases hp), trivial, hM, fun p hp => twE_ok (List.all_eq_true.mp wP p hp), fun d hd => (by cases hd), ?_, fun q hq2 e he => ?_, fun p hp => (by cases hp), fun p hp => (by cases hp)⟩
  · refine List.forall_mem_cons.mpr ⟨?_, fun f hf => ?_⟩
    · show sFacE (se _ (sC 474)) (se _ (sC 0)) (se _ (sS 5)) M 0 12 2 0 0
      rw [se_C, se_C, se_S, h5]
      exact f1
    · obtain ⟨i, hi, rfl⟩ := List.mem_map.mp hf
      show sFacE (se _ (sC 474)) (se _ (sC (lCell i))) (se _ (us.getD i (sC 0))) M 1 58 0 0 0
      rw [se_C, se_C, hu i (List.mem_range.mp hi)]
      exact f2 i (List.mem_range.mp hi)
  · obtain ⟨m, hm, rfl⟩ := List.mem_map.mp hq2
    exact hq m hm
  · refine List.forall_mem_cons.mpr ⟨⟨lwC _ _, lwC _ _, swE_S (show 5 < 12 by decide)⟩, fun f hf => ?_⟩
    obtain ⟨i, hi, rfl⟩ := List.mem_map.mp hf
    exact ⟨lwC _ _, lwC _ _, wg i⟩
  · obtain ⟨m, hm, rfl⟩ := List.mem_map.mp hq2
    cases he
end LS
theorem cwm : (cMods.all fun m => twE 0 m.2.2.2.1 && twE 0 m.2.2.2.2) = true := by decide +kernel
theorem rwm : (rMods.all fun m => twE 0 m.2.2.2.1 && twE 0 m.2.2.2.2) = true := by decide +kernel
theorem rtb_en {a : Nat} {c : sCt} (h : c ∈ rtb a) : RK a c := by
  unfold rtb at h
  cases hq : zlook 24 rtL a with
  | none => rw [hq] at h; cases h
  | some l =>
    rw [hq] at h
    exact rl_all (a, l) (zlook_en hq) c h
theorem rfs_lf {X : zX} : ∀ a c, c ∈ rtb a → ∀ r, zmt a = some r → sLf (hQs rQ) 10 X zmt zovT rtb c r := by
  intro a c hc r hr
  obtain ⟨k1, k2, k3⟩ := rtb_en hc
  exact sLf_ok (rhS_ok rH_ok) (rhM_ok rH_ok) (rhN_ok rH_ok) (rhL_ok rH_ok) rhC_ok zmtG_ok zmtX_T xo_ok (fun a c h => (rtb_en h).1) hc hr ⟨_, k2⟩ (fun h hh => ⟨_, k3 h hh⟩)
theorem rfs_all {X : zX} : ∀ R : Nat, sTb (hQs rQ) 10 X zmt zovT rtb (R : Int) := sTb_all rfs_lf
section LCS
variable {X : zX} {l : List Int} {M : zM} {P : List sE} {t n k0 k1 t' : Int} {vs : List Int} {a : Nat} {c : sCt} {vals : List sV} {args : List Value} {r : Option sE}
theorem ccase {et en e0 e1 : sE} (h : cI t n k0 k1 M) (hr : rI t' vs M) (hb : sok (lrho l) lB) (h5 : lrho l 5 = t) (h6 : lrho l 6 = n) (h7 : lrho l 7 = k0) (h8 : lrho l 8 = k1) (hP : ∀ p ∈ P, 0 ≤ se (lrho l) p) (wP : P.all (twE 12) = true) (hct : c ∈ ctb a) (hsv : xo a = true) (hv : sStk (lrho l) args vals) (hs : lcb (hMx cpd) (hNx cpd) (hLx cpd) cMods (lC P) vals (cChk r et en e0 e1) a c = true) (w : (r.all (twE 12) && (twE 12 et && (twE 12 en && (twE 12 e0 && twE 12 e1)))) = true) :
    ∃ (x : Int32) (M' : zM), lCallOK X a args M x M' ∧ (∀ e, r = some e → x.toInt = se (lrho l) e) ∧ cI (se (lrho l) et) (se (lrho l) en) (se (lrho l) e0) (se (lrho l) e1) M' ∧ rI t' vs M' := by
  have hR := lC_R h hb h5 h6 h7 h8 hP wP
  obtain ⟨v, M', g1, g2, A2, σ, g3, g4, g5⟩ := lcall (X := X) (hMx_ok cQs_ok) (hNx_ok cQs_ok) (hLx_ok cQs_ok.1) cls_all (ctb_en hct).1 hct hsv (lwm _ _ cwm) hR hv hs
  have g3 : sagr 12 (lrho l) σ := g3
  simp only [Bool.and_eq_true] at w
  obtain ⟨w0, w1, w2, w3, w4⟩ := w
  unfold cChk at g5
  simp only [Bool.and_eq_true] at g5
  obtain ⟨q0, q1, q2, q3, q4, q5⟩ := g5
  obtain ⟨x, rfl, hx⟩ := lres_ok g4 q0
  have z1 := lhas_ok g4 q1
  have z2 := lhas_ok g4 q2
  have z3 := lhas_ok g4 q3
  have z4 := lhas_ok g4 q4
  rw [se_C, se_agr g3 (twE_ok w1)] at z1
  rw [se_C, se_agr g3 (twE_ok w2)] at z2
  rw [se_C, se_agr g3 (twE_ok w3)] at z3
  rw [se_C, se_C, se_agr g3 (twE_ok w4)] at z4
  refine ⟨x, M', g1, fun e he => ?_, ⟨g4.2.2.2.2.2.2.1, fun q hq => lq0_ok g4 (List.all_eq_true.mp q5 q hq), z1, z2, z3, z4⟩, rI_keep hr g2 g4.2.2.2.2.2.2.1⟩
  rw [hx e he]
  rw [he] at w0
  exact se_agr g3 (twE_ok w0)
theorem rcase {us : List sE} {et : sE} {cs : List (Option sE)} {q : Option (Int × Int)} (h : cI t n k0 k1 M) (hr : rI t' vs M) (hb : sok (lrho l) lB) (h5 : lrho l 5 = t') (hu : ∀ i, i < 5 → se (lrho l) (us.getD i (sC 0)) = vs.getD i 0) (wu : us.all (twE 12) = true) (hP : ∀ p ∈ P, 0 ≤ se (lrho l) p) (wP : P.all (twE 12) = true) (hct : c ∈ rtb a) (hsv : xo a = true) (hv : sStk (lrho l) args vals) (hs : lcb (rhM rHT) (rhN rHT) (rhL rHT) rMods (lR us P) vals (rChk r et cs q) a c = true) (w : (r.all (twE 12) && (twE 12 et && cs.all fun x => x.all (twE 12))) = true) :
    ∃ (x : Int32) (M' : zM), lCallOK X a args M x M' ∧ (∀ e, r = some e → x.toInt = se (lrho l) e) ∧ cI t n k0 k1 M' ∧ sMem M' ∧ (∀ q ∈ rQN, hQs rQ q [] M') ∧ sFacE 474 0 (se (lrho l) et) M' 0 12 2 0 0 ∧ (∀ i, i < 5 → ∀ e, cs.getD i none = some e → sFacE 474 (lCell i) (se (lrho l) e) M' 1 58 0 0 0) ∧ ∀ p, q = some p → q60 p.1 p.2 39700 (hR M' 58) := by
  have hR := lR_R hr hb h5 hu wu hP wP
  obtain ⟨v, M', g1, g2, A2, σ, g3, g4, g5⟩ := lcall (X := X) (rhM_ok rH_ok) (rhN_ok rH_ok) (rhL_ok rH_ok) rfs_all (rtb_en hct).1 hct hsv (lwm _ _ rwm) hR hv hs
  have g3 : sagr 12 (lrho l) σ := g3
  simp only [Bool.and_eq_true] at w
  obtain ⟨w0, w1, w2⟩ := w
  unfold rChk at g5
  simp only [Bool.and_eq_true] at g5
  obtain ⟨q0, q1, q2, q3, q4⟩ := g5
  obtain ⟨x, rfl, hx⟩ := lres_ok g4 q0
  have z1 := lhas_ok g4 q1
  rw [se_C, se_C, se_agr g3 (twE_ok w1)] at z1
  refine ⟨x, M', g1, fun e he => ?_, cI_keep h g2 g4.2.2.2.2.2.2.1, g4.2.2.2.2.2.2.1, fun q hq => lq0_ok g4 (List.all_eq_true.mp q3 q hq), z1, fun i hi e he => ?_, fun p hp => ?_⟩
  · rw [hx e he]
    rw [he] at w0
    exact se_agr g3 (twE_ok w0)
  · have z2 := List.all_eq_true.mp q2 i (List.mem_range.mpr hi)
    unfold lcel at z2
    rw [he] at z2
    have z3 := lhas_ok g4 z2
    have we : twE 12 e = true := by
      have hm : some e ∈ cs := by
        rw [List.getD_eq_getElem?_getD] at he
        cases hc : cs[i]? with
        | none => rw [hc] at he; cases he
        | some y =>
          rw [hc] at he
          have he : y = some e := he
          rw [← he]
          exact List.mem_of_getElem? hc
      exact List.all_eq_true.mp w2 (some e) hm
    rw [se_C, se_C, se_agr g3 (twE_ok we)] at z3
    exact z3
  · unfold l60 at q4
    rw [hp] at q4
    obtain ⟨y, hy, e⟩ := List.any_eq_true.mp q4
    rw [Bool.and_eq_true] at e
    have g := g4.2.2.2.1 y hy
    rw [Nat.eq_of_beq_eq_true e.1, heqL_ok g4.1 e.2] at g
    have g : hQs rQ 60 [se σ (sC p.1), se σ (sC p.2), se σ (sC 39700)] M' := g
    rw [se_C, se_C, se_C] at g
    exact rqo_60_3 g
theorem c60 {i j : Nat} {s d v : Int} {M' : zM} (h : q60 s d 39700 (hR M' 58)) (hi : lCell i = d + 35) (hj : lCell j = s + 35) (hi5 : i < 5) (hf : sFacE 474 (lCell j) v M' 1 58 0 0 0) : sFacE 474 (lCell i) v M' 1 58 0 0 0 := by
  have e1 := cvM_fac hf (Or.inl rfl) (Or.inr rfl)
  have e2 := h 35 (by decide) (by decide)
  have e3 : hR M' 58 (s + 35) = v := by
    rw [← hj]
    exact e1
  have l0 : (0 : Int) ≤ lCell i ∧ lCell i < srln 58 := by
    unfold lCell
    have : (srln 58 : Int) = 238220 := rfl
    omega
  have e4 := hR_in (M := M') l0.1 l0.2
  rw [hi, e2, e3, ← hi] at e4
  refine ⟨474, (lCell i).toNat, rfl, Int.toNat_of_nonneg l0.1, by decide, by omega, sgr M' 58 474 (lCell i).toNat, rfl, e4.symm⟩
theorem l5 {p : Nat → Prop} (h0 : p 0) (h1 : p 1) (h2 : p 2) (h3 : p 3) (h4 : p 4) : ∀ i, i < 5 → p i
  | 0, _ => h0
  | 1, _ => h1
  | 2, _ => h2
  | 3, _ => h3
  | 4, _ => h4
  | n + 5, h => absurd h (by omega)
/-- what is known of arguments, of the tape and the rest -/
theorem lbd {x1 x2 x3 x4 : Int32} {y : Int64} {u0 u1 u2 : Int} (ht : 0 ≤ t ∧ t ≤ 1024) (hn : 0 ≤ n ∧ n ≤ 3) (h0 : 0 ≤ k0 ∧ k0 ≤ 1) (h1 : 0 ≤ k1 ∧ k1 ≤ 1) (hu0 : 0 ≤ u0 ∧ u0 ≤ 1) (hu1 : 0 ≤ u1 ∧ u1 ≤ 1) (hu2 : 0 ≤ u2 ∧ u2 ≤ 1) : sok (lrho [x1.toInt, x2.toInt, x3.toInt, x4.toInt, y.toInt, t, n, k0, k1, u0, u1, u2]) lB
  | 0 => sr32 x1
  | 1 => sr32 x2
  | 2 => sr32 x3
  | 3 => sr32 x4
  | 4 => sr64 y
  | 5 => ht
  | 6 => hn
  | 7 => h0
  | 8 => h1
  | 9 => hu0
  | 10 => hu1
  | 11 => hu2
  | n + 12 => ⟨Int.le_refl _, Int.le_refl _⟩
end LCS
