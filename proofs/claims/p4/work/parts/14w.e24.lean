/-! THE ENGINE, 24: contracts that are gone through hold -/
def sst1 (bs0 : sB) (t : sTm) : Option sA := match sasm t.2.1 (bs0 ++ tB t.1, []) with
  | some K => some (K, [], tFs bs0.length t.1, t.2.2, tLs bs0.length t.1, [])
  | none => none
def schE (hS : sA → sF → List sQ) (hM : sA → List sMo → List sQ) (hN : sA → sQ → Bool) (hL : sA → sLc → List sE) (hC : sA → sCy → List sQ) (hG : Nat → Nat → Instr → sA → Option sE) (th : Nat) (mt : Nat → Option zMe) (sovn : Nat → Bool) (tbl : Nat → List sCt) (fuel a : Nat) (c : sCt) : Bool := match mt a with
  | some r => (match sst1 [] c.1 with
    | some A => sge0 A.1 c.2.2.2.1 && sgo hS hM hN hL hC hG th mt sovn tbl c c.2.2.2.1 fuel true [] r 0 A
    | none => false)
  | none => false
def schH (hS : sA → sF → List sQ) (hM : sA → List sMo → List sQ) (hN : sA → sQ → Bool) (hL : sA → sLc → List sE) (hC : sA → sCy → List sQ) (hG : Nat → Nat → Instr → sA → Option sE) (th : Nat) (mt : Nat → Option zMe) (sovn : Nat → Bool) (tbl : Nat → List sCt) (fuel a : Nat) (c : sCt) (h : Nat × sTm × sE) : Bool := match mt a with
  | some r => (match sst1 (tB c.1.1) h.2.1 with
    | some A => sge0 A.1 h.2.2 && sgo hS hM hN hL hC hG th mt sovn tbl c h.2.2 fuel true [] r h.1 A
    | none => false)
  | none => false
/-- a contract's own part: from contracts of smaller rank -/
def sLf (Qs : Nat → List Int → zM → Prop) (th : Nat) (X : zX) (mt : Nat → Option zMe) (ov : zCall) (tbl : Nat → List sCt) (c : sCt) (r : zMe) : Prop :=
  (∀ ρ ls M, sR Qs ρ (tst [] c.1) ls [] M → 0 ≤ se ρ c.2.2.2.1 ∧ (sTb Qs th X mt ov tbl (se ρ c.2.2.2.1) → sGl Qs th X mt ov c r 0 ρ ls M)) ∧
  (∀ h ∈ c.2.2.2.2.2, ∀ ρ ls M, sR Qs ρ (tst (tB c.1.1) h.2.1) ls [] M → 0 ≤ se ρ h.2.2 ∧ (sTb Qs th X mt ov tbl (se ρ h.2.2) → sGl Qs th X mt ov c r h.1 ρ ls M))
section SLF
variable {Qs : Nat → List Int → zM → Prop} {hS : sA → sF → List sQ} {hM : sA → List sMo → List sQ} {hN : sA → sQ → Bool} {hL : sA → sLc → List sE} {hC : sA → sCy → List sQ} {hG : Nat → Nat → Instr → sA → Option sE} {th : Nat} {X : zX} {mt : Nat → Option zMe} {ov : zCall} {sovn : Nat → Bool} {tbl : Nat → List sCt}
theorem sTb.le {R R' : Int} (h : sTb Qs th X mt ov tbl R) (hr : R' ≤ R) : sTb Qs th X mt ov tbl R' := fun a c hc r ha => ⟨fun ρ ls M h1 h2 => (h a c hc r ha).1 ρ ls M h1 (Int.lt_of_lt_of_le h2 hr), fun hd hm ρ ls M h1 h2 => (h a c hc r ha).2 hd hm ρ ls M h1 (Int.lt_of_lt_of_le h2 hr)⟩
theorem sTb_all (h : ∀ a c, c ∈ tbl a → ∀ r, mt a = some r → sLf Qs th X mt ov tbl c r) : ∀ R : Nat, sTb Qs th X mt ov tbl (R : Int) := by
  intro R
  induction R with
  | zero => exact fun a c hc r ha => ⟨fun ρ ls M h1 h2 => absurd ((h a c hc r ha).1 ρ ls M h1).1 (Int.not_le.mpr h2), fun hd hm ρ ls M h1 h2 => absurd ((h a c hc r ha).2 hd hm ρ ls M h1).1 (Int.not_le.mpr h2)⟩
  | succ R ih =>
    intro a c hc r ha
    refine ⟨fun ρ ls M h1 h2 => ?_, fun hd hm ρ ls M h1 h2 => ?_⟩
    · obtain ⟨g1, g2⟩ := (h a c hc r ha).1 ρ ls M h1
      exact g2 (ih.le (by omega))
    · obtain ⟨g1, g2⟩ := (h a c hc r ha).2 hd hm ρ ls M h1
      exact g2 (ih.le (by omega))
theorem sst1_ok {ρ : Nat → Int} {bs0 : sB} {t : sTm} {ls : zL} {M : zM} {A : sA} (h : sR Qs ρ (tst bs0 t) ls [] M) (hs : sst1 bs0 t = some A) : sR Qs ρ A ls [] M ∧ A.1.1.length = bs0.length + t.1.length := by
  unfold sst1 at hs
  split at hs
  · rename_i K hK
    cases hs
    have h0 : sR Qs ρ ((bs0 ++ tB t.1, []), [], tFs bs0.length t.1, t.2.2, tLs bs0.length t.1, []) ls [] M := by
      obtain ⟨h1, h2, h3, h4, h5, h6, h7, w1, w2, w3, w4, w5, w6⟩ := h
      exact ⟨⟨h1.1, fun p hp => (by cases hp)⟩, h2, h3, h4, h5, h6, h7, fun p hp => (by cases hp), w2, w3, w4, w5, w6⟩
    obtain ⟨K', k1, k2, k3⟩ := sR_asm h0 (l := t.2.1) h.2.2.2.2.2.2.2.1 h.1.2
    rw [hK] at k1
    cases k1
    refine ⟨k3, k2.trans ?_⟩
    show (bs0 ++ tB t.1).length = _
    rw [List.length_append, tB_len]
  · cases hs
theorem sLf_ok (HS : sHS Qs hS) (HM : sHM Qs hM) (HN : sHN Qs hN) (HL : sHL Qs hL) (HC : sHC Qs hC) (hGm : zmtG mt) (hX : zmtX mt ov) (hov : ∀ a, sovn a = true → ∀ args M, ov a args M = none) (hwf : ∀ a c, c ∈ tbl a → scwf c = true) {a : Nat} {c : sCt} {r : zMe} (hc : c ∈ tbl a) (hr : mt a = some r) (hE : ∃ fuel, schE hS hM hN hL hC hG th mt sovn tbl fuel a c = true) (hH : ∀ h ∈ c.2.2.2.2.2, ∃ fuel, schH hS hM hN hL hC hG th mt sovn tbl fuel a c h = true) : sLf Qs th X mt ov tbl c r := by
  have hCw := hwf a c hc
  unfold scwf at hCw
  simp only [Bool.and_eq_true] at hCw
  obtain ⟨w1, w2, w3, w4, w5, w6⟩ := hCw
  refine ⟨fun ρ ls M h => ?_, fun hd hm ρ ls M h => ?_⟩
  · obtain ⟨fuel, hf⟩ := hE
    unfold schE at hf
    rw [hr] at hf
    dsimp only at hf
    split at hf
    · rename_i A hA
      rw [Bool.and_eq_true] at hf
      obtain ⟨k1, k2⟩ := sst1_ok h hA
      rw [List.length_nil, Nat.zero_add] at k2
      refine ⟨sge0_ok k1.1 hf.1, fun hT => ?_⟩
      obtain ⟨v, M', g1, g2, g3, g4⟩ := sgo_ok (N0 := c.1.1.length) HS HM HN HL HC hGm hX hov hwf hc hr (Nat.le_refl _) (twE_ok w4) hT fuel true [] r 0 A hf.2 rfl ρ ls [] M [] k1 (Nat.le_of_eq k2.symm) (fun _ _ => rfl) sFrm.rf trivial
      exact ⟨v, M', fun d hd => g1 d (by show _ ≤ (d : Int) + ((0 : Nat) : Int); omega), g3, g2, g4⟩
    · cases hf
  · obtain ⟨fuel, hf⟩ := hH hd hm
    have hwh := List.all_eq_true.mp w6 hd hm
    rw [Bool.and_eq_true] at hwh
    unfold schH at hf
    rw [hr] at hf
    dsimp only at hf
    split at hf
    · rename_i A hA
      rw [Bool.and_eq_true] at hf
      obtain ⟨k1, k2⟩ := sst1_ok h hA
      rw [tB_len] at k2
      refine ⟨sge0_ok k1.1 hf.1, fun hT => ?_⟩
      obtain ⟨v, M', g1, g2, g3, g4⟩ := sgo_ok (N0 := c.1.1.length + hd.2.1.1.length) HS HM HN HL HC hGm hX hov hwf hc hr (Nat.le_add_right _ _) (twE_ok hwh.2) hT fuel true [] r hd.1 A hf.2 rfl ρ ls [] M [] k1 (Nat.le_of_eq k2.symm) (fun _ _ => rfl) sFrm.rf trivial
      exact ⟨v, M', fun d hd => g1 d (by show _ ≤ (d : Int) + ((0 : Nat) : Int); omega), g3, g2, g4⟩
    · cases hf
end SLF
