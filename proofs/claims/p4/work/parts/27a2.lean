/-! THE LAW OVER CONTRACTS, 2: a call out of a state -/
def lRK : Int := 10000000000000000000000000000000000000000
def lcb (hM : sA → List sMo → List sQ) (hN : sA → sQ → Bool) (hL : sA → sLc → List sE) (mods : List sMo) (A : sA) (vals : List sV) (chk : sA → Bool) (a : Nat) (c : sCt) : Bool := match zmt a with
  | some r => sknown vals && (Nat.ble (sslots vals) r.2.2.1 && ((vals.all fun x => twE A.1.1.length x.2.2) && (match sapp hM hN hL mods (sC lRK) (sC 400) 0 A vals r.2.2.2.1.isSome c with
    | some As => As.all chk
    | none => false)))
  | none => false
/-- the answer: a number -/
def lres (A : sA) (e : Option sE) : Bool := match A.2.2.2.2.2 with
  | [x] => Nat.beq x.1 0 && (match e with
    | some e => heq A.1 x.2.2 e
    | none => true)
  | _ => false
/-- a field or a cell is that -/
def lhas (A : sA) (d c j : Nat) (o i e : sE) : Bool := A.2.2.1.any fun f => Nat.beq f.1 d && (Nat.beq f.2.1 c && (Nat.beq f.2.2.1 j && (sEq f.2.2.2.1 o && (sEq f.2.2.2.2.1 i && (Nat.beq f.2.2.2.2.2.1 0 && heq A.1 f.2.2.2.2.2.2.2 e)))))
def lq0 (A : sA) (n : Nat) : Bool := A.2.2.2.1.any fun q => Nat.beq q.1 n && q.2.isEmpty
section LC
variable {Qs : Nat → List Int → zM → Prop} {hM : sA → List sMo → List sQ} {hN : sA → sQ → Bool} {hL : sA → sLc → List sE} {X : zX} {tbl : Nat → List sCt} {ρ σ : Nat → Int} {A : sA} {M : zM} {ls : zL} {st : List Value}
theorem lcall (HM : sHM Qs hM) (HN : sHN Qs hN) (HL : sHL Qs hL) (hT : ∀ R : Nat, sTb Qs 10 X zmt zovT tbl (R : Int)) {a : Nat} {c : sCt} (hcw : scwf c = true) (hct : c ∈ tbl a) (hsv : xo a = true) {mods : List sMo} (wm : swM A.1.1.length mods) {vals : List sV} {args : List Value} {chk : sA → Bool} (h : sR Qs ρ A [] [] M) (hv : sStk ρ args vals) (hs : lcb hM hN hL mods A vals chk a c = true) : ∃ (v : Option Value) (M' : zM), (∃ n, ∀ k, n ≤ k → zev 10 X zmt zovT 400 k a args M = some (v, M')) ∧ sFrm ρ mods M M' ∧ ∃ (A2 : sA) (σ : Nat → Int), sagr A.1.1.length ρ σ ∧ sR Qs σ A2 [] v.toList M' ∧ chk A2 = true := by
  obtain ⟨K, D, F, Q, L, T⟩ := A
  unfold lcb at hs
  cases hr : zmt a with
  | none => rw [hr] at hs; cases hs
  | some r =>
    rw [hr] at hs
    dsimp only at hs
    simp only [Bool.and_eq_true] at hs
    obtain ⟨h1, h2, h3, h4⟩ := hs
    cases ha : sapp hM hN hL mods (sC lRK) (sC 400) 0 (K, D, F, Q, L, T) vals r.2.2.2.1.isSome c with
    | none => rw [ha] at h4; cases h4
    | some As =>
      rw [ha] at h4
      dsimp only at h4
      have wc : ∀ (n : Nat) (z : Int), swE n (sC z) := fun n z t ht => (by cases ht)
      obtain ⟨v, M', k1, k2, A2, k3, σ, k4, k5, k6⟩ := sapp_ok HM HN HL (fun a ha args M => xo_ok a ha args M) hcw hct hr hsv (hT 10000000000000000000000000000000000000000) h ⟨wc _ _, by rw [se_C]; exact Int.le_refl _⟩ (wc _ _) wm hv (fun x hx => twE_ok (List.all_eq_true.mp h3 x hx)) h1 (Nat.le_of_ble_eq_true h2) ha
      obtain ⟨d', e1, n, k7⟩ := k1 400 (by rw [se_C]; exact Int.le_refl _)
      have e2 : d' = 399 := by omega
      subst e2
      rw [List.append_nil] at k6
      exact ⟨v, M', ⟨n, k7⟩, k2, A2, σ, k4, k6, List.all_eq_true.mp h4 A2 k3⟩
theorem lres_ok {v : Option Value} {e : Option sE} (h : sR Qs σ A ls v.toList M) (hs : lres A e = true) : ∃ r : Int32, v = some (.int r) ∧ ∀ x, e = some x → r.toInt = se σ x := by
  unfold lres at hs
  split at hs
  · rename_i x hT
    rw [Bool.and_eq_true] at hs
    have ht := h.2.2.2.2.2.1
    rw [hT] at ht
    cases v with
    | none => exact ht.elim
    | some w =>
      have hw : sVal σ w x := ht.1
      have e0 := Nat.eq_of_beq_eq_true hs.1
      unfold sVal at hw
      rw [e0] at hw
      obtain ⟨r, rfl, hr⟩ := hw
      refine ⟨r, rfl, fun y hy => ?_⟩
      have h2 := hs.2
      rw [hy] at h2
      rw [hr]
      exact heq_ok h.1 h2
  · cases hs
theorem lhas_ok {d c j : Nat} {o i e : sE} (h : sR Qs σ A ls st M) (hs : lhas A d c j o i e = true) : sFacE (se σ o) (se σ i) (se σ e) M d c j 0 0 := by
  obtain ⟨f, hf, h2⟩ := List.any_eq_true.mp hs
  simp only [Bool.and_eq_true] at h2
  obtain ⟨h1, h2, h3, h4, h5, h6, h7⟩ := h2
  have g := h.2.2.1 f hf
  unfold sFac at g
  rw [Nat.eq_of_beq_eq_true h1, Nat.eq_of_beq_eq_true h2, Nat.eq_of_beq_eq_true h3, sEq_ok h4, sEq_ok h5, Nat.eq_of_beq_eq_true h6, heq_ok h.1 h7] at g
  cases d with
  | zero => exact g
  | succ d => exact g
theorem lq0_ok {n : Nat} (h : sR Qs σ A ls st M) (hs : lq0 A n = true) : Qs n [] M := by
  obtain ⟨q, hq, h2⟩ := List.any_eq_true.mp hs
  rw [Bool.and_eq_true] at h2
  have g := h.2.2.2.1 q hq
  rw [Nat.eq_of_beq_eq_true h2.1, List.isEmpty_iff.mp h2.2] at g
  exact g
/-- what the other program's calls leave as it was -/
def lkeep (hM : sA → List sMo → List sQ) (ms : List sMo) (A : sA) : Bool := (A.2.2.1.all fun g => ms.all (thit A.1 g)) && (A.2.2.2.1.all fun q => (hM A ms).any fun p => Nat.beq p.1 q.1 && (p.2.isEmpty && q.2.isEmpty))
theorem lkeep_ok (HM : sHM Qs hM) {ms : List sMo} {M' : zM} {K : sK} {F : List sF} {Q : List sQ} (h : sR Qs ρ (K, [], F, Q, [], []) [] [] M) (wm : swM K.1.length ms) (hf : sFrm ρ ms M M') (hM' : sMem M') (hs : lkeep hM ms (K, [], F, Q, [], []) = true) : sR Qs ρ (K, [], F, Q, [], []) [] [] M' := by
  unfold lkeep at hs
  rw [Bool.and_eq_true] at hs
  have hq := HM ρ _ [] [] M M' ms h wm hf hM'
  obtain ⟨h1, h2, h3, h4, h5, h6, h7, h8⟩ := h
  refine ⟨h1, h2, fun f hF => thit_ok h1 hf (h3 f hF) (List.all_eq_true.mp hs.1 f hF), fun q hQ => ?_, h5, h6, hM', h8⟩
  obtain ⟨p, hp, e⟩ := List.any_eq_true.mp (List.all_eq_true.mp hs.2 q hQ)
  simp only [Bool.and_eq_true] at e
  have g := (hq p hp).1
  rw [Nat.eq_of_beq_eq_true e.1, List.isEmpty_iff.mp e.2.1] at g
  rw [List.isEmpty_iff.mp e.2.2]
  exact g
end LC
