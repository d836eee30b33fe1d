/-! THE ENGINE, 11: memory: what is read -/
theorem sMem_ob {M : zM} (h : sMem M) {k c : Nat} (hk : sSh k = some (0, c, 0)) : ∃ fs, zob M k = some (.inr (c, fs)) ∧ fs.length = (sFk c).length ∧ (∀ j, j < (sFk c).length → sFldOk k ((sFk c).getD j (9, 0, 0)) (fs.getD j .null)) ∧ ∀ j, sgf M k j = fs.getD j .null := by
  obtain ⟨h0, h1, -, -⟩ := h
  obtain ⟨fs, f1, f2, f3⟩ := h1 k c hk
  refine ⟨fs, ?_, f2, f3, fun j => ?_⟩
  · unfold zob
    rw [h0, if_pos (sSh_lt hk), f1]
  · unfold sgf
    rw [f1]
theorem sMem_row {M : zM} (h : sMem M) {k r o : Nat} (hk : sSh k = some (1, r, o)) : ∃ f, zob M k = some (.inl (srty r, srln r, .inl f)) ∧ sRowOk r f ∧ ∀ i, sgr M r o i = f i := by
  obtain ⟨h0, -, h1, -⟩ := h
  obtain ⟨f, f1, f2⟩ := h1 k r o hk
  refine ⟨f, ?_, f2, fun i => ?_⟩
  · unfold zob
    rw [h0, if_pos (sSh_lt hk), f1]
  · unfold sgr
    rw [← (sSh_row hk).1, f1]
theorem sMem_rr {M : zM} (h : sMem M) {k t o : Nat} (hk : sSh k = some (2, t, o)) : ∃ f, zob M k = some (.inl ((sRr t).2.2.2.1, (sRr t).2.2.2.2.1, .inr (.inr (.inr (.inr f))))) ∧ ∀ i, i < (sRr t).2.2.2.2.1 → f i = some (o + (sRr t).2.2.2.2.2.1 + (sRr t).2.2.2.2.2.2.1 * i) := by
  obtain ⟨h0, -, -, h1⟩ := h
  obtain ⟨f, f1, f2⟩ := h1 k t o hk
  refine ⟨f, ?_, f2⟩
  unfold zob
  rw [h0, if_pos (sSh_lt hk), f1]
theorem sSh_big {k : Nat} (h : 486 ≤ k) : sSh k = none := by
  unfold sSh
  cases hq : Nat.blt k 486 with
  | true => have : k < 486 := Nat.le_of_ble_eq_true hq; omega
  | false => rfl
/-- two expressions that are the same number -/
def sSm (B : sB) (a b : sE) : Bool := siz (slb B (ssub a b)) && siz (sub_ B (ssub a b))
theorem sSm_ok {ρ : Nat → Int} {B : sB} {a b : sE} (h : sok ρ B) (hs : sSm B a b = true) : se ρ a = se ρ b := by
  unfold sSm at hs
  rw [Bool.and_eq_true] at hs
  have h1 := siz_0 hs.1
  have h2 := siz_0 hs.2
  have h3 := slb_ok h (ssub a b)
  have h4 := sub_ok h (ssub a b)
  rw [se_sub] at h3 h4
  omega
/-- two expressions that are never the same number -/
def sDf (K : sK) (a b : sE) : Bool := sge0 K (sP1 (ssub a b)) || sge0 K (sM1 (ssub a b))
theorem sDf_ok {ρ : Nat → Int} {K : sK} {a b : sE} (h : skok ρ K) (hs : sDf K a b = true) : se ρ a ≠ se ρ b := by
  unfold sDf at hs
  rw [Bool.or_eq_true] at hs
  rcases hs with hs | hs
  · have := sge0_ok h hs
    rw [se_P1, se_sub] at this
    omega
  · have := sge0_ok h hs
    rw [se_M1, se_sub] at this
    omega
/-- the fact of a field, of a row's number -/
def sffF (B : sB) (c j : Nat) (o : sE) : List sF → Option sV
  | [] => none
  | f :: l => cond (Nat.beq f.1 0 && (Nat.beq f.2.1 c && (Nat.beq f.2.2.1 j && sSm B f.2.2.2.1 o))) (some f.2.2.2.2.2) (sffF B c j o l)
def sffR (B : sB) (r : Nat) (o i : sE) : List sF → Option sV
  | [] => none
  | f :: l => cond (Nat.beq f.1 1 && (Nat.beq f.2.1 r && (sSm B f.2.2.2.1 o && sSm B f.2.2.2.2.1 i))) (some f.2.2.2.2.2) (sffR B r o i l)
theorem sffF_ok {B : sB} {c j : Nat} {o : sE} {a : sV} : ∀ {l : List sF}, sffF B c j o l = some a → ∃ o' i', (0, c, j, o', i', a) ∈ l ∧ sSm B o' o = true
  | [], h => by cases h
  | f :: l, h => by
    obtain ⟨d, c', j', o', i', a'⟩ := f
    unfold sffF at h
    cases hq : (Nat.beq d 0 && (Nat.beq c' c && (Nat.beq j' j && sSm B o' o))) with
    | true =>
      rw [hq] at h
      cases h
      simp only [Bool.and_eq_true] at hq
      obtain ⟨h1, h2, h3, h4⟩ := hq
      have e1 := Nat.eq_of_beq_eq_true h1
      have e2 := Nat.eq_of_beq_eq_true h2
      have e3 := Nat.eq_of_beq_eq_true h3
      subst e1 e2 e3
      exact ⟨o', i', List.mem_cons_self, h4⟩
    | false =>
      rw [hq] at h
      obtain ⟨o1, i1, h1, h2⟩ := sffF_ok h
      exact ⟨o1, i1, List.mem_cons_of_mem _ h1, h2⟩
theorem sffR_ok {B : sB} {r : Nat} {o i : sE} {a : sV} : ∀ {l : List sF}, sffR B r o i l = some a → ∃ j' o' i', (1, r, j', o', i', a) ∈ l ∧ sSm B o' o = true ∧ sSm B i' i = true
  | [], h => by cases h
  | f :: l, h => by
    obtain ⟨d, c', j', o', i', a'⟩ := f
    unfold sffR at h
    cases hq : (Nat.beq d 1 && (Nat.beq c' r && (sSm B o' o && sSm B i' i))) with
    | true =>
      rw [hq] at h
      cases h
      simp only [Bool.and_eq_true] at hq
      obtain ⟨h1, h2, h3, h4⟩ := hq
      have e1 := Nat.eq_of_beq_eq_true h1
      have e2 := Nat.eq_of_beq_eq_true h2
      subst e1 e2
      exact ⟨j', o', i', List.mem_cons_self, h3, h4⟩
    | false =>
      rw [hq] at h
      obtain ⟨j1, o1, i1, h1, h2⟩ := sffR_ok h
      exact ⟨j1, o1, i1, List.mem_cons_of_mem _ h1, h2⟩
/-- the bounds of a row's number -/
def sdvd (p : Int) : sT → Bool
  | [] => true
  | t :: l => siz (t.2 % p) && sdvd p l
theorem sdvd_ok {ρ : Nat → Int} {p : Int} : ∀ {l : sT}, sdvd p l = true → ∃ z, sv ρ l = p * z
  | [], _ => ⟨0, (Int.mul_zero p).symm⟩
  | t :: l, h => by
    unfold sdvd at h
    rw [Bool.and_eq_true] at h
    obtain ⟨z, hz⟩ := sdvd_ok (ρ := ρ) h.2
    have h1 := siz_0 h.1
    obtain ⟨d, hd⟩ := Int.dvd_of_emod_eq_zero h1
    refine ⟨d * ρ t.1 + z, ?_⟩
    show t.2 * ρ t.1 + sv ρ l = _
    rw [hz, hd, Int.mul_add, Int.mul_assoc]
def sebd (r : Nat) (i : sE) : Int × Int := match sEtL.getD r [] with
  | [] => sI32
  | b :: [] => b
  | l => cond (sdvd l.length i.2) (l.getD (i.1 % l.length).toNat (0, 0)) sI32
theorem sebd_ok {ρ : Nat → Int} {M : zM} {r o q : Nat} {i : sE} {f : Nat → Int32} (hf : sRowOk r f) (hq : (q : Int) = se ρ i) (hl : q < srln r) : sRn (sebd r i) (f q).toInt := by
  have h1 := hf q hl
  unfold setb at h1
  unfold sebd
  generalize sEtL.getD r [] = l at h1 ⊢
  match l with
  | [] => exact sr32 _
  | b :: [] =>
    have e : q % 1 = 0 := Nat.mod_one q
    dsimp only [List.length] at h1
    rw [e] at h1
    exact h1
  | b :: b' :: l' =>
    dsimp only
    generalize hl : b :: b' :: l' = l at h1 ⊢
    have hlen : 0 < l.length := by rw [← hl]; exact Nat.succ_pos _
    cases hd : sdvd l.length i.2 with
    | false => exact sr32 _
    | true =>
      obtain ⟨z, hz⟩ := sdvd_ok (ρ := ρ) hd
      have e : (i.1 % l.length).toNat = q % l.length := by
        have e1 : (q : Int) = i.1 + l.length * z := by rw [hq]; unfold se; rw [hz]
        have e2 : ((q % l.length : Nat) : Int) = i.1 % l.length := by
          rw [Int.natCast_emod, e1, Int.add_mul_emod_self_left]
        rw [← e2]
        exact Int.toNat_natCast _
      show sRn (l.getD (i.1 % l.length).toNat (0, 0)) _
      rw [e]
      exact h1
