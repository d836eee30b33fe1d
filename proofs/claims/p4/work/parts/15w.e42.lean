/-! THE ENGINE, 42: the shape of a memory, told by a Bool -/
def bAll (n : Nat) (p : Nat → Bool) : Bool := (List.range (n / 500 + 1)).all fun a => (List.range 500).all fun b => Nat.ble n (500 * a + b) || p (500 * a + b)
theorem bAll_ok {n : Nat} {p : Nat → Bool} (h : bAll n p = true) : ∀ i, i < n → p i = true := by
  intro i hi
  have h1 := List.all_eq_true.mp h (i / 500) (List.mem_range.mpr (by omega))
  have h2 := List.all_eq_true.mp h1 (i % 500) (List.mem_range.mpr (Nat.mod_lt _ (by decide)))
  rw [Nat.div_add_mod] at h2
  rcases (Bool.or_eq_true _ _).mp h2 with h3 | h3
  · exact absurd (Nat.le_of_ble_eq_true h3) (by omega)
  · exact h3
def bz (x : Int32) : Bool := Nat.beq x.toBitVec.toNat 0
theorem bz_ok {x : Int32} (h : bz x = true) : x.toInt = 0 := by
  have h1 := Nat.eq_of_beq_eq_true h
  have h2 : x.toBitVec = 0#32 := BitVec.eq_of_toNat_eq h1
  show x.toBitVec.toInt = 0
  rw [h2]
  rfl
def bin (q : Int × Int) (x : Int32) : Bool := decide (q.1 ≤ x.toInt) && decide (x.toInt ≤ q.2)
theorem bin_ok {q : Int × Int} {x : Int32} (h : bin q x = true) : q.1 ≤ x.toInt ∧ x.toInt ≤ q.2 := by
  unfold bin at h
  rw [Bool.and_eq_true] at h
  exact ⟨of_decide_eq_true h.1, of_decide_eq_true h.2⟩
def bRow (r : Nat) (f : Nat → Int32) : Bool := Nat.beq (sSgA r).2.1 0 || cond (szok r) (bAll (srln r) fun i => bz (f i) || bin (setb r i) (f i)) (bAll (srln r) fun i => bin (setb r i) (f i))
theorem bRow_ok {r : Nat} {f : Nat → Int32} (h : bRow r f = true) : sRowOk r f := by
  intro i hi
  unfold bRow at h
  rcases (Bool.or_eq_true _ _).mp h with h | h
  · have h0 := Nat.eq_of_beq_eq_true h
    unfold setb
    rw [h0]
    exact ⟨Int32.le_toInt _, Int.le_of_lt_add_one (Int32.toInt_lt _)⟩
  · cases hz : szok r with
    | true =>
      rw [hz, cond_true] at h
      have h1 := bAll_ok h i hi
      rcases (Bool.or_eq_true _ _).mp h1 with h2 | h2
      · rw [bz_ok h2]
        exact szok_ok hz
      · exact bin_ok h2
    | false =>
      rw [hz, cond_false] at h
      exact bin_ok (bAll_ok h i hi)
def bFld (k : Nat) (t : Nat × Int × Int) (v : Value) : Bool := match t, v with
  | (0, lo, hi), .int x => bin (lo, hi) x
  | (1, _, _), .long _ => true
  | (2, c, d), .ref q => decide ((q : Int) = k + d) && decide (sSh q = some (0, c.toNat, 0))
  | (3, r, d), .ref q => decide ((q : Int) = k + d) && decide (sSh q = some (1, r.toNat, k))
  | (4, t, d), .ref q => decide ((q : Int) = k + d) && decide (sSh q = some (2, t.toNat, k))
  | (5, c, _), .ref q => decide (sSh q = some (0, c.toNat, 0))
  | (6, _, _), .ref q => (match sAr q with
    | some (1, _) => true
    | _ => false)
  | _, _ => false
theorem bFld_ok {k : Nat} {t : Nat × Int × Int} {v : Value} (h : bFld k t v = true) : sFldOk k t v := by
  unfold bFld at h
  split at h
  · exact ⟨_, rfl, bin_ok h⟩
  · exact ⟨_, rfl⟩
  · rw [Bool.and_eq_true] at h
    exact ⟨_, rfl, of_decide_eq_true h.1, of_decide_eq_true h.2⟩
  · rw [Bool.and_eq_true] at h
    exact ⟨_, rfl, of_decide_eq_true h.1, of_decide_eq_true h.2⟩
  · rw [Bool.and_eq_true] at h
    exact ⟨_, rfl, of_decide_eq_true h.1, of_decide_eq_true h.2⟩
  · exact ⟨_, rfl, of_decide_eq_true h⟩
  · split at h
    · rename_i n hq
      exact ⟨_, n, rfl, hq⟩
    · cases h
  · cases h
def bO0 (M : zM) (k c : Nat) : Bool := match M.2.2 k with
  | .inr (c1, fs) => Nat.beq c1 c && (Nat.beq fs.length (sFk c).length && (List.range (sFk c).length).all fun j => bFld k ((sFk c).getD j (9, 0, 0)) (fs.getD j .null))
  | _ => false
def bO1 (M : zM) (k r : Nat) : Bool := match M.2.2 k with
  | .inl (t, n, .inl f) => Nat.beq t (srty r) && (Nat.beq n (srln r) && bRow r f)
  | _ => false
def bO2 (M : zM) (k t o : Nat) : Bool := match M.2.2 k with
  | .inl (t1, n, .inr (.inr (.inr (.inr f)))) => Nat.beq t1 (sRr t).2.2.2.1 && (Nat.beq n (sRr t).2.2.2.2.1 && (List.range (sRr t).2.2.2.2.1).all fun i => decide (f i = some (o + (sRr t).2.2.2.2.2.1 + (sRr t).2.2.2.2.2.2.1 * i)))
  | _ => false
def bObj (M : zM) (k : Nat) : Bool := match sSh k with
  | some (0, c, _) => bO0 M k c
  | some (1, r, _) => bO1 M k r
  | some (2, t, o) => bO2 M k t o
  | _ => true
theorem bMem_ok {M : zM} (h0 : M.1 = 486) (h : ∀ k, k < 486 → bObj M k = true) : sMem M := by
  refine ⟨h0, fun k c hk => ?_, fun k r o hk => ?_, fun k t o hk => ?_⟩
  · have h1 := h k (sSh_lt hk)
    unfold bObj at h1
    rw [hk] at h1
    have h1 : bO0 M k c = true := h1
    unfold bO0 at h1
    split at h1
    · rename_i c1 fs hm
      simp only [Bool.and_eq_true] at h1
      obtain ⟨e1, e2, e3⟩ := h1
      rw [hm, Nat.eq_of_beq_eq_true e1]
      exact ⟨fs, rfl, Nat.eq_of_beq_eq_true e2, fun j hj => bFld_ok (List.all_eq_true.mp e3 j (List.mem_range.mpr hj))⟩
    · cases h1
  · have h1 := h k (sSh_lt hk)
    unfold bObj at h1
    rw [hk] at h1
    have h1 : bO1 M k r = true := h1
    unfold bO1 at h1
    split at h1
    · rename_i t n f hm
      simp only [Bool.and_eq_true] at h1
      obtain ⟨e1, e2, e3⟩ := h1
      rw [hm, Nat.eq_of_beq_eq_true e1, Nat.eq_of_beq_eq_true e2]
      exact ⟨f, rfl, bRow_ok e3⟩
    · cases h1
  · have h1 := h k (sSh_lt hk)
    unfold bObj at h1
    rw [hk] at h1
    have h1 : bO2 M k t o = true := h1
    unfold bO2 at h1
    split at h1
    · rename_i t1 n f hm
      simp only [Bool.and_eq_true] at h1
      obtain ⟨e1, e2, e3⟩ := h1
      rw [hm, Nat.eq_of_beq_eq_true e1, Nat.eq_of_beq_eq_true e2]
      exact ⟨f, rfl, fun i hi => of_decide_eq_true (List.all_eq_true.mp e3 i (List.mem_range.mpr hi))⟩
    · cases h1
