/-! THE ENGINE, 8: locals; what stays in the frame -/
theorem zget_nil (j : Nat) : zget [] j = none := rfl
theorem zget_cons (q : Nat × Value) (l : zL) (j : Nat) : zget (q :: l) j = if q.1 = j then some q.2 else zget l j := by
  unfold zget
  by_cases h : q.1 = j
  · rw [List.find?_cons_of_pos (by simpa using h), if_pos h]
  · rw [List.find?_cons_of_neg (by simpa using h), if_neg h]
theorem zget_filter {P : Nat × Value → Bool} {j : Nat} {w : Value} (hP : P (j, w) = true) : ∀ {l : zL}, zget l j = some w → zget (l.filter P) j = some w := by
  intro l
  induction l with
  | nil => intro h; cases h
  | cons q l ih =>
    intro h
    rw [zget_cons] at h
    by_cases hq : q.1 = j
    · rw [if_pos hq] at h
      have e : q = (j, w) := Prod.ext hq (Option.some.inj h)
      rw [e, List.filter_cons_of_pos hP, zget_cons, if_pos rfl]
    · rw [if_neg hq] at h
      cases hp : P q with
      | true => rw [List.filter_cons_of_pos hp, zget_cons, if_neg hq]; exact ih h
      | false => rw [List.filter_cons_of_neg (by rw [hp]; exact Bool.false_ne_true)]; exact ih h
theorem zget_rep_self (i : Nat) (v : Value) : ∀ l : zL, zget (zrep l i v) i = some v := by
  intro l
  induction l with
  | nil => rw [zrep, zget_cons, if_pos rfl]
  | cons q l ih =>
    unfold zrep
    by_cases hq : q.1 = i
    · rw [(by simpa using hq : (q.1 == i) = true)]
      show zget ((i, v) :: _) i = some v
      rw [zget_cons, if_pos rfl]
    · rw [(by simpa using hq : (q.1 == i) = false)]
      show zget (q :: zrep l i v) i = some v
      rw [zget_cons, if_neg hq]
      exact ih
theorem zget_rep_ne {i j : Nat} {v w : Value} (hj : j ≠ i) : ∀ {l : zL}, zget l j = some w → zget (zrep l i v) j = some w := by
  intro l
  induction l with
  | nil => intro h; cases h
  | cons q l ih =>
    intro h
    rw [zget_cons] at h
    unfold zrep
    by_cases hq : q.1 = i
    · rw [(by simpa using hq : (q.1 == i) = true)]
      have hn : ¬ q.1 = j := fun e => hj (e.symm.trans hq)
      rw [if_neg hn] at h
      show zget ((i, v) :: l.filter (fun p => !(p.1 == i))) j = some w
      rw [zget_cons, if_neg (fun e => hj e.symm)]
      exact zget_filter (by simpa using hj) h
    · rw [(by simpa using hq : (q.1 == i) = false)]
      show zget (q :: zrep l i v) j = some w
      rw [zget_cons]
      by_cases hn : q.1 = j
      · rw [if_pos hn] at h ⊢; exact h
      · rw [if_neg hn] at h ⊢; exact ih h
/-- values of one place -/
def sc1 (t : Nat) : Bool := (Nat.ble t 8 && !(Nat.beq t 1)) || (Nat.beq t 10 || Nat.beq t 11)
theorem sc1_ok {ρ : Nat → Int} {v : Value} {a : sV} (h : sVal ρ v a) (hc : sc1 a.1 = true) : v.category = 1 := by
  obtain ⟨t, q, e⟩ := a
  unfold sc1 at hc
  unfold sVal at h
  have : t = 0 ∨ t = 2 ∨ t = 3 ∨ t = 4 ∨ t = 5 ∨ t = 6 ∨ t = 7 ∨ t = 8 ∨ t = 10 ∨ t = 11 := by
    simp only [Bool.or_eq_true, Bool.and_eq_true] at hc
    rcases hc with ⟨h1, h2⟩ | hc | hc
    · have h1 : t ≤ 8 := Nat.le_of_ble_eq_true h1
      have h2 : Nat.beq t 1 = false := by simpa using h2
      have : t ≠ 1 := fun q => by rw [q] at h2; cases h2
      omega
    · have : t = 10 := Nat.eq_of_beq_eq_true hc
      omega
    · have : t = 11 := Nat.eq_of_beq_eq_true hc
      omega
  rcases this with rfl | rfl | rfl | rfl | rfl | rfl | rfl | rfl | rfl | rfl
  · obtain ⟨x, rfl, -⟩ := h; rfl
  · have h : v = .null := h; rw [h]; rfl
  · obtain ⟨x, rfl, -⟩ := h; rfl
  · obtain ⟨x, o, rfl, -⟩ := h; rfl
  · obtain ⟨x, o, rfl, -⟩ := h; rfl
  · have h : v = .ref (1000000 + q) := h.1; rw [h]; rfl
  · obtain ⟨x, rfl, -⟩ := h; rfl
  · obtain ⟨x, o, rfl, -⟩ := h; rfl
  · have h : v = .ref (1000020 + q) := h.1; rw [h]; rfl
  · rcases h with rfl | ⟨k, rfl⟩ <;> rfl
def sput1 (L : List (Nat × sV)) (i : Nat) (a : sV) : List (Nat × sV) := (i, a) :: L.filter fun p => !(Nat.beq p.1 i) && (!(Nat.beq (p.1 + 1) i) || sc1 p.2.1)
def sput2 (L : List (Nat × sV)) (i : Nat) (a : sV) : List (Nat × sV) := (i, a) :: L.filter fun p => !(Nat.beq p.1 i) && (!(Nat.beq p.1 (i + 1)) && (!(Nat.beq (p.1 + 1) i) || sc1 p.2.1))
theorem sput1_ok {ρ : Nat → Int} {ls : zL} {L : List (Nat × sV)} (h : sLoc ρ ls L) {i : Nat} {v : Value} {a : sV} (hv : sVal ρ v a) : sLoc ρ (zput1 ls i v) (sput1 L i a) := by
  refine List.forall_mem_cons.mpr ⟨⟨v, zget_rep_self i v _, hv⟩, fun p hp => ?_⟩
  obtain ⟨h1, h2⟩ := List.mem_filter.mp hp
  rw [Bool.and_eq_true, Bool.or_eq_true] at h2
  obtain ⟨h2, h3⟩ := h2
  have hne : p.1 ≠ i := fun q => by rw [q] at h2; simp at h2
  obtain ⟨w, w1, w2⟩ := h p h1
  refine ⟨w, zget_rep_ne hne (zget_filter ?_ w1), w2⟩
  rcases h3 with h3 | h3
  · have h3 : Nat.beq (p.1 + 1) i = false := by simpa using h3
    have h4 : p.1 + 1 ≠ i := Nat.ne_of_beq_eq_false h3
    simp [h4]
  · rw [sc1_ok w2 h3]
    simp
theorem sput2_ok {ρ : Nat → Int} {ls : zL} {L : List (Nat × sV)} (h : sLoc ρ ls L) {i : Nat} {v : Value} {a : sV} (hv : sVal ρ v a) : sLoc ρ (zput2 ls i v) (sput2 L i a) := by
  refine List.forall_mem_cons.mpr ⟨⟨v, zget_rep_self i v _, hv⟩, fun p hp => ?_⟩
  obtain ⟨h1, h2⟩ := List.mem_filter.mp hp
  rw [Bool.and_eq_true, Bool.and_eq_true, Bool.or_eq_true] at h2
  obtain ⟨h2, h4, h3⟩ := h2
  have hne : p.1 ≠ i := fun q => by rw [q] at h2; simp at h2
  have h4 : p.1 ≠ i + 1 := by
    have : Nat.beq p.1 (i + 1) = false := by simpa using h4
    exact Nat.ne_of_beq_eq_false this
  obtain ⟨w, w1, w2⟩ := h p h1
  refine ⟨w, zget_rep_ne hne (zget_filter ?_ w1), w2⟩
  rcases h3 with h3 | h3
  · have h3 : Nat.beq (p.1 + 1) i = false := by simpa using h3
    have h5 : p.1 + 1 ≠ i := Nat.ne_of_beq_eq_false h3
    simp [h4, h5]
  · rw [sc1_ok w2 h3]
    simp [h4]
theorem sput1_wf {n : Nat} {L : List (Nat × sV)} {i : Nat} {a : sV} (h : ∀ p ∈ L, swV n p.2) (ha : swV n a) : ∀ p ∈ sput1 L i a, swV n p.2 := List.forall_mem_cons.mpr ⟨ha, fun p hp => h p (List.mem_filter.mp hp).1⟩
theorem sput2_wf {n : Nat} {L : List (Nat × sV)} {i : Nat} {a : sV} (h : ∀ p ∈ L, swV n p.2) (ha : swV n a) : ∀ p ∈ sput2 L i a, swV n p.2 := List.forall_mem_cons.mpr ⟨ha, fun p hp => h p (List.mem_filter.mp hp).1⟩
