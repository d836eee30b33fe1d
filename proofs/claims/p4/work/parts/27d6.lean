/-! THE START, 2: items; the reference's zeroes -/
def pd5 : pD := (2, 4000, 1, 2, [(1, 1, 4, 0, (0, [(0, 1)]), (0, [(1, 1)])), (1, 1, 5, 0, (0, [(0, 1)]), (0, [(1, 1)]))], [[((-14), [(3, 1)])], [(10, [(3, (-1))])], [(0, [(4, 1)]), (1048576, [(4, (-1))])]], true, false)
theorem cpd_5 : cpd 5 = some pd5 := rfl
def pB5 (M : zM) : Bool := (List.range 486).all fun k => match sSh k with
  | some (0, c, 0) => !(Nat.beq c 2) || bWith M (pPl pd5 k) fun M => bAll 4000 fun i => bz (sgr M 4 k i) || pHB M pd5 [(k : Int), (i : Int), 0]
  | _ => true
theorem pB5_ok {M : zM} (h : pB5 M = true) : cQs 5 [] M := by
  unfold cQs
  rw [cpd_5]
  show pQ pd5 [] M
  rintro p ⟨o, i, l, rfl, ⟨k, hk, hs⟩, i0, i1, l0, l1⟩ -
  have hs : sSh k = some (0, 2, 0) := by
    rw [if_neg (show ¬ pd5.1 = 99 by decide)] at hs
    exact hs
  have i1 : i < 4000 := i1
  have l1 : l < 1 := l1
  have hl : l = 0 := by omega
  subst hl
  have h1 := List.all_eq_true.mp h k (List.mem_range.mpr (sSh_lt hs))
  rw [hs] at h1
  have h1 : bWith M (pPl pd5 k) (fun M => bAll 4000 fun i => bz (sgr M 4 k i) || pHB M pd5 [(k : Int), (i : Int), 0]) = true := h1
  have h2 := bAll_ok (bWith_ok (F := fun M => bAll 4000 fun i => bz (sgr M 4 k i) || pHB M pd5 [(k : Int), (i : Int), 0]) h1) i.toNat (by omega)
  rw [Int.toNat_of_nonneg i0, hk] at h2
  rcases (Bool.or_eq_true _ _).mp h2 with h3 | h3
  · refine ⟨[(10, [(3, (-1))])], List.mem_cons_of_mem _ List.mem_cons_self, fun e he => ?_⟩
    rw [List.mem_singleton.mp he]
    have q : lget (peM M pd5.2.2.2.2.1 [o, i, 0]) 3 = 0 := by
      show cvM M 1 4 0 (se (lget [o, i, 0]) (0, [(0, 1)])) (se (lget [o, i, 0]) (0, [(1, 1)])) = 0
      have z1 : se (lget [o, i, 0]) (0, [(0, 1)]) = o := by
        show (0 : Int) + (1 * o + 0) = o
        omega
      have z2 : se (lget [o, i, 0]) (0, [(1, 1)]) = i := by
        show (0 : Int) + (1 * i + 0) = i
        omega
      rw [z1, z2]
      show cond (spos i && Nat.blt i.toNat (srln 4)) (sgr M 4 o.toNat i.toNat).toInt 0 = 0
      rw [show o.toNat = k by omega, bz_ok h3]
      cases (spos i && Nat.blt i.toNat (srln 4)) <;> rfl
    show (0 : Int) ≤ (10 : Int) + ((-1) * lget (peM M pd5.2.2.2.2.1 [o, i, 0]) 3 + 0)
    rw [q]
    decide
  · obtain ⟨cl, hcl, h4⟩ := List.any_eq_true.mp h3
    exact ⟨cl, hcl, fun e he => spos_ok (List.all_eq_true.mp h4 e he)⟩
set_option maxRecDepth 100000 in
theorem b5_0 : bTwo pB5 0 = true := by decide +kernel
set_option maxRecDepth 100000 in
theorem b5_1 : bTwo pB5 1 = true := by decide +kernel
