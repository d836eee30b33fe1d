/-! THE ENGINE, 2: the machine's numbers as whole numbers -/
def sI32 : Int × Int := (-2147483648, 2147483647)
def sI64 : Int × Int := (-9223372036854775808, 9223372036854775807)
def sRn (q : Int × Int) (v : Int) : Prop := q.1 ≤ v ∧ v ≤ q.2
theorem sr32 (x : Int32) : sRn sI32 x.toInt := by
  have h1 := Int32.le_toInt x
  have h2 := Int32.toInt_lt x
  constructor
  · show (-2147483648 : Int) ≤ x.toInt
    omega
  · show x.toInt ≤ (2147483647 : Int)
    omega
theorem sr64 (x : Int64) : sRn sI64 x.toInt := by
  have h1 := Int64.le_toInt x
  have h2 := Int64.toInt_lt x
  constructor
  · show (-9223372036854775808 : Int) ≤ x.toInt
    omega
  · show x.toInt ≤ (9223372036854775807 : Int)
    omega
theorem sb32 {v : Int} (h : sRn sI32 v) : v.bmod (2 ^ 32) = v := by
  obtain ⟨h1, h2⟩ := h
  have h1 : (-2147483648 : Int) ≤ v := h1
  have h2 : v ≤ (2147483647 : Int) := h2
  refine Int.bmod_eq_of_le ?_ ?_ <;> omega
theorem sb64 {v : Int} (h : sRn sI64 v) : v.bmod (2 ^ 64) = v := by
  obtain ⟨h1, h2⟩ := h
  have h1 : (-9223372036854775808 : Int) ≤ v := h1
  have h2 : v ≤ (9223372036854775807 : Int) := h2
  refine Int.bmod_eq_of_le ?_ ?_ <;> omega
theorem sadd32 {x y : Int32} (h : sRn sI32 (x.toInt + y.toInt)) : (x + y).toInt = x.toInt + y.toInt := (Int32.toInt_add x y).trans (sb32 h)
theorem ssub32 {x y : Int32} (h : sRn sI32 (x.toInt - y.toInt)) : (x - y).toInt = x.toInt - y.toInt := (Int32.toInt_sub x y).trans (sb32 h)
theorem smul32 {x y : Int32} (h : sRn sI32 (x.toInt * y.toInt)) : (x * y).toInt = x.toInt * y.toInt := (Int32.toInt_mul x y).trans (sb32 h)
theorem sneg32 {x : Int32} (h : sRn sI32 (-x.toInt)) : (-x).toInt = -x.toInt := (Int32.toInt_neg x).trans (sb32 h)
theorem sadd64 {x y : Int64} (h : sRn sI64 (x.toInt + y.toInt)) : (x + y).toInt = x.toInt + y.toInt := (Int64.toInt_add x y).trans (sb64 h)
theorem ssub64 {x y : Int64} (h : sRn sI64 (x.toInt - y.toInt)) : (x - y).toInt = x.toInt - y.toInt := (Int64.toInt_sub x y).trans (sb64 h)
theorem smul64 {x y : Int64} (h : sRn sI64 (x.toInt * y.toInt)) : (x * y).toInt = x.toInt * y.toInt := (Int64.toInt_mul x y).trans (sb64 h)
theorem sneg64 {x : Int64} (h : sRn sI64 (-x.toInt)) : (-x).toInt = -x.toInt := (Int64.toInt_neg x).trans (sb64 h)
theorem sl2i {x : Int64} (h : sRn sI32 x.toInt) : x.toInt32.toInt = x.toInt := (Int64.toInt_toInt32 x).trans (sb32 h)
/-- wrapped: a multiple of 2^32 apart -/
theorem swr32 (v : Int) : ∃ k : Int, v.bmod (2 ^ 32) = v + 4294967296 * k := by
  refine ⟨(v.bmod (2 ^ 32) - v) / 4294967296, ?_⟩
  have := Int.bmod_emod (x := v) (m := 2 ^ 32)
  have h2 : (v.bmod (2 ^ 32) - v) % 4294967296 = 0 := by omega
  omega
/-- and of a number that isn't below 0 -/
theorem sandB {w : Nat} (a b : BitVec w) (h : 0 ≤ a.toInt ∨ 0 ≤ b.toInt) : 0 ≤ (a &&& b).toInt ∧ (0 ≤ a.toInt → (a &&& b).toInt ≤ a.toInt) ∧ (0 ≤ b.toInt → (a &&& b).toInt ≤ b.toInt) := by
  have hn : (a &&& b).toNat = a.toNat &&& b.toNat := BitVec.toNat_and a b
  have h1 : (a &&& b).toNat ≤ a.toNat := by rw [hn]; exact Nat.and_le_left
  have h2 : (a &&& b).toNat ≤ b.toNat := by rw [hn]; exact Nat.and_le_right
  have la := a.isLt
  have lb := b.isLt
  have ea := BitVec.toInt_eq_toNat_cond a
  have eb := BitVec.toInt_eq_toNat_cond b
  have ec := BitVec.toInt_eq_toNat_cond (a &&& b)
  clear hn
  generalize (a &&& b).toInt = zc at *
  generalize a.toInt = za at *
  generalize b.toInt = zb at *
  generalize (a &&& b).toNat = n at *
  generalize a.toNat = m at *
  generalize b.toNat = k at *
  generalize 2 ^ w = N at *
  split at ea <;> split at eb <;> split at ec <;> omega
theorem sand32 {x y : Int32} (h : 0 ≤ x.toInt ∨ 0 ≤ y.toInt) : 0 ≤ (x &&& y).toInt ∧ (0 ≤ x.toInt → (x &&& y).toInt ≤ x.toInt) ∧ (0 ≤ y.toInt → (x &&& y).toInt ≤ y.toInt) := sandB x.toBitVec y.toBitVec h
theorem sand64 {x y : Int64} (h : 0 ≤ x.toInt ∨ 0 ≤ y.toInt) : 0 ≤ (x &&& y).toInt ∧ (0 ≤ x.toInt → (x &&& y).toInt ≤ x.toInt) ∧ (0 ≤ y.toInt → (x &&& y).toInt ≤ y.toInt) := sandB x.toBitVec y.toBitVec h
/-- quotient and rest of a number that isn't below 0 by one above 0 -/
theorem sdiv32 {x y : Int32} (hx : 0 ≤ x.toInt) (hy : 0 < y.toInt) : (x / y).toInt = x.toInt / y.toInt ∧ (x - x / y * y).toInt = x.toInt - x.toInt / y.toInt * y.toInt := by
  have ne : y ≠ -1 := fun q => by rw [q] at hy; revert hy; decide
  have h1 : (x / y).toInt = x.toInt / y.toInt := by
    rw [Int32.toInt_div_of_ne_right x y ne, Int.tdiv_eq_ediv_of_nonneg hx]
  have b1 := (sr32 x).2
  have b1 : x.toInt ≤ 2147483647 := b1
  have q0 : 0 ≤ x.toInt / y.toInt := Int.ediv_nonneg hx (Int.le_of_lt hy)
  have q1 : x.toInt / y.toInt * y.toInt ≤ x.toInt := Int.ediv_mul_le _ (by omega)
  have q2 : 0 ≤ x.toInt / y.toInt * y.toInt := Int.mul_nonneg q0 (Int.le_of_lt hy)
  have h2 : (x / y * y).toInt = x.toInt / y.toInt * y.toInt := by
    rw [← h1]
    refine smul32 ?_
    rw [h1]
    constructor
    · show (-2147483648 : Int) ≤ _
      omega
    · show _ ≤ (2147483647 : Int)
      omega
  refine ⟨h1, ?_⟩
  rw [← h2]
  refine ssub32 ?_
  rw [h2]
  constructor
  · show (-2147483648 : Int) ≤ _
    omega
  · show _ ≤ (2147483647 : Int)
    omega
theorem sdiv64 {x y : Int64} (hx : 0 ≤ x.toInt) (hy : 0 < y.toInt) : (x / y).toInt = x.toInt / y.toInt ∧ (x - x / y * y).toInt = x.toInt - x.toInt / y.toInt * y.toInt := by
  have ne : y ≠ -1 := fun q => by rw [q] at hy; revert hy; decide
  have h1 : (x / y).toInt = x.toInt / y.toInt := by
    rw [Int64.toInt_div_of_ne_right x y ne, Int.tdiv_eq_ediv_of_nonneg hx]
  have b1 := (sr64 x).2
  have b1 : x.toInt ≤ 9223372036854775807 := b1
  have q0 : 0 ≤ x.toInt / y.toInt := Int.ediv_nonneg hx (Int.le_of_lt hy)
  have q1 : x.toInt / y.toInt * y.toInt ≤ x.toInt := Int.ediv_mul_le _ (by omega)
  have q2 : 0 ≤ x.toInt / y.toInt * y.toInt := Int.mul_nonneg q0 (Int.le_of_lt hy)
  have h2 : (x / y * y).toInt = x.toInt / y.toInt * y.toInt := by
    rw [← h1]
    refine smul64 ?_
    rw [h1]
    constructor
    · show (-9223372036854775808 : Int) ≤ _
      omega
    · show _ ≤ (9223372036854775807 : Int)
      omega
  refine ⟨h1, ?_⟩
  rw [← h2]
  refine ssub64 ?_
  rw [h2]
  constructor
  · show (-9223372036854775808 : Int) ≤ _
    omega
  · show _ ≤ (9223372036854775807 : Int)
    omega
