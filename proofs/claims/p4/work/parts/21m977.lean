/-! THE REFERENCE'S PREDICATES, 12: counts, places of longs -/
theorem cnt2_s (S : Int → Int) (n : Nat) : cnt2 S (n + 1) = cnt2 S n + if S n = 2 then 0 else 1 := rfl
theorem cnt2_0 {S : Int → Int} : ∀ n : Nat, 0 ≤ cnt2 S n ∧ cnt2 S n ≤ n
  | 0 => ⟨Int.le_refl _, Int.le_refl _⟩
  | n + 1 => by
    have t := cnt2_0 (S := S) n
    rw [cnt2_s]
    split <;> omega
theorem cnt2_le (S : Int → Int) (n : Nat) : cnt2 S n ≤ n := (cnt2_0 n).2
theorem cnt2_fr {S S' : Int → Int} : ∀ n : Nat, (∀ i : Nat, i < n → S' i = S i) → cnt2 S' n = cnt2 S n
  | 0, _ => rfl
  | n + 1, h => by rw [cnt2_s, cnt2_s, cnt2_fr n fun i hi => h i (by omega), h n (by omega)]
theorem cnt2_up {S S' : Int → Int} {a : Int} (h0 : 0 ≤ a) (hf : ∀ i, i ≠ a → S' i = S i) : ∀ n : Nat, a < n → cnt2 S' n + (if S a = 2 then 0 else 1) = cnt2 S n + (if S' a = 2 then 0 else 1)
  | 0, h => by omega
  | n + 1, h => by
    rw [cnt2_s, cnt2_s]
    rcases (show a < n ∨ a = n by omega) with c | c
    · have t := cnt2_up h0 hf n c
      rw [hf n (by omega)]
      omega
    · rw [cnt2_fr n fun i hi => hf i (by omega), c]
      omega
theorem cnt2_pos {S : Int → Int} {a : Int} (h0 : 0 ≤ a) (h : S a ≠ 2) : ∀ n : Nat, a < n → 1 ≤ cnt2 S n
  | 0, h => by omega
  | n + 1, h1 => by
    rw [cnt2_s]
    rcases (show a < n ∨ a = n by omega) with c | c
    · have t := cnt2_pos h0 h n c
      split <;> omega
    · have t := (cnt2_0 (S := S) n).1
      rw [← c, if_neg h]
      omega
/-- a region of zeroes with the built-in words -/
theorem zero_dC {F : Int → Int} {b : Int} (h : q62 b F) (h4 : F (b + 4) = 172) (h5 : F (b + 5) = 0) (h24 : F (b + 24) = 0) (h17 : F (b + 17) = 0) : dC F b := by
  have k0 : ∀ i, 0 ≤ i → i < 172 → dK F b i = 0 := fun i i0 i1 => by
    have t := h (8292 + 40 * i) (Or.inr (Or.inr (Or.inr ⟨i, i0, by omega, rfl⟩)))
    rw [show b + (8292 + 40 * i) = b + 8292 + 40 * i by omega] at t
    exact t
  unfold dC
  rw [h4, h5, h24, h17]
  refine ⟨⟨⟨by omega, by omega, by omega, by omega, by omega, by omega, by omega, by omega, by omega⟩, fun i i0 i1 _ => k0 i i0 i1, fun i i0 i1 => by omega, fun i i0 i1 hk => ?_, fun i i0 i1 hk => ?_, fun i j i0 ij j1 hk => ?_, fun i i0 i1 hk => ?_, fun k k0 k1 => by omega, fun k k0 k1 => by omega, fun k k0 k1 => by omega, fun _ => rfl, fun c => by omega⟩, fun c => by omega⟩
  · have := k0 i i0 i1
    omega
  · have := k0 i i0 i1
    omega
  · have := k0 i i0 (by omega)
    omega
  · have := k0 i i0 i1
    omega
/-! places of longs -/
theorem ofI64m (a : Int) : ∃ j : Int, (Int64.ofInt a).toInt = a + 18446744073709551616 * j := by
  rw [Int64.toInt_ofInt]
  refine ⟨(a.bmod Int64.size - a) / 18446744073709551616, ?_⟩
  have h1 : (a.bmod 18446744073709551616) % 18446744073709551616 = a % 18446744073709551616 := Int.bmod_emod (x := a) (m := 18446744073709551616)
  have h2 : Int64.size = 18446744073709551616 := rfl
  rw [h2]
  omega
theorem ofI64 {z : Int} (h0 : -9223372036854775808 ≤ z) (h1 : z ≤ 9223372036854775807) : (Int64.ofInt z).toInt = z := Int64.toInt_ofInt_of_le (by omega) (by omega)
theorem hop_land {a e x : Int} (h : hopS 4 a e x) : (Int64.ofInt a &&& Int64.ofInt e).toInt = x := by
  obtain ⟨r, h1, h2⟩ := h.2.1 _ rfl
  cases h1
  exact h2
theorem hop_lshl {a e x : Int} (h : hopS 5 a e x) : (Int64.ofInt a <<< ((Int32.ofInt e).toInt64 &&& 63)).toInt = x := h.2.2 _ rfl
theorem hop_lshr {a e x : Int} (h : hopS 6 a e x) : (Int64.ofInt a >>> ((Int32.ofInt e).toInt64 &&& 63)).toInt = x := h.2.2 _ rfl
theorem land_M {a x : Int} {k : Nat} (hk : k ≤ 62) (h : hopS 4 a (2 ^ k - 1) x) : ∃ j : Int, x = (a + 18446744073709551616 * j) % 2 ^ k := by
  have t := hop_land h
  obtain ⟨j, hj⟩ := ofI64m a
  have p : (0 : Int) < 2 ^ k := Int.pow_pos (by decide)
  have u0 : 2 ^ k ≤ 2 ^ 62 := Nat.pow_le_pow_right (by decide) hk
  rw [show 2 ^ 62 = 4611686018427387904 from rfl] at u0
  have e0 : ((2 ^ k : Nat) : Int) = 2 ^ k := by rw [Int.natCast_pow]; rfl
  have u : (2 : Int) ^ k ≤ 4611686018427387904 := by omega
  have e : (Int64.ofInt (2 ^ k - 1)).toInt = 2 ^ k - 1 := ofI64 (by omega) (by omega)
  have v := sandQ (a := (Int64.ofInt a).toBitVec) (b := (Int64.ofInt (2 ^ k - 1)).toBitVec) (k := k) e (by omega)
  refine ⟨j, ?_⟩
  rw [← hj, ← t]
  exact v
theorem shl8 : ∀ c : Nat, c < 8 → (Int64.ofInt 1 <<< ((Int32.ofInt (8 * (c : Int))).toInt64 &&& 63)).toInt = 2 ^ (8 * c) := by decide
theorem q32_eq {a e x c y : Int} (h : hopS 4 a e x) (h' : hopS 5 1 (8 * c) y) (hy : y = e + 1) (c0 : 0 ≤ c) (c1 : c ≤ 7) : x = a % (256 ^ c.toNat : Int) := by
  obtain ⟨m, rfl⟩ : ∃ m : Nat, c = (m : Int) := ⟨c.toNat, by omega⟩
  have t := hop_lshl h'
  rw [shl8 m (by omega)] at t
  have ee : e = 2 ^ (8 * m) - 1 := by omega
  rw [ee] at h
  obtain ⟨j, hj⟩ := land_M (k := 8 * m) (by omega) h
  rw [hj, Int.toNat_natCast]
  have e2 : (256 : Int) ^ m = 2 ^ (8 * m) := by rw [Int.pow_mul]; rfl
  have e3 : (18446744073709551616 : Int) = 2 ^ (8 * m) * 2 ^ (64 - 8 * m) := by
    rw [← Int.pow_add, show 8 * m + (64 - 8 * m) = 64 by omega]
    rfl
  rw [e2, e3, Int.mul_assoc, Int.add_mul_emod_self_left]
theorem q33_shx {w p z : Int} {f k : Nat} (h1 : hopS 5 w f p) (h2 : hopS 6 p f z) (hf : f + k = 64) (hf2 : f < 64) (w0 : 0 ≤ w) (w1 : w < 2 ^ k) (w2 : w ≤ 9223372036854775807) : z % 2 ^ k = w := by
  have t1 := hop_lshl h1
  have t2 := hop_lshr h2
  have ew := ofI64 (z := w) (by omega) w2
  have ef : (Int32.ofInt (f : Int)).toInt = f := ofI32 (by omega) (by omega)
  rw [sshl64 ef hf2, ew] at t1
  rw [← t1, sshr64 ef hf2] at t2
  refine sexL hf w0 w1 ?_
  rw [← t2]
  congr 1
  have b1 := Int.bmod_le (x := w * 2 ^ f) (m := 2 ^ 64) (by decide)
  have b2 := Int.le_bmod (x := w * 2 ^ f) (m := 2 ^ 64) (by decide)
  exact ofI64 (by omega) (by omega)
theorem g_mul {a b p : Int} (h : hopS 7 a b p) (ha : 1 ≤ a) (hb : 2 ≤ b) (hm : a * b ≤ 9223372036854775807) : 2 * a ≤ p := by
  obtain ⟨r, h1, h2⟩ := h.2.1 _ rfl
  cases h1
  have m1 : a * 2 ≤ a * b := Int.mul_le_mul_of_nonneg_left hb (by omega)
  have m2 : 1 * b ≤ a * b := Int.mul_le_mul_of_nonneg_right ha (by omega)
  have e1 := ofI64 (z := a) (by omega) (by omega)
  have e2 := ofI64 (z := b) (by omega) (by omega)
  rw [smul64 (by rw [e1, e2]; exact ⟨by show (-9223372036854775808 : Int) ≤ a * b; omega, hm⟩), e1, e2] at h2
  omega
theorem g_div {a b x : Int} (h : hopS 8 a b x) (a0 : 0 ≤ a) (a1 : a ≤ 9223372036854775807) (b0 : 1 ≤ b) (b1 : b ≤ 9223372036854775807) : x = a / b := by
  obtain ⟨r, h1, h2⟩ := h.2.1 _ rfl
  have e1 := ofI64 (z := a) (by omega) (by omega)
  have e2 := ofI64 (z := b) (by omega) (by omega)
  have hz : Int64.ofInt b ≠ 0 := fun w => by
    rw [w] at e2
    have : (0 : Int64).toInt = 0 := rfl
    omega
  have h1 : (if Int64.ofInt b = 0 then none else some (Int64.ofInt a / Int64.ofInt b)) = some r := h1
  rw [if_neg hz] at h1
  cases h1
  rw [(sdiv64 (x := Int64.ofInt a) (y := Int64.ofInt b) (by omega) (by omega)).1, e1, e2] at h2
  exact h2.symm
theorem g_div_le {a b : Int} (a0 : 0 ≤ a) (b0 : 1 ≤ b) : 0 ≤ a / b ∧ a / b ≤ a ∧ (2 ≤ b → 2 * (a / b) ≤ a) ∧ (1 ≤ a / b → b ≤ a) := by
  have t1 := Int.mul_ediv_self_le (x := a) (k := b) (by omega)
  have t2 : 0 ≤ a / b := Int.ediv_nonneg a0 (by omega)
  have t3 : 1 * (a / b) ≤ b * (a / b) := Int.mul_le_mul_of_nonneg_right b0 t2
  refine ⟨t2, by omega, fun c => ?_, fun c => ?_⟩
  · have t4 : 2 * (a / b) ≤ b * (a / b) := Int.mul_le_mul_of_nonneg_right c t2
    omega
  · have t4 : b * 1 ≤ b * (a / b) := Int.mul_le_mul_of_nonneg_left c (by omega)
    omega
