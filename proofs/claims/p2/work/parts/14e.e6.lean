/-! THE ENGINE, 6: arithmetic -/
def smin (a b : Int) : Int := cond (spos (b - a)) a b
theorem smin_l (a b : Int) : smin a b = a ∨ smin a b = b := by
  unfold smin
  cases spos (b - a) with
  | true => exact Or.inl rfl
  | false => exact Or.inr rfl
def sge0 (K : sK) (a : sE) : Bool := sprov K.1 K.2 a
theorem sge0_ok {ρ : Nat → Int} {K : sK} {a : sE} (h : skok ρ K) (hs : sge0 K a = true) : 0 ≤ se ρ a := sprov_ok h.1 h.2 hs
/-- bounds of an 'and' -/
def sandR (K : sK) (a b : sE) (q : Int × Int) : Int × Int := cond (sge0 K a) (cond (sge0 K b) (0, smin (sub_ K.1 a) (sub_ K.1 b)) (0, sub_ K.1 a)) (cond (sge0 K b) (0, sub_ K.1 b) q)
theorem sandR_ok {ρ : Nat → Int} {K : sK} {a b : sE} {q : Int × Int} {r : Int} (h : skok ρ K) (hq : sRn q r) (hr : 0 ≤ se ρ a ∨ 0 ≤ se ρ b → 0 ≤ r ∧ (0 ≤ se ρ a → r ≤ se ρ a) ∧ (0 ≤ se ρ b → r ≤ se ρ b)) : sRn (sandR K a b q) r := by
  have ua := sub_ok h.1 a
  have ub := sub_ok h.1 b
  unfold sandR
  cases ha : sge0 K a with
  | true =>
    have pa := sge0_ok h ha
    obtain ⟨r1, r2, r3⟩ := hr (Or.inl pa)
    have r2 := r2 pa
    cases hb : sge0 K b with
    | true =>
      have r3 := r3 (sge0_ok h hb)
      refine ⟨r1, ?_⟩
      show r ≤ smin (sub_ K.1 a) (sub_ K.1 b)
      rcases smin_l (sub_ K.1 a) (sub_ K.1 b) with e | e <;> rw [e] <;> omega
    | false => exact ⟨r1, by show r ≤ sub_ K.1 a; omega⟩
  | false =>
    cases hb : sge0 K b with
    | true =>
      have pb := sge0_ok h hb
      obtain ⟨r1, r2, r3⟩ := hr (Or.inr pb)
      have r3 := r3 pb
      exact ⟨r1, by show r ≤ sub_ K.1 b; omega⟩
    | false => exact hq
/-- a quotient by a number above 0 -/
def squot (i : Instr) (K : sK) (D : List sD) (a b : sE) (c : Int) : Option (sK × List sD × sE) := match sdfind i a b D with
  | some x => some (K, D, sS x)
  | none => match sasm [ssub a (smul c (sS K.1.length)), ssub (sadd (smul c (sS K.1.length)) (sC (c - 1))) a] (sfresh K (slb K.1 a / c) (sub_ K.1 a / c)) with
    | some K2 => some (K2, (i, a, b, K.1.length) :: D, sS K.1.length)
    | none => none
theorem sshr32 {x y : Int32} {k : Nat} (hy : y.toInt = k) (hk : k < 32) : (x >>> (y &&& 31)).toInt = x.toInt / 2 ^ k := by
  have e : y = Int32.ofNat k := by
    refine Int32.toInt_inj.mp ?_
    rw [hy, Int32.toInt_ofNat_of_lt (by omega)]
  subst e
  have h1 : ∀ k, k < 32 → (Int32.ofNat k &&& 31) = Int32.ofNat k ∧ ((Int32.ofNat k).toBitVec.smod 32).toNat = k := by decide
  obtain ⟨h2, h3⟩ := h1 k hk
  rw [h2]
  show (x.toBitVec.sshiftRight ((Int32.ofNat k).toBitVec.smod 32).toNat).toInt = x.toInt / 2 ^ k
  rw [h3, BitVec.toInt_sshiftRight, Int.shiftRight_eq_div_pow]
  rfl
section SOQ
variable {Qs : Nat → List Int → zM → Prop} {ρ : Nat → Int} {K : sK} {D : List sD} {F : List sF} {Q : List sQ} {L : List (Nat × sV)} {T : List sV} {ls : zL} {st : List Value} {M : zM}
/-- what an operation's abstract answer has to mean -/
def sAns (Qs : Nat → List Int → zM → Prop) (ρ : Nat → Int) (K : sK) (F : List sF) (Q : List sQ) (L : List (Nat × sV)) (T : List sV) (ls : zL) (st : List Value) (M : zM) (v : Int) (p : sK × List sD × sE) : Prop :=
  ∃ σ, sagr K.1.length ρ σ ∧ K.1.length ≤ p.1.1.length ∧ sR Qs σ (p.1, p.2.1, F, Q, L, T) ls st M ∧ se σ p.2.2 = v ∧ swE p.1.1.length p.2.2
theorem sAns_id (h : sR Qs ρ (K, D, F, Q, L, T) ls st M) {e : sE} {v : Int} (he : se ρ e = v) (hw : swE K.1.length e) : sAns Qs ρ K F Q L T ls st M v (K, D, e) := ⟨ρ, fun _ _ => rfl, Nat.le_refl _, h, he, hw⟩
theorem sAns_def (h : sR Qs ρ (K, D, F, Q, L, T) ls st M) {i : Instr} {a b : sE} {q : Int × Int} {v : Int} (ha : swE K.1.length a) (hb : swE K.1.length b) (hv : sRn q v) (hd : sDokE (se ρ a) (se ρ b) v i ∧ ∀ u, sDokE (se ρ a) (se ρ b) u i → u = v) : sAns Qs ρ K F Q L T ls st M v (sdef i K D a b q) := sR_def h ha hb hv hd.1 hd.2
theorem squot_ok (h : sR Qs ρ (K, D, F, Q, L, T) ls st M) {i : Instr} {a b : sE} {c v : Int} (hc : 0 < c) (ha : swE K.1.length a) (hb : swE K.1.length b) (hv : v = se ρ a / c) (hd : sDokE (se ρ a) (se ρ b) v i ∧ ∀ u, sDokE (se ρ a) (se ρ b) u i → u = v) : ∃ p, squot i K D a b c = some p ∧ sAns Qs ρ K F Q L T ls st M v p := by
  unfold squot
  cases hf : sdfind i a b D with
  | some x =>
    have hm := sdfind_ok hf
    exact ⟨_, rfl, sAns_id h (by rw [se_S]; exact hd.2 _ (h.2.1 _ hm)) (swE_S (h.2.2.2.2.2.2.2.2.1 _ hm).2.2)⟩
  | none =>
    have q1 : slb K.1 a / c ≤ v := by rw [hv]; exact Int.ediv_le_ediv hc (slb_ok h.1.1 a)
    have q2 : v ≤ sub_ K.1 a / c := by rw [hv]; exact Int.ediv_le_ediv hc (sub_ok h.1.1 a)
    have h2 := sR_fresh h (lo := slb K.1 a / c) (hi := sub_ K.1 a / c) ⟨q1, q2⟩
    have hl : (sfresh K (slb K.1 a / c) (sub_ K.1 a / c)).1.length = K.1.length + 1 := List.length_append
    have ws : swE (K.1.length + 1) (sS K.1.length) := swE_S (Nat.lt_succ_self _)
    have wa := ha.le (Nat.le_succ K.1.length)
    have es : se (supd ρ K.1.length v) (sS K.1.length) = v := by rw [se_S]; exact supd_self
    have ea : se (supd ρ K.1.length v) a = se ρ a := se_agr supd_agr ha
    have m1 : c * v ≤ se ρ a := by rw [hv]; exact Int.mul_ediv_self_le (by omega)
    have m2 : se ρ a < c * v + c := by
      have := Int.lt_mul_ediv_self_add (x := se ρ a) hc
      rw [← hv] at this
      exact this
    obtain ⟨K2, e1, e2, e3⟩ := sR_asm h2 (l := [ssub a (smul c (sS K.1.length)), ssub (sadd (smul c (sS K.1.length)) (sC (c - 1))) a]) (by
      rw [hl]
      exact List.forall_mem_cons.mpr ⟨swE_sub wa (swE_mul ws), List.forall_mem_cons.mpr ⟨swE_sub (swE_add (swE_mul ws) (swE_C _)) wa, fun _ q => by cases q⟩⟩) (by
      refine List.forall_mem_cons.mpr ⟨?_, List.forall_mem_cons.mpr ⟨?_, fun _ q => by cases q⟩⟩
      · rw [se_sub, se_mul, es, ea]; omega
      · rw [se_sub, se_add, se_mul, se_C, es, ea]; omega)
    dsimp only
    rw [e1]
    refine ⟨_, rfl, supd ρ K.1.length v, supd_agr, by dsimp only; rw [e2, hl]; exact Nat.le_succ _, ?_, es, by dsimp only; rw [e2, hl]; exact ws⟩
    obtain ⟨g1, g3, g4, g5, g6, g7, g8, w1, w2, w3, w4, w5, w6⟩ := e3
    refine ⟨g1, List.forall_mem_cons.mpr ⟨?_, g3⟩, g4, g5, g6, g7, g8, w1, List.forall_mem_cons.mpr ⟨⟨?_, ?_, ?_⟩, w2⟩, w3, w4, w5, w6⟩
    · show sDokE (se _ a) (se _ b) (supd ρ K.1.length v K.1.length) i
      rw [ea, se_agr supd_agr hb, supd_self]
      exact hd.1
    · dsimp only; rw [e2, hl]; exact wa
    · dsimp only; rw [e2, hl]; exact hb.le (Nat.le_succ _)
    · dsimp only; rw [e2, hl]; exact Nat.lt_succ_self _
/-- bounds of a quotient of a number that isn't above 0, of a rest -/
def sqn (K : sK) (a : sE) (c : Int) (q : Int × Int) : Int × Int := cond (spos (c - 1) && sge0 K (smul (-1) a)) (-((-(slb K.1 a)) / c), -((-(sub_ K.1 a)) / c)) q
def srn_ (K : sK) (a : sE) (c : Int) (q : Int × Int) : Int × Int := cond (spos (c - 1) && sge0 K (smul (-1) a)) (1 - c, 0) q
theorem sdivN32 {x y : Int32} {c : Int} (hc : 0 < c) (hy : y.toInt = c) (hx : x.toInt ≤ 0) : (x / y).toInt = -((-x.toInt) / c) ∧ 1 - c ≤ (x - x / y * y).toInt ∧ (x - x / y * y).toInt ≤ 0 := by
  have ne : y ≠ -1 := fun q => by
    rw [q] at hy
    have : (-1 : Int) = c := hy
    omega
  have h1 : (x / y).toInt = -((-x.toInt) / c) := by
    rw [Int32.toInt_div_of_ne_right x y ne, hy]
    have e : x.toInt = -(-x.toInt) := by omega
    rw [e, Int.neg_tdiv, Int.tdiv_eq_ediv_of_nonneg (by omega), Int.neg_neg]
  have b1 := (sr32 x).1
  have b1 : -2147483648 ≤ x.toInt := b1
  have q0 : 0 ≤ (-x.toInt) / c := Int.ediv_nonneg (by omega) (Int.le_of_lt hc)
  have q1 : (-x.toInt) / c * c ≤ -x.toInt := Int.ediv_mul_le _ (by omega)
  have q2 : 0 ≤ (-x.toInt) / c * c := Int.mul_nonneg q0 (Int.le_of_lt hc)
  have q3 : -x.toInt < (-x.toInt) / c * c + c := Int.lt_ediv_add_one_mul_self (-x.toInt) hc |> fun h => by rw [Int.add_mul, Int.one_mul] at h; exact h
  have h2 : (x / y * y).toInt = -((-x.toInt) / c * c) := by
    have e : (x / y).toInt * y.toInt = -((-x.toInt) / c * c) := by rw [h1, hy, Int.neg_mul]
    rw [← e]
    refine smul32 ?_
    rw [e]
    constructor
    · show (-2147483648 : Int) ≤ _
      omega
    · show _ ≤ (2147483647 : Int)
      omega
  have h3 : (x - x / y * y).toInt = x.toInt + (-x.toInt) / c * c := by
    have e : x.toInt - (x / y * y).toInt = x.toInt + (-x.toInt) / c * c := by rw [h2]; omega
    rw [← e]
    refine ssub32 ?_
    rw [e]
    constructor
    · show (-2147483648 : Int) ≤ _
      omega
    · show _ ≤ (2147483647 : Int)
      omega
  exact ⟨h1, by omega, by omega⟩
theorem sdivN64 {x y : Int64} {c : Int} (hc : 0 < c) (hy : y.toInt = c) (hx : x.toInt ≤ 0) : (x / y).toInt = -((-x.toInt) / c) ∧ 1 - c ≤ (x - x / y * y).toInt ∧ (x - x / y * y).toInt ≤ 0 := by
  have ne : y ≠ -1 := fun q => by
    rw [q] at hy
    have : (-1 : Int) = c := hy
    omega
  have h1 : (x / y).toInt = -((-x.toInt) / c) := by
    rw [Int64.toInt_div_of_ne_right x y ne, hy]
    have e : x.toInt = -(-x.toInt) := by omega
    rw [e, Int.neg_tdiv, Int.tdiv_eq_ediv_of_nonneg (by omega), Int.neg_neg]
  have b1 := (sr64 x).1
  have b1 : -9223372036854775808 ≤ x.toInt := b1
  have q0 : 0 ≤ (-x.toInt) / c := Int.ediv_nonneg (by omega) (Int.le_of_lt hc)
  have q1 : (-x.toInt) / c * c ≤ -x.toInt := Int.ediv_mul_le _ (by omega)
  have q2 : 0 ≤ (-x.toInt) / c * c := Int.mul_nonneg q0 (Int.le_of_lt hc)
  have q3 : -x.toInt < (-x.toInt) / c * c + c := Int.lt_ediv_add_one_mul_self (-x.toInt) hc |> fun h => by rw [Int.add_mul, Int.one_mul] at h; exact h
  have h2 : (x / y * y).toInt = -((-x.toInt) / c * c) := by
    have e : (x / y).toInt * y.toInt = -((-x.toInt) / c * c) := by rw [h1, hy, Int.neg_mul]
    rw [← e]
    refine smul64 ?_
    rw [e]
    constructor
    · show (-9223372036854775808 : Int) ≤ _
      omega
    · show _ ≤ (9223372036854775807 : Int)
      omega
  have h3 : (x - x / y * y).toInt = x.toInt + (-x.toInt) / c * c := by
    have e : x.toInt - (x / y * y).toInt = x.toInt + (-x.toInt) / c * c := by rw [h2]; omega
    rw [← e]
    refine ssub64 ?_
    rw [e]
    constructor
    · show (-9223372036854775808 : Int) ≤ _
      omega
    · show _ ≤ (9223372036854775807 : Int)
      omega
  exact ⟨h1, by omega, by omega⟩
theorem sqn_ok {ρ : Nat → Int} {K : sK} {a : sE} {c : Int} {q : Int × Int} {r : Int} (h : skok ρ K) (hq : sRn q r) (hr : 0 < c → se ρ a ≤ 0 → r = -((-(se ρ a)) / c)) : sRn (sqn K a c q) r := by
  unfold sqn
  cases hc : (spos (c - 1) && sge0 K (smul (-1) a)) with
  | false => exact hq
  | true =>
    rw [Bool.and_eq_true] at hc
    have c1 := spos_ok hc.1
    have c2 := sge0_ok h hc.2
    rw [se_mul] at c2
    have l := slb_ok h.1 a
    have u := sub_ok h.1 a
    have e := hr (by omega) (by omega)
    have d1 : (-(se ρ a)) / c ≤ (-(slb K.1 a)) / c := Int.ediv_le_ediv (by omega) (by omega)
    have d2 : (-(sub_ K.1 a)) / c ≤ (-(se ρ a)) / c := Int.ediv_le_ediv (by omega) (by omega)
    exact ⟨by show -((-(slb K.1 a)) / c) ≤ r; omega, by show r ≤ -((-(sub_ K.1 a)) / c); omega⟩
theorem srn_ok_ {ρ : Nat → Int} {K : sK} {a : sE} {c : Int} {q : Int × Int} {r : Int} (h : skok ρ K) (hq : sRn q r) (hr : 0 < c → se ρ a ≤ 0 → 1 - c ≤ r ∧ r ≤ 0) : sRn (srn_ K a c q) r := by
  unfold srn_
  cases hc : (spos (c - 1) && sge0 K (smul (-1) a)) with
  | false => exact hq
  | true =>
    rw [Bool.and_eq_true] at hc
    have c1 := spos_ok hc.1
    have c2 := sge0_ok h hc.2
    rw [se_mul] at c2
    exact hr (by omega) (by omega)
def sbI (i : Instr) (K : sK) (D : List sD) (a b : sE) : Option (sK × List sD × sE) := match i with
  | .iadd => some (cond (sin_ K (sadd a b) sI32) (K, D, sadd a b) (sdef .iadd K D a b sI32))
  | .isub => some (cond (sin_ K (ssub a b) sI32) (K, D, ssub a b) (sdef .isub K D a b sI32))
  | .imul => match scon K.1 b with
    | some c => some (cond (sin_ K (smul c a) sI32) (K, D, smul c a) (sdef .imul K D a b sI32))
    | none => match scon K.1 a with
      | some c => some (cond (sin_ K (smul c b) sI32) (K, D, smul c b) (sdef .imul K D a b sI32))
      | none => some (sdef .imul K D a b sI32)
  | .iand => some (sdef .iand K D a b (sandR K a b sI32))
  | .ior => some (sdef .ior K D a b sI32)
  | .ixor => some (sdef .ixor K D a b sI32)
  | .idiv => match scon K.1 b with
    | some c => cond (spos (c - 1) && sge0 K a) (squot .idiv K D a b c) (cond (sge0 K (ssub b (sC 1)) || sge0 K (ssub (sC (-1)) b)) (some (sdef .idiv K D a b (sqn K a c sI32))) none)
    | none => cond (sge0 K (ssub b (sC 1)) || sge0 K (ssub (sC (-1)) b)) (some (sdef .idiv K D a b sI32)) none
  | .irem => match scon K.1 b with
    | some c => cond (spos (c - 1) && sge0 K a) (match squot .idiv K D a b c with
      | some p => some (p.1, p.2.1, ssub a (smul c p.2.2))
      | none => none) (cond (sge0 K (ssub b (sC 1)) || sge0 K (ssub (sC (-1)) b)) (some (sdef .irem K D a b (srn_ K a c sI32))) none)
    | none => cond (sge0 K (ssub b (sC 1)) || sge0 K (ssub (sC (-1)) b)) (some (sdef .irem K D a b sI32)) none
  | .ishl => some (sdef .ishl K D a b sI32)
  | .iushr => some (sdef .iushr K D a b sI32)
  | .ishr => match scon K.1 b with
    | some c => cond (spos c && spos (31 - c)) (squot .ishr K D a b (2 ^ c.toNat)) (some (sdef .ishr K D a b sI32))
    | none => some (sdef .ishr K D a b sI32)
  | _ => none
def sbL (i : Instr) (K : sK) (D : List sD) (a b : sE) : Option (sK × List sD × sE) := match i with
  | .ladd => some (cond (sin_ K (sadd a b) sI64) (K, D, sadd a b) (sdef .ladd K D a b sI64))
  | .lsub => some (cond (sin_ K (ssub a b) sI64) (K, D, ssub a b) (sdef .lsub K D a b sI64))
  | .lmul => match scon K.1 b with
    | some c => some (cond (sin_ K (smul c a) sI64) (K, D, smul c a) (sdef .lmul K D a b sI64))
    | none => match scon K.1 a with
      | some c => some (cond (sin_ K (smul c b) sI64) (K, D, smul c b) (sdef .lmul K D a b sI64))
      | none => some (sdef .lmul K D a b sI64)
  | .land => some (sdef .land K D a b (sandR K a b sI64))
  | .lor => some (sdef .lor K D a b sI64)
  | .lxor => some (sdef .lxor K D a b sI64)
  | .ldiv => match scon K.1 b with
    | some c => cond (spos (c - 1) && sge0 K a) (squot .ldiv K D a b c) (cond (sge0 K (ssub b (sC 1)) || sge0 K (ssub (sC (-1)) b)) (some (sdef .ldiv K D a b (sqn K a c sI64))) none)
    | none => cond (sge0 K (ssub b (sC 1)) || sge0 K (ssub (sC (-1)) b)) (some (sdef .ldiv K D a b sI64)) none
  | .lrem => match scon K.1 b with
    | some c => cond (spos (c - 1) && sge0 K a) (match squot .ldiv K D a b c with
      | some p => some (p.1, p.2.1, ssub a (smul c p.2.2))
      | none => none) (cond (sge0 K (ssub b (sC 1)) || sge0 K (ssub (sC (-1)) b)) (some (sdef .lrem K D a b (srn_ K a c sI64))) none)
    | none => cond (sge0 K (ssub b (sC 1)) || sge0 K (ssub (sC (-1)) b)) (some (sdef .lrem K D a b sI64)) none
  | _ => none
theorem snz32 (h : skok ρ K) {b : sE} {y : Int32} (hy : y.toInt = se ρ b) (hs : (sge0 K (ssub b (sC 1)) || sge0 K (ssub (sC (-1)) b)) = true) : y ≠ 0 := by
  intro q
  rw [q] at hy
  have hy : (0 : Int) = se ρ b := hy
  rw [Bool.or_eq_true] at hs
  rcases hs with hs | hs
  · have := sge0_ok h hs
    rw [se_sub, se_C] at this
    omega
  · have := sge0_ok h hs
    rw [se_sub, se_C] at this
    omega
theorem sbI_ok (h : sR Qs ρ (K, D, F, Q, L, T) ls st M) {i : Instr} {f : Int32 → Int32 → Option Int32} (hi : zbI i = some f) {a b : sE} {x y : Int32} (hx : x.toInt = se ρ a) (hy : y.toInt = se ρ b) (wa : swE K.1.length a) (wb : swE K.1.length b) {p : sK × List sD × sE} (hs : sbI i K D a b = some p) : ∃ r, f x y = some r ∧ sAns Qs ρ K F Q L T ls st M r.toInt p := by
  have hd : ∀ {i : Instr} {f : Int32 → Int32 → Option Int32} {r : Int32}, zbI i = some f → zbL i = none → zsL i = none → f x y = some r → sAns Qs ρ K F Q L T ls st M r.toInt (sdef i K D a b sI32) := fun h1 h2 h3 h4 => sAns_def h wa wb (sr32 _) (by rw [← hx, ← hy]; exact sDok_I h1 h2 h3 h4)
  have hq : ∀ {c : Int} {i : Instr} {f : Int32 → Int32 → Option Int32} {r : Int32}, 0 < c → r.toInt = se ρ a / c → zbI i = some f → zbL i = none → zsL i = none → f x y = some r → ∃ p, squot i K D a b c = some p ∧ sAns Qs ρ K F Q L T ls st M r.toInt p := fun hc hr h1 h2 h3 h4 => squot_ok h hc wa wb hr (by rw [← hx, ← hy]; exact sDok_I h1 h2 h3 h4)
  cases i <;> simp only [zbI, reduceCtorEq] at hi <;> cases hi
  case iadd =>
    refine ⟨x + y, rfl, ?_⟩
    cases hs
    cases hc : sin_ K (sadd a b) sI32 with
    | true =>
      refine sAns_id h ?_ (swE_add wa wb)
      have := sin_ok h.1 hc
      rw [se_add, ← hx, ← hy] at this
      rw [se_add, ← hx, ← hy, sadd32 this]
    | false => exact hd rfl rfl rfl rfl
  case isub =>
    refine ⟨x - y, rfl, ?_⟩
    cases hs
    cases hc : sin_ K (ssub a b) sI32 with
    | true =>
      refine sAns_id h ?_ (swE_sub wa wb)
      have := sin_ok h.1 hc
      rw [se_sub, ← hx, ← hy] at this
      rw [se_sub, ← hx, ← hy, ssub32 this]
    | false => exact hd rfl rfl rfl rfl
  case imul =>
    refine ⟨x * y, rfl, ?_⟩
    unfold sbI at hs
    dsimp only at hs
    cases hb : scon K.1 b with
    | some c =>
      have eb := scon_ok h.1.1 hb
      rw [hb] at hs
      cases hs
      cases hc : sin_ K (smul c a) sI32 with
      | true =>
        refine sAns_id h ?_ (swE_mul wa)
        have := sin_ok h.1 hc
        have e : c * se ρ a = x.toInt * y.toInt := by rw [hx, hy, eb, Int.mul_comm]
        rw [se_mul, e] at this
        rw [se_mul, e, smul32 this]
      | false => exact hd rfl rfl rfl rfl
    | none =>
      rw [hb] at hs
      dsimp only at hs
      cases ha : scon K.1 a with
      | some c =>
        have ea := scon_ok h.1.1 ha
        rw [ha] at hs
        cases hs
        cases hc : sin_ K (smul c b) sI32 with
        | true =>
          refine sAns_id h ?_ (swE_mul wb)
          have := sin_ok h.1 hc
          have e : c * se ρ b = x.toInt * y.toInt := by rw [hx, hy, ea]
          rw [se_mul, e] at this
          rw [se_mul, e, smul32 this]
        | false => exact hd rfl rfl rfl rfl
      | none =>
        rw [ha] at hs
        cases hs
        exact hd rfl rfl rfl rfl
  case iand =>
    refine ⟨x &&& y, rfl, ?_⟩
    cases hs
    refine sAns_def h wa wb (sandR_ok h.1 (sr32 _) (fun hp => ?_)) (by rw [← hx, ← hy]; exact sDok_I rfl rfl rfl rfl)
    rw [← hx, ← hy] at hp ⊢
    exact sand32 hp
  case ior => cases hs; exact ⟨_, rfl, hd rfl rfl rfl rfl⟩
  case ixor => cases hs; exact ⟨_, rfl, hd rfl rfl rfl rfl⟩
  case idiv =>
    unfold sbI at hs
    dsimp only at hs
    have fin : ∀ {q : Int × Int}, (y ≠ 0 → sRn q (x / y).toInt) → cond (sge0 K (ssub b (sC 1)) || sge0 K (ssub (sC (-1)) b)) (some (sdef .idiv K D a b q)) none = some p → ∃ r, (if y = 0 then none else some (x / y)) = some r ∧ sAns Qs ρ K F Q L T ls st M r.toInt p := by
      intro q hq0 hs
      cases hn : (sge0 K (ssub b (sC 1)) || sge0 K (ssub (sC (-1)) b)) with
      | false => rw [hn] at hs; cases hs
      | true =>
        rw [hn] at hs
        cases hs
        have ny := snz32 h.1 hy hn
        exact ⟨x / y, if_neg ny, sAns_def h wa wb (hq0 ny) (by rw [← hx, ← hy]; exact sDok_I rfl rfl rfl (if_neg ny))⟩
    cases hb : scon K.1 b with
    | none => rw [hb] at hs; exact fin (fun _ => sr32 _) hs
    | some c =>
      have eb := scon_ok h.1.1 hb
      rw [hb] at hs
      dsimp only at hs
      cases hc : (spos (c - 1) && sge0 K a) with
      | false => rw [hc] at hs; exact fin (fun _ => sqn_ok h.1 (sr32 _) fun c0 a0 => by rw [← hx] at a0 ⊢; exact (sdivN32 c0 (hy.trans eb) a0).1) hs
      | true =>
        rw [hc] at hs
        rw [Bool.and_eq_true] at hc
        have c1 := spos_ok hc.1
        have c2 := sge0_ok h.1 hc.2
        have ny : y ≠ 0 := by
          intro q
          rw [q] at hy
          have hy : (0 : Int) = se ρ b := hy
          omega
        obtain ⟨d1, -⟩ := sdiv32 (x := x) (y := y) (by rw [hx]; exact c2) (by rw [hy, eb]; omega)
        obtain ⟨p', e1, e2⟩ := hq (c := c) (i := .idiv) (r := x / y) (by omega) (by rw [d1, hx, hy, eb]) rfl rfl rfl (if_neg ny)
        have hs : squot .idiv K D a b c = some p := hs
        rw [e1] at hs
        cases hs
        exact ⟨x / y, if_neg ny, e2⟩
  case irem =>
    unfold sbI at hs
    dsimp only at hs
    have fin : ∀ {q : Int × Int}, (y ≠ 0 → sRn q (x - x / y * y).toInt) → cond (sge0 K (ssub b (sC 1)) || sge0 K (ssub (sC (-1)) b)) (some (sdef .irem K D a b q)) none = some p → ∃ r, (if y = 0 then none else some (x - x / y * y)) = some r ∧ sAns Qs ρ K F Q L T ls st M r.toInt p := by
      intro q hq0 hs
      cases hn : (sge0 K (ssub b (sC 1)) || sge0 K (ssub (sC (-1)) b)) with
      | false => rw [hn] at hs; cases hs
      | true =>
        rw [hn] at hs
        cases hs
        have ny := snz32 h.1 hy hn
        exact ⟨x - x / y * y, if_neg ny, sAns_def h wa wb (hq0 ny) (by rw [← hx, ← hy]; exact sDok_I rfl rfl rfl (if_neg ny))⟩
    cases hb : scon K.1 b with
    | none => rw [hb] at hs; exact fin (fun _ => sr32 _) hs
    | some c =>
      have eb := scon_ok h.1.1 hb
      rw [hb] at hs
      dsimp only at hs
      cases hc : (spos (c - 1) && sge0 K a) with
      | false => rw [hc] at hs; exact fin (fun _ => srn_ok_ h.1 (sr32 _) fun c0 a0 => by rw [← hx] at a0; exact (sdivN32 c0 (hy.trans eb) a0).2) hs
      | true =>
        rw [hc] at hs
        rw [Bool.and_eq_true] at hc
        have c1 := spos_ok hc.1
        have c2 := sge0_ok h.1 hc.2
        have ny : y ≠ 0 := by
          intro q
          rw [q] at hy
          have hy : (0 : Int) = se ρ b := hy
          omega
        obtain ⟨d1, d2⟩ := sdiv32 (x := x) (y := y) (by rw [hx]; exact c2) (by rw [hy, eb]; omega)
        obtain ⟨p', e1, e2⟩ := hq (c := c) (i := .idiv) (r := x / y) (by omega) (by rw [d1, hx, hy, eb]) rfl rfl rfl (if_neg ny)
        have hs : (match squot .idiv K D a b c with
          | some p => some (p.1, p.2.1, ssub a (smul c p.2.2))
          | none => none) = some p := hs
        rw [e1] at hs
        cases hs
        obtain ⟨σ, g1, g2, g3, g4, g5⟩ := e2
        refine ⟨x - x / y * y, if_neg ny, σ, g1, g2, g3, ?_, swE_sub (wa.le g2) (swE_mul g5)⟩
        rw [se_sub, se_mul, g4, se_agr g1 wa, d2, ← d1, ← hx, hy, eb, Int.mul_comm]
  case ishl => cases hs; exact ⟨_, rfl, hd rfl rfl rfl rfl⟩
  case iushr => cases hs; exact ⟨_, rfl, hd rfl rfl rfl rfl⟩
  case ishr =>
    refine ⟨_, rfl, ?_⟩
    unfold sbI at hs
    dsimp only at hs
    cases hb : scon K.1 b with
    | none => rw [hb] at hs; cases hs; exact hd rfl rfl rfl rfl
    | some c =>
      have eb := scon_ok h.1.1 hb
      rw [hb] at hs
      dsimp only at hs
      cases hc : (spos c && spos (31 - c)) with
      | false => rw [hc] at hs; cases hs; exact hd rfl rfl rfl rfl
      | true =>
        rw [hc] at hs
        rw [Bool.and_eq_true] at hc
        have c1 := spos_ok hc.1
        have c2 := spos_ok hc.2
        obtain ⟨p', e1, e2⟩ := hq (c := 2 ^ c.toNat) (i := .ishr) (r := x >>> (y &&& 31)) (Int.pow_pos (by decide)) (by rw [← hx]; exact sshr32 (by rw [hy, eb]; omega) (by omega)) rfl rfl rfl rfl
        have hs : squot .ishr K D a b (2 ^ c.toNat) = some p := hs
        rw [e1] at hs
        cases hs
        exact e2
theorem snz64 (h : skok ρ K) {b : sE} {y : Int64} (hy : y.toInt = se ρ b) (hs : (sge0 K (ssub b (sC 1)) || sge0 K (ssub (sC (-1)) b)) = true) : y ≠ 0 := by
  intro q
  rw [q] at hy
  have hy : (0 : Int) = se ρ b := hy
  rw [Bool.or_eq_true] at hs
  rcases hs with hs | hs
  · have := sge0_ok h hs
    rw [se_sub, se_C] at this
    omega
  · have := sge0_ok h hs
    rw [se_sub, se_C] at this
    omega
theorem sbL_ok (h : sR Qs ρ (K, D, F, Q, L, T) ls st M) {i : Instr} {f : Int64 → Int64 → Option Int64} (hi : zbL i = some f) {a b : sE} {x y : Int64} (hx : x.toInt = se ρ a) (hy : y.toInt = se ρ b) (wa : swE K.1.length a) (wb : swE K.1.length b) {p : sK × List sD × sE} (hs : sbL i K D a b = some p) : ∃ r, f x y = some r ∧ sAns Qs ρ K F Q L T ls st M r.toInt p := by
  have hd : ∀ {i : Instr} {f : Int64 → Int64 → Option Int64} {r : Int64}, zbL i = some f → zbI i = none → zsL i = none → f x y = some r → sAns Qs ρ K F Q L T ls st M r.toInt (sdef i K D a b sI64) := fun h1 h2 h3 h4 => sAns_def h wa wb (sr64 _) (by rw [← hx, ← hy]; exact sDok_L h1 h2 h3 h4)
  have hq : ∀ {c : Int} {i : Instr} {f : Int64 → Int64 → Option Int64} {r : Int64}, 0 < c → r.toInt = se ρ a / c → zbL i = some f → zbI i = none → zsL i = none → f x y = some r → ∃ p, squot i K D a b c = some p ∧ sAns Qs ρ K F Q L T ls st M r.toInt p := fun hc hr h1 h2 h3 h4 => squot_ok h hc wa wb hr (by rw [← hx, ← hy]; exact sDok_L h1 h2 h3 h4)
  cases i <;> simp only [zbL, reduceCtorEq] at hi <;> cases hi
  case ladd =>
    refine ⟨x + y, rfl, ?_⟩
    cases hs
    cases hc : sin_ K (sadd a b) sI64 with
    | true =>
      refine sAns_id h ?_ (swE_add wa wb)
      have := sin_ok h.1 hc
      rw [se_add, ← hx, ← hy] at this
      rw [se_add, ← hx, ← hy, sadd64 this]
    | false => exact hd rfl rfl rfl rfl
  case lsub =>
    refine ⟨x - y, rfl, ?_⟩
    cases hs
    cases hc : sin_ K (ssub a b) sI64 with
    | true =>
      refine sAns_id h ?_ (swE_sub wa wb)
      have := sin_ok h.1 hc
      rw [se_sub, ← hx, ← hy] at this
      rw [se_sub, ← hx, ← hy, ssub64 this]
    | false => exact hd rfl rfl rfl rfl
  case lmul =>
    refine ⟨x * y, rfl, ?_⟩
    unfold sbL at hs
    dsimp only at hs
    cases hb : scon K.1 b with
    | some c =>
      have eb := scon_ok h.1.1 hb
      rw [hb] at hs
      cases hs
      cases hc : sin_ K (smul c a) sI64 with
      | true =>
        refine sAns_id h ?_ (swE_mul wa)
        have := sin_ok h.1 hc
        have e : c * se ρ a = x.toInt * y.toInt := by rw [hx, hy, eb, Int.mul_comm]
        rw [se_mul, e] at this
        rw [se_mul, e, smul64 this]
      | false => exact hd rfl rfl rfl rfl
    | none =>
      rw [hb] at hs
      dsimp only at hs
      cases ha : scon K.1 a with
      | some c =>
        have ea := scon_ok h.1.1 ha
        rw [ha] at hs
        cases hs
        cases hc : sin_ K (smul c b) sI64 with
        | true =>
          refine sAns_id h ?_ (swE_mul wb)
          have := sin_ok h.1 hc
          have e : c * se ρ b = x.toInt * y.toInt := by rw [hx, hy, ea]
          rw [se_mul, e] at this
          rw [se_mul, e, smul64 this]
        | false => exact hd rfl rfl rfl rfl
      | none =>
        rw [ha] at hs
        cases hs
        exact hd rfl rfl rfl rfl
  case land =>
    refine ⟨x &&& y, rfl, ?_⟩
    cases hs
    refine sAns_def h wa wb (sandR_ok h.1 (sr64 _) (fun hp => ?_)) (by rw [← hx, ← hy]; exact sDok_L rfl rfl rfl rfl)
    rw [← hx, ← hy] at hp ⊢
    exact sand64 hp
  case lor => cases hs; exact ⟨_, rfl, hd rfl rfl rfl rfl⟩
  case lxor => cases hs; exact ⟨_, rfl, hd rfl rfl rfl rfl⟩
  case ldiv =>
    unfold sbL at hs
    dsimp only at hs
    have fin : ∀ {q : Int × Int}, (y ≠ 0 → sRn q (x / y).toInt) → cond (sge0 K (ssub b (sC 1)) || sge0 K (ssub (sC (-1)) b)) (some (sdef .ldiv K D a b q)) none = some p → ∃ r, (if y = 0 then none else some (x / y)) = some r ∧ sAns Qs ρ K F Q L T ls st M r.toInt p := by
      intro q hq0 hs
      cases hn : (sge0 K (ssub b (sC 1)) || sge0 K (ssub (sC (-1)) b)) with
      | false => rw [hn] at hs; cases hs
      | true =>
        rw [hn] at hs
        cases hs
        have ny := snz64 h.1 hy hn
        exact ⟨x / y, if_neg ny, sAns_def h wa wb (hq0 ny) (by rw [← hx, ← hy]; exact sDok_L rfl rfl rfl (if_neg ny))⟩
    cases hb : scon K.1 b with
    | none => rw [hb] at hs; exact fin (fun _ => sr64 _) hs
    | some c =>
      have eb := scon_ok h.1.1 hb
      rw [hb] at hs
      dsimp only at hs
      cases hc : (spos (c - 1) && sge0 K a) with
      | false => rw [hc] at hs; exact fin (fun _ => sqn_ok h.1 (sr64 _) fun c0 a0 => by rw [← hx] at a0 ⊢; exact (sdivN64 c0 (hy.trans eb) a0).1) hs
      | true =>
        rw [hc] at hs
        rw [Bool.and_eq_true] at hc
        have c1 := spos_ok hc.1
        have c2 := sge0_ok h.1 hc.2
        have ny : y ≠ 0 := by
          intro q
          rw [q] at hy
          have hy : (0 : Int) = se ρ b := hy
          omega
        obtain ⟨d1, -⟩ := sdiv64 (x := x) (y := y) (by rw [hx]; exact c2) (by rw [hy, eb]; omega)
        obtain ⟨p', e1, e2⟩ := hq (c := c) (i := .ldiv) (r := x / y) (by omega) (by rw [d1, hx, hy, eb]) rfl rfl rfl (if_neg ny)
        have hs : squot .ldiv K D a b c = some p := hs
        rw [e1] at hs
        cases hs
        exact ⟨x / y, if_neg ny, e2⟩
  case lrem =>
    unfold sbL at hs
    dsimp only at hs
    have fin : ∀ {q : Int × Int}, (y ≠ 0 → sRn q (x - x / y * y).toInt) → cond (sge0 K (ssub b (sC 1)) || sge0 K (ssub (sC (-1)) b)) (some (sdef .lrem K D a b q)) none = some p → ∃ r, (if y = 0 then none else some (x - x / y * y)) = some r ∧ sAns Qs ρ K F Q L T ls st M r.toInt p := by
      intro q hq0 hs
      cases hn : (sge0 K (ssub b (sC 1)) || sge0 K (ssub (sC (-1)) b)) with
      | false => rw [hn] at hs; cases hs
      | true =>
        rw [hn] at hs
        cases hs
        have ny := snz64 h.1 hy hn
        exact ⟨x - x / y * y, if_neg ny, sAns_def h wa wb (hq0 ny) (by rw [← hx, ← hy]; exact sDok_L rfl rfl rfl (if_neg ny))⟩
    cases hb : scon K.1 b with
    | none => rw [hb] at hs; exact fin (fun _ => sr64 _) hs
    | some c =>
      have eb := scon_ok h.1.1 hb
      rw [hb] at hs
      dsimp only at hs
      cases hc : (spos (c - 1) && sge0 K a) with
      | false => rw [hc] at hs; exact fin (fun _ => srn_ok_ h.1 (sr64 _) fun c0 a0 => by rw [← hx] at a0; exact (sdivN64 c0 (hy.trans eb) a0).2) hs
      | true =>
        rw [hc] at hs
        rw [Bool.and_eq_true] at hc
        have c1 := spos_ok hc.1
        have c2 := sge0_ok h.1 hc.2
        have ny : y ≠ 0 := by
          intro q
          rw [q] at hy
          have hy : (0 : Int) = se ρ b := hy
          omega
        obtain ⟨d1, d2⟩ := sdiv64 (x := x) (y := y) (by rw [hx]; exact c2) (by rw [hy, eb]; omega)
        obtain ⟨p', e1, e2⟩ := hq (c := c) (i := .ldiv) (r := x / y) (by omega) (by rw [d1, hx, hy, eb]) rfl rfl rfl (if_neg ny)
        have hs : (match squot .ldiv K D a b c with
          | some p => some (p.1, p.2.1, ssub a (smul c p.2.2))
          | none => none) = some p := hs
        rw [e1] at hs
        cases hs
        obtain ⟨σ, g1, g2, g3, g4, g5⟩ := e2
        refine ⟨x - x / y * y, if_neg ny, σ, g1, g2, g3, ?_, swE_sub (wa.le g2) (swE_mul g5)⟩
        rw [se_sub, se_mul, g4, se_agr g1 wa, d2, ← d1, ← hx, hy, eb, Int.mul_comm]
end SOQ
