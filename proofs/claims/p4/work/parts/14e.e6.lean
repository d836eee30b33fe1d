/-! THE ENGINE, 6: arithmetic -/
def smin (a b : Int) : Int := cond (spos (b - a)) a b
theorem smin_l (a b : Int) : smin a b = a ∨ smin a b = b := by
  unfold smin
  cases spos (b - a) with
  | true => exact Or.inl rfl
  | false => exact Or.inr rfl
def sge0 (K : sK) (a : sE) : Bool := sprov K.1 K.2 a
theorem sge0_ok {ρ : Nat → Int} {K : sK} {a : sE} (h : skok ρ K) (hs : sge0 K a = true) : 0 ≤ se ρ a := sprov_ok h.1 h.2 hs
/-- bounds of an 'and' -/
def sandR (K : sK) (a b : sE) (q : Int × Int) : Int × Int := cond (sge0 K a) (cond (sge0 K b) (0, smin (sub_ K.1 a) (sub_ K.1 b)) (0, sub_ K.1 a)) (cond (sge0 K b) (0, sub_ K.1 b) q)
theorem sandR_ok {ρ : Nat → Int} {K : sK} {a b : sE} {q : Int × Int} {r : Int} (h : skok ρ K) (hq : sRn q r) (hr : 0 ≤ se ρ a ∨ 0 ≤ se ρ b → 0 ≤ r ∧ (0 ≤ se ρ a → r ≤ se ρ a) ∧ (0 ≤ se ρ b → r ≤ se ρ b)) : sRn (sandR K a b q) r := by
  have ua := sub_ok h.1 a
  have ub := sub_ok h.1 b
  unfold sandR
  cases ha : sge0 K a with
  | true =>
    have pa := sge0_ok h ha
    obtain ⟨r1, r2, r3⟩ := hr (Or.inl pa)
    have r2 := r2 pa
    cases hb : sge0 K b with
    | true =>
      have r3 := r3 (sge0_ok h hb)
      refine ⟨r1, ?_⟩
      show r ≤ smin (sub_ K.1 a) (sub_ K.1 b)
      rcases smin_l (sub_ K.1 a) (sub_ K.1 b) with e | e <;> rw [e] <;> omega
    | false => exact ⟨r1, by show r ≤ sub_ K.1 a; omega⟩
  | false =>
    cases hb : sge0 K b with
    | true =>
      have pb := sge0_ok h hb
      obtain ⟨r1, r2, r3⟩ := hr (Or.inr pb)
      have r3 := r3 pb
      exact ⟨r1, by show r ≤ sub_ K.1 b; omega⟩
    | false => exact hq
/-- a quotient by a number above 0 -/
def squot (i : Instr) (K : sK) (D : List sD) (a b : sE) (c : Int) : Option (sK × List sD × sE) := match sdfind i a b D with
  | some x => some (K, D, sS x)
  | none => match sasm [ssub a (smul c (sS K.1.length)), ssub (sadd (smul c (sS K.1.length)) (sC (c - 1))) a] (sfresh K (slb K.1 a / c) (sub_ K.1 a / c)) with
    | some K2 => some (K2, (i, a, b, K.1.length) :: D, sS K.1.length)
    | none => none
theorem sshr32 {x y : Int32} {k : Nat} (hy : y.toInt = k) (hk : k < 32) : (x >>> (y &&& 31)).toInt = x.toInt / 2 ^ k := by
  have e : y = Int32.ofNat k := by
    refine Int32.toInt_inj.mp ?_
    rw [hy, Int32.toInt_ofNat_of_lt (by omega)]
  subst e
  have h1 : ∀ k, k < 32 → (Int32.ofNat k &&& 31) = Int32.ofNat k ∧ ((Int32.ofNat k).toBitVec.smod 32).toNat = k := by decide
  obtain ⟨h2, h3⟩ := h1 k hk
  rw [h2]
  show (x.toBitVec.sshiftRight ((Int32.ofNat k).toBitVec.smod 32).toNat).toInt = x.toInt / 2 ^ k
  rw [h3, BitVec.toInt_sshiftRight, Int.shiftRight_eq_div_pow]
  rfl
/-- and with 2^k - 1 of a number in between -/
theorem sandM {w : Nat} {a b : BitVec w} {k : Nat} (hb : b.toInt = 2 ^ k - 1) (ha : 0 ≤ a.toInt) (hl : a.toInt ≤ 2 ^ k - 1) : (a &&& b).toInt = a.toInt := by
  have p : (0 : Int) < 2 ^ k := Int.pow_pos (by decide)
  have na : (a.toNat : Int) = a.toInt := by
    rw [BitVec.toInt_eq_toNat_cond] at ha ⊢
    split at ha
    · rename_i h; rw [if_pos h]
    · have := a.isLt; omega
  have nb : (b.toNat : Int) = b.toInt := by
    have hb0 : 0 ≤ b.toInt := by omega
    rw [BitVec.toInt_eq_toNat_cond] at hb0 ⊢
    split at hb0
    · rename_i h; rw [if_pos h]
    · have := b.isLt; omega
  have e2 : ((2 ^ k : Nat) : Int) = 2 ^ k := by rw [Int.natCast_pow]; rfl
  have pn : 0 < 2 ^ k := Nat.pow_pos (by decide)
  have hbn : b.toNat = 2 ^ k - 1 := by omega
  have han : a.toNat < 2 ^ k := by omega
  have : a &&& b = a := by
    apply BitVec.eq_of_toNat_eq
    rw [BitVec.toNat_and, hbn, Nat.and_two_pow_sub_one_eq_mod, Nat.mod_eq_of_lt han]
  rw [this]
/-- and with 2^k of a number below 2^(k+1) -/
theorem sandP {w : Nat} {a b : BitVec w} {k : Nat} (hb : b.toInt = 2 ^ k) (ha : 0 ≤ a.toInt) (hl : a.toInt < 2 * 2 ^ k) : (a &&& b).toInt = if a.toInt < 2 ^ k then 0 else 2 ^ k := by
  have p : (0 : Int) < 2 ^ k := Int.pow_pos (by decide)
  have na : (a.toNat : Int) = a.toInt := by
    rw [BitVec.toInt_eq_toNat_cond] at ha ⊢
    split at ha
    · rename_i h; rw [if_pos h]
    · have := a.isLt; omega
  have nb : (b.toNat : Int) = b.toInt := by
    have hb0 : 0 ≤ b.toInt := by omega
    rw [BitVec.toInt_eq_toNat_cond] at hb0 ⊢
    split at hb0
    · rename_i h; rw [if_pos h]
    · have := b.isLt; omega
  have e2 : ((2 ^ k : Nat) : Int) = 2 ^ k := by rw [Int.natCast_pow]; rfl
  have pn : 0 < 2 ^ k := Nat.pow_pos (by decide)
  have hbn : b.toNat = 2 ^ k := by omega
  split
  · have han : a.toNat < 2 ^ k := by omega
    have : a &&& b = 0#w := by
      apply BitVec.eq_of_toNat_eq
      rw [BitVec.toNat_and, hbn]
      apply Nat.eq_of_testBit_eq
      intro i
      rw [Nat.testBit_and, Nat.testBit_two_pow]
      cases hi : decide (k = i) with
      | false => simp
      | true =>
        have hi := of_decide_eq_true hi
        subst hi
        rw [Nat.testBit_lt_two_pow han]
        simp
    rw [this, BitVec.toInt_zero]
  · have : a &&& b = b := by
      apply BitVec.eq_of_toNat_eq
      have t : a.toNat.testBit k = true := by
        rw [Nat.testBit_eq_decide_div_mod_eq]
        have : a.toNat / 2 ^ k = 1 := by
          apply Nat.div_eq_of_lt_le <;> omega
        rw [this]; rfl
      rw [BitVec.toNat_and, hbn]
      apply Nat.eq_of_testBit_eq
      intro i
      rw [Nat.testBit_and, Nat.testBit_two_pow]
      cases hi : decide (k = i) with
      | false => simp
      | true =>
        have hi := of_decide_eq_true hi
        subst hi
        rw [t]
        simp
    rw [this, hb]
/-- or of two numbers that share no place: the sum -/
theorem sorA {a b : BitVec 64} {k : Nat} (ha : 0 ≤ a.toInt) (hl : a.toInt < 2 ^ k) (hb : 0 ≤ b.toInt) (hd : ∃ z : Int, b.toInt = 2 ^ k * z) (hs : a.toInt + b.toInt ≤ 9223372036854775807) : (a ||| b).toInt = a.toInt + b.toInt := by
  obtain ⟨z, hz⟩ := hd
  have p : (0 : Int) < 2 ^ k := Int.pow_pos (by decide)
  have na : (a.toNat : Int) = a.toInt := by
    rw [BitVec.toInt_eq_toNat_cond] at ha ⊢
    split at ha
    · rename_i h; rw [if_pos h]
    · have := a.isLt; omega
  have nb : (b.toNat : Int) = b.toInt := by
    rw [BitVec.toInt_eq_toNat_cond] at hb ⊢
    split at hb
    · rename_i h; rw [if_pos h]
    · have := b.isLt; omega
  have e2 : ((2 ^ k : Nat) : Int) = 2 ^ k := by rw [Int.natCast_pow]; rfl
  have hz0 : 0 ≤ z := by
    rcases Int.lt_or_le z 0 with q | q
    · have := Int.mul_neg_of_pos_of_neg p q
      omega
    · exact q
  have hbn : b.toNat = 2 ^ k * z.toNat := by
    have : ((2 ^ k * z.toNat : Nat) : Int) = 2 ^ k * z := by rw [Int.natCast_mul, e2, Int.toNat_of_nonneg hz0]
    omega
  have han : a.toNat < 2 ^ k := by omega
  have hn : (a ||| b).toNat = a.toNat + b.toNat := by
    rw [BitVec.toNat_or, Nat.or_comm, hbn, ← Nat.two_pow_add_eq_or_of_lt han, Nat.add_comm]
  rw [BitVec.toInt_eq_toNat_cond, hn, if_pos (by omega)]
  omega
/-- and with 2^k - 1: the rest -/
theorem sandQ {w : Nat} {a b : BitVec w} {k : Nat} (hb : b.toInt = 2 ^ k - 1) (hk : k ≤ w) : (a &&& b).toInt = a.toInt % 2 ^ k := by
  have p : (0 : Int) < 2 ^ k := Int.pow_pos (by decide)
  have nb : (b.toNat : Int) = b.toInt := by
    have hb0 : 0 ≤ b.toInt := by omega
    rw [BitVec.toInt_eq_toNat_cond] at hb0 ⊢
    split at hb0
    · rename_i h; rw [if_pos h]
    · have := b.isLt; omega
  have lb : 2 * b.toNat < 2 ^ w := by
    have hb0 : 0 ≤ b.toInt := by omega
    rw [BitVec.toInt_eq_toNat_cond] at hb0
    split at hb0
    · assumption
    · have := b.isLt; omega
  have e2 : ((2 ^ k : Nat) : Int) = 2 ^ k := by rw [Int.natCast_pow]; rfl
  have pn : 0 < 2 ^ k := Nat.pow_pos (by decide)
  have hbn : b.toNat = 2 ^ k - 1 := by omega
  have hn : (a &&& b).toNat = a.toNat % 2 ^ k := by rw [BitVec.toNat_and, hbn, Nat.and_two_pow_sub_one_eq_mod]
  have hm : a.toNat % 2 ^ k < 2 ^ k := Nat.mod_lt _ pn
  have hc : ((a &&& b).toInt) = ((a.toNat % 2 ^ k : Nat) : Int) := by
    rw [BitVec.toInt_eq_toNat_cond, hn, if_pos (by omega)]
  rw [hc, Int.natCast_emod, e2, BitVec.toInt_eq_toNat_cond]
  split
  · rfl
  · obtain ⟨m, rfl⟩ := Nat.exists_eq_add_of_le hk
    have : (((2 ^ (k + m) : Nat)) : Int) = 2 ^ k * 2 ^ m := by rw [Int.natCast_pow, Int.pow_add]; rfl
    rw [this, Int.sub_mul_emod_self_left]
/-- a left shift by a constant -/
theorem sshlB {w : Nat} (a : BitVec w) (k : Nat) : (a <<< k).toInt = (a.toInt * 2 ^ k).bmod (2 ^ w) := by
  rw [BitVec.toInt_shiftLeft, Nat.shiftLeft_eq, BitVec.toInt_eq_toNat_bmod]
  rw [Int.bmod_mul_bmod]
  congr 1
/-! short ways: the answer is known as an expression -/
/-- the symbol that an expression is -/
def ssym (e : sE) : Option Nat := match e.2 with
  | [] => none
  | t :: l => match l with
    | [] => cond (siz e.1 && siz (t.2 - 1)) (some t.1) none
    | _ :: _ => none
theorem ssym_ok {ρ : Nat → Int} {e : sE} {x : Nat} (h : ssym e = some x) : se ρ e = ρ x := by
  obtain ⟨c, l⟩ := e
  cases l with
  | nil => cases h
  | cons t l =>
    cases l with
    | cons u l => cases h
    | nil =>
      have h : cond (siz c && siz (t.2 - 1)) (some t.1) none = some x := h
      cases hc : (siz c && siz (t.2 - 1)) with
      | false => rw [hc] at h; cases h
      | true =>
        rw [hc] at h
        cases h
        rw [Bool.and_eq_true] at hc
        have h1 := siz_0 hc.1
        have h2 := siz_0 hc.2
        show c + (t.2 * ρ t.1 + 0) = ρ t.1
        have h2 : t.2 = 1 := by omega
        rw [h1, h2]
        omega
/-- the definition of a symbol by an operation -/
def sdsym (i : Instr) (x : Nat) : List sD → Option (sE × sE)
  | [] => none
  | d :: l => cond (Nat.beq d.2.2.2 x && decide (d.1 = i)) (some (d.2.1, d.2.2.1)) (sdsym i x l)
theorem sdsym_ok {i : Instr} {x : Nat} {p : sE × sE} : ∀ {l : List sD}, sdsym i x l = some p → (i, p.1, p.2, x) ∈ l
  | [], h => by cases h
  | d :: l, h => by
    unfold sdsym at h
    cases hc : (Nat.beq d.2.2.2 x && decide (d.1 = i)) with
    | false => rw [hc] at h; exact List.mem_cons_of_mem _ (sdsym_ok h)
    | true =>
      rw [hc] at h
      cases h
      rw [Bool.and_eq_true] at hc
      have h1 := Nat.eq_of_beq_eq_true hc.1
      have h2 := of_decide_eq_true hc.2
      subst h1
      subst h2
      exact List.mem_cons_self
def sdsy (i : Instr) (D : List sD) (e : sE) : Option (sE × sE) := match ssym e with
  | some x => sdsym i x D
  | none => none
theorem sdsy_ok {ρ : Nat → Int} {i : Instr} {D : List sD} {e : sE} {p : sE × sE} (h : sdsy i D e = some p) : ∃ x, se ρ e = ρ x ∧ (i, p.1, p.2, x) ∈ D := by
  unfold sdsy at h
  cases hx : ssym e with
  | none => rw [hx] at h; cases h
  | some x => rw [hx] at h; exact ⟨x, ssym_ok hx, sdsym_ok h⟩
/-- the power of 2 that a number is -/
def spw (c : Int) : Option Nat := match c with
  | .ofNat n => cond (Nat.beq (2 ^ n.log2) n) (some n.log2) none
  | .negSucc _ => none
theorem spw_ok {c : Int} {k : Nat} (h : spw c = some k) : c = 2 ^ k := by
  cases c with
  | negSucc n => cases h
  | ofNat n =>
    have h : cond (Nat.beq (2 ^ n.log2) n) (some n.log2) none = some k := h
    cases hc : Nat.beq (2 ^ n.log2) n with
    | false => rw [hc] at h; cases h
    | true =>
      rw [hc] at h
      cases h
      have := Nat.eq_of_beq_eq_true hc
      show (n : Int) = 2 ^ n.log2
      have e2 : ((2 ^ n.log2 : Nat) : Int) = 2 ^ n.log2 := by rw [Int.natCast_pow]; rfl
      omega
def sdvs (k : Int) : sT → Bool
  | [] => true
  | t :: l => siz (t.2 % k) && sdvs k l
theorem sdvs_ok {ρ : Nat → Int} {k : Int} : ∀ {l : sT}, sdvs k l = true → ∃ z, sv ρ l = k * z
  | [], _ => ⟨0, by show (0 : Int) = k * 0; omega⟩
  | t :: l, h => by
    unfold sdvs at h
    rw [Bool.and_eq_true] at h
    obtain ⟨z, hz⟩ := sdvs_ok (ρ := ρ) h.2
    have h1 := siz_0 h.1
    have h2 := Int.emod_add_mul_ediv t.2 k
    rw [h1, Int.zero_add] at h2
    refine ⟨t.2 / k * ρ t.1 + z, ?_⟩
    show t.2 * ρ t.1 + sv ρ l = _
    rw [hz, Int.mul_add, ← Int.mul_assoc, h2]
def sdivs (k : Int) (e : sE) : Bool := siz (e.1 % k) && sdvs k e.2
theorem sdivs_ok {ρ : Nat → Int} {k : Int} {e : sE} (h : sdivs k e = true) : ∃ z, se ρ e = k * z := by
  unfold sdivs at h
  rw [Bool.and_eq_true] at h
  obtain ⟨z, hz⟩ := sdvs_ok (ρ := ρ) h.2
  have h1 := siz_0 h.1
  have h2 := Int.emod_add_mul_ediv e.1 k
  rw [h1, Int.zero_add] at h2
  refine ⟨e.1 / k + z, ?_⟩
  show e.1 + sv ρ e.2 = _
  rw [hz, Int.mul_add, h2]
/-- the bounds of a product of two that are not below 0 -/
def smulR (B : sB) (a b : sE) (q : Int × Int) : Int × Int := cond (spos (slb B a) && (spos (slb B b) && spos (q.2 - sub_ B a * sub_ B b))) (slb B a * slb B b, sub_ B a * sub_ B b) q
theorem smulR_ok {ρ : Nat → Int} {B : sB} {a b : sE} {q : Int × Int} {r : Int} (h : sok ρ B) (hq : sRn q r) (h0 : q.1 ≤ 0) (hr : sRn q (se ρ a * se ρ b) → r = se ρ a * se ρ b) : sRn (smulR B a b q) r := by
  unfold smulR
  cases hc : (spos (slb B a) && (spos (slb B b) && spos (q.2 - sub_ B a * sub_ B b))) with
  | false => exact hq
  | true =>
    rw [Bool.and_eq_true, Bool.and_eq_true] at hc
    have c1 := spos_ok hc.1
    have c2 := spos_ok hc.2.1
    have c3 := spos_ok hc.2.2
    have la := slb_ok h a
    have ua := sub_ok h a
    have lb := slb_ok h b
    have ub := sub_ok h b
    have p1 : slb B a * slb B b ≤ se ρ a * se ρ b := Int.mul_le_mul la lb c2 (by omega)
    have p2 : se ρ a * se ρ b ≤ sub_ B a * sub_ B b := Int.mul_le_mul ua ub (by omega) (by omega)
    have p0 : 0 ≤ slb B a * slb B b := Int.mul_nonneg c1 c2
    have e := hr ⟨by omega, by omega⟩
    exact ⟨by show slb B a * slb B b ≤ r; omega, by show r ≤ sub_ B a * sub_ B b; omega⟩
section SOQ
variable {Qs : Nat → List Int → zM → Prop} {ρ : Nat → Int} {K : sK} {D : List sD} {F : List sF} {Q : List sQ} {L : List (Nat × sV)} {T : List sV} {ls : zL} {st : List Value} {M : zM}
/-- what an operation's abstract answer has to mean -/
def sAns (Qs : Nat → List Int → zM → Prop) (ρ : Nat → Int) (K : sK) (F : List sF) (Q : List sQ) (L : List (Nat × sV)) (T : List sV) (ls : zL) (st : List Value) (M : zM) (v : Int) (p : sK × List sD × sE) : Prop :=
  ∃ σ, sagr K.1.length ρ σ ∧ K.1.length ≤ p.1.1.length ∧ sR Qs σ (p.1, p.2.1, F, Q, L, T) ls st M ∧ se σ p.2.2 = v ∧ swE p.1.1.length p.2.2
theorem sAns_id (h : sR Qs ρ (K, D, F, Q, L, T) ls st M) {e : sE} {v : Int} (he : se ρ e = v) (hw : swE K.1.length e) : sAns Qs ρ K F Q L T ls st M v (K, D, e) := ⟨ρ, fun _ _ => rfl, Nat.le_refl _, h, he, hw⟩
theorem sAns_def (h : sR Qs ρ (K, D, F, Q, L, T) ls st M) {i : Instr} {a b : sE} {q : Int × Int} {v : Int} (ha : swE K.1.length a) (hb : swE K.1.length b) (hv : sRn q v) (hd : sDokE (se ρ a) (se ρ b) v i ∧ ∀ u, sDokE (se ρ a) (se ρ b) u i → u = v) : sAns Qs ρ K F Q L T ls st M v (sdef i K D a b q) := sR_def h ha hb hv hd.1 hd.2
theorem squot_ok (h : sR Qs ρ (K, D, F, Q, L, T) ls st M) {i : Instr} {a b : sE} {c v : Int} (hc : 0 < c) (ha : swE K.1.length a) (hb : swE K.1.length b) (hv : v = se ρ a / c) (hd : sDokE (se ρ a) (se ρ b) v i ∧ ∀ u, sDokE (se ρ a) (se ρ b) u i → u = v) : ∃ p, squot i K D a b c = some p ∧ sAns Qs ρ K F Q L T ls st M v p := by
  unfold squot
  cases hf : sdfind i a b D with
  | some x =>
    have hm := sdfind_ok hf
    exact ⟨_, rfl, sAns_id h (by rw [se_S]; exact hd.2 _ (h.2.1 _ hm)) (swE_S (h.2.2.2.2.2.2.2.2.1 _ hm).2.2)⟩
  | none =>
    have q1 : slb K.1 a / c ≤ v := by rw [hv]; exact Int.ediv_le_ediv hc (slb_ok h.1.1 a)
    have q2 : v ≤ sub_ K.1 a / c := by rw [hv]; exact Int.ediv_le_ediv hc (sub_ok h.1.1 a)
    have h2 := sR_fresh h (lo := slb K.1 a / c) (hi := sub_ K.1 a / c) ⟨q1, q2⟩
    have hl : (sfresh K (slb K.1 a / c) (sub_ K.1 a / c)).1.length = K.1.length + 1 := List.length_append
    have ws : swE (K.1.length + 1) (sS K.1.length) := swE_S (Nat.lt_succ_self _)
    have wa := ha.le (Nat.le_succ K.1.length)
    have es : se (supd ρ K.1.length v) (sS K.1.length) = v := by rw [se_S]; exact supd_self
    have ea : se (supd ρ K.1.length v) a = se ρ a := se_agr supd_agr ha
    have m1 : c * v ≤ se ρ a := by rw [hv]; exact Int.mul_ediv_self_le (by omega)
    have m2 : se ρ a < c * v + c := by
      have := Int.lt_mul_ediv_self_add (x := se ρ a) hc
      rw [← hv] at this
      exact this
    obtain ⟨K2, e1, e2, e3⟩ := sR_asm h2 (l := [ssub a (smul c (sS K.1.length)), ssub (sadd (smul c (sS K.1.length)) (sC (c - 1))) a]) (by
      rw [hl]
      exact List.forall_mem_cons.mpr ⟨swE_sub wa (swE_mul ws), List.forall_mem_cons.mpr ⟨swE_sub (swE_add (swE_mul ws) (swE_C _)) wa, fun _ q => by cases q⟩⟩) (by
      refine List.forall_mem_cons.mpr ⟨?_, List.forall_mem_cons.mpr ⟨?_, fun _ q => by cases q⟩⟩
      · rw [se_sub, se_mul, es, ea]; omega
      · rw [se_sub, se_add, se_mul, se_C, es, ea]; omega)
    dsimp only
    rw [e1]
    refine ⟨_, rfl, supd ρ K.1.length v, supd_agr, by dsimp only; rw [e2, hl]; exact Nat.le_succ _, ?_, es, by dsimp only; rw [e2, hl]; exact ws⟩
    obtain ⟨g1, g3, g4, g5, g6, g7, g8, w1, w2, w3, w4, w5, w6⟩ := e3
    refine ⟨g1, List.forall_mem_cons.mpr ⟨?_, g3⟩, g4, g5, g6, g7, g8, w1, List.forall_mem_cons.mpr ⟨⟨?_, ?_, ?_⟩, w2⟩, w3, w4, w5, w6⟩
    · show sDokE (se _ a) (se _ b) (supd ρ K.1.length v K.1.length) i
      rw [ea, se_agr supd_agr hb, supd_self]
      exact hd.1
    · dsimp only; rw [e2, hl]; exact wa
    · dsimp only; rw [e2, hl]; exact hb.le (Nat.le_succ _)
    · dsimp only; rw [e2, hl]; exact Nat.lt_succ_self _
/-- bounds of a quotient of a number that isn't above 0, of a rest -/
def sqn (K : sK) (a : sE) (c : Int) (q : Int × Int) : Int × Int := cond (spos (c - 1) && sge0 K (smul (-1) a)) (-((-(slb K.1 a)) / c), -((-(sub_ K.1 a)) / c)) q
def srn_ (K : sK) (a : sE) (c : Int) (q : Int × Int) : Int × Int := cond (spos (c - 1) && sge0 K (smul (-1) a)) (1 - c, 0) q
theorem sdivN32 {x y : Int32} {c : Int} (hc : 0 < c) (hy : y.toInt = c) (hx : x.toInt ≤ 0) : (x / y).toInt = -((-x.toInt) / c) ∧ 1 - c ≤ (x - x / y * y).toInt ∧ (x - x / y * y).toInt ≤ 0 := by
  have ne : y ≠ -1 := fun q => by
    rw [q] at hy
    have : (-1 : Int) = c := hy
    omega
  have h1 : (x / y).toInt = -((-x.toInt) / c) := by
    rw [Int32.toInt_div_of_ne_right x y ne, hy]
    have e : x.toInt = -(-x.toInt) := by omega
    rw [e, Int.neg_tdiv, Int.tdiv_eq_ediv_of_nonneg (by omega), Int.neg_neg]
  have b1 := (sr32 x).1
  have b1 : -2147483648 ≤ x.toInt := b1
  have q0 : 0 ≤ (-x.toInt) / c := Int.ediv_nonneg (by omega) (Int.le_of_lt hc)
  have q1 : (-x.toInt) / c * c ≤ -x.toInt := Int.ediv_mul_le _ (by omega)
  have q2 : 0 ≤ (-x.toInt) / c * c := Int.mul_nonneg q0 (Int.le_of_lt hc)
  have q3 : -x.toInt < (-x.toInt) / c * c + c := Int.lt_ediv_add_one_mul_self (-x.toInt) hc |> fun h => by rw [Int.add_mul, Int.one_mul] at h; exact h
  have h2 : (x / y * y).toInt = -((-x.toInt) / c * c) := by
    have e : (x / y).toInt * y.toInt = -((-x.toInt) / c * c) := by rw [h1, hy, Int.neg_mul]
    rw [← e]
    refine smul32 ?_
    rw [e]
    constructor
    · show (-2147483648 : Int) ≤ _
      omega
    · show _ ≤ (2147483647 : Int)
      omega
  have h3 : (x - x / y * y).toInt = x.toInt + (-x.toInt) / c * c := by
    have e : x.toInt - (x / y * y).toInt = x.toInt + (-x.toInt) / c * c := by rw [h2]; omega
    rw [← e]
    refine ssub32 ?_
    rw [e]
    constructor
    · show (-2147483648 : Int) ≤ _
      omega
    · show _ ≤ (2147483647 : Int)
      omega
  exact ⟨h1, by omega, by omega⟩
theorem sdivN64 {x y : Int64} {c : Int} (hc : 0 < c) (hy : y.toInt = c) (hx : x.toInt ≤ 0) : (x / y).toInt = -((-x.toInt) / c) ∧ 1 - c ≤ (x - x / y * y).toInt ∧ (x - x / y * y).toInt ≤ 0 := by
  have ne : y ≠ -1 := fun q => by
    rw [q] at hy
    have : (-1 : Int) = c := hy
    omega
  have h1 : (x / y).toInt = -((-x.toInt) / c) := by
    rw [Int64.toInt_div_of_ne_right x y ne, hy]
    have e : x.toInt = -(-x.toInt) := by omega
    rw [e, Int.neg_tdiv, Int.tdiv_eq_ediv_of_nonneg (by omega), Int.neg_neg]
  have b1 := (sr64 x).1
  have b1 : -9223372036854775808 ≤ x.toInt := b1
  have q0 : 0 ≤ (-x.toInt) / c := Int.ediv_nonneg (by omega) (Int.le_of_lt hc)
  have q1 : (-x.toInt) / c * c ≤ -x.toInt := Int.ediv_mul_le _ (by omega)
  have q2 : 0 ≤ (-x.toInt) / c * c := Int.mul_nonneg q0 (Int.le_of_lt hc)
  have q3 : -x.toInt < (-x.toInt) / c * c + c := Int.lt_ediv_add_one_mul_self (-x.toInt) hc |> fun h => by rw [Int.add_mul, Int.one_mul] at h; exact h
  have h2 : (x / y * y).toInt = -((-x.toInt) / c * c) := by
    have e : (x / y).toInt * y.toInt = -((-x.toInt) / c * c) := by rw [h1, hy, Int.neg_mul]
    rw [← e]
    refine smul64 ?_
    rw [e]
    constructor
    · show (-9223372036854775808 : Int) ≤ _
      omega
    · show _ ≤ (9223372036854775807 : Int)
      omega
  have h3 : (x - x / y * y).toInt = x.toInt + (-x.toInt) / c * c := by
    have e : x.toInt - (x / y * y).toInt = x.toInt + (-x.toInt) / c * c := by rw [h2]; omega
    rw [← e]
    refine ssub64 ?_
    rw [e]
    constructor
    · show (-9223372036854775808 : Int) ≤ _
      omega
    · show _ ≤ (9223372036854775807 : Int)
      omega
  exact ⟨h1, by omega, by omega⟩
theorem sqn_ok {ρ : Nat → Int} {K : sK} {a : sE} {c : Int} {q : Int × Int} {r : Int} (h : skok ρ K) (hq : sRn q r) (hr : 0 < c → se ρ a ≤ 0 → r = -((-(se ρ a)) / c)) : sRn (sqn K a c q) r := by
  unfold sqn
  cases hc : (spos (c - 1) && sge0 K (smul (-1) a)) with
  | false => exact hq
  | true =>
    rw [Bool.and_eq_true] at hc
    have c1 := spos_ok hc.1
    have c2 := sge0_ok h hc.2
    rw [se_mul] at c2
    have l := slb_ok h.1 a
    have u := sub_ok h.1 a
    have e := hr (by omega) (by omega)
    have d1 : (-(se ρ a)) / c ≤ (-(slb K.1 a)) / c := Int.ediv_le_ediv (by omega) (by omega)
    have d2 : (-(sub_ K.1 a)) / c ≤ (-(se ρ a)) / c := Int.ediv_le_ediv (by omega) (by omega)
    exact ⟨by show -((-(slb K.1 a)) / c) ≤ r; omega, by show r ≤ -((-(sub_ K.1 a)) / c); omega⟩
theorem srn_ok_ {ρ : Nat → Int} {K : sK} {a : sE} {c : Int} {q : Int × Int} {r : Int} (h : skok ρ K) (hq : sRn q r) (hr : 0 < c → se ρ a ≤ 0 → 1 - c ≤ r ∧ r ≤ 0) : sRn (srn_ K a c q) r := by
  unfold srn_
  cases hc : (spos (c - 1) && sge0 K (smul (-1) a)) with
  | false => exact hq
  | true =>
    rw [Bool.and_eq_true] at hc
    have c1 := spos_ok hc.1
    have c2 := sge0_ok h hc.2
    rw [se_mul] at c2
    exact hr (by omega) (by omega)
def sbIx (i : Instr) (K : sK) (D : List sD) (a b : sE) : Option sE := match i with
  | .isub => cond (sin_ K (ssub a b) sI32) (some (ssub a b)) (match sdsy .iadd D a with
    | some p => cond (sin_ K (ssub (sadd p.1 p.2) b) sI32) (some (ssub (sadd p.1 p.2) b)) none
    | none => none)
  | .iand => match scon K.1 b with
    | some c => match spw (c + 1) with
      | some _ => cond (spos (slb K.1 a) && spos (c - sub_ K.1 a)) (some a) none
      | none => match spw c with
        | some _ => cond (spos (slb K.1 a)) (cond (spos (c - 1 - sub_ K.1 a)) (some (sC 0)) (cond (spos (slb K.1 a - c) && spos (2 * c - 1 - sub_ K.1 a)) (some (sC c)) none)) none
        | none => none
    | none => none
  | .ior => match scon K.1 a with
    | some c => cond (siz c) (some b) none
    | none => none
  | .ishr => match scon K.1 b with
    | some c => cond (siz c) (some a) none
    | none => none
  | _ => none
theorem sbIx_ok (h : sR Qs ρ (K, D, F, Q, L, T) ls st M) {i : Instr} {f : Int32 → Int32 → Option Int32} (hi : zbI i = some f) {a b : sE} {x y : Int32} (hx : x.toInt = se ρ a) (hy : y.toInt = se ρ b) (wa : swE K.1.length a) (wb : swE K.1.length b) {e : sE} (hs : sbIx i K D a b = some e) : ∃ r, f x y = some r ∧ se ρ e = r.toInt ∧ swE K.1.length e := by
  cases i <;> simp only [zbI, reduceCtorEq] at hi <;> cases hi
  case isub =>
    refine ⟨x - y, rfl, ?_⟩
    unfold sbIx at hs
    dsimp only at hs
    cases hc : sin_ K (ssub a b) sI32 with
    | true =>
      rw [hc] at hs
      cases hs
      have := sin_ok h.1 hc
      rw [se_sub, ← hx, ← hy] at this
      exact ⟨by rw [se_sub, ← hx, ← hy, ssub32 this], swE_sub wa wb⟩
    | false =>
      rw [hc] at hs
      cases hd : sdsy .iadd D a with
      | none => rw [hd] at hs; cases hs
      | some p =>
        rw [hd] at hs
        dsimp only [cond_false] at hs
        cases hc : sin_ K (ssub (sadd p.1 p.2) b) sI32 with
        | false => rw [hc] at hs; cases hs
        | true =>
          rw [hc] at hs
          cases hs
          obtain ⟨s, e1, hm⟩ := sdsy_ok (ρ := ρ) hd
          obtain ⟨r, g1, g2⟩ := (h.2.1 _ hm).1 _ rfl
          cases g1
          have w := h.2.2.2.2.2.2.2.2.1 _ hm
          have hb := sin_ok h.1 hc
          refine ⟨?_, swE_sub (swE_add w.1 w.2.1) wb⟩
          have ex : x = Int32.ofInt (se ρ p.1) + Int32.ofInt (se ρ p.2) := Int32.toInt_inj.mp (by rw [hx, e1, ← g2])
          have ey : y = Int32.ofInt (se ρ b) := by rw [← hy, sofi32]
          rw [ex, ey, ← Int32.ofInt_add, ← Int32.ofInt_sub]
          rw [se_sub, se_add] at hb ⊢
          rw [Int32.toInt_ofInt]
          exact (sb32 hb).symm
  case iand =>
    refine ⟨x &&& y, rfl, ?_⟩
    unfold sbIx at hs
    dsimp only at hs
    cases hb : scon K.1 b with
    | none => rw [hb] at hs; cases hs
    | some c =>
      have eb := scon_ok h.1.1 hb
      have la : slb K.1 a ≤ se ρ a := slb_ok h.1.1 a
      have ua : se ρ a ≤ sub_ K.1 a := sub_ok h.1.1 a
      rw [hb] at hs
      dsimp only at hs
      cases hp : spw (c + 1) with
      | some k =>
        have ek := spw_ok hp
        rw [hp] at hs
        dsimp only at hs
        cases hc : (spos (slb K.1 a) && spos (c - sub_ K.1 a)) with
        | false => rw [hc] at hs; cases hs
        | true =>
          rw [hc] at hs
          cases hs
          rw [Bool.and_eq_true] at hc
          have c1 := spos_ok hc.1
          have c2 := spos_ok hc.2
          refine ⟨?_, wa⟩
          rw [← hx]
          exact (sandM (a := x.toBitVec) (b := y.toBitVec) (k := k) (show y.toInt = _ by omega) (show 0 ≤ x.toInt by omega) (show x.toInt ≤ _ by omega)).symm
      | none =>
        rw [hp] at hs
        dsimp only at hs
        cases hq : spw c with
        | none => rw [hq] at hs; cases hs
        | some k =>
          have ek := spw_ok hq
          rw [hq] at hs
          dsimp only at hs
          cases hc : spos (slb K.1 a) with
          | false => rw [hc] at hs; cases hs
          | true =>
            rw [hc] at hs
            dsimp only [cond_true] at hs
            have c1 := spos_ok hc
            cases hc : spos (c - 1 - sub_ K.1 a) with
            | true =>
              rw [hc] at hs
              cases hs
              have c2 := spos_ok hc
              refine ⟨?_, swE_C _⟩
              have := sandP (a := x.toBitVec) (b := y.toBitVec) (k := k) (show y.toInt = _ by omega) (show 0 ≤ x.toInt by omega) (show x.toInt < _ by omega)
              rw [if_pos (show x.toBitVec.toInt < 2 ^ k from show x.toInt < 2 ^ k by omega)] at this
              rw [se_C]
              exact this.symm
            | false =>
              rw [hc] at hs
              dsimp only [cond_false] at hs
              cases hc : (spos (slb K.1 a - c) && spos (2 * c - 1 - sub_ K.1 a)) with
              | false => rw [hc] at hs; cases hs
              | true =>
                rw [hc] at hs
                cases hs
                rw [Bool.and_eq_true] at hc
                have c2 := spos_ok hc.1
                have c3 := spos_ok hc.2
                refine ⟨?_, swE_C _⟩
                have := sandP (a := x.toBitVec) (b := y.toBitVec) (k := k) (show y.toInt = _ by omega) (show 0 ≤ x.toInt by omega) (show x.toInt < _ by omega)
                rw [if_neg (show ¬ x.toBitVec.toInt < 2 ^ k from show ¬ x.toInt < 2 ^ k by omega)] at this
                rw [se_C, ek]
                exact this.symm
  case ior =>
    refine ⟨x ||| y, rfl, ?_⟩
    unfold sbIx at hs
    dsimp only at hs
    cases ha : scon K.1 a with
    | none => rw [ha] at hs; cases hs
    | some c =>
      have ea := scon_ok h.1.1 ha
      rw [ha] at hs
      dsimp only at hs
      cases hc : siz c with
      | false => rw [hc] at hs; cases hs
      | true =>
        rw [hc] at hs
        cases hs
        have c0 := siz_0 hc
        have x0 : x = 0 := Int32.toInt_inj.mp (by rw [hx, ea, c0]; rfl)
        refine ⟨?_, wb⟩
        rw [x0, ← hy, Int32.zero_or]
  case ishr =>
    refine ⟨_, rfl, ?_⟩
    unfold sbIx at hs
    dsimp only at hs
    cases hb : scon K.1 b with
    | none => rw [hb] at hs; cases hs
    | some c =>
      have eb := scon_ok h.1.1 hb
      rw [hb] at hs
      dsimp only at hs
      cases hc : siz c with
      | false => rw [hc] at hs; cases hs
      | true =>
        rw [hc] at hs
        cases hs
        have c0 := siz_0 hc
        refine ⟨?_, wa⟩
        rw [sshr32 (k := 0) (by rw [hy, eb, c0]; rfl) (by decide), ← hx]
        show x.toInt = x.toInt / 1
        omega
  all_goals (unfold sbIx at hs; cases hs)
def sbI0 (i : Instr) (K : sK) (D : List sD) (a b : sE) : Option (sK × List sD × sE) := match i with
  | .iadd => some (cond (sin_ K (sadd a b) sI32) (K, D, sadd a b) (sdef .iadd K D a b sI32))
  | .isub => some (sdef .isub K D a b sI32)
  | .imul => match scon K.1 b with
    | some c => some (cond (sin_ K (smul c a) sI32) (K, D, smul c a) (sdef .imul K D a b sI32))
    | none => match scon K.1 a with
      | some c => some (cond (sin_ K (smul c b) sI32) (K, D, smul c b) (sdef .imul K D a b sI32))
      | none => some (sdef .imul K D a b (smulR K.1 a b sI32))
  | .iand => match scon K.1 b with
    | some c => cond (siz (c - 255) && spos (slb K.1 a)) (match squot .ishr K D a (sC 8) 256 with
      | some p => some (p.1, p.2.1, ssub a (smul 256 p.2.2))
      | none => none) (some (sdef .iand K D a b (sandR K a b sI32)))
    | none => some (sdef .iand K D a b (sandR K a b sI32))
  | .ior => some (sdef .ior K D a b sI32)
  | .ixor => some (sdef .ixor K D a b sI32)
  | .idiv => match scon K.1 b with
    | some c => cond (spos (c - 1) && sge0 K a) (squot .idiv K D a b c) (cond (sge0 K (ssub b (sC 1)) || sge0 K (ssub (sC (-1)) b)) (some (sdef .idiv K D a b (sqn K a c sI32))) none)
    | none => cond (sge0 K (ssub b (sC 1)) || sge0 K (ssub (sC (-1)) b)) (some (sdef .idiv K D a b sI32)) none
  | .irem => match scon K.1 b with
    | some c => cond (spos (c - 1) && sge0 K a) (match squot .idiv K D a b c with
      | some p => some (p.1, p.2.1, ssub a (smul c p.2.2))
      | none => none) (cond (sge0 K (ssub b (sC 1)) || sge0 K (ssub (sC (-1)) b)) (some (sdef .irem K D a b (srn_ K a c sI32))) none)
    | none => cond (sge0 K (ssub b (sC 1)) || sge0 K (ssub (sC (-1)) b)) (some (sdef .irem K D a b sI32)) none
  | .ishl => some (sdef .ishl K D a b sI32)
  | .iushr => some (sdef .iushr K D a b sI32)
  | .ishr => match scon K.1 b with
    | some c => cond (spos c && spos (31 - c)) (squot .ishr K D a b (2 ^ c.toNat)) (some (sdef .ishr K D a b sI32))
    | none => some (sdef .ishr K D a b sI32)
  | _ => none
def sbL0 (i : Instr) (K : sK) (D : List sD) (a b : sE) : Option (sK × List sD × sE) := match i with
  | .ladd => some (cond (sin_ K (sadd a b) sI64) (K, D, sadd a b) (sdef .ladd K D a b sI64))
  | .lsub => some (sdef .lsub K D a b sI64)
  | .lmul => match scon K.1 b with
    | some c => some (cond (sin_ K (smul c a) sI64) (K, D, smul c a) (sdef .lmul K D a b sI64))
    | none => match scon K.1 a with
      | some c => some (cond (sin_ K (smul c b) sI64) (K, D, smul c b) (sdef .lmul K D a b sI64))
      | none => some (sdef .lmul K D a b (smulR K.1 a b sI64))
  | .land => some (sdef .land K D a b (sandR K a b sI64))
  | .lor => some (sdef .lor K D a b sI64)
  | .lxor => some (sdef .lxor K D a b sI64)
  | .ldiv => match scon K.1 b with
    | some c => cond (spos (c - 1) && sge0 K a) (squot .ldiv K D a b c) (cond (sge0 K (ssub b (sC 1)) || sge0 K (ssub (sC (-1)) b)) (some (sdef .ldiv K D a b (sqn K a c sI64))) none)
    | none => cond (sge0 K (ssub b (sC 1)) || sge0 K (ssub (sC (-1)) b)) (some (sdef .ldiv K D a b sI64)) none
  | .lrem => match scon K.1 b with
    | some c => cond (spos (c - 1) && sge0 K a) (match squot .ldiv K D a b c with
      | some p => some (p.1, p.2.1, ssub a (smul c p.2.2))
      | none => none) (cond (sge0 K (ssub b (sC 1)) || sge0 K (ssub (sC (-1)) b)) (some (sdef .lrem K D a b (srn_ K a c sI64))) none)
    | none => cond (sge0 K (ssub b (sC 1)) || sge0 K (ssub (sC (-1)) b)) (some (sdef .lrem K D a b sI64)) none
  | _ => none
def sbI (i : Instr) (K : sK) (D : List sD) (a b : sE) : Option (sK × List sD × sE) := match sbIx i K D a b with
  | some e => some (K, D, e)
  | none => sbI0 i K D a b
theorem snz32 (h : skok ρ K) {b : sE} {y : Int32} (hy : y.toInt = se ρ b) (hs : (sge0 K (ssub b (sC 1)) || sge0 K (ssub (sC (-1)) b)) = true) : y ≠ 0 := by
  intro q
  rw [q] at hy
  have hy : (0 : Int) = se ρ b := hy
  rw [Bool.or_eq_true] at hs
  rcases hs with hs | hs
  · have := sge0_ok h hs
    rw [se_sub, se_C] at this
    omega
  · have := sge0_ok h hs
    rw [se_sub, se_C] at this
    omega
theorem sbI0_ok (h : sR Qs ρ (K, D, F, Q, L, T) ls st M) {i : Instr} {f : Int32 → Int32 → Option Int32} (hi : zbI i = some f) {a b : sE} {x y : Int32} (hx : x.toInt = se ρ a) (hy : y.toInt = se ρ b) (wa : swE K.1.length a) (wb : swE K.1.length b) {p : sK × List sD × sE} (hs : sbI0 i K D a b = some p) : ∃ r, f x y = some r ∧ sAns Qs ρ K F Q L T ls st M r.toInt p := by
  have hd : ∀ {i : Instr} {f : Int32 → Int32 → Option Int32} {r : Int32}, zbI i = some f → zbL i = none → zsL i = none → f x y = some r → sAns Qs ρ K F Q L T ls st M r.toInt (sdef i K D a b sI32) := fun h1 h2 h3 h4 => sAns_def h wa wb (sr32 _) (by rw [← hx, ← hy]; exact sDok_I h1 h2 h3 h4)
  have hq : ∀ {c : Int} {i : Instr} {f : Int32 → Int32 → Option Int32} {r : Int32}, 0 < c → r.toInt = se ρ a / c → zbI i = some f → zbL i = none → zsL i = none → f x y = some r → ∃ p, squot i K D a b c = some p ∧ sAns Qs ρ K F Q L T ls st M r.toInt p := fun hc hr h1 h2 h3 h4 => squot_ok h hc wa wb hr (by rw [← hx, ← hy]; exact sDok_I h1 h2 h3 h4)
  cases i <;> simp only [zbI, reduceCtorEq] at hi <;> cases hi
  case iadd =>
    refine ⟨x + y, rfl, ?_⟩
    cases hs
    cases hc : sin_ K (sadd a b) sI32 with
    | true =>
      refine sAns_id h ?_ (swE_add wa wb)
      have := sin_ok h.1 hc
      rw [se_add, ← hx, ← hy] at this
      rw [se_add, ← hx, ← hy, sadd32 this]
    | false => exact hd rfl rfl rfl rfl
  case isub => cases hs; exact ⟨_, rfl, hd rfl rfl rfl rfl⟩
  case imul =>
    refine ⟨x * y, rfl, ?_⟩
    unfold sbI0 at hs
    dsimp only at hs
    cases hb : scon K.1 b with
    | some c =>
      have eb := scon_ok h.1.1 hb
      rw [hb] at hs
      cases hs
      cases hc : sin_ K (smul c a) sI32 with
      | true =>
        refine sAns_id h ?_ (swE_mul wa)
        have := sin_ok h.1 hc
        have e : c * se ρ a = x.toInt * y.toInt := by rw [hx, hy, eb, Int.mul_comm]
        rw [se_mul, e] at this
        rw [se_mul, e, smul32 this]
      | false => exact hd rfl rfl rfl rfl
    | none =>
      rw [hb] at hs
      dsimp only at hs
      cases ha : scon K.1 a with
      | some c =>
        have ea := scon_ok h.1.1 ha
        rw [ha] at hs
        cases hs
        cases hc : sin_ K (smul c b) sI32 with
        | true =>
          refine sAns_id h ?_ (swE_mul wb)
          have := sin_ok h.1 hc
          have e : c * se ρ b = x.toInt * y.toInt := by rw [hx, hy, ea]
          rw [se_mul, e] at this
          rw [se_mul, e, smul32 this]
        | false => exact hd rfl rfl rfl rfl
      | none =>
        rw [ha] at hs
        cases hs
        exact sAns_def h wa wb (smulR_ok h.1.1 (sr32 _) (by decide) (fun hp => by rw [← hx, ← hy] at hp ⊢; exact smul32 hp)) (by rw [← hx, ← hy]; exact sDok_I rfl rfl rfl rfl)
  case iand =>
    refine ⟨x &&& y, rfl, ?_⟩
    have fin : sAns Qs ρ K F Q L T ls st M (x &&& y).toInt (sdef .iand K D a b (sandR K a b sI32)) := by
      refine sAns_def h wa wb (sandR_ok h.1 (sr32 _) (fun hp => ?_)) (by rw [← hx, ← hy]; exact sDok_I rfl rfl rfl rfl)
      rw [← hx, ← hy] at hp ⊢
      exact sand32 hp
    unfold sbI0 at hs
    dsimp only at hs
    cases hb : scon K.1 b with
    | none => rw [hb] at hs; cases hs; exact fin
    | some c =>
      have eb := scon_ok h.1.1 hb
      rw [hb] at hs
      dsimp only at hs
      cases hc : (siz (c - 255) && spos (slb K.1 a)) with
      | false => rw [hc] at hs; cases hs; exact fin
      | true =>
        rw [hc] at hs
        rw [Bool.and_eq_true] at hc
        have c1 := siz_0 hc.1
        have e8 := sshr32 (x := x) (y := 8) (k := 8) rfl (by decide)
        obtain ⟨p', e1, e2⟩ := squot_ok h (c := 256) (i := .ishr) (a := a) (b := sC 8) (v := (x >>> ((8 : Int32) &&& 31)).toInt) (by decide) wa (swE_C _) (by rw [e8, hx]; rfl) (by rw [← hx, se_C]; exact sDok_I (x := x) (y := 8) rfl rfl rfl rfl)
        have hs : (match squot .ishr K D a (sC 8) 256 with
          | some p => some (p.1, p.2.1, ssub a (smul 256 p.2.2))
          | none => none) = some p := hs
        rw [e1] at hs
        cases hs
        obtain ⟨σ, g1, g2, g3, g4, g5⟩ := e2
        refine ⟨σ, g1, g2, g3, ?_, swE_sub (wa.le g2) (swE_mul g5)⟩
        have q := sandQ (a := x.toBitVec) (b := y.toBitVec) (k := 8) (show y.toInt = _ by omega) (by decide)
        have q : (x &&& y).toInt = x.toInt % 256 := q
        have e8 : (x >>> ((8 : Int32) &&& 31)).toInt = x.toInt / 256 := e8
        rw [se_sub, se_mul, g4, se_agr g1 wa, e8, ← hx, q]
        omega
  case ior => cases hs; exact ⟨_, rfl, hd rfl rfl rfl rfl⟩
  case ixor => cases hs; exact ⟨_, rfl, hd rfl rfl rfl rfl⟩
  case idiv =>
    unfold sbI0 at hs
    dsimp only at hs
    have fin : ∀ {q : Int × Int}, (y ≠ 0 → sRn q (x / y).toInt) → cond (sge0 K (ssub b (sC 1)) || sge0 K (ssub (sC (-1)) b)) (some (sdef .idiv K D a b q)) none = some p → ∃ r, (if y = 0 then none else some (x / y)) = some r ∧ sAns Qs ρ K F Q L T ls st M r.toInt p := by
      intro q hq0 hs
      cases hn : (sge0 K (ssub b (sC 1)) || sge0 K (ssub (sC (-1)) b)) with
      | false => rw [hn] at hs; cases hs
      | true =>
        rw [hn] at hs
        cases hs
        have ny := snz32 h.1 hy hn
        exact ⟨x / y, if_neg ny, sAns_def h wa wb (hq0 ny) (by rw [← hx, ← hy]; exact sDok_I rfl rfl rfl (if_neg ny))⟩
    cases hb : scon K.1 b with
    | none => rw [hb] at hs; exact fin (fun _ => sr32 _) hs
    | some c =>
      have eb := scon_ok h.1.1 hb
      rw [hb] at hs
      dsimp only at hs
      cases hc : (spos (c - 1) && sge0 K a) with
      | false => rw [hc] at hs; exact fin (fun _ => sqn_ok h.1 (sr32 _) fun c0 a0 => by rw [← hx] at a0 ⊢; exact (sdivN32 c0 (hy.trans eb) a0).1) hs
      | true =>
        rw [hc] at hs
        rw [Bool.and_eq_true] at hc
        have c1 := spos_ok hc.1
        have c2 := sge0_ok h.1 hc.2
        have ny : y ≠ 0 := by
          intro q
          rw [q] at hy
          have hy : (0 : Int) = se ρ b := hy
          omega
        obtain ⟨d1, -⟩ := sdiv32 (x := x) (y := y) (by rw [hx]; exact c2) (by rw [hy, eb]; omega)
        obtain ⟨p', e1, e2⟩ := hq (c := c) (i := .idiv) (r := x / y) (by omega) (by rw [d1, hx, hy, eb]) rfl rfl rfl (if_neg ny)
        have hs : squot .idiv K D a b c = some p := hs
        rw [e1] at hs
        cases hs
        exact ⟨x / y, if_neg ny, e2⟩
  case irem =>
    unfold sbI0 at hs
    dsimp only at hs
    have fin : ∀ {q : Int × Int}, (y ≠ 0 → sRn q (x - x / y * y).toInt) → cond (sge0 K (ssub b (sC 1)) || sge0 K (ssub (sC (-1)) b)) (some (sdef .irem K D a b q)) none = some p → ∃ r, (if y = 0 then none else some (x - x / y * y)) = some r ∧ sAns Qs ρ K F Q L T ls st M r.toInt p := by
      intro q hq0 hs
      cases hn : (sge0 K (ssub b (sC 1)) || sge0 K (ssub (sC (-1)) b)) with
      | false => rw [hn] at hs; cases hs
      | true =>
        rw [hn] at hs
        cases hs
        have ny := snz32 h.1 hy hn
        exact ⟨x - x / y * y, if_neg ny, sAns_def h wa wb (hq0 ny) (by rw [← hx, ← hy]; exact sDok_I rfl rfl rfl (if_neg ny))⟩
    cases hb : scon K.1 b with
    | none => rw [hb] at hs; exact fin (fun _ => sr32 _) hs
    | some c =>
      have eb := scon_ok h.1.1 hb
      rw [hb] at hs
      dsimp only at hs
      cases hc : (spos (c - 1) && sge0 K a) with
      | false => rw [hc] at hs; exact fin (fun _ => srn_ok_ h.1 (sr32 _) fun c0 a0 => by rw [← hx] at a0; exact (sdivN32 c0 (hy.trans eb) a0).2) hs
      | true =>
        rw [hc] at hs
        rw [Bool.and_eq_true] at hc
        have c1 := spos_ok hc.1
        have c2 := sge0_ok h.1 hc.2
        have ny : y ≠ 0 := by
          intro q
          rw [q] at hy
          have hy : (0 : Int) = se ρ b := hy
          omega
        obtain ⟨d1, d2⟩ := sdiv32 (x := x) (y := y) (by rw [hx]; exact c2) (by rw [hy, eb]; omega)
        obtain ⟨p', e1, e2⟩ := hq (c := c) (i := .idiv) (r := x / y) (by omega) (by rw [d1, hx, hy, eb]) rfl rfl rfl (if_neg ny)
        have hs : (match squot .idiv K D a b c with
          | some p => some (p.1, p.2.1, ssub a (smul c p.2.2))
          | none => none) = some p := hs
        rw [e1] at hs
        cases hs
        obtain ⟨σ, g1, g2, g3, g4, g5⟩ := e2
        refine ⟨x - x / y * y, if_neg ny, σ, g1, g2, g3, ?_, swE_sub (wa.le g2) (swE_mul g5)⟩
        rw [se_sub, se_mul, g4, se_agr g1 wa, d2, ← d1, ← hx, hy, eb, Int.mul_comm]
  case ishl => cases hs; exact ⟨_, rfl, hd rfl rfl rfl rfl⟩
  case iushr => cases hs; exact ⟨_, rfl, hd rfl rfl rfl rfl⟩
  case ishr =>
    refine ⟨_, rfl, ?_⟩
    unfold sbI0 at hs
    dsimp only at hs
    cases hb : scon K.1 b with
    | none => rw [hb] at hs; cases hs; exact hd rfl rfl rfl rfl
    | some c =>
      have eb := scon_ok h.1.1 hb
      rw [hb] at hs
      dsimp only at hs
      cases hc : (spos c && spos (31 - c)) with
      | false => rw [hc] at hs; cases hs; exact hd rfl rfl rfl rfl
      | true =>
        rw [hc] at hs
        rw [Bool.and_eq_true] at hc
        have c1 := spos_ok hc.1
        have c2 := spos_ok hc.2
        obtain ⟨p', e1, e2⟩ := hq (c := 2 ^ c.toNat) (i := .ishr) (r := x >>> (y &&& 31)) (Int.pow_pos (by decide)) (by rw [← hx]; exact sshr32 (by rw [hy, eb]; omega) (by omega)) rfl rfl rfl rfl
        have hs : squot .ishr K D a b (2 ^ c.toNat) = some p := hs
        rw [e1] at hs
        cases hs
        exact e2
theorem sbI_ok (h : sR Qs ρ (K, D, F, Q, L, T) ls st M) {i : Instr} {f : Int32 → Int32 → Option Int32} (hi : zbI i = some f) {a b : sE} {x y : Int32} (hx : x.toInt = se ρ a) (hy : y.toInt = se ρ b) (wa : swE K.1.length a) (wb : swE K.1.length b) {p : sK × List sD × sE} (hs : sbI i K D a b = some p) : ∃ r, f x y = some r ∧ sAns Qs ρ K F Q L T ls st M r.toInt p := by
  unfold sbI at hs
  cases hc : sbIx i K D a b with
  | none => rw [hc] at hs; exact sbI0_ok h hi hx hy wa wb hs
  | some e =>
    rw [hc] at hs
    cases hs
    obtain ⟨r, e1, e2, e3⟩ := sbIx_ok h hi hx hy wa wb hc
    exact ⟨r, e1, sAns_id h e2 e3⟩
/-- the sum that an or is: one in [0, 2^k - 1], the other divisible by 2^k -/
def sorX (K : sK) (a b c : sE) : Option sE := match b.2 with
  | [] => none
  | _ :: _ => cond (spos (slb K.1 a) && sge0 K b) (match (cond (siz (sub_ K.1 a)) 1 (2 ^ ((sub_ K.1 a).toNat.log2 + 1)) : Nat) with
    | n => cond (spos (n - 1 - sub_ K.1 a) && (sdivs n b && sin_ K c sI64)) (some c) none) none
def sbLx (i : Instr) (K : sK) (D : List sD) (a b : sE) : Option sE := match i with
  | .lsub => cond (sin_ K (ssub a b) sI64) (some (ssub a b)) (match sdsy .ladd D a with
    | some p => cond (sin_ K (ssub (sadd p.1 p.2) b) sI64) (some (ssub (sadd p.1 p.2) b)) none
    | none => none)
  | .land => match scon K.1 b with
    | some c => match spw (c + 1) with
      | some k => cond (spos (slb K.1 a) && spos (c - sub_ K.1 a)) (some a) (match sdsy .lshr D a with
        | some p => cond (Nat.ble k 63 && siz (64 - k - slb K.1 p.2) && siz (64 - k - sub_ K.1 p.2)) (match sdsy .lshl D p.1 with
          | some q => cond (siz (64 - k - slb K.1 q.2) && siz (64 - k - sub_ K.1 q.2) && (sge0 K q.1 && sge0 K (ssub (sC c) q.1))) (some q.1) none
          | none => none) none
        | none => none)
      | none => match spw c with
        | some _ => cond (spos (slb K.1 a)) (cond (spos (c - 1 - sub_ K.1 a)) (some (sC 0)) (cond (spos (slb K.1 a - c) && spos (2 * c - 1 - sub_ K.1 a)) (some (sC c)) none)) none
        | none => none
    | none => none
  | .lor => cond (siz (slb K.1 a) && siz (sub_ K.1 a)) (some b) (match sorX K a b (sadd a b) with
    | some e => some e
    | none => sorX K b a (sadd a b))
  | _ => none
theorem sorX_ok (h : skok ρ K) {a b c e : sE} {x y : Int64} (hx : x.toInt = se ρ a) (hy : y.toInt = se ρ b) (hc : se ρ c = se ρ a + se ρ b) (hs : sorX K a b c = some e) : e = c ∧ (x ||| y).toInt = x.toInt + y.toInt := by
  unfold sorX at hs
  cases hb : b.2 with
  | nil => rw [hb] at hs; cases hs
  | cons t l =>
    rw [hb] at hs
    dsimp only at hs
    cases h1 : (spos (slb K.1 a) && sge0 K b) with
    | false => rw [h1] at hs; cases hs
    | true =>
      rw [h1] at hs
      dsimp only [cond_true] at hs
      rw [Bool.and_eq_true] at h1
      have c1 := spos_ok h1.1
      have c2 := sge0_ok h h1.2
      have la := slb_ok h.1 a
      have ua := sub_ok h.1 a
      have hp : ∃ k : Nat, (cond (siz (sub_ K.1 a)) 1 (2 ^ ((sub_ K.1 a).toNat.log2 + 1)) : Nat) = 2 ^ k := by
        cases siz (sub_ K.1 a) with
        | true => exact ⟨0, rfl⟩
        | false => exact ⟨_, rfl⟩
      obtain ⟨k, hk⟩ := hp
      rw [hk] at hs
      have e2 : ((2 ^ k : Nat) : Int) = 2 ^ k := by rw [Int.natCast_pow]; rfl
      cases h2 : (spos (((2 ^ k : Nat) : Int) - 1 - sub_ K.1 a) && (sdivs ((2 ^ k : Nat) : Int) b && sin_ K c sI64)) with
      | false => rw [h2] at hs; cases hs
      | true =>
        rw [h2] at hs
        cases hs
        rw [Bool.and_eq_true, Bool.and_eq_true] at h2
        have c3 := spos_ok h2.1
        obtain ⟨z, hz⟩ := sdivs_ok (ρ := ρ) h2.2.1
        have c4 := sin_ok h h2.2.2
        have c5 : se ρ c ≤ 9223372036854775807 := c4.2
        exact ⟨rfl, sorA (a := x.toBitVec) (b := y.toBitVec) (k := k) (show 0 ≤ x.toInt by omega) (show x.toInt < 2 ^ k by omega) (show 0 ≤ y.toInt by omega) ⟨z, show y.toInt = _ by rw [hy, hz, e2]⟩ (show x.toInt + y.toInt ≤ _ by omega)⟩
theorem sshl64 {x : Int64} {y : Int32} {k : Nat} (hy : y.toInt = k) (hk : k < 64) : (x <<< (y.toInt64 &&& 63)).toInt = (x.toInt * 2 ^ k).bmod (2 ^ 64) := by
  have e : y = Int32.ofNat k := by
    refine Int32.toInt_inj.mp ?_
    rw [hy, Int32.toInt_ofNat_of_lt (by omega)]
  subst e
  have h1 : ∀ k, k < 64 → ((Int32.ofNat k).toInt64 &&& 63) = Int64.ofNat k ∧ ((Int64.ofNat k).toBitVec.smod 64).toNat = k := by decide
  obtain ⟨h2, h3⟩ := h1 k hk
  rw [h2]
  show (x.toBitVec <<< ((Int64.ofNat k).toBitVec.smod 64).toNat).toInt = _
  rw [h3, sshlB]
  rfl
theorem sshr64 {x : Int64} {y : Int32} {k : Nat} (hy : y.toInt = k) (hk : k < 64) : (x >>> (y.toInt64 &&& 63)).toInt = x.toInt / 2 ^ k := by
  have e : y = Int32.ofNat k := by
    refine Int32.toInt_inj.mp ?_
    rw [hy, Int32.toInt_ofNat_of_lt (by omega)]
  subst e
  have h1 : ∀ k, k < 64 → ((Int32.ofNat k).toInt64 &&& 63) = Int64.ofNat k ∧ ((Int64.ofNat k).toBitVec.smod 64).toNat = k := by decide
  obtain ⟨h2, h3⟩ := h1 k hk
  rw [h2]
  show (x.toBitVec.sshiftRight ((Int64.ofNat k).toBitVec.smod 64).toNat).toInt = x.toInt / 2 ^ k
  rw [h3, BitVec.toInt_sshiftRight, Int.shiftRight_eq_div_pow]
  rfl
/-- to the left by 64 - k, back, and the k lowest places: a number below 2^k -/
theorem sexL {v r : Int} {k f : Nat} (hf : f + k = 64) (hv : 0 ≤ v) (hl : v < 2 ^ k) (hr : r = (v * 2 ^ f).bmod (2 ^ 64) / 2 ^ f) : r % 2 ^ k = v := by
  have p : (0 : Int) < 2 ^ f := Int.pow_pos (by decide)
  obtain ⟨j, hj⟩ : ∃ j : Int, (v * 2 ^ f).bmod (2 ^ 64) = v * 2 ^ f + 18446744073709551616 * j := by
    refine ⟨((v * 2 ^ f).bmod (2 ^ 64) - v * 2 ^ f) / 18446744073709551616, ?_⟩
    have := Int.bmod_emod (x := v * 2 ^ f) (m := 2 ^ 64)
    have h2 : ((v * 2 ^ f).bmod (2 ^ 64) - v * 2 ^ f) % 18446744073709551616 = 0 := by omega
    omega
  have e : (18446744073709551616 : Int) = 2 ^ f * 2 ^ k := by rw [← Int.pow_add, hf]; rfl
  have e3 : v * 2 ^ f + 18446744073709551616 * j = (v + 2 ^ k * j) * 2 ^ f := by
    rw [e, Int.add_mul, Int.mul_assoc, Int.mul_comm (2 ^ f) (2 ^ k * j)]
  rw [hr, hj, e3, Int.mul_ediv_cancel _ (by omega), Int.add_mul_emod_self_left, Int.emod_eq_of_lt hv hl]
theorem sbLx_ok (h : sR Qs ρ (K, D, F, Q, L, T) ls st M) {i : Instr} {f : Int64 → Int64 → Option Int64} (hi : zbL i = some f) {a b : sE} {x y : Int64} (hx : x.toInt = se ρ a) (hy : y.toInt = se ρ b) (wa : swE K.1.length a) (wb : swE K.1.length b) {e : sE} (hs : sbLx i K D a b = some e) : ∃ r, f x y = some r ∧ se ρ e = r.toInt ∧ swE K.1.length e := by
  cases i <;> simp only [zbL, reduceCtorEq] at hi <;> cases hi
  case lsub =>
    refine ⟨x - y, rfl, ?_⟩
    unfold sbLx at hs
    dsimp only at hs
    cases hc : sin_ K (ssub a b) sI64 with
    | true =>
      rw [hc] at hs
      cases hs
      have := sin_ok h.1 hc
      rw [se_sub, ← hx, ← hy] at this
      exact ⟨by rw [se_sub, ← hx, ← hy, ssub64 this], swE_sub wa wb⟩
    | false =>
      rw [hc] at hs
      cases hd : sdsy .ladd D a with
      | none => rw [hd] at hs; cases hs
      | some p =>
        rw [hd] at hs
        dsimp only [cond_false] at hs
        cases hc : sin_ K (ssub (sadd p.1 p.2) b) sI64 with
        | false => rw [hc] at hs; cases hs
        | true =>
          rw [hc] at hs
          cases hs
          obtain ⟨s, e1, hm⟩ := sdsy_ok (ρ := ρ) hd
          obtain ⟨r, g1, g2⟩ := (h.2.1 _ hm).2.1 _ rfl
          cases g1
          have w := h.2.2.2.2.2.2.2.2.1 _ hm
          have hb := sin_ok h.1 hc
          refine ⟨?_, swE_sub (swE_add w.1 w.2.1) wb⟩
          have ex : x = Int64.ofInt (se ρ p.1) + Int64.ofInt (se ρ p.2) := Int64.toInt_inj.mp (by rw [hx, e1, ← g2])
          have ey : y = Int64.ofInt (se ρ b) := by rw [← hy, sofi64]
          rw [ex, ey, ← Int64.ofInt_add, ← Int64.ofInt_sub]
          rw [se_sub, se_add] at hb ⊢
          rw [Int64.toInt_ofInt]
          exact (sb64 hb).symm
  case land =>
    refine ⟨x &&& y, rfl, ?_⟩
    unfold sbLx at hs
    dsimp only at hs
    cases hb : scon K.1 b with
    | none => rw [hb] at hs; cases hs
    | some c =>
      have eb := scon_ok h.1.1 hb
      have la : slb K.1 a ≤ se ρ a := slb_ok h.1.1 a
      have ua : se ρ a ≤ sub_ K.1 a := sub_ok h.1.1 a
      rw [hb] at hs
      dsimp only at hs
      cases hp : spw (c + 1) with
      | some k =>
        have ek := spw_ok hp
        rw [hp] at hs
        dsimp only at hs
        cases hc : (spos (slb K.1 a) && spos (c - sub_ K.1 a)) with
        | false =>
          rw [hc] at hs
          dsimp only [cond_false] at hs
          clear hc
          cases hd : sdsy .lshr D a with
          | none => rw [hd] at hs; cases hs
          | some p =>
            rw [hd] at hs
            dsimp only at hs
            cases hc : (Nat.ble k 63 && siz (64 - k - slb K.1 p.2) && siz (64 - k - sub_ K.1 p.2)) with
            | false => rw [hc] at hs; cases hs
            | true =>
              rw [hc] at hs
              dsimp only [cond_true] at hs
              rw [Bool.and_eq_true, Bool.and_eq_true] at hc
              have c1 := Nat.le_of_ble_eq_true hc.1.1
              have c2 := siz_0 hc.1.2
              have c3 := siz_0 hc.2
              cases hf : sdsy .lshl D p.1 with
              | none => rw [hf] at hs; cases hs
              | some q =>
                rw [hf] at hs
                dsimp only at hs
                cases hg : (siz (64 - k - slb K.1 q.2) && siz (64 - k - sub_ K.1 q.2) && (sge0 K q.1 && sge0 K (ssub (sC c) q.1))) with
                | false => rw [hg] at hs; cases hs
                | true =>
                  rw [hg] at hs
                  cases hs
                  rw [Bool.and_eq_true, Bool.and_eq_true, Bool.and_eq_true] at hg
                  have c4 := siz_0 hg.1.1
                  have c5 := siz_0 hg.1.2
                  have c6 := sge0_ok h.1 hg.2.1
                  have c7 := sge0_ok h.1 hg.2.2
                  rw [se_sub, se_C] at c7
                  have lp : slb K.1 p.2 ≤ se ρ p.2 := slb_ok h.1.1 _
                  have up : se ρ p.2 ≤ sub_ K.1 p.2 := sub_ok h.1.1 _
                  have lq : slb K.1 q.2 ≤ se ρ q.2 := slb_ok h.1.1 _
                  have uq : se ρ q.2 ≤ sub_ K.1 q.2 := sub_ok h.1.1 _
                  obtain ⟨s, e1, hm⟩ := sdsy_ok (ρ := ρ) hd
                  obtain ⟨t, e2, hn⟩ := sdsy_ok (ρ := ρ) hf
                  have g1 : (Int64.ofInt (se ρ p.1) >>> ((Int32.ofInt (se ρ p.2)).toInt64 &&& 63)).toInt = ρ s := (h.2.1 _ hm).2.2 _ rfl
                  have g2 : (Int64.ofInt (se ρ q.1) <<< ((Int32.ofInt (se ρ q.2)).toInt64 &&& 63)).toInt = ρ t := (h.2.1 _ hn).2.2 _ rfl
                  have w := h.2.2.2.2.2.2.2.2.1 _ hn
                  refine ⟨?_, w.1⟩
                  obtain ⟨f, ef⟩ : ∃ f : Nat, f + k = 64 := ⟨64 - k, by omega⟩
                  have i32 : ∀ n : Nat, n ≤ 64 → (Int32.ofInt (n : Int)).toInt = n := fun n hn => by
                    rw [Int32.toInt_ofInt]
                    exact sb32 ⟨by show (-2147483648 : Int) ≤ _; omega, by show _ ≤ (2147483647 : Int); omega⟩
                  have yb := (sr64 y).2
                  have yb : y.toInt ≤ 9223372036854775807 := yb
                  have i64 : (Int64.ofInt (se ρ q.1)).toInt = se ρ q.1 := by
                    rw [Int64.toInt_ofInt]
                    exact sb64 ⟨by show (-9223372036854775808 : Int) ≤ _; omega, by show _ ≤ (9223372036854775807 : Int); omega⟩
                  have ep : se ρ p.2 = (f : Int) := by omega
                  have eq : se ρ q.2 = (f : Int) := by omega
                  cases Nat.lt_or_ge f 64 with
                  | inr o =>
                    have k0 : k = 0 := by omega
                    subst k0
                    have y0 : y = 0 := Int64.toInt_inj.mp (by rw [hy, eb]; show c = 0; have : (2 : Int) ^ 0 = 1 := rfl; omega)
                    rw [y0, Int64.and_zero]
                    have : (2 : Int) ^ 0 = 1 := rfl
                    show se ρ q.1 = 0
                    omega
                  | inl o =>
                  rw [ep, sshr64 (i32 f (by omega)) o, e2.symm.symm, ← g2, eq] at g1
                  rw [sofi64, sshl64 (i32 f (by omega)) o, i64] at g1
                  have := sexL (v := se ρ q.1) (r := x.toInt) (k := k) (f := f) ef c6 (by omega) (by rw [hx, e1, ← g1])
                  rw [← this]
                  exact (sandQ (a := x.toBitVec) (b := y.toBitVec) (k := k) (show y.toInt = _ by omega) (by omega)).symm
        | true =>
          rw [hc] at hs
          cases hs
          rw [Bool.and_eq_true] at hc
          have c1 := spos_ok hc.1
          have c2 := spos_ok hc.2
          refine ⟨?_, wa⟩
          rw [← hx]
          exact (sandM (a := x.toBitVec) (b := y.toBitVec) (k := k) (show y.toInt = _ by omega) (show 0 ≤ x.toInt by omega) (show x.toInt ≤ _ by omega)).symm
      | none =>
        rw [hp] at hs
        dsimp only at hs
        cases hq : spw c with
        | none => rw [hq] at hs; cases hs
        | some k =>
          have ek := spw_ok hq
          rw [hq] at hs
          dsimp only at hs
          cases hc : spos (slb K.1 a) with
          | false => rw [hc] at hs; cases hs
          | true =>
            rw [hc] at hs
            dsimp only [cond_true] at hs
            have c1 := spos_ok hc
            cases hc : spos (c - 1 - sub_ K.1 a) with
            | true =>
              rw [hc] at hs
              cases hs
              have c2 := spos_ok hc
              refine ⟨?_, swE_C _⟩
              have := sandP (a := x.toBitVec) (b := y.toBitVec) (k := k) (show y.toInt = _ by omega) (show 0 ≤ x.toInt by omega) (show x.toInt < _ by omega)
              rw [if_pos (show x.toBitVec.toInt < 2 ^ k from show x.toInt < 2 ^ k by omega)] at this
              rw [se_C]
              exact this.symm
            | false =>
              rw [hc] at hs
              dsimp only [cond_false] at hs
              cases hc : (spos (slb K.1 a - c) && spos (2 * c - 1 - sub_ K.1 a)) with
              | false => rw [hc] at hs; cases hs
              | true =>
                rw [hc] at hs
                cases hs
                rw [Bool.and_eq_true] at hc
                have c2 := spos_ok hc.1
                have c3 := spos_ok hc.2
                refine ⟨?_, swE_C _⟩
                have := sandP (a := x.toBitVec) (b := y.toBitVec) (k := k) (show y.toInt = _ by omega) (show 0 ≤ x.toInt by omega) (show x.toInt < _ by omega)
                rw [if_neg (show ¬ x.toBitVec.toInt < 2 ^ k from show ¬ x.toInt < 2 ^ k by omega)] at this
                rw [se_C, ek]
                exact this.symm
  case lor =>
    refine ⟨x ||| y, rfl, ?_⟩
    unfold sbLx at hs
    dsimp only at hs
    cases hc : (siz (slb K.1 a) && siz (sub_ K.1 a)) with
    | true =>
      rw [hc] at hs
      cases hs
      rw [Bool.and_eq_true] at hc
      have c1 := siz_0 hc.1
      have c2 := siz_0 hc.2
      have la : slb K.1 a ≤ se ρ a := slb_ok h.1.1 a
      have ua : se ρ a ≤ sub_ K.1 a := sub_ok h.1.1 a
      have x0 : x = 0 := Int64.toInt_inj.mp (by rw [hx]; show se ρ a = 0; omega)
      refine ⟨?_, wb⟩
      rw [x0, ← hy, Int64.zero_or]
    | false =>
      rw [hc] at hs
      dsimp only [cond_false] at hs
      cases h1 : sorX K a b (sadd a b) with
      | some u =>
        rw [h1] at hs
        cases hs
        obtain ⟨g1, g2⟩ := sorX_ok h.1 hx hy (se_add ..) h1
        rw [g1, g2, se_add, hx, hy]
        exact ⟨rfl, swE_add wa wb⟩
      | none =>
        rw [h1] at hs
        obtain ⟨g1, g2⟩ := sorX_ok h.1 hy hx (by rw [se_add, Int.add_comm]) hs
        rw [g1, Int64.or_comm, g2, se_add, hx, hy, Int.add_comm]
        exact ⟨rfl, swE_add wa wb⟩
  all_goals (unfold sbLx at hs; cases hs)
def sbL (i : Instr) (K : sK) (D : List sD) (a b : sE) : Option (sK × List sD × sE) := match sbLx i K D a b with
  | some e => some (K, D, e)
  | none => sbL0 i K D a b
theorem snz64 (h : skok ρ K) {b : sE} {y : Int64} (hy : y.toInt = se ρ b) (hs : (sge0 K (ssub b (sC 1)) || sge0 K (ssub (sC (-1)) b)) = true) : y ≠ 0 := by
  intro q
  rw [q] at hy
  have hy : (0 : Int) = se ρ b := hy
  rw [Bool.or_eq_true] at hs
  rcases hs with hs | hs
  · have := sge0_ok h hs
    rw [se_sub, se_C] at this
    omega
  · have := sge0_ok h hs
    rw [se_sub, se_C] at this
    omega
theorem sbL0_ok (h : sR Qs ρ (K, D, F, Q, L, T) ls st M) {i : Instr} {f : Int64 → Int64 → Option Int64} (hi : zbL i = some f) {a b : sE} {x y : Int64} (hx : x.toInt = se ρ a) (hy : y.toInt = se ρ b) (wa : swE K.1.length a) (wb : swE K.1.length b) {p : sK × List sD × sE} (hs : sbL0 i K D a b = some p) : ∃ r, f x y = some r ∧ sAns Qs ρ K F Q L T ls st M r.toInt p := by
  have hd : ∀ {i : Instr} {f : Int64 → Int64 → Option Int64} {r : Int64}, zbL i = some f → zbI i = none → zsL i = none → f x y = some r → sAns Qs ρ K F Q L T ls st M r.toInt (sdef i K D a b sI64) := fun h1 h2 h3 h4 => sAns_def h wa wb (sr64 _) (by rw [← hx, ← hy]; exact sDok_L h1 h2 h3 h4)
  have hq : ∀ {c : Int} {i : Instr} {f : Int64 → Int64 → Option Int64} {r : Int64}, 0 < c → r.toInt = se ρ a / c → zbL i = some f → zbI i = none → zsL i = none → f x y = some r → ∃ p, squot i K D a b c = some p ∧ sAns Qs ρ K F Q L T ls st M r.toInt p := fun hc hr h1 h2 h3 h4 => squot_ok h hc wa wb hr (by rw [← hx, ← hy]; exact sDok_L h1 h2 h3 h4)
  cases i <;> simp only [zbL, reduceCtorEq] at hi <;> cases hi
  case ladd =>
    refine ⟨x + y, rfl, ?_⟩
    cases hs
    cases hc : sin_ K (sadd a b) sI64 with
    | true =>
      refine sAns_id h ?_ (swE_add wa wb)
      have := sin_ok h.1 hc
      rw [se_add, ← hx, ← hy] at this
      rw [se_add, ← hx, ← hy, sadd64 this]
    | false => exact hd rfl rfl rfl rfl
  case lsub => cases hs; exact ⟨_, rfl, hd rfl rfl rfl rfl⟩
  case lmul =>
    refine ⟨x * y, rfl, ?_⟩
    unfold sbL0 at hs
    dsimp only at hs
    cases hb : scon K.1 b with
    | some c =>
      have eb := scon_ok h.1.1 hb
      rw [hb] at hs
      cases hs
      cases hc : sin_ K (smul c a) sI64 with
      | true =>
        refine sAns_id h ?_ (swE_mul wa)
        have := sin_ok h.1 hc
        have e : c * se ρ a = x.toInt * y.toInt := by rw [hx, hy, eb, Int.mul_comm]
        rw [se_mul, e] at this
        rw [se_mul, e, smul64 this]
      | false => exact hd rfl rfl rfl rfl
    | none =>
      rw [hb] at hs
      dsimp only at hs
      cases ha : scon K.1 a with
      | some c =>
        have ea := scon_ok h.1.1 ha
        rw [ha] at hs
        cases hs
        cases hc : sin_ K (smul c b) sI64 with
        | true =>
          refine sAns_id h ?_ (swE_mul wb)
          have := sin_ok h.1 hc
          have e : c * se ρ b = x.toInt * y.toInt := by rw [hx, hy, ea]
          rw [se_mul, e] at this
          rw [se_mul, e, smul64 this]
        | false => exact hd rfl rfl rfl rfl
      | none =>
        rw [ha] at hs
        cases hs
        exact sAns_def h wa wb (smulR_ok h.1.1 (sr64 _) (by decide) (fun hp => by rw [← hx, ← hy] at hp ⊢; exact smul64 hp)) (by rw [← hx, ← hy]; exact sDok_L rfl rfl rfl rfl)
  case land =>
    refine ⟨x &&& y, rfl, ?_⟩
    cases hs
    refine sAns_def h wa wb (sandR_ok h.1 (sr64 _) (fun hp => ?_)) (by rw [← hx, ← hy]; exact sDok_L rfl rfl rfl rfl)
    rw [← hx, ← hy] at hp ⊢
    exact sand64 hp
  case lor => cases hs; exact ⟨_, rfl, hd rfl rfl rfl rfl⟩
  case lxor => cases hs; exact ⟨_, rfl, hd rfl rfl rfl rfl⟩
  case ldiv =>
    unfold sbL0 at hs
    dsimp only at hs
    have fin : ∀ {q : Int × Int}, (y ≠ 0 → sRn q (x / y).toInt) → cond (sge0 K (ssub b (sC 1)) || sge0 K (ssub (sC (-1)) b)) (some (sdef .ldiv K D a b q)) none = some p → ∃ r, (if y = 0 then none else some (x / y)) = some r ∧ sAns Qs ρ K F Q L T ls st M r.toInt p := by
      intro q hq0 hs
      cases hn : (sge0 K (ssub b (sC 1)) || sge0 K (ssub (sC (-1)) b)) with
      | false => rw [hn] at hs; cases hs
      | true =>
        rw [hn] at hs
        cases hs
        have ny := snz64 h.1 hy hn
        exact ⟨x / y, if_neg ny, sAns_def h wa wb (hq0 ny) (by rw [← hx, ← hy]; exact sDok_L rfl rfl rfl (if_neg ny))⟩
    cases hb : scon K.1 b with
    | none => rw [hb] at hs; exact fin (fun _ => sr64 _) hs
    | some c =>
      have eb := scon_ok h.1.1 hb
      rw [hb] at hs
      dsimp only at hs
      cases hc : (spos (c - 1) && sge0 K a) with
      | false => rw [hc] at hs; exact fin (fun _ => sqn_ok h.1 (sr64 _) fun c0 a0 => by rw [← hx] at a0 ⊢; exact (sdivN64 c0 (hy.trans eb) a0).1) hs
      | true =>
        rw [hc] at hs
        rw [Bool.and_eq_true] at hc
        have c1 := spos_ok hc.1
        have c2 := sge0_ok h.1 hc.2
        have ny : y ≠ 0 := by
          intro q
          rw [q] at hy
          have hy : (0 : Int) = se ρ b := hy
          omega
        obtain ⟨d1, -⟩ := sdiv64 (x := x) (y := y) (by rw [hx]; exact c2) (by rw [hy, eb]; omega)
        obtain ⟨p', e1, e2⟩ := hq (c := c) (i := .ldiv) (r := x / y) (by omega) (by rw [d1, hx, hy, eb]) rfl rfl rfl (if_neg ny)
        have hs : squot .ldiv K D a b c = some p := hs
        rw [e1] at hs
        cases hs
        exact ⟨x / y, if_neg ny, e2⟩
  case lrem =>
    unfold sbL0 at hs
    dsimp only at hs
    have fin : ∀ {q : Int × Int}, (y ≠ 0 → sRn q (x - x / y * y).toInt) → cond (sge0 K (ssub b (sC 1)) || sge0 K (ssub (sC (-1)) b)) (some (sdef .lrem K D a b q)) none = some p → ∃ r, (if y = 0 then none else some (x - x / y * y)) = some r ∧ sAns Qs ρ K F Q L T ls st M r.toInt p := by
      intro q hq0 hs
      cases hn : (sge0 K (ssub b (sC 1)) || sge0 K (ssub (sC (-1)) b)) with
      | false => rw [hn] at hs; cases hs
      | true =>
        rw [hn] at hs
        cases hs
        have ny := snz64 h.1 hy hn
        exact ⟨x - x / y * y, if_neg ny, sAns_def h wa wb (hq0 ny) (by rw [← hx, ← hy]; exact sDok_L rfl rfl rfl (if_neg ny))⟩
    cases hb : scon K.1 b with
    | none => rw [hb] at hs; exact fin (fun _ => sr64 _) hs
    | some c =>
      have eb := scon_ok h.1.1 hb
      rw [hb] at hs
      dsimp only at hs
      cases hc : (spos (c - 1) && sge0 K a) with
      | false => rw [hc] at hs; exact fin (fun _ => srn_ok_ h.1 (sr64 _) fun c0 a0 => by rw [← hx] at a0; exact (sdivN64 c0 (hy.trans eb) a0).2) hs
      | true =>
        rw [hc] at hs
        rw [Bool.and_eq_true] at hc
        have c1 := spos_ok hc.1
        have c2 := sge0_ok h.1 hc.2
        have ny : y ≠ 0 := by
          intro q
          rw [q] at hy
          have hy : (0 : Int) = se ρ b := hy
          omega
        obtain ⟨d1, d2⟩ := sdiv64 (x := x) (y := y) (by rw [hx]; exact c2) (by rw [hy, eb]; omega)
        obtain ⟨p', e1, e2⟩ := hq (c := c) (i := .ldiv) (r := x / y) (by omega) (by rw [d1, hx, hy, eb]) rfl rfl rfl (if_neg ny)
        have hs : (match squot .ldiv K D a b c with
          | some p => some (p.1, p.2.1, ssub a (smul c p.2.2))
          | none => none) = some p := hs
        rw [e1] at hs
        cases hs
        obtain ⟨σ, g1, g2, g3, g4, g5⟩ := e2
        refine ⟨x - x / y * y, if_neg ny, σ, g1, g2, g3, ?_, swE_sub (wa.le g2) (swE_mul g5)⟩
        rw [se_sub, se_mul, g4, se_agr g1 wa, d2, ← d1, ← hx, hy, eb, Int.mul_comm]
theorem sbL_ok (h : sR Qs ρ (K, D, F, Q, L, T) ls st M) {i : Instr} {f : Int64 → Int64 → Option Int64} (hi : zbL i = some f) {a b : sE} {x y : Int64} (hx : x.toInt = se ρ a) (hy : y.toInt = se ρ b) (wa : swE K.1.length a) (wb : swE K.1.length b) {p : sK × List sD × sE} (hs : sbL i K D a b = some p) : ∃ r, f x y = some r ∧ sAns Qs ρ K F Q L T ls st M r.toInt p := by
  unfold sbL at hs
  cases hc : sbLx i K D a b with
  | none => rw [hc] at hs; exact sbL0_ok h hi hx hy wa wb hs
  | some e =>
    rw [hc] at hs
    cases hs
    obtain ⟨r, e1, e2, e3⟩ := sbLx_ok h hi hx hy wa wb hc
    exact ⟨r, e1, sAns_id h e2 e3⟩
end SOQ
