/-! THE ENGINE, 9: the rows that stay in the frame -/
def srf (t : Nat) : Bool := (Nat.ble 2 t && (Nat.ble t 8 && !(Nat.beq t 7))) || (Nat.beq t 10 || Nat.beq t 11)
theorem srf_ok {ρ : Nat → Int} {v : Value} {a : sV} (h : sVal ρ v a) (hc : srf a.1 = true) : v = .null ∨ ∃ k, v = .ref k := by
  obtain ⟨t, q, e⟩ := a
  unfold srf at hc
  unfold sVal at h
  have : t = 2 ∨ t = 3 ∨ t = 4 ∨ t = 5 ∨ t = 6 ∨ t = 8 ∨ t = 10 ∨ t = 11 := by
    simp only [Bool.or_eq_true, Bool.and_eq_true] at hc
    rcases hc with ⟨h1, h2, h3⟩ | hc | hc
    · have h1 : 2 ≤ t := Nat.le_of_ble_eq_true h1
      have h2 : t ≤ 8 := Nat.le_of_ble_eq_true h2
      have h3 : Nat.beq t 7 = false := by simpa using h3
      have h3 : t ≠ 7 := Nat.ne_of_beq_eq_false h3
      omega
    · have : t = 10 := Nat.eq_of_beq_eq_true hc
      omega
    · have : t = 11 := Nat.eq_of_beq_eq_true hc
      omega
  rcases this with rfl | rfl | rfl | rfl | rfl | rfl | rfl | rfl
  · exact Or.inl h
  · obtain ⟨x, rfl, -⟩ := h; exact Or.inr ⟨_, rfl⟩
  · obtain ⟨x, o, rfl, -⟩ := h; exact Or.inr ⟨_, rfl⟩
  · obtain ⟨x, o, rfl, -⟩ := h; exact Or.inr ⟨_, rfl⟩
  · exact Or.inr ⟨_, h.1⟩
  · obtain ⟨x, o, rfl, -⟩ := h; exact Or.inr ⟨_, rfl⟩
  · exact Or.inr ⟨_, h.1⟩
  · exact h
/-- a number that is cut: as it is where it fits, else any one of the kind -/
def scut (K : sK) (e : sE) (q : Int × Int) : sK × sE := cond (sin_ K e q) (K, e) (sfresh K q.1 q.2, sS K.1.length)
section SCUT
variable {Qs : Nat → List Int → zM → Prop} {ρ : Nat → Int} {K : sK} {D : List sD} {F : List sF} {Q : List sQ} {L : List (Nat × sV)} {T : List sV} {ls : zL} {st : List Value} {M : zM}
theorem scut_ok (h : sR Qs ρ (K, D, F, Q, L, T) ls st M) {e : sE} {q : Int × Int} {v : Int} (w : swE K.1.length e) (hv : sRn q v) (he : sRn q (se ρ e) → v = se ρ e) : ∃ σ, sagr K.1.length ρ σ ∧ K.1.length ≤ (scut K e q).1.1.length ∧ sR Qs σ ((scut K e q).1, D, F, Q, L, T) ls st M ∧ se σ (scut K e q).2 = v ∧ swE (scut K e q).1.1.length (scut K e q).2 := by
  unfold scut
  cases hc : sin_ K e q with
  | true => exact ⟨ρ, fun _ _ => rfl, Nat.le_refl _, h, (he (sin_ok h.1 hc)).symm, w⟩
  | false =>
    have h2 := sR_fresh h hv
    have hl : (sfresh K q.1 q.2).1.length = K.1.length + 1 := List.length_append
    exact ⟨supd ρ K.1.length v, supd_agr, by dsimp only [cond]; rw [hl]; exact Nat.le_succ _, h2, by dsimp only [cond]; rw [se_S]; exact supd_self, by dsimp only [cond]; rw [hl]; exact swE_S (Nat.lt_succ_self _)⟩
theorem sHit_1 {n pc : Nat} {A : sA} {σ : Nat → Int} (ha : sagr n ρ σ) (hn : n ≤ A.1.1.length) (h : sR Qs σ A ls st M) : sHit Qs ρ n [(pc, A)] pc ls st M := ⟨(pc, A), List.mem_singleton.mpr rfl, rfl, σ, ha, hn, h⟩
theorem sHit_0 {pc : Nat} {A : sA} (h : sR Qs ρ A ls st M) : sHit Qs ρ A.1.1.length [(pc, A)] pc ls st M := sHit_1 (fun _ _ => rfl) (Nat.le_refl _) h
theorem sR_loc (h : sR Qs ρ (K, D, F, Q, L, T) ls st M) {ls' : zL} {L' : List (Nat × sV)} (hl : sLoc ρ ls' L') (hw : ∀ p ∈ L', swV K.1.length p.2) : sR Qs ρ (K, D, F, Q, L', T) ls' st M := by
  obtain ⟨h1, h2, h3, h4, h5, h6, h7, w1, w2, w3, w4, w5, w6⟩ := h
  exact ⟨h1, h2, h3, h4, hl, h6, h7, w1, w2, w3, w4, hw, w6⟩
end SCUT
/-- shifts of longs -/
def tdv (k : Int) (e : sE) : Option sE := cond (siz (e.1 % k) && (e.2.all fun t => siz (t.2 % k))) (some (e.1 / k, e.2.map fun t => (t.1, t.2 / k))) none
theorem tdv_ok {ρ : Nat → Int} {k : Int} {e x : sE} (h : tdv k e = some x) : k * se ρ x = se ρ e ∧ ∀ n, swE n e → swE n x := by
  unfold tdv at h
  cases hq : (siz (e.1 % k) && (e.2.all fun t => siz (t.2 % k))) with
  | false => rw [hq] at h; cases h
  | true =>
    rw [hq] at h
    cases h
    rw [Bool.and_eq_true] at hq
    have h1 : k * (e.1 / k) = e.1 := Int.mul_ediv_cancel' (Int.dvd_of_emod_eq_zero (siz_0 hq.1))
    have h2 : ∀ l : sT, (l.all fun t => siz (t.2 % k)) = true → k * sv ρ (l.map fun t => (t.1, t.2 / k)) = sv ρ l := by
      intro l
      induction l with
      | nil => intro _; exact Int.mul_zero k
      | cons t l ih =>
        intro hl
        rw [List.all_cons, Bool.and_eq_true] at hl
        show k * (t.2 / k * ρ t.1 + sv ρ (l.map fun t => (t.1, t.2 / k))) = t.2 * ρ t.1 + sv ρ l
        rw [Int.mul_add, ih hl.2, ← Int.mul_assoc, Int.mul_ediv_cancel' (Int.dvd_of_emod_eq_zero (siz_0 hl.1))]
    refine ⟨?_, fun n hn t ht => ?_⟩
    · show k * (e.1 / k + sv ρ (e.2.map fun t => (t.1, t.2 / k))) = e.1 + sv ρ e.2
      rw [Int.mul_add, h1, h2 _ hq.2]
    · obtain ⟨q, q1, rfl⟩ := List.mem_map.mp ht
      exact hn q q1
/-- a shift by a constant -/
def sshx (i : Instr) (K : sK) (a b : sE) : Option sE := match scon K.1 b with
  | some c => cond (spos c && spos (63 - c)) (match i with
    | .lshl => cond (sin_ K (smul (2 ^ c.toNat) a) sI64) (some (smul (2 ^ c.toNat) a)) none
    | .lshr => tdv (2 ^ c.toNat) a
    | _ => none) none
  | none => none
theorem sshx_ok {ρ : Nat → Int} {K : sK} (h : skok ρ K) {i : Instr} {f : Int64 → Int32 → Int64} (hi : zsL i = some f) {a b : sE} {x : Int64} {y : Int32} (hx : x.toInt = se ρ a) (hy : y.toInt = se ρ b) (wa : swE K.1.length a) {e : sE} (hs : sshx i K a b = some e) : se ρ e = (f x y).toInt ∧ swE K.1.length e := by
  unfold sshx at hs
  cases hb : scon K.1 b with
  | none => rw [hb] at hs; cases hs
  | some c =>
    have eb := scon_ok h.1 hb
    rw [hb] at hs
    dsimp only at hs
    cases hc : (spos c && spos (63 - c)) with
    | false => rw [hc] at hs; cases hs
    | true =>
      rw [hc] at hs
      dsimp only [cond_true] at hs
      rw [Bool.and_eq_true] at hc
      have c1 := spos_ok hc.1
      have c2 := spos_ok hc.2
      have ey : y.toInt = (c.toNat : Int) := by rw [hy, eb]; omega
      have p : (0 : Int) < 2 ^ c.toNat := Int.pow_pos (by decide)
      revert hs
      cases i <;> simp only [zsL, reduceCtorEq] at hi <;> cases hi <;> intro hs
      rotate_left
      rotate_left
      · cases hs
      rotate_left
      · obtain ⟨q1, q2⟩ := tdv_ok (ρ := ρ) hs
        refine ⟨?_, q2 _ wa⟩
        rw [sshr64 ey (by omega), hx, ← q1, Int.mul_ediv_cancel_left _ (by omega)]
      · dsimp only at hs
        cases hq : sin_ K (smul (2 ^ c.toNat) a) sI64 with
        | false => rw [hq] at hs; cases hs
        | true =>
          rw [hq] at hs
          cases hs
          have q := sin_ok h hq
          refine ⟨?_, swE_mul wa⟩
          rw [se_mul, Int.mul_comm, ← hx] at q
          rw [sshl64 ey (by omega), sb64 q, se_mul, Int.mul_comm, hx]
def sshrR (K : sK) (a b : sE) (q : Int × Int) : Int × Int := match scon K.1 b with
  | some c => cond (spos c && spos (63 - c)) (slb K.1 a / 2 ^ c.toNat, sub_ K.1 a / 2 ^ c.toNat) q
  | none => q
theorem sshrR_ok {ρ : Nat → Int} {K : sK} (h : skok ρ K) {a b : sE} {x : Int64} {y : Int32} (hx : x.toInt = se ρ a) (hy : y.toInt = se ρ b) : sRn (sshrR K a b sI64) (x >>> (y.toInt64 &&& 63)).toInt := by
  unfold sshrR
  cases hb : scon K.1 b with
  | none => exact sr64 _
  | some c =>
    have eb := scon_ok h.1 hb
    dsimp only
    cases hc : (spos c && spos (63 - c)) with
    | false => exact sr64 _
    | true =>
      rw [Bool.and_eq_true] at hc
      have c1 := spos_ok hc.1
      have c2 := spos_ok hc.2
      have ey : y.toInt = (c.toNat : Int) := by rw [hy, eb]; omega
      have p : (0 : Int) < 2 ^ c.toNat := Int.pow_pos (by decide)
      rw [sshr64 ey (by omega), hx]
      exact ⟨Int.ediv_le_ediv p (slb_ok h.1 a), Int.ediv_le_ediv p (sub_ok h.1 a)⟩
def ssh0 (i : Instr) (K : sK) (D : List sD) (a b : sE) : Option (sK × List sD × sE) := match i with
  | .lshl => some (sdef .lshl K D a b (match scon K.1 a with
    | some c => cond (siz (c - 1) && (sge0 K b && sge0 K (ssub (sC 62) b))) (1, 2 ^ (sub_ K.1 b).toNat) sI64
    | none => sI64))
  | .lshr => some (sdef .lshr K D a b (sshrR K a b sI64))
  | .lushr => some (sdef .lushr K D a b sI64)
  | _ => none
def ssh (i : Instr) (K : sK) (D : List sD) (a b : sE) : Option (sK × List sD × sE) := match sshx i K a b with
  | some e => some (K, D, e)
  | none => ssh0 i K D a b
theorem slsh1 : ∀ k, k < 63 → ((1 : Int64) <<< ((Int32.ofNat k).toInt64 &&& 63)).toInt = 2 ^ k := by decide
theorem ssh0_ok {Qs : Nat → List Int → zM → Prop} {ρ : Nat → Int} {K : sK} {D : List sD} {F : List sF} {Q : List sQ} {L : List (Nat × sV)} {T : List sV} {ls : zL} {st : List Value} {M : zM} (h : sR Qs ρ (K, D, F, Q, L, T) ls st M) {i : Instr} {f : Int64 → Int32 → Int64} (hi : zsL i = some f) {a b : sE} {x : Int64} {y : Int32} (hx : x.toInt = se ρ a) (hy : y.toInt = se ρ b) (wa : swE K.1.length a) (wb : swE K.1.length b) {p : sK × List sD × sE} (hs : ssh0 i K D a b = some p) : sAns Qs ρ K F Q L T ls st M (f x y).toInt p := by
  have hd : ∀ {i : Instr} {f : Int64 → Int32 → Int64}, zsL i = some f → zbI i = none → zbL i = none → sAns Qs ρ K F Q L T ls st M (f x y).toInt (sdef i K D a b sI64) := fun h1 h2 h3 => sAns_def h wa wb (sr64 _) (by rw [← hx, ← hy]; exact sDok_S h1 h2 h3)
  cases i <;> simp only [zsL, reduceCtorEq] at hi <;> cases hi
  case lshl =>
    cases hs
    refine sAns_def h wa wb ?_ (by rw [← hx, ← hy]; exact sDok_S (i := .lshl) rfl rfl rfl)
    split
    · rename_i c hc
      have ec := scon_ok h.1.1 hc
      cases hq : (siz (c - 1) && (sge0 K b && sge0 K (ssub (sC 62) b))) with
      | false => exact sr64 _
      | true =>
        rw [Bool.and_eq_true, Bool.and_eq_true] at hq
        have c1 := siz_0 hq.1
        have c2 := sge0_ok h.1 hq.2.1
        have c3 := sge0_ok h.1 hq.2.2
        rw [se_sub, se_C] at c3
        have ub : se ρ b ≤ sub_ K.1 b := sub_ok h.1.1 b
        have e1 : x = 1 := Int64.toInt_inj.mp (by rw [hx, ec]; show c = 1; omega)
        obtain ⟨k, hk⟩ : ∃ k : Nat, se ρ b = k := ⟨(se ρ b).toNat, (Int.toNat_of_nonneg c2).symm⟩
        have e2 : y = Int32.ofNat k := Int32.toInt_inj.mp (by rw [hy, hk, Int32.toInt_ofNat_of_lt (by omega)])
        rw [e1, e2, slsh1 k (by omega)]
        constructor
        · have : (0 : Int) < 2 ^ k := Int.pow_pos (by decide)
          show (1 : Int) ≤ 2 ^ k
          omega
        · show (2 : Int) ^ k ≤ 2 ^ (sub_ K.1 b).toNat
          have h9 : k ≤ (sub_ K.1 b).toNat := by omega
          have : (2 : Nat) ^ k ≤ 2 ^ (sub_ K.1 b).toNat := Nat.pow_le_pow_right (by decide) h9
          exact_mod_cast this
    · exact sr64 _
  case lshr => cases hs; exact sAns_def h wa wb (sshrR_ok h.1 hx hy) (by rw [← hx, ← hy]; exact sDok_S (i := .lshr) rfl rfl rfl)
  case lushr => cases hs; exact hd (i := .lushr) rfl rfl rfl
theorem ssh_ok {Qs : Nat → List Int → zM → Prop} {ρ : Nat → Int} {K : sK} {D : List sD} {F : List sF} {Q : List sQ} {L : List (Nat × sV)} {T : List sV} {ls : zL} {st : List Value} {M : zM} (h : sR Qs ρ (K, D, F, Q, L, T) ls st M) {i : Instr} {f : Int64 → Int32 → Int64} (hi : zsL i = some f) {a b : sE} {x : Int64} {y : Int32} (hx : x.toInt = se ρ a) (hy : y.toInt = se ρ b) (wa : swE K.1.length a) (wb : swE K.1.length b) {p : sK × List sD × sE} (hs : ssh i K D a b = some p) : sAns Qs ρ K F Q L T ls st M (f x y).toInt p := by
  unfold ssh at hs
  cases hc : sshx i K a b with
  | none => rw [hc] at hs; exact ssh0_ok h hi hx hy wa wb hs
  | some e =>
    rw [hc] at hs
    cases hs
    obtain ⟨e2, e3⟩ := sshx_ok h.1 hi hx hy wa hc
    exact sAns_id h e2 e3
theorem sbI_none {K : sK} {D : List sD} {a b : sE} {i : Instr} (h : zbI i = none) : sbI i K D a b = none := by
  cases i <;> first | rfl | (simp [zbI] at h)
theorem sbL_none {K : sK} {D : List sD} {a b : sE} {i : Instr} (h : zbL i = none) : sbL i K D a b = none := by
  cases i <;> first | rfl | (simp [zbL] at h)
theorem ssh_none {K : sK} {D : List sD} {a b : sE} {i : Instr} (h : zsL i = none) : ssh i K D a b = none := by
  have h0 : ssh0 i K D a b = none := by cases i <;> first | rfl | (simp [zsL] at h)
  have h1 : sshx i K a b = none := by
    unfold sshx
    cases scon K.1 b with
    | none => rfl
    | some c =>
      dsimp only
      cases (spos c && spos (63 - c)) with
      | false => rfl
      | true => cases i <;> first | rfl | (simp [zsL] at h)
  unfold ssh
  rw [h1]
  exact h0
/-- what is left: two numbers become one, or one another one -/
def zsB (pc : Nat) (ls : zL) (st : List Value) (i : Instr) : Option (Nat × zL × List Value) := match zbI i with
  | some f => (match st with
    | .int y :: .int x :: r => (match f x y with
      | some v => some (pc + 1, ls, .int v :: r)
      | none => none)
    | _ => none)
  | none => match zuI i with
    | some f => (match st with
      | .int x :: r => some (pc + 1, ls, .int (f x) :: r)
      | _ => none)
    | none => match zbL i with
      | some f => (match st with
        | .long y :: .long x :: r => (match f x y with
          | some v => some (pc + 1, ls, .long v :: r)
          | none => none)
        | _ => none)
      | none => match zsL i with
        | some f => (match st with
          | .int y :: .long x :: r => some (pc + 1, ls, .long (f x y) :: r)
          | _ => none)
        | none => none
def suI (i : Instr) (K : sK) (e : sE) : Option (sK × sE) := match i with
  | .ineg => some (scut K (sneg e) sI32)
  | .i2b => some (scut K e (-128, 127))
  | .i2c => some (scut K e (0, 65535))
  | _ => none
def sstB (pc : Nat) (A : sA) (i : Instr) : Option (List (Nat × sA)) := match A with
  | (K, D, F, Q, L, T) => match T with
    | (0, _, b) :: (0, _, a) :: T' => (match sbI i K D a b with
      | some p => some [(pc + 1, p.1, p.2.1, F, Q, L, (0, 0, p.2.2) :: T')]
      | none => (match suI i K b with
        | some p => some [(pc + 1, p.1, D, F, Q, L, (0, 0, p.2) :: (0, 0, a) :: T')]
        | none => none))
    | (0, _, b) :: (1, _, a) :: T' => (match ssh i K D a b with
      | some p => some [(pc + 1, p.1, p.2.1, F, Q, L, (1, 0, p.2.2) :: T')]
      | none => (match suI i K b with
        | some p => some [(pc + 1, p.1, D, F, Q, L, (0, 0, p.2) :: (1, 0, a) :: T')]
        | none => none))
    | (1, _, b) :: (1, _, a) :: T' => (match sbL i K D a b with
      | some p => some [(pc + 1, p.1, p.2.1, F, Q, L, (1, 0, p.2.2) :: T')]
      | none => none)
    | (0, _, b) :: T' => (match suI i K b with
      | some p => some [(pc + 1, p.1, D, F, Q, L, (0, 0, p.2) :: T')]
      | none => none)
    | _ => none
section SSTB
variable {Qs : Nat → List Int → zM → Prop} {ρ : Nat → Int} {K : sK} {D : List sD} {F : List sF} {Q : List sQ} {L : List (Nat × sV)} {T : List sV} {ls : zL} {st : List Value} {M : zM}
theorem sAns.hit {v : Int} {p : sK × List sD × sE} (h : sAns Qs ρ K F Q L T ls st M v p) {t : Nat} {w : Value} {pc : Nat} (hw : ∀ σ, se σ p.2.2 = v → sVal σ w (t, 0, p.2.2)) : sHit Qs ρ K.1.length [(pc, p.1, p.2.1, F, Q, L, (t, 0, p.2.2) :: T)] pc ls (w :: st) M := by
  obtain ⟨σ, h1, h2, h3, h4, h5⟩ := h
  exact sHit_1 h1 h2 (sR_push h3 (hw σ h4) h5)
theorem suI_ok (h : sR Qs ρ (K, D, F, Q, L, T) ls st M) {i : Instr} {e : sE} {x : Int32} (hx : x.toInt = se ρ e) (w : swE K.1.length e) {p : sK × sE} (hs : suI i K e = some p) : ∃ f, zuI i = some f ∧ zbI i = none ∧ ∀ pc, sHit Qs ρ K.1.length [(pc, p.1, D, F, Q, L, (0, 0, p.2) :: T)] pc ls (.int (f x) :: st) M := by
  have fin : ∀ {e' : sE} {q : Int × Int} {r : Int32}, swE K.1.length e' → sRn q r.toInt → (sRn q (se ρ e') → r.toInt = se ρ e') → scut K e' q = p → ∀ pc, sHit Qs ρ K.1.length [(pc, p.1, D, F, Q, L, (0, 0, p.2) :: T)] pc ls (.int r :: st) M := by
    intro e' q r w' h1 h2 hp pc
    obtain ⟨σ, g1, g2, g3, g4, g5⟩ := scut_ok h w' h1 h2
    subst hp
    exact sHit_1 g1 g2 (sR_push g3 ⟨r, rfl, g4.symm⟩ g5)
  cases i <;> simp only [suI, reduceCtorEq] at hs
  case ineg =>
    refine ⟨_, rfl, rfl, fin (swE_neg w) (sr32 _) (fun q => ?_) (Option.some.inj hs)⟩
    rw [se_neg, ← hx] at q ⊢
    exact sneg32 q
  case i2b =>
    refine ⟨_, rfl, rfl, fin w ?_ (fun q => ?_) (Option.some.inj hs)⟩
    · have e : x.toInt8.toInt32.toInt = x.toInt8.toInt := Int8.toInt_toInt32 _
      have h1 := Int8.le_toInt x.toInt8
      have h2 := Int8.toInt_lt x.toInt8
      constructor
      · show (-128 : Int) ≤ _
        rw [e]; omega
      · show _ ≤ (127 : Int)
        rw [e]; omega
    · rw [← hx] at q ⊢
      have e : x.toInt8.toInt32.toInt = x.toInt8.toInt := Int8.toInt_toInt32 _
      rw [e, Int32.toInt_toInt8]
      obtain ⟨q1, q2⟩ := q
      have q1 : (-128 : Int) ≤ x.toInt := q1
      have q2 : x.toInt ≤ (127 : Int) := q2
      exact Int.bmod_eq_of_le (by omega) (by omega)
  case i2c =>
    have e : ((x.toUInt32 % 65536).toInt32).toInt = ((x.toUInt32 % 65536).toNat : Int) := by
      have hl : (x.toUInt32 % 65536).toNat < 65536 := by
        rw [UInt32.toNat_mod]
        exact Nat.mod_lt _ (by decide)
      show (x.toUInt32 % 65536).toBitVec.toInt = _
      rw [BitVec.toInt_eq_toNat_cond]
      have : (x.toUInt32 % 65536).toBitVec.toNat = (x.toUInt32 % 65536).toNat := rfl
      rw [this, if_pos (by omega)]
    have hl : (x.toUInt32 % 65536).toNat < 65536 := by
      rw [UInt32.toNat_mod]
      exact Nat.mod_lt _ (by decide)
    refine ⟨_, rfl, rfl, fin w ?_ (fun q => ?_) (Option.some.inj hs)⟩
    · constructor
      · show (0 : Int) ≤ _
        rw [e]; omega
      · show _ ≤ (65535 : Int)
        rw [e]; omega
    · rw [← hx] at q ⊢
      obtain ⟨q1, q2⟩ := q
      have q1 : (0 : Int) ≤ x.toInt := q1
      have q2 : x.toInt ≤ (65535 : Int) := q2
      rw [e, UInt32.toNat_mod]
      have h3 : x.toInt = (x.toUInt32.toNat : Int) := by
        have h4 := BitVec.toInt_eq_toNat_cond x.toBitVec
        have h5 : x.toBitVec.toInt = x.toInt := rfl
        have h6 : x.toBitVec.toNat = x.toUInt32.toNat := rfl
        rw [h5, h6] at h4
        split at h4 <;> omega
      have h7 : (65536 : UInt32).toNat = 65536 := rfl
      rw [h7]
      omega
theorem sstB_ok {A : sA} (h : sR Qs ρ A ls st M) {pc : Nat} {i : Instr} {outs : List (Nat × sA)} (hs : sstB pc A i = some outs) : ∃ pc' ls' st', zsB pc ls st i = some (pc', ls', st') ∧ sHit Qs ρ A.1.1.length outs pc' ls' st' M := by
  obtain ⟨K, D, F, Q, L, T⟩ := A
  unfold sstB at hs
  dsimp only at hs
  have un : ∀ {e : sE} {q : Nat} {T' : List sV} {p : sK × sE}, T = (0, q, e) :: T' → suI i K e = some p → outs = [(pc + 1, p.1, D, F, Q, L, (0, 0, p.2) :: T')] → ∃ pc' ls' st', zsB pc ls st i = some (pc', ls', st') ∧ sHit Qs ρ K.1.length outs pc' ls' st' M := by
    intro e q T' p hT hp ho
    subst hT
    obtain ⟨v, r, rfl, hv, w, h'⟩ := sR_pop h
    obtain ⟨x, rfl, hx⟩ := hv
    obtain ⟨f, f1, f2, f3⟩ := suI_ok h' hx w hp
    refine ⟨pc + 1, ls, .int (f x) :: r, ?_, ho ▸ f3 (pc + 1)⟩
    unfold zsB
    rw [f2, f1]
  split at hs
  · rename_i q1 b q2 a T'
    obtain ⟨v, r, rfl, hv, w, h'⟩ := sR_pop h
    obtain ⟨y, rfl, hy⟩ := hv
    obtain ⟨v2, r2, rfl, hv2, w2, h''⟩ := sR_pop h'
    obtain ⟨x, rfl, hx⟩ := hv2
    split at hs
    · rename_i p hp
      cases hs
      cases hf : zbI i with
      | none => exact absurd hp (by rw [sbI_none hf]; exact fun q => by cases q)
      | some f =>
        obtain ⟨z, z1, z2⟩ := sbI_ok h'' hf hx hy w2 w hp
        refine ⟨pc + 1, ls, .int z :: r2, ?_, z2.hit (fun σ e => ⟨z, rfl, e.symm⟩)⟩
        unfold zsB
        rw [hf]
        dsimp only
        rw [z1]
    · split at hs
      · rename_i p hp
        have hs := Option.some.inj hs
        have h3 : sR Qs ρ (K, D, F, Q, L, (0, 0, b) :: (0, 0, a) :: T') ls (.int y :: .int x :: r2) M := sR_push (v := .int y) (a := (0, 0, b)) (sR_push (v := .int x) (a := (0, 0, a)) h'' ⟨x, rfl, hx⟩ w2) ⟨y, rfl, hy⟩ w
        obtain ⟨v, r, e1, hv, w', h'⟩ := sR_pop h3
        cases e1
        obtain ⟨f, f1, f2, f3⟩ := suI_ok h' hy w hp
        refine ⟨pc + 1, ls, .int (f y) :: .int x :: r2, ?_, hs ▸ f3 (pc + 1)⟩
        unfold zsB
        rw [f2, f1]
      · cases hs
  · rename_i q1 b q2 a T'
    obtain ⟨v, r, rfl, hv, w, h'⟩ := sR_pop h
    obtain ⟨y, rfl, hy⟩ := hv
    obtain ⟨v2, r2, rfl, hv2, w2, h''⟩ := sR_pop h'
    obtain ⟨x, rfl, hx⟩ := hv2
    split at hs
    · rename_i p hp
      cases hs
      cases hf : zsL i with
      | none => exact absurd hp (by rw [ssh_none hf]; exact fun q => by cases q)
      | some f =>
        have z2 := ssh_ok h'' hf hx hy w2 w hp
        have n1 : zbI i = none := by cases i <;> simp [zsL, zbI] at hf ⊢
        have n2 : zuI i = none := by cases i <;> simp [zsL, zuI] at hf ⊢
        have n3 : zbL i = none := by cases i <;> simp [zsL, zbL] at hf ⊢
        refine ⟨pc + 1, ls, .long (f x y) :: r2, ?_, z2.hit (fun σ e => ⟨f x y, rfl, e.symm⟩)⟩
        unfold zsB
        rw [n1, n2, n3, hf]
    · split at hs
      · rename_i p hp
        have hs := Option.some.inj hs
        have h3 : sR Qs ρ (K, D, F, Q, L, (0, 0, b) :: (1, 0, a) :: T') ls (.int y :: .long x :: r2) M := sR_push (v := .int y) (a := (0, 0, b)) (sR_push (v := .long x) (a := (1, 0, a)) h'' ⟨x, rfl, hx⟩ w2) ⟨y, rfl, hy⟩ w
        obtain ⟨v, r, e1, hv, w', h'⟩ := sR_pop h3
        cases e1
        obtain ⟨f, f1, f2, f3⟩ := suI_ok h' hy w hp
        refine ⟨pc + 1, ls, .int (f y) :: .long x :: r2, ?_, hs ▸ f3 (pc + 1)⟩
        unfold zsB
        rw [f2, f1]
      · cases hs
  · rename_i q1 b q2 a T'
    obtain ⟨v, r, rfl, hv, w, h'⟩ := sR_pop h
    obtain ⟨y, rfl, hy⟩ := hv
    obtain ⟨v2, r2, rfl, hv2, w2, h''⟩ := sR_pop h'
    obtain ⟨x, rfl, hx⟩ := hv2
    split at hs
    · rename_i p hp
      cases hs
      cases hf : zbL i with
      | none => exact absurd hp (by rw [sbL_none hf]; exact fun q => by cases q)
      | some f =>
        obtain ⟨z, z1, z2⟩ := sbL_ok h'' hf hx hy w2 w hp
        have n1 : zbI i = none := by cases i <;> simp [zbL, zbI] at hf ⊢
        have n2 : zuI i = none := by cases i <;> simp [zbL, zuI] at hf ⊢
        refine ⟨pc + 1, ls, .long z :: r2, ?_, z2.hit (fun σ e => ⟨z, rfl, e.symm⟩)⟩
        unfold zsB
        rw [n1, n2, hf]
        dsimp only
        rw [z1]
    · cases hs
  · rename_i q1 b T' _ _
    split at hs
    · rename_i p hp
      exact un rfl hp (Option.some.inj hs).symm
    · cases hs
  · cases hs
end SSTB
