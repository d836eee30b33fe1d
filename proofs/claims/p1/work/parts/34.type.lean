/-! type -/
def z2 (M : zM) (a b : Nat) (ea eb : zE) : zM := (M.1, M.2.1, fun k => if k = a then ea else if k = b then eb else M.2.2 k)
section Z2
variable {M : zM} {a b : Nat} {ea eb e : zE}
theorem z2a (ha : a < M.1) : zob (z2 M a b ea eb) a = some ea := by
  unfold zob z2
  dsimp only
  rw [if_pos ha, if_pos rfl]
theorem z2b (hb : b < M.1) (hn : b ≠ a) : zob (z2 M a b ea eb) b = some eb := by
  unfold zob z2
  dsimp only
  rw [if_pos hb, if_neg hn, if_pos rfl]
theorem z2o {k : Nat} (h1 : k ≠ a) (h2 : k ≠ b) : zob (z2 M a b ea eb) k = zob M k := by
  unfold zob z2
  dsimp only
  rw [if_neg h1, if_neg h2]
theorem z2sa : zset (z2 M a b ea eb) a e = z2 M a b e eb := by
  unfold zset z2
  dsimp only
  refine congrArg (fun z => (M.1, M.2.1, z)) (funext fun k => ?_)
  unfold va_up
  dsimp only
  by_cases q : k = a
  · rw [if_pos q, if_pos q]
  · rw [if_neg q, if_neg q, if_neg q]
theorem z2sb (hn : b ≠ a) : zset (z2 M a b ea eb) b e = z2 M a b ea e := by
  unfold zset z2
  dsimp only
  refine congrArg (fun z => (M.1, M.2.1, z)) (funext fun k => ?_)
  unfold va_up
  dsimp only
  by_cases q : k = b
  · rw [if_pos q, if_neg (by omega), if_pos q]
  · rw [if_neg q, if_neg q, if_neg q]
theorem z2_self (h1 : zob M a = some ea) (h2 : zob M b = some eb) : z2 M a b ea eb = M := by
  have key : ∀ {a : Nat} {e : zE}, zob M a = some e → M.2.2 a = e := by
    intro a e h
    have h1 := zob_lt h
    unfold zob at h
    rw [if_pos h1] at h
    exact Option.some.inj h
  unfold z2
  have : (fun k => if k = a then ea else if k = b then eb else M.2.2 k) = M.2.2 := by
    funext k
    split
    · rename_i q; rw [q, key h1]
    · split
      · rename_i q; rw [q, key h2]
      · rfl
  rw [this]
end Z2
theorem zin_inv {v a b : Int32} (h : zin v a b = 1) : zcI .lt v a = false ∧ zcI .gt v b = false := by
  obtain ⟨h1, h2⟩ := zin_of h
  rw [Int32.le_iff_toInt_le] at h1 h2
  refine ⟨decide_eq_false (fun q => ?_), decide_eq_false (fun q => ?_)⟩
  · rw [Int32.lt_iff_toInt_lt] at q
    omega
  · rw [Int32.lt_iff_toInt_lt] at q
    omega
theorem zc_gt_le {x y : Int32} (h : zcI .gt x y = false) : zcI .le x y = true := by
  have e1 := of_decide_eq_false h
  refine decide_eq_true ?_
  rw [Int32.lt_iff_toInt_lt] at e1
  rw [Int32.le_iff_toInt_le]
  omega
theorem zty_k : ∀ k, k < 9 → zcI .le ((0 : Int32) + nI k) (Int16.ofInt 1024).toInt32 = true ∧ (0 : Int32) + nI k = nI k := by decide +kernel
theorem zin_18 {v : Int32} (h : zin v 1 8 = 1) : ∃ k, k < 9 ∧ v = nI k := by
  obtain ⟨h1, h2⟩ := zin_of h
  rw [Int32.le_iff_toInt_le] at h1 h2
  have e1 : (1 : Int32).toInt = 1 := by decide
  have e2 : (8 : Int32).toInt = 8 := by decide
  refine ⟨v.toInt.toNat, by omega, Int32.toInt_inj.mp ?_⟩
  show v.toInt = (Int32.ofNat v.toInt.toNat).toInt
  rw [Int32.toInt_ofNat_of_lt (by omega)]
  omega
def zyF (tl : Int32) : List Value := [.ref 1, .int tl, .ref 2, .int 0, .ref 3, .ref 4, .ref 5]
abbrev zyM (M : zM) (f : Nat → Int32) (tl : Int32) : zM := z2 M 0 1 (.inr (11, zyF tl)) (.inl (1, 1024, .inl f))
abbrev zuM (M : zM) (f : Nat → Int32) (tp : Int32) : zM := z2 M 474 476 (.inr (12, zmF 0 0 tp)) (.inl (1, 1024, .inl f))
section ZTY
variable {X : zX} {call : zCall} {M : zM} {w : Int64}
theorem x_tyloop {k : Nat} (hM : 486 ≤ M.1) (hk : k < 9) : ∀ d i (f : Nat → Int32) n, i + d = k → 20 + 20 * d ≤ n → ∃ f', zrun X zmt call zm_254 n 32 [(0, .ref 0), (1, .long w), (3, .int (nI k)), (4, .int (nI i))] [] (zyM M f 0) = some (some (.int (nI k)), zyM M f' (nI k)) := by
  intro d
  induction d with
  | zero =>
    intro i f n hi hn
    have hi : i = k := by omega
    subst hi
    obtain ⟨n, rfl⟩ : ∃ n', n = n' + 12 := ⟨n - 12, by omega⟩
    refine ⟨f, ?_⟩
    refine zr_s0 rfl rfl rfl rfl ?_
    refine zr_s0 rfl rfl rfl rfl ?_
    refine zr_icmp (t := 65) rfl rfl (fun _ => ?_) (fun h => absurd h zc_self)
    refine zr_s0 rfl rfl rfl rfl ?_
    refine zr_s0 rfl rfl rfl rfl ?_
    refine zr_get rfl rfl (z2a (by omega)) rfl ?_
    refine zr_s0 rfl rfl rfl rfl ?_
    refine zr_s0 rfl rfl rfl rfl ?_
    rw [(zty_k i hk).2]
    refine zr_put rfl rfl (z2a (by omega)) rfl ⟨Nat.le_of_ble_eq_true rfl, Nat.le_of_ble_eq_true rfl, zfit_int _, Or.inl rfl⟩ ?_
    rw [z2sa]
    refine zr_s0 rfl rfl rfl rfl ?_
    refine zr_get rfl rfl (z2a (by omega)) rfl ?_
    exact zr_reti rfl rfl
  | succ d ih =>
    intro i f n hi hn
    obtain ⟨n, rfl⟩ : ∃ n', n = n' + 19 := ⟨n - 19, by omega⟩
    have e2 : nI i + Int32.ofInt 1 = nI (i + 1) := nI_1 i
    obtain ⟨f', hf'⟩ := ih (i + 1) (upd f i (vp_nar .byte (w >>> (((Int8.ofInt 8).toInt32 * nI i).toInt64 &&& 63)).toInt32.toInt8.toInt32)) n (by omega) (by omega)
    refine ⟨f', ?_⟩
    refine zr_s0 rfl rfl rfl rfl ?_
    refine zr_s0 rfl rfl rfl rfl ?_
    refine zr_icmp (t := 65) rfl rfl (fun h => absurd h (zc_nge (by omega) (by omega))) (fun _ => ?_)
    refine zr_s0 rfl rfl rfl rfl ?_
    refine zr_get rfl rfl (z2a (by omega)) rfl ?_
    refine zr_s0 rfl rfl rfl rfl ?_
    refine zr_get rfl rfl (z2a (by omega)) rfl ?_
    refine zr_s0 rfl rfl rfl rfl ?_
    refine zr_s0 rfl rfl rfl rfl ?_
    rw [(zty_k i (by omega)).2]
    refine zr_s0 rfl rfl rfl rfl ?_
    refine zr_s0 rfl rfl rfl rfl ?_
    refine zr_s0 rfl rfl rfl rfl ?_
    refine zr_s0 rfl rfl rfl rfl ?_
    refine zr_s0 rfl rfl rfl rfl ?_
    refine zr_s0 rfl rfl rfl rfl ?_
    refine zr_s0 rfl rfl rfl rfl ?_
    refine zr_bast rfl (z2b (by omega) (by decide)) (vp_in_nI (by omega) (by omega)) ?_
    rw [nI_clamp (by omega), z2sb (by decide)]
    refine zr_s0 rfl rfl rfl rfl ?_
    refine zr_s0 rfl rfl rfl rfl ?_
    rw [e2]
    exact hf'
theorem x_type {k : Nat} (hM : 486 ≤ M.1) (hin : zin (nI k) 1 8 = 1) (hk : k < 9) (f : Nat → Int32) {n : Nat} (hn : 300 ≤ n) : ∃ f', zrun X zmt call zm_254 n 0 [(0, .ref 0), (1, .long w), (3, .int (nI k))] [] (zyM M f 0) = some (some (.int (nI k)), zyM M f' (nI k)) := by
  obtain ⟨h1, h2⟩ := zin_inv hin
  have h3 := zc_gt_le h2
  obtain ⟨n, rfl⟩ : ∃ n', n = n' + 14 := ⟨n - 14, by omega⟩
  obtain ⟨f', hf'⟩ := x_tyloop (X := X) (call := call) (w := w) hM hk k 0 f n (by omega) (by omega)
  refine ⟨f', ?_⟩
  refine zr_s0 rfl rfl rfl rfl ?_
  refine zr_s0 rfl rfl rfl rfl ?_
  refine zr_icmp (t := 11) rfl rfl (fun h => Bool.noConfusion (h1.symm.trans h)) (fun _ => ?_)
  refine zr_s0 rfl rfl rfl rfl ?_
  refine zr_s0 rfl rfl rfl rfl ?_
  refine zr_icmp (t := 14) rfl rfl (fun _ => ?_) (fun h => Bool.noConfusion (h3.symm.trans h))
  refine zr_s0 rfl rfl rfl rfl ?_
  refine zr_get rfl rfl (z2a (by omega)) rfl ?_
  refine zr_s0 rfl rfl rfl rfl ?_
  refine zr_s0 rfl rfl rfl rfl ?_
  refine zr_s0 rfl rfl rfl rfl ?_
  refine zr_icmp (t := 29) rfl rfl (fun _ => ?_) (fun h => Bool.noConfusion ((zty_k k hk).1.symm.trans h))
  refine zr_s0 rfl rfl rfl rfl ?_
  refine zr_s0 rfl rfl rfl rfl ?_
  exact hf'
theorem m_tyloop {k : Nat} (hM : 486 ≤ M.1) (hk : k < 9) : ∀ d i (f : Nat → Int32) n, i + d = k → 20 + 25 * d ≤ n → ∃ f', zrun X zmt call zm_458 n 31 [(0, .ref 474), (1, .long w), (3, .int (nI k)), (4, .int (nI i))] [] (zuM M f (nI i)) = some (some (.int (nI k)), zuM M f' (nI k)) := by
  intro d
  induction d with
  | zero =>
    intro i f n hi hn
    have hi : i = k := by omega
    subst hi
    obtain ⟨n, rfl⟩ : ∃ n', n = n' + 6 := ⟨n - 6, by omega⟩
    refine ⟨f, ?_⟩
    refine zr_s0 rfl rfl rfl rfl ?_
    refine zr_s0 rfl rfl rfl rfl ?_
    refine zr_icmp (t := 71) rfl rfl (fun _ => ?_) (fun h => absurd h zc_self)
    refine zr_s0 rfl rfl rfl rfl ?_
    refine zr_get rfl rfl (z2a (by omega)) rfl ?_
    exact zr_reti rfl rfl
  | succ d ih =>
    intro i f n hi hn
    obtain ⟨n, rfl⟩ : ∃ n', n = n' + 23 := ⟨n - 23, by omega⟩
    have e2 : nI i + Int32.ofInt 1 = nI (i + 1) := nI_1 i
    obtain ⟨f', hf'⟩ := ih (i + 1) (upd f i (vp_nar .byte (w >>> (((Int8.ofInt 8).toInt32 * nI i).toInt64 &&& 63)).toInt32.toInt8.toInt32)) n (by omega) (by omega)
    refine ⟨f', ?_⟩
    refine zr_s0 rfl rfl rfl rfl ?_
    refine zr_s0 rfl rfl rfl rfl ?_
    refine zr_icmp (t := 71) rfl rfl (fun h => absurd h (zc_nge (by omega) (by omega))) (fun _ => ?_)
    refine zr_s0 rfl rfl rfl rfl ?_
    refine zr_get rfl rfl (z2a (by omega)) rfl ?_
    refine zr_s0 rfl rfl rfl rfl ?_
    refine zr_get rfl rfl (z2a (by omega)) rfl ?_
    refine zr_s0 rfl rfl rfl rfl ?_
    refine zr_s0 rfl rfl rfl rfl ?_
    refine zr_s0 rfl rfl rfl rfl ?_
    refine zr_s0 rfl rfl rfl rfl ?_
    refine zr_s0 rfl rfl rfl rfl ?_
    refine zr_s0 rfl rfl rfl rfl ?_
    refine zr_s0 rfl rfl rfl rfl ?_
    refine zr_bast rfl (z2b (by omega) (by decide)) (vp_in_nI (by omega) (by omega)) ?_
    rw [nI_clamp (by omega), z2sb (by decide)]
    refine zr_s0 rfl rfl rfl rfl ?_
    refine zr_s0 rfl rfl rfl rfl ?_
    refine zr_get rfl rfl (z2a (by omega)) rfl ?_
    refine zr_s0 rfl rfl rfl rfl ?_
    refine zr_s0 rfl rfl rfl rfl ?_
    rw [e2]
    refine zr_put rfl rfl (z2a (by omega)) rfl ⟨Nat.le_of_ble_eq_true rfl, Nat.le_of_ble_eq_true rfl, zfit_int _, Or.inl rfl⟩ ?_
    rw [z2sa]
    refine zr_s0 rfl rfl rfl rfl ?_
    refine zr_s0 rfl rfl rfl rfl ?_
    rw [e2]
    exact hf'
theorem m_type {k : Nat} {f : Nat → Int32} (hM : 486 ≤ M.1) (hi : call 456 [.int (nI k), .int 1, .int 8] (zuM M f 0) = some (some (.int 1), zuM M f 0)) (hk : k < 9) {n : Nat} (hn : 400 ≤ n) : ∃ f', zrun X zmt call zm_458 n 0 [(0, .ref 474), (1, .long w), (3, .int (nI k))] [] (zuM M f 0) = some (some (.int (nI k)), zuM M f' (nI k)) := by
  obtain ⟨n, rfl⟩ : ∃ n', n = n' + 13 := ⟨n - 13, by omega⟩
  obtain ⟨f', hf'⟩ := m_tyloop (X := X) (call := call) (w := w) hM hk k 0 f n (by omega) (by omega)
  refine ⟨f', ?_⟩
  refine zr_s0 rfl rfl rfl rfl ?_
  refine zr_s0 rfl rfl rfl rfl ?_
  refine zr_s0 rfl rfl rfl rfl ?_
  refine zr_callS rfl rfl rfl ⟨Or.inl rfl, rfl, rfl, rfl, rfl, Nat.le_of_ble_eq_true rfl⟩ hi ?_
  refine zr_if (t := 13) rfl rfl (fun _ => ?_) (fun h => absurd h (by decide))
  refine zr_s0 rfl rfl rfl rfl ?_
  refine zr_get rfl rfl (z2a (by omega)) rfl ?_
  refine zr_s0 rfl rfl rfl rfl ?_
  refine zr_s0 rfl rfl rfl rfl ?_
  refine zr_s0 rfl rfl rfl rfl ?_
  refine zr_icmp (t := 28) rfl rfl (fun _ => ?_) (fun h => Bool.noConfusion ((zty_k k hk).1.symm.trans h))
  refine zr_s0 rfl rfl rfl rfl ?_
  refine zr_s0 rfl rfl rfl rfl ?_
  exact hf'
end ZTY
section ZNEW
variable {X : zX} {call : zCall} {M : zM}
theorem x_typeB {w : Int64}{va : Int32} (hbad : zin va 1 8 = 0) {n : Nat} : zrun X zmt call zm_254 (n + 8) 0 [(0, .ref 0), (1, .long w), (3, .int va)] [] M = some (some (.int (-2)), M) := by
  refine zr_s0 rfl rfl rfl rfl ?_
  refine zr_s0 rfl rfl rfl rfl ?_
  refine zr_icmp (t := 11) rfl rfl (fun h2 => ?_) (fun h2 => ?_)
  · refine zr_s0 rfl rfl rfl rfl ?_
    exact zr_ret rfl rfl rfl
  · refine zr_s0 rfl rfl rfl rfl ?_
    refine zr_s0 rfl rfl rfl rfl ?_
    refine zr_icmp (t := 14) rfl rfl (fun h => absurd (hbad.symm.trans (zin_1 h2 (zc_le h))) (by decide)) (fun h8 => ?_)
    refine zr_s0 rfl rfl rfl rfl ?_
    exact zr_ret rfl rfl rfl
theorem m_typeB {w : Int64}{va : Int32}(hi : call 456 [.int va, .int 1, .int 8] M = some (some (.int 0), M)) {n : Nat} : zrun X zmt call zm_458 (n + 7) 0 [(0, .ref 474), (1, .long w), (3, .int va)] [] M = some (some (.int (-2)), M) := by
  refine zr_s0 rfl rfl rfl rfl ?_
  refine zr_s0 rfl rfl rfl rfl ?_
  refine zr_s0 rfl rfl rfl rfl ?_
  refine zr_callS rfl rfl rfl ⟨Or.inl rfl, rfl, rfl, rfl, rfl, Nat.le_of_ble_eq_true rfl⟩ hi ?_
  refine zr_if (t := 13) rfl rfl (fun h => absurd h (by decide)) (fun _ => ?_)
  refine zr_s0 rfl rfl rfl rfl ?_
  exact zr_ret rfl rfl rfl
end ZNEW
