/-! the chip, again, and the reference on a new object (by gen25.py) -/
/-- whether a number lies between two -/
def zin (v a b : Int32) : Int32 := if zcI .lt v a = true then 0 else if zcI .gt v b = true then 0 else 1
theorem zin_lt {v a b : Int32} (h : zcI .lt v a = true) : zin v a b = 0 := if_pos h
theorem zin_gt {v a b : Int32} (h : zcI .gt v b = true) : zin v a b = 0 := by
  unfold zin
  rw [if_pos h, ite_self]
theorem zin_1 {v a b : Int32} (h1 : zcI .lt v a = false) (h2 : zcI .gt v b = false) : zin v a b = 1 := by
  unfold zin
  rw [if_neg (by rw [h1]; decide), if_neg (by rw [h2]; decide)]
theorem zin_01 (v a b : Int32) : zin v a b = 0 ∨ zin v a b = 1 := by
  unfold zin
  split
  · exact Or.inl rfl
  · split
    · exact Or.inl rfl
    · exact Or.inr rfl
theorem zc_le {x y : Int32} (h : zcI .le x y = true) : zcI .gt x y = false := by
  have e1 : x ≤ y := of_decide_eq_true h
  refine decide_eq_false (fun e2 => ?_)
  rw [Int32.le_iff_toInt_le] at e1
  rw [Int32.lt_iff_toInt_lt] at e2
  omega
theorem zc_nle {x y : Int32} (h : zcI .le x y = false) : zcI .gt x y = true := by
  have e1 := of_decide_eq_false h
  refine decide_eq_true ?_
  rw [Int32.le_iff_toInt_le] at e1
  rw [Int32.lt_iff_toInt_lt]
  omega
theorem zin_of {v a b : Int32} (h : zin v a b = 1) : a ≤ v ∧ v ≤ b := by
  unfold zin at h
  split at h
  · cases h
  · split at h
    · cases h
    · rename_i h1 h2
      have e1 : ¬ v < a := fun z => h1 (decide_eq_true z)
      have e2 : ¬ b < v := fun z => h2 (decide_eq_true z)
      rw [Int32.lt_iff_toInt_lt] at e1 e2
      rw [Int32.le_iff_toInt_le, Int32.le_iff_toInt_le]
      omega
theorem zin_none (v : Int32) : zin v 0 (-1) = 0 := by
  rcases zin_01 v 0 (-1) with h | h
  · exact h
  · have := zin_of h
    rw [Int32.le_iff_toInt_le, Int32.le_iff_toInt_le] at this
    have e1 : (0 : Int32).toInt = 0 := by decide
    have e2 : (-1 : Int32).toInt = -1 := by decide
    omega
/-- a number between 0 and a small bound is one of these -/
theorem zin_lit {v : Int32} {k : Nat} (hk : k < 100) (h : zin v 0 (Int32.ofNat k) = 1) : ∃ j, j ≤ k ∧ v = Int32.ofNat j := by
  have h1 := zin_of h
  rw [Int32.le_iff_toInt_le, Int32.le_iff_toInt_le] at h1
  have e1 : (0 : Int32).toInt = 0 := by decide
  have e2 : (Int32.ofNat k).toInt = k := Int32.toInt_ofNat_of_lt (by omega)
  refine ⟨v.toInt.toNat, by omega, ?_⟩
  refine Int32.toInt_inj.mp ?_
  rw [Int32.toInt_ofNat_of_lt (by omega)]
  omega
theorem zvin {j : Int32} {m : Nat} (h : decide (¬ (j < 0 ∨ m ≤ j.toNatClampNeg)) = true) : vp_in j m := show ¬ (j < 0 ∨ m ≤ j.toNatClampNeg) from of_decide_eq_true h
theorem zr_ialdV {X : zX} {mt : Nat → Option zMe} {call : zCall} {r : zMe} {n pc : Nat} {ls : zL} {rest : List Value} {M : zM} {res : Option (Option Value × zM)} {a m : Nat} {f : Nat → Int32} {j v : Int32} (htb : r.2.2.2.2.2.2.2 pc = some (.iaload, 1)) (ha : a < 1000000) (hob : zob M a = some (.inl (0, m, .inl f))) (hin : vp_in j m) (hv : f j.toNatClampNeg = v) (h : zrun X mt call r n (pc + 1) ls (.int v :: rest) M = res) : zrun X mt call r (n + 1) pc ls (.int j :: .ref a :: rest) M = res := zr_iald htb ha hob hin (by rw [hv]; exact h)
theorem zr_zaldV {X : zX} {mt : Nat → Option zMe} {call : zCall} {r : zMe} {n pc : Nat} {ls : zL} {rest : List Value} {M : zM} {res : Option (Option Value × zM)} {a m : Nat} {f : Nat → Int32} {j v : Int32} (htb : r.2.2.2.2.2.2.2 pc = some (.baload, 1)) (ha : a < 1000000) (hob : zob M a = some (.inl (2, m, .inl f))) (hin : vp_in j m) (hv : f j.toNatClampNeg = v) (h : zrun X mt call r n (pc + 1) ls (.int v :: rest) M = res) : zrun X mt call r (n + 1) pc ls (.int j :: .ref a :: rest) M = res := by
  refine zr_s1 htb rfl rfl rfl ?_ h
  have hz : zstat a = none := by
    unfold zstat
    rw [if_neg (by omega), if_neg (by omega), if_neg (by omega)]
  simp only [zs1, hz, hob]
  rw [if_neg hin, hv]
section ZNEW
variable {X : zX} {call : zCall} {M : zM} {f4 f475 : Nat → Int32}
theorem x_stepsGood {va : Int32} {n : Nat} : zrun X zmt call zm_286 (n + 9) 0 [(0, .int va)] [] M = some (some (.int (zin va 1 20000)), M) := by
  refine zr_s0 rfl rfl rfl rfl ?_
  refine zr_s0 rfl rfl rfl rfl ?_
  refine zr_icmp (t := 16) rfl rfl (fun h2 => ?_) (fun h2 => ?_)
  · refine zr_s0 rfl rfl rfl rfl ?_
    first | exact (zr_ret rfl rfl rfl).trans (congrArg (fun z => some (some (Value.int z), M)) (zin_lt h2).symm) | exact (zr_ret rfl rfl rfl).trans (congrArg (fun z => some (some (Value.int z), M)) (zin_gt h9).symm) | exact (zr_ret rfl rfl rfl).trans (congrArg (fun z => some (some (Value.int z), M)) (zin_1 h2 h9).symm)
  · refine zr_s0 rfl rfl rfl rfl ?_
    refine zr_s0 rfl rfl rfl rfl ?_
    refine zr_icmp (t := 16) rfl rfl (fun h9 => ?_) (fun h9 => ?_)
    · refine zr_s0 rfl rfl rfl rfl ?_
      first | exact (zr_ret rfl rfl rfl).trans (congrArg (fun z => some (some (Value.int z), M)) (zin_lt h2).symm) | exact (zr_ret rfl rfl rfl).trans (congrArg (fun z => some (some (Value.int z), M)) (zin_gt h9).symm) | exact (zr_ret rfl rfl rfl).trans (congrArg (fun z => some (some (Value.int z), M)) (zin_1 h2 h9).symm)
    · refine zr_s0 rfl rfl rfl rfl ?_
      refine zr_s0 rfl rfl rfl rfl ?_
      first | exact (zr_ret rfl rfl rfl).trans (congrArg (fun z => some (some (Value.int z), M)) (zin_lt h2).symm) | exact (zr_ret rfl rfl rfl).trans (congrArg (fun z => some (some (Value.int z), M)) (zin_gt h9).symm) | exact (zr_ret rfl rfl rfl).trans (congrArg (fun z => some (some (Value.int z), M)) (zin_1 h2 h9).symm)
theorem m_isIn {va vb vc : Int32} {n : Nat} : zrun X zmt call zm_456 (n + 9) 0 [(0, .int va), (1, .int vb), (2, .int vc)] [] M = some (some (.int (zin va vb vc)), M) := by
  refine zr_s0 rfl rfl rfl rfl ?_
  refine zr_s0 rfl rfl rfl rfl ?_
  refine zr_icmp (t := 14) rfl rfl (fun h2 => ?_) (fun h2 => ?_)
  · refine zr_s0 rfl rfl rfl rfl ?_
    first | exact (zr_ret rfl rfl rfl).trans (congrArg (fun z => some (some (Value.int z), M)) (zin_lt h2).symm) | exact (zr_ret rfl rfl rfl).trans (congrArg (fun z => some (some (Value.int z), M)) (zin_gt h7).symm) | exact (zr_ret rfl rfl rfl).trans (congrArg (fun z => some (some (Value.int z), M)) (zin_1 h2 h7).symm)
  · refine zr_s0 rfl rfl rfl rfl ?_
    refine zr_s0 rfl rfl rfl rfl ?_
    refine zr_icmp (t := 14) rfl rfl (fun h7 => ?_) (fun h7 => ?_)
    · refine zr_s0 rfl rfl rfl rfl ?_
      first | exact (zr_ret rfl rfl rfl).trans (congrArg (fun z => some (some (Value.int z), M)) (zin_lt h2).symm) | exact (zr_ret rfl rfl rfl).trans (congrArg (fun z => some (some (Value.int z), M)) (zin_gt h7).symm) | exact (zr_ret rfl rfl rfl).trans (congrArg (fun z => some (some (Value.int z), M)) (zin_1 h2 h7).symm)
    · refine zr_s0 rfl rfl rfl rfl ?_
      refine zr_s0 rfl rfl rfl rfl ?_
      first | exact (zr_ret rfl rfl rfl).trans (congrArg (fun z => some (some (Value.int z), M)) (zin_lt h2).symm) | exact (zr_ret rfl rfl rfl).trans (congrArg (fun z => some (some (Value.int z), M)) (zin_gt h7).symm) | exact (zr_ret rfl rfl rfl).trans (congrArg (fun z => some (some (Value.int z), M)) (zin_1 h2 h7).symm)
theorem x_chipWord {va : Int32}(h0 : zob M 0 = some (.inr (11, zf_0)))(h5 : zob M 5 = some (.inr (0, zf_5)))(hh : ∀ v, call 1 [.ref 5, .int v] M = some (some (.int 0), M)) {n : Nat} : zrun X zmt call zm_274 (n + 7) 0 [(0, .ref 0), (1, .int va)] [] M = some (some (.int (-1)), M) := by
  refine zr_s0 rfl rfl rfl rfl ?_
  refine zr_get rfl rfl h0 rfl ?_
  refine zr_s0 rfl rfl rfl rfl ?_
  refine zr_callV rfl rfl rfl rfl (by decide) h5 rfl ⟨Or.inl rfl, rfl, rfl, rfl, rfl, rfl, Nat.le_of_ble_eq_true rfl⟩ (hh _) ?_
  refine zr_if (t := 23) rfl rfl (fun _ => ?_) (fun h => absurd h (by decide))
  refine zr_s0 rfl rfl rfl rfl ?_
  exact zr_ret rfl rfl rfl
theorem x_chipPut {va : Int32}(h0 : zob M 0 = some (.inr (11, zf_0)))(h5 : zob M 5 = some (.inr (0, zf_5)))(hh : ∀ v, call 11 [.ref 5, .int v] M = some (some (.int (-3)), M)) {n : Nat} : zrun X zmt call zm_275 (n + 5) 0 [(0, .ref 0), (1, .int va)] [] M = some (some (.int (-3)), M) := by
  refine zr_s0 rfl rfl rfl rfl ?_
  refine zr_get rfl rfl h0 rfl ?_
  refine zr_s0 rfl rfl rfl rfl ?_
  refine zr_callV rfl rfl rfl rfl (by decide) h5 rfl ⟨Or.inl rfl, rfl, rfl, rfl, rfl, rfl, Nat.le_of_ble_eq_true rfl⟩ (hh _) ?_
  exact zr_ret rfl rfl rfl
theorem x_chipGo0 {va : Int32}(h0 : zob M 0 = some (.inr (11, zf_0)))(h5 : zob M 5 = some (.inr (0, zf_5)))(hs : call 286 [.int va] M = some (some (.int 0), M))(hh : ∀ v, call 12 [.ref 5, .int v] M = some (some (.int (-3)), M)) {n : Nat} : zrun X zmt call zm_276 (n + 5) 0 [(0, .ref 0), (1, .int va)] [] M = some (some (.int (-2)), M) := by
  refine zr_s0 rfl rfl rfl rfl ?_
  refine zr_callS rfl rfl rfl ⟨Or.inl rfl, rfl, rfl, rfl, rfl, Nat.le_of_ble_eq_true rfl⟩ hs ?_
  refine zr_if (t := 18) rfl rfl (fun _ => ?_) (fun h => absurd h (by decide))
  refine zr_s0 rfl rfl rfl rfl ?_
  exact zr_ret rfl rfl rfl
theorem x_chipGo1 {va : Int32}(h0 : zob M 0 = some (.inr (11, zf_0)))(h5 : zob M 5 = some (.inr (0, zf_5)))(hs : call 286 [.int va] M = some (some (.int 1), M))(hh : ∀ v, call 12 [.ref 5, .int v] M = some (some (.int (-3)), M)) {n : Nat} : zrun X zmt call zm_276 (n + 9) 0 [(0, .ref 0), (1, .int va)] [] M = some (some (.int (-3)), M) := by
  refine zr_s0 rfl rfl rfl rfl ?_
  refine zr_callS rfl rfl rfl ⟨Or.inl rfl, rfl, rfl, rfl, rfl, Nat.le_of_ble_eq_true rfl⟩ hs ?_
  refine zr_if (t := 18) rfl rfl (fun h => absurd h (by decide)) (fun _ => ?_)
  refine zr_s0 rfl rfl rfl rfl ?_
  refine zr_get rfl rfl h0 rfl ?_
  refine zr_s0 rfl rfl rfl rfl ?_
  refine zr_callV rfl rfl rfl rfl (by decide) h5 rfl ⟨Or.inl rfl, rfl, rfl, rfl, rfl, rfl, Nat.le_of_ble_eq_true rfl⟩ (hh _) ?_
  refine zr_s0 rfl rfl rfl rfl ?_
  exact zr_ret rfl rfl rfl
def ztold (v : Int32) : Int32 := if zin v 0 7 = 0 then -2 else 0
theorem ztold_0 {v : Int32} (h : zin v 0 7 = 0) : ztold v = -2 := if_pos h
theorem ztold_1 {v : Int32} (h : zin v 0 7 = 1) : ztold v = 0 := by
  unfold ztold
  rw [h]
  rfl
theorem x_tell {va : Int32}(h5 : zob M 5 = some (.inr (0, zf_5))) {n : Nat} : zrun X zmt call zm_15 (n + 10) 0 [(0, .ref 5), (1, .int va)] [] M = some (some (.int (ztold va)), M) := by
  refine zr_s0 rfl rfl rfl rfl ?_
  refine zr_if (t := 10) rfl rfl (fun h1 => ?_) (fun h1 => ?_)
  · refine zr_s0 rfl rfl rfl rfl ?_
    first | exact (zr_ret rfl rfl rfl).trans (congrArg (fun z => some (some (Value.int z), M)) (ztold_0 (zin_lt h1)).symm) | exact (zr_ret rfl rfl rfl).trans (congrArg (fun z => some (some (Value.int z), M)) (ztold_0 (zin_gt (zc_nle h7))).symm)
  · refine zr_s0 rfl rfl rfl rfl ?_
    refine zr_s0 rfl rfl rfl rfl ?_
    refine zr_icmp (t := 13) rfl rfl (fun h7 => ?_) (fun h7 => ?_)
    · refine zr_s0 rfl rfl rfl rfl ?_
      refine zr_get rfl rfl h5 rfl ?_
      refine zr_if (t := 22) rfl rfl (fun h => absurd h (by decide)) (fun _ => ?_)
      refine zr_s0 rfl rfl rfl rfl ?_
      exact (zr_ret rfl rfl rfl).trans (congrArg (fun z => some (some (Value.int z), M)) (ztold_1 (zin_1 h1 (zc_le h7))).symm)
    · refine zr_s0 rfl rfl rfl rfl ?_
      first | exact (zr_ret rfl rfl rfl).trans (congrArg (fun z => some (some (Value.int z), M)) (ztold_0 (zin_lt h1)).symm) | exact (zr_ret rfl rfl rfl).trans (congrArg (fun z => some (some (Value.int z), M)) (ztold_0 (zin_gt (zc_nle h7))).symm)
theorem x_chipTold {va : Int32}(h0 : zob M 0 = some (.inr (11, zf_0)))(h5 : zob M 5 = some (.inr (0, zf_5)))(hh : ∀ v, call 15 [.ref 5, .int v] M = some (some (.int (ztold v)), M)) {n : Nat} : zrun X zmt call zm_277 (n + 5) 0 [(0, .ref 0), (1, .int va)] [] M = some (some (.int (ztold va)), M) := by
  refine zr_s0 rfl rfl rfl rfl ?_
  refine zr_get rfl rfl h0 rfl ?_
  refine zr_s0 rfl rfl rfl rfl ?_
  refine zr_callV rfl rfl rfl rfl (by decide) h5 rfl ⟨Or.inl rfl, rfl, rfl, rfl, rfl, rfl, Nat.le_of_ble_eq_true rfl⟩ (hh _) ?_
  exact zr_reti rfl rfl
theorem x_cellOf {va : Int32}(h9 : zob M 9 = some (.inr (8, zf_9))) {n : Nat} : zrun X zmt call zm_180 (n + 11) 0 [(0, .ref 9), (1, .int 0), (2, .int va)] [] M = some (some (.int 0), M) := by
  refine zr_s0 rfl rfl rfl rfl ?_
  refine zr_s0 (pc' := 40) rfl rfl rfl rfl ?_
  refine zr_s0 rfl rfl rfl rfl ?_
  refine zr_if (t := 52) rfl rfl (fun h41 => ?_) (fun h41 => ?_)
  · refine zr_s0 rfl rfl rfl rfl ?_
    refine zr_s0 rfl rfl rfl rfl ?_
    exact zr_ret rfl rfl rfl
  · refine zr_s0 rfl rfl rfl rfl ?_
    refine zr_s0 rfl rfl rfl rfl ?_
    refine zr_get rfl rfl h9 rfl ?_
    refine zr_icmp (t := 56) rfl rfl (fun h => Bool.noConfusion (h41.symm.trans h)) (fun h49 => ?_)
    refine zr_s0 rfl rfl rfl rfl ?_
    refine zr_s0 rfl rfl rfl rfl ?_
    exact zr_ret rfl rfl rfl
theorem x_chipCell {va : Int32}(h0 : zob M 0 = some (.inr (11, zf_0)))(h5 : zob M 5 = some (.inr (0, zf_5)))(h9 : zob M 9 = some (.inr (8, zf_9)))(hh : ∀ v, call 180 [.ref 9, .int 0, .int v] M = some (some (.int 0), M)) {n : Nat} : zrun X zmt call zm_278 (n + 7) 0 [(0, .ref 0), (1, .int va)] [] M = some (some (.int 0), M) := by
  refine zr_s0 rfl rfl rfl rfl ?_
  refine zr_get rfl rfl h0 rfl ?_
  refine zr_get rfl rfl h5 rfl ?_
  refine zr_s0 rfl rfl rfl rfl ?_
  refine zr_s0 rfl rfl rfl rfl ?_
  refine zr_callV rfl rfl rfl rfl (by decide) h9 rfl ⟨Or.inl rfl, rfl, rfl, rfl, rfl, rfl, Nat.le_of_ble_eq_true rfl⟩ (hh _) ?_
  exact zr_ret rfl rfl rfl
theorem x_chipByte {va : Int32}(h0 : zob M 0 = some (.inr (11, zf_0)))(h5 : zob M 5 = some (.inr (0, zf_5))) {n : Nat} : zrun X zmt call zm_279 (n + 6) 0 [(0, .ref 0), (1, .int va)] [] M = some (some (.int (-1)), M) := by
  refine zr_s0 rfl rfl rfl rfl ?_
  refine zr_get rfl rfl h0 rfl ?_
  refine zr_get rfl rfl h5 rfl ?_
  refine zr_if (t := 26) rfl rfl (fun _ => ?_) (fun h => absurd h (by decide))
  refine zr_s0 rfl rfl rfl rfl ?_
  exact zr_ret rfl rfl rfl
def zag (s i : Int32) : Int32 := if zin s 0 0 = 0 then -2 else if zin i 0 1 = 0 then -2 else -1
theorem zag_0 {s i : Int32} (h : zin s 0 0 = 0) : zag s i = -2 := if_pos h
theorem zag_1 {s i : Int32} (h : zin i 0 1 = 0) : zag s i = -2 := by
  unfold zag
  rw [if_pos h, ite_self]
theorem zag_2 {s i : Int32} (h : zin s 0 0 = 1) (h2 : zin i 0 1 = 1) : zag s i = -1 := by
  unfold zag
  rw [h, h2]
  rfl
theorem zc_ngt {x y : Int32} (h : zcI .lt x (y + 1) = false) (hy : y = 1) : zcI .gt x y = true := by
  subst hy
  have e1 := of_decide_eq_false h
  refine decide_eq_true ?_
  rw [Int32.lt_iff_toInt_lt] at e1 ⊢
  have e2 : (1 + 1 : Int32).toInt = 2 := by decide
  have e3 : (1 : Int32).toInt = 1 := by decide
  omega
theorem x_again0 {va : Int32}(h0 : zob M 0 = some (.inr (11, zf_0)))(h4 : zob M 4 = some (.inl (2, 2, .inl f4)))(h40 : f4 0 = 0)(h41 : f4 1 = 0) {n : Nat} : zrun X zmt call zm_282 (n + 18) 0 [(0, .ref 0), (1, .int va), (2, .int 0)] [] M = some (some (.int (zag va 0)), M) := by
  refine zr_s0 rfl rfl rfl rfl ?_
  refine zr_if (t := 21) rfl rfl (fun h1 => ?_) (fun h1 => ?_)
  · refine zr_s0 rfl rfl rfl rfl ?_
    first | exact (zr_ret rfl rfl rfl).trans (congrArg (fun z => some (some (Value.int z), M)) (zag_0 (zin_lt h1)).symm) | exact (zr_ret rfl rfl rfl).trans (congrArg (fun z => some (some (Value.int z), M)) (zag_0 (zin_gt h9)).symm)
  · refine zr_s0 rfl rfl rfl rfl ?_
    refine zr_s0 rfl rfl rfl rfl ?_
    refine zr_get rfl rfl h0 rfl ?_
    refine zr_icmp (t := 21) rfl rfl (fun h9 => ?_) (fun h9 => ?_)
    · refine zr_s0 rfl rfl rfl rfl ?_
      first | exact (zr_ret rfl rfl rfl).trans (congrArg (fun z => some (some (Value.int z), M)) (zag_0 (zin_lt h1)).symm) | exact (zr_ret rfl rfl rfl).trans (congrArg (fun z => some (some (Value.int z), M)) (zag_0 (zin_gt h9)).symm)
    · refine zr_s0 rfl rfl rfl rfl ?_
      refine zr_if (t := 21) rfl rfl (fun h => absurd h (by decide)) (fun _ => ?_)
      refine zr_s0 rfl rfl rfl rfl ?_
      refine zr_s0 rfl rfl rfl rfl ?_
      refine zr_icmp (t := 24) rfl rfl (fun _ => ?_) (fun h => absurd h (by decide))
      refine zr_s0 rfl rfl rfl rfl ?_
      refine zr_get rfl rfl h0 rfl ?_
      refine zr_s0 rfl rfl rfl rfl ?_
      refine zr_zaldV rfl (by decide) h4 (zvin (by decide)) h40 ?_
      refine zr_if (t := 35) rfl rfl (fun h => absurd h (by decide)) (fun _ => ?_)
      refine zr_s0 rfl rfl rfl rfl ?_
      exact (zr_ret rfl rfl rfl).trans (congrArg (fun z => some (some (Value.int z), M)) (zag_2 (zin_1 h1 h9) (by decide)).symm)
theorem x_again1 {va : Int32}(h0 : zob M 0 = some (.inr (11, zf_0)))(h4 : zob M 4 = some (.inl (2, 2, .inl f4)))(h40 : f4 0 = 0)(h41 : f4 1 = 0) {n : Nat} : zrun X zmt call zm_282 (n + 18) 0 [(0, .ref 0), (1, .int va), (2, .int 1)] [] M = some (some (.int (zag va 1)), M) := by
  refine zr_s0 rfl rfl rfl rfl ?_
  refine zr_if (t := 21) rfl rfl (fun h1 => ?_) (fun h1 => ?_)
  · refine zr_s0 rfl rfl rfl rfl ?_
    first | exact (zr_ret rfl rfl rfl).trans (congrArg (fun z => some (some (Value.int z), M)) (zag_0 (zin_lt h1)).symm) | exact (zr_ret rfl rfl rfl).trans (congrArg (fun z => some (some (Value.int z), M)) (zag_0 (zin_gt h9)).symm)
  · refine zr_s0 rfl rfl rfl rfl ?_
    refine zr_s0 rfl rfl rfl rfl ?_
    refine zr_get rfl rfl h0 rfl ?_
    refine zr_icmp (t := 21) rfl rfl (fun h9 => ?_) (fun h9 => ?_)
    · refine zr_s0 rfl rfl rfl rfl ?_
      first | exact (zr_ret rfl rfl rfl).trans (congrArg (fun z => some (some (Value.int z), M)) (zag_0 (zin_lt h1)).symm) | exact (zr_ret rfl rfl rfl).trans (congrArg (fun z => some (some (Value.int z), M)) (zag_0 (zin_gt h9)).symm)
    · refine zr_s0 rfl rfl rfl rfl ?_
      refine zr_if (t := 21) rfl rfl (fun h => absurd h (by decide)) (fun _ => ?_)
      refine zr_s0 rfl rfl rfl rfl ?_
      refine zr_s0 rfl rfl rfl rfl ?_
      refine zr_icmp (t := 24) rfl rfl (fun _ => ?_) (fun h => absurd h (by decide))
      refine zr_s0 rfl rfl rfl rfl ?_
      refine zr_get rfl rfl h0 rfl ?_
      refine zr_s0 rfl rfl rfl rfl ?_
      refine zr_zaldV rfl (by decide) h4 (zvin (by decide)) h41 ?_
      refine zr_if (t := 35) rfl rfl (fun h => absurd h (by decide)) (fun _ => ?_)
      refine zr_s0 rfl rfl rfl rfl ?_
      exact (zr_ret rfl rfl rfl).trans (congrArg (fun z => some (some (Value.int z), M)) (zag_2 (zin_1 h1 h9) (by decide)).symm)
theorem zc_lt2 {x : Int32} (h : zcI .lt x 2 = true) : zcI .gt x 1 = false := by
  have e1 : x < 2 := of_decide_eq_true h
  refine decide_eq_false (fun e2 => ?_)
  have e2 : (1 : Int32) < x := e2
  rw [Int32.lt_iff_toInt_lt] at e1 e2
  have e3 : (2 : Int32).toInt = 2 := by decide
  have e4 : (1 : Int32).toInt = 1 := by decide
  omega
theorem x_againB {va vb : Int32}(h0 : zob M 0 = some (.inr (11, zf_0)))(hi : zin vb 0 1 = 0) {n : Nat} : zrun X zmt call zm_282 (n + 13) 0 [(0, .ref 0), (1, .int va), (2, .int vb)] [] M = some (some (.int (-2)), M) := by
  refine zr_s0 rfl rfl rfl rfl ?_
  refine zr_if (t := 21) rfl rfl (fun h1 => ?_) (fun h1 => ?_)
  · refine zr_s0 rfl rfl rfl rfl ?_
    exact zr_ret rfl rfl rfl
  · refine zr_s0 rfl rfl rfl rfl ?_
    refine zr_s0 rfl rfl rfl rfl ?_
    refine zr_get rfl rfl h0 rfl ?_
    refine zr_icmp (t := 21) rfl rfl (fun h9 => ?_) (fun h9 => ?_)
    · refine zr_s0 rfl rfl rfl rfl ?_
      exact zr_ret rfl rfl rfl
    · refine zr_s0 rfl rfl rfl rfl ?_
      refine zr_if (t := 21) rfl rfl (fun h13 => ?_) (fun h13 => ?_)
      · refine zr_s0 rfl rfl rfl rfl ?_
        exact zr_ret rfl rfl rfl
      · refine zr_s0 rfl rfl rfl rfl ?_
        refine zr_s0 rfl rfl rfl rfl ?_
        refine zr_icmp (t := 24) rfl rfl (fun h => absurd (zin_1 h13 (zc_lt2 h)) (by rw [hi]; decide)) (fun h18 => ?_)
        refine zr_s0 rfl rfl rfl rfl ?_
        exact zr_ret rfl rfl rfl
theorem m_wipe (h474 : zob M 474 = some (.inr (12, zf_474))) {n : Nat} : zrun X zmt call zm_459 (n + 8) 0 [(0, .ref 474)] [] M = some (some (.int 0), M) := by
  refine zr_s0 rfl rfl rfl rfl ?_
  refine zr_get rfl rfl h474 rfl ?_
  refine zr_s0 rfl rfl rfl rfl ?_
  refine zr_s0 rfl rfl rfl rfl ?_
  refine zr_s0 rfl rfl rfl rfl ?_
  refine zr_putS rfl rfl h474 rfl ⟨Nat.le_of_ble_eq_true rfl, Nat.le_of_ble_eq_true rfl, zfit_int _, Or.inl rfl⟩ rfl ?_
  refine zr_s0 rfl rfl rfl rfl ?_
  exact zr_ret rfl rfl rfl
theorem m_copyTape (h474 : zob M 474 = some (.inr (12, zf_474))) {n : Nat} : zrun X zmt call zm_460 (n + 14) 0 [(0, .ref 474)] [] M = some (none, M) := by
  refine zr_s0 rfl rfl rfl rfl ?_
  refine zr_s0 rfl rfl rfl rfl ?_
  refine zr_s0 rfl rfl rfl rfl ?_
  refine zr_s0 rfl rfl rfl rfl ?_
  refine zr_get rfl rfl h474 rfl ?_
  refine zr_icmp (t := 32) rfl rfl (fun _ => ?_) (fun h => absurd h (by decide))
  refine zr_s0 rfl rfl rfl rfl ?_
  refine zr_s0 rfl rfl rfl rfl ?_
  refine zr_get rfl rfl h474 rfl ?_
  refine zr_putS rfl rfl h474 rfl ⟨Nat.le_of_ble_eq_true rfl, Nat.le_of_ble_eq_true rfl, zfit_int _, Or.inl rfl⟩ rfl ?_
  refine zr_s0 rfl rfl rfl rfl ?_
  refine zr_s0 rfl rfl rfl rfl ?_
  refine zr_putS rfl rfl h474 rfl ⟨Nat.le_of_ble_eq_true rfl, Nat.le_of_ble_eq_true rfl, zfit_int _, Or.inl rfl⟩ rfl ?_
  exact zr_ret rfl rfl rfl
theorem m_isSystem_0 (h474 : zob M 474 = some (.inr (12, zf_474)))(h475 : zob M 475 = some (.inl (0, 238220, .inl f475)))(hu0 : f475 35 = 0)(hu1 : f475 39735 = 0)(hu2 : f475 79435 = 0)(hu3 : f475 119135 = 0)(hu4 : f475 158835 = 0)(hi : call 456 [.int 0, .int 0, .int 2] M = some (some (.int 1), M)) {n : Nat} : zrun X zmt call zm_457 (n + 17) 0 [(0, .ref 474), (1, .int 0)] [] M = some (some (.int 0), M) := by
  refine zr_s0 rfl rfl rfl rfl ?_
  refine zr_s0 rfl rfl rfl rfl ?_
  refine zr_s0 rfl rfl rfl rfl ?_
  refine zr_callS rfl rfl rfl ⟨Or.inl rfl, rfl, rfl, rfl, rfl, Nat.le_of_ble_eq_true rfl⟩ hi ?_
  refine zr_if (t := 30) rfl rfl (fun h => absurd h (by decide)) (fun _ => ?_)
  refine zr_s0 rfl rfl rfl rfl ?_
  refine zr_get rfl rfl h474 rfl ?_
  refine zr_s1 rfl rfl rfl rfl rfl ?_
  refine zr_s0 rfl rfl rfl rfl ?_
  refine zr_s0 rfl rfl rfl rfl ?_
  refine zr_s0 rfl rfl rfl rfl ?_
  refine zr_s0 rfl rfl rfl rfl ?_
  refine zr_ialdV rfl (by decide) h475 (zvin (by decide)) hu0 ?_
  refine zr_s0 rfl rfl rfl rfl ?_
  refine zr_icmp (t := 30) rfl rfl (fun _ => ?_) (fun h => absurd h (by decide))
  refine zr_s0 rfl rfl rfl rfl ?_
  exact zr_ret rfl rfl rfl
theorem m_isSystem_1 (h474 : zob M 474 = some (.inr (12, zf_474)))(h475 : zob M 475 = some (.inl (0, 238220, .inl f475)))(hu0 : f475 35 = 0)(hu1 : f475 39735 = 0)(hu2 : f475 79435 = 0)(hu3 : f475 119135 = 0)(hu4 : f475 158835 = 0)(hi : call 456 [.int 1, .int 0, .int 2] M = some (some (.int 1), M)) {n : Nat} : zrun X zmt call zm_457 (n + 17) 0 [(0, .ref 474), (1, .int 1)] [] M = some (some (.int 0), M) := by
  refine zr_s0 rfl rfl rfl rfl ?_
  refine zr_s0 rfl rfl rfl rfl ?_
  refine zr_s0 rfl rfl rfl rfl ?_
  refine zr_callS rfl rfl rfl ⟨Or.inl rfl, rfl, rfl, rfl, rfl, Nat.le_of_ble_eq_true rfl⟩ hi ?_
  refine zr_if (t := 30) rfl rfl (fun h => absurd h (by decide)) (fun _ => ?_)
  refine zr_s0 rfl rfl rfl rfl ?_
  refine zr_get rfl rfl h474 rfl ?_
  refine zr_s1 rfl rfl rfl rfl rfl ?_
  refine zr_s0 rfl rfl rfl rfl ?_
  refine zr_s0 rfl rfl rfl rfl ?_
  refine zr_s0 rfl rfl rfl rfl ?_
  refine zr_s0 rfl rfl rfl rfl ?_
  refine zr_ialdV rfl (by decide) h475 (zvin (by decide)) hu1 ?_
  refine zr_s0 rfl rfl rfl rfl ?_
  refine zr_icmp (t := 30) rfl rfl (fun _ => ?_) (fun h => absurd h (by decide))
  refine zr_s0 rfl rfl rfl rfl ?_
  exact zr_ret rfl rfl rfl
theorem m_isSystem_2 (h474 : zob M 474 = some (.inr (12, zf_474)))(h475 : zob M 475 = some (.inl (0, 238220, .inl f475)))(hu0 : f475 35 = 0)(hu1 : f475 39735 = 0)(hu2 : f475 79435 = 0)(hu3 : f475 119135 = 0)(hu4 : f475 158835 = 0)(hi : call 456 [.int 2, .int 0, .int 2] M = some (some (.int 1), M)) {n : Nat} : zrun X zmt call zm_457 (n + 17) 0 [(0, .ref 474), (1, .int 2)] [] M = some (some (.int 0), M) := by
  refine zr_s0 rfl rfl rfl rfl ?_
  refine zr_s0 rfl rfl rfl rfl ?_
  refine zr_s0 rfl rfl rfl rfl ?_
  refine zr_callS rfl rfl rfl ⟨Or.inl rfl, rfl, rfl, rfl, rfl, Nat.le_of_ble_eq_true rfl⟩ hi ?_
  refine zr_if (t := 30) rfl rfl (fun h => absurd h (by decide)) (fun _ => ?_)
  refine zr_s0 rfl rfl rfl rfl ?_
  refine zr_get rfl rfl h474 rfl ?_
  refine zr_s1 rfl rfl rfl rfl rfl ?_
  refine zr_s0 rfl rfl rfl rfl ?_
  refine zr_s0 rfl rfl rfl rfl ?_
  refine zr_s0 rfl rfl rfl rfl ?_
  refine zr_s0 rfl rfl rfl rfl ?_
  refine zr_ialdV rfl (by decide) h475 (zvin (by decide)) hu2 ?_
  refine zr_s0 rfl rfl rfl rfl ?_
  refine zr_icmp (t := 30) rfl rfl (fun _ => ?_) (fun h => absurd h (by decide))
  refine zr_s0 rfl rfl rfl rfl ?_
  exact zr_ret rfl rfl rfl
theorem m_isSystemB {va : Int32}(h474 : zob M 474 = some (.inr (12, zf_474)))(hi : call 456 [.int va, .int 0, .int 2] M = some (some (.int 0), M)) {n : Nat} : zrun X zmt call zm_457 (n + 7) 0 [(0, .ref 474), (1, .int va)] [] M = some (some (.int 0), M) := by
  refine zr_s0 rfl rfl rfl rfl ?_
  refine zr_s0 rfl rfl rfl rfl ?_
  refine zr_s0 rfl rfl rfl rfl ?_
  refine zr_callS rfl rfl rfl ⟨Or.inl rfl, rfl, rfl, rfl, rfl, Nat.le_of_ble_eq_true rfl⟩ hi ?_
  refine zr_if (t := 30) rfl rfl (fun _ => ?_) (fun h => absurd h (by decide))
  refine zr_s0 rfl rfl rfl rfl ?_
  exact zr_ret rfl rfl rfl
theorem m_systems (h474 : zob M 474 = some (.inr (12, zf_474)))(h475 : zob M 475 = some (.inl (0, 238220, .inl f475)))(hu0 : f475 35 = 0)(hu1 : f475 39735 = 0)(hu2 : f475 79435 = 0)(hu3 : f475 119135 = 0)(hu4 : f475 158835 = 0) {n : Nat} : zrun X zmt call zm_461 (n + 57) 0 [(0, .ref 474)] [] M = some (some (.int 0), M) := by
  refine zr_s0 rfl rfl rfl rfl ?_
  refine zr_s0 rfl rfl rfl rfl ?_
  refine zr_s0 rfl rfl rfl rfl ?_
  refine zr_s0 rfl rfl rfl rfl ?_
  refine zr_s0 rfl rfl rfl rfl ?_
  refine zr_s0 rfl rfl rfl rfl ?_
  refine zr_icmp (t := 31) rfl rfl (fun h => absurd h (by decide)) (fun _ => ?_)
  refine zr_s0 rfl rfl rfl rfl ?_
  refine zr_s0 rfl rfl rfl rfl ?_
  refine zr_get rfl rfl h474 rfl ?_
  refine zr_s1 rfl rfl rfl rfl rfl ?_
  refine zr_s0 rfl rfl rfl rfl ?_
  refine zr_s0 rfl rfl rfl rfl ?_
  refine zr_s0 rfl rfl rfl rfl ?_
  refine zr_s0 rfl rfl rfl rfl ?_
  refine zr_ialdV rfl (by decide) h475 (zvin (by decide)) hu0 ?_
  refine zr_s0 rfl rfl rfl rfl ?_
  refine zr_s0 rfl rfl rfl rfl ?_
  refine zr_s0 rfl rfl rfl rfl ?_
  refine zr_s0 rfl rfl rfl rfl ?_
  refine zr_s0 rfl rfl rfl rfl ?_
  refine zr_s0 rfl rfl rfl rfl ?_
  refine zr_icmp (t := 31) rfl rfl (fun h => absurd h (by decide)) (fun _ => ?_)
  refine zr_s0 rfl rfl rfl rfl ?_
  refine zr_s0 rfl rfl rfl rfl ?_
  refine zr_get rfl rfl h474 rfl ?_
  refine zr_s1 rfl rfl rfl rfl rfl ?_
  refine zr_s0 rfl rfl rfl rfl ?_
  refine zr_s0 rfl rfl rfl rfl ?_
  refine zr_s0 rfl rfl rfl rfl ?_
  refine zr_s0 rfl rfl rfl rfl ?_
  refine zr_ialdV rfl (by decide) h475 (zvin (by decide)) hu1 ?_
  refine zr_s0 rfl rfl rfl rfl ?_
  refine zr_s0 rfl rfl rfl rfl ?_
  refine zr_s0 rfl rfl rfl rfl ?_
  refine zr_s0 rfl rfl rfl rfl ?_
  refine zr_s0 rfl rfl rfl rfl ?_
  refine zr_s0 rfl rfl rfl rfl ?_
  refine zr_icmp (t := 31) rfl rfl (fun h => absurd h (by decide)) (fun _ => ?_)
  refine zr_s0 rfl rfl rfl rfl ?_
  refine zr_s0 rfl rfl rfl rfl ?_
  refine zr_get rfl rfl h474 rfl ?_
  refine zr_s1 rfl rfl rfl rfl rfl ?_
  refine zr_s0 rfl rfl rfl rfl ?_
  refine zr_s0 rfl rfl rfl rfl ?_
  refine zr_s0 rfl rfl rfl rfl ?_
  refine zr_s0 rfl rfl rfl rfl ?_
  refine zr_ialdV rfl (by decide) h475 (zvin (by decide)) hu2 ?_
  refine zr_s0 rfl rfl rfl rfl ?_
  refine zr_s0 rfl rfl rfl rfl ?_
  refine zr_s0 rfl rfl rfl rfl ?_
  refine zr_s0 rfl rfl rfl rfl ?_
  refine zr_s0 rfl rfl rfl rfl ?_
  refine zr_s0 rfl rfl rfl rfl ?_
  refine zr_icmp (t := 31) rfl rfl (fun _ => ?_) (fun h => absurd h (by decide))
  refine zr_s0 rfl rfl rfl rfl ?_
  exact zr_ret rfl rfl rfl
theorem m_isOf {va vb : Int32}(h474 : zob M 474 = some (.inr (12, zf_474)))(hsys : ∀ v, call 457 [.ref 474, .int v] M = some (some (.int 0), M)) {n : Nat} : zrun X zmt call zm_473 (n + 6) 0 [(0, .ref 474), (1, .int va), (2, .int vb)] [] M = some (some (.int 0), M) := by
  refine zr_s0 rfl rfl rfl rfl ?_
  refine zr_s0 rfl rfl rfl rfl ?_
  refine zr_callV rfl rfl rfl rfl (by decide) h474 rfl ⟨Or.inl rfl, rfl, rfl, rfl, rfl, rfl, Nat.le_of_ble_eq_true rfl⟩ (hsys _) ?_
  refine zr_if (t := 34) rfl rfl (fun _ => ?_) (fun h => absurd h (by decide))
  refine zr_s0 rfl rfl rfl rfl ?_
  exact zr_ret rfl rfl rfl
theorem m_isEnded {va vb : Int32}(h474 : zob M 474 = some (.inr (12, zf_474)))(hof : ∀ v w, call 473 [.ref 474, .int v, .int w] M = some (some (.int 0), M)) {n : Nat} : zrun X zmt call zm_477 (n + 7) 0 [(0, .ref 474), (1, .int va), (2, .int vb)] [] M = some (some (.int 0), M) := by
  refine zr_s0 rfl rfl rfl rfl ?_
  refine zr_s0 rfl rfl rfl rfl ?_
  refine zr_s0 rfl rfl rfl rfl ?_
  refine zr_callV rfl rfl rfl rfl (by decide) h474 rfl ⟨Or.inl rfl, rfl, rfl, rfl, rfl, rfl, Nat.le_of_ble_eq_true rfl⟩ (hof _ _) ?_
  refine zr_if (t := 63) rfl rfl (fun _ => ?_) (fun h => absurd h (by decide))
  refine zr_s0 rfl rfl rfl rfl ?_
  exact zr_ret rfl rfl rfl
theorem m_evaluate {va vb : Int32}(h474 : zob M 474 = some (.inr (12, zf_474)))(hsys : ∀ v, call 457 [.ref 474, .int v] M = some (some (.int 0), M))(hct : call 460 [.ref 474] M = some (none, M))(hof : ∀ v w, call 473 [.ref 474, .int v, .int w] M = some (some (.int 0), M))(hen : ∀ v w, call 477 [.ref 474, .int v, .int w] M = some (some (.int 0), M)) {n : Nat} : zrun X zmt call zm_463 (n + 8) 0 [(0, .ref 474), (1, .int va), (2, .int vb)] [] M = some (some (.int (-2)), M) := by
  refine zr_s0 rfl rfl rfl rfl ?_
  refine zr_callV rfl rfl rfl rfl (by decide) h474 rfl ⟨Or.inl rfl, rfl, rfl, rfl, rfl, rfl, Nat.le_of_ble_eq_true rfl⟩ hct ?_
  refine zr_s0 rfl rfl rfl rfl ?_
  refine zr_s0 rfl rfl rfl rfl ?_
  refine zr_callV rfl rfl rfl rfl (by decide) h474 rfl ⟨Or.inl rfl, rfl, rfl, rfl, rfl, rfl, Nat.le_of_ble_eq_true rfl⟩ (hsys _) ?_
  refine zr_if (t := 23) rfl rfl (fun _ => ?_) (fun h => absurd h (by decide))
  refine zr_s0 rfl rfl rfl rfl ?_
  exact zr_ret rfl rfl rfl
theorem m_go {va vb : Int32}(h474 : zob M 474 = some (.inr (12, zf_474)))(hsys : ∀ v, call 457 [.ref 474, .int v] M = some (some (.int 0), M))(hct : call 460 [.ref 474] M = some (none, M))(hof : ∀ v w, call 473 [.ref 474, .int v, .int w] M = some (some (.int 0), M))(hen : ∀ v w, call 477 [.ref 474, .int v, .int w] M = some (some (.int 0), M)) {n : Nat} : zrun X zmt call zm_464 (n + 6) 0 [(0, .ref 474), (1, .int va), (2, .int vb)] [] M = some (some (.int (-2)), M) := by
  refine zr_s0 rfl rfl rfl rfl ?_
  refine zr_s0 rfl rfl rfl rfl ?_
  refine zr_callV rfl rfl rfl rfl (by decide) h474 rfl ⟨Or.inl rfl, rfl, rfl, rfl, rfl, rfl, Nat.le_of_ble_eq_true rfl⟩ (hsys _) ?_
  refine zr_if (t := 19) rfl rfl (fun _ => ?_) (fun h => absurd h (by decide))
  refine zr_s0 rfl rfl rfl rfl ?_
  exact zr_ret rfl rfl rfl
theorem m_out {va vb : Int32}(h474 : zob M 474 = some (.inr (12, zf_474)))(hsys : ∀ v, call 457 [.ref 474, .int v] M = some (some (.int 0), M))(hct : call 460 [.ref 474] M = some (none, M))(hof : ∀ v w, call 473 [.ref 474, .int v, .int w] M = some (some (.int 0), M))(hen : ∀ v w, call 477 [.ref 474, .int v, .int w] M = some (some (.int 0), M)) {n : Nat} : zrun X zmt call zm_465 (n + 6) 0 [(0, .ref 474), (1, .int va), (2, .int vb)] [] M = some (some (.int (-2)), M) := by
  refine zr_s0 rfl rfl rfl rfl ?_
  refine zr_s0 rfl rfl rfl rfl ?_
  refine zr_callV rfl rfl rfl rfl (by decide) h474 rfl ⟨Or.inl rfl, rfl, rfl, rfl, rfl, rfl, Nat.le_of_ble_eq_true rfl⟩ (hsys _) ?_
  refine zr_if (t := 11) rfl rfl (fun h => absurd h (by decide)) (fun _ => ?_)
  refine zr_s0 rfl rfl rfl rfl ?_
  exact zr_ret rfl rfl rfl
theorem m_count {va vb : Int32}(h474 : zob M 474 = some (.inr (12, zf_474)))(hsys : ∀ v, call 457 [.ref 474, .int v] M = some (some (.int 0), M))(hct : call 460 [.ref 474] M = some (none, M))(hof : ∀ v w, call 473 [.ref 474, .int v, .int w] M = some (some (.int 0), M))(hen : ∀ v w, call 477 [.ref 474, .int v, .int w] M = some (some (.int 0), M)) {n : Nat} : zrun X zmt call zm_466 (n + 6) 0 [(0, .ref 474), (1, .int va), (2, .int vb)] [] M = some (some (.int (-2)), M) := by
  refine zr_s0 rfl rfl rfl rfl ?_
  refine zr_s0 rfl rfl rfl rfl ?_
  refine zr_callV rfl rfl rfl rfl (by decide) h474 rfl ⟨Or.inl rfl, rfl, rfl, rfl, rfl, rfl, Nat.le_of_ble_eq_true rfl⟩ (hsys _) ?_
  refine zr_if (t := 18) rfl rfl (fun _ => ?_) (fun h => absurd h (by decide))
  refine zr_s0 rfl rfl rfl rfl ?_
  exact zr_ret rfl rfl rfl
theorem m_thrown {va vb : Int32}(h474 : zob M 474 = some (.inr (12, zf_474)))(hsys : ∀ v, call 457 [.ref 474, .int v] M = some (some (.int 0), M))(hct : call 460 [.ref 474] M = some (none, M))(hof : ∀ v w, call 473 [.ref 474, .int v, .int w] M = some (some (.int 0), M))(hen : ∀ v w, call 477 [.ref 474, .int v, .int w] M = some (some (.int 0), M)) {n : Nat} : zrun X zmt call zm_467 (n + 6) 0 [(0, .ref 474), (1, .int va), (2, .int vb)] [] M = some (some (.int (-2)), M) := by
  refine zr_s0 rfl rfl rfl rfl ?_
  refine zr_s0 rfl rfl rfl rfl ?_
  refine zr_callV rfl rfl rfl rfl (by decide) h474 rfl ⟨Or.inl rfl, rfl, rfl, rfl, rfl, rfl, Nat.le_of_ble_eq_true rfl⟩ (hsys _) ?_
  refine zr_if (t := 17) rfl rfl (fun _ => ?_) (fun h => absurd h (by decide))
  refine zr_s0 rfl rfl rfl rfl ?_
  exact zr_ret rfl rfl rfl
theorem m_depth {va vb vc : Int32}(h474 : zob M 474 = some (.inr (12, zf_474)))(hsys : ∀ v, call 457 [.ref 474, .int v] M = some (some (.int 0), M))(hct : call 460 [.ref 474] M = some (none, M))(hof : ∀ v w, call 473 [.ref 474, .int v, .int w] M = some (some (.int 0), M))(hen : ∀ v w, call 477 [.ref 474, .int v, .int w] M = some (some (.int 0), M)) {n : Nat} : zrun X zmt call zm_468 (n + 6) 0 [(0, .ref 474), (1, .int va), (2, .int vb), (3, .int vc)] [] M = some (some (.int (-2)), M) := by
  refine zr_s0 rfl rfl rfl rfl ?_
  refine zr_s0 rfl rfl rfl rfl ?_
  refine zr_callV rfl rfl rfl rfl (by decide) h474 rfl ⟨Or.inl rfl, rfl, rfl, rfl, rfl, rfl, Nat.le_of_ble_eq_true rfl⟩ (hsys _) ?_
  refine zr_if (t := 26) rfl rfl (fun _ => ?_) (fun h => absurd h (by decide))
  refine zr_s0 rfl rfl rfl rfl ?_
  exact zr_ret rfl rfl rfl
theorem m_cell {va vb vc vd : Int32}(h474 : zob M 474 = some (.inr (12, zf_474)))(hsys : ∀ v, call 457 [.ref 474, .int v] M = some (some (.int 0), M))(hct : call 460 [.ref 474] M = some (none, M))(hof : ∀ v w, call 473 [.ref 474, .int v, .int w] M = some (some (.int 0), M))(hen : ∀ v w, call 477 [.ref 474, .int v, .int w] M = some (some (.int 0), M)) {n : Nat} : zrun X zmt call zm_469 (n + 6) 0 [(0, .ref 474), (1, .int va), (2, .int vb), (3, .int vc), (4, .int vd)] [] M = some (some (.int (-2)), M) := by
  refine zr_s0 rfl rfl rfl rfl ?_
  refine zr_s0 rfl rfl rfl rfl ?_
  refine zr_callV rfl rfl rfl rfl (by decide) h474 rfl ⟨Or.inl rfl, rfl, rfl, rfl, rfl, rfl, Nat.le_of_ble_eq_true rfl⟩ (hsys _) ?_
  refine zr_if (t := 31) rfl rfl (fun _ => ?_) (fun h => absurd h (by decide))
  refine zr_s0 rfl rfl rfl rfl ?_
  exact zr_ret rfl rfl rfl
theorem m_task {va vb : Int32}(h474 : zob M 474 = some (.inr (12, zf_474)))(hsys : ∀ v, call 457 [.ref 474, .int v] M = some (some (.int 0), M))(hct : call 460 [.ref 474] M = some (none, M))(hof : ∀ v w, call 473 [.ref 474, .int v, .int w] M = some (some (.int 0), M))(hen : ∀ v w, call 477 [.ref 474, .int v, .int w] M = some (some (.int 0), M)) {n : Nat} : zrun X zmt call zm_470 (n + 6) 0 [(0, .ref 474), (1, .int va), (2, .int vb)] [] M = some (some (.int (-2)), M) := by
  refine zr_s0 rfl rfl rfl rfl ?_
  refine zr_s0 rfl rfl rfl rfl ?_
  refine zr_callV rfl rfl rfl rfl (by decide) h474 rfl ⟨Or.inl rfl, rfl, rfl, rfl, rfl, rfl, Nat.le_of_ble_eq_true rfl⟩ (hsys _) ?_
  refine zr_if (t := 17) rfl rfl (fun _ => ?_) (fun h => absurd h (by decide))
  refine zr_s0 rfl rfl rfl rfl ?_
  exact zr_ret rfl rfl rfl
theorem m_fetch {va vb vc : Int32}(h474 : zob M 474 = some (.inr (12, zf_474)))(hsys : ∀ v, call 457 [.ref 474, .int v] M = some (some (.int 0), M))(hct : call 460 [.ref 474] M = some (none, M))(hof : ∀ v w, call 473 [.ref 474, .int v, .int w] M = some (some (.int 0), M))(hen : ∀ v w, call 477 [.ref 474, .int v, .int w] M = some (some (.int 0), M)) {n : Nat} : zrun X zmt call zm_471 (n + 6) 0 [(0, .ref 474), (1, .int va), (2, .int vb), (3, .int vc)] [] M = some (some (.int (-2)), M) := by
  refine zr_s0 rfl rfl rfl rfl ?_
  refine zr_s0 rfl rfl rfl rfl ?_
  refine zr_callV rfl rfl rfl rfl (by decide) h474 rfl ⟨Or.inl rfl, rfl, rfl, rfl, rfl, rfl, Nat.le_of_ble_eq_true rfl⟩ (hsys _) ?_
  refine zr_if (t := 17) rfl rfl (fun _ => ?_) (fun h => absurd h (by decide))
  refine zr_s0 rfl rfl rfl rfl ?_
  exact zr_ret rfl rfl rfl
theorem m_find {va : Int32}(h474 : zob M 474 = some (.inr (12, zf_474)))(hsys : ∀ v, call 457 [.ref 474, .int v] M = some (some (.int 0), M))(hct : call 460 [.ref 474] M = some (none, M))(hof : ∀ v w, call 473 [.ref 474, .int v, .int w] M = some (some (.int 0), M))(hen : ∀ v w, call 477 [.ref 474, .int v, .int w] M = some (some (.int 0), M)) {n : Nat} : zrun X zmt call zm_472 (n + 8) 0 [(0, .ref 474), (1, .int va)] [] M = some (some (.int (-2)), M) := by
  refine zr_s0 rfl rfl rfl rfl ?_
  refine zr_callV rfl rfl rfl rfl (by decide) h474 rfl ⟨Or.inl rfl, rfl, rfl, rfl, rfl, rfl, Nat.le_of_ble_eq_true rfl⟩ hct ?_
  refine zr_s0 rfl rfl rfl rfl ?_
  refine zr_s0 rfl rfl rfl rfl ?_
  refine zr_callV rfl rfl rfl rfl (by decide) h474 rfl ⟨Or.inl rfl, rfl, rfl, rfl, rfl, rfl, Nat.le_of_ble_eq_true rfl⟩ (hsys _) ?_
  refine zr_if (t := 15) rfl rfl (fun h => absurd h (by decide)) (fun _ => ?_)
  refine zr_s0 rfl rfl rfl rfl ?_
  exact zr_ret rfl rfl rfl
theorem m_word {va vb vc : Int32}(h474 : zob M 474 = some (.inr (12, zf_474)))(hsys : ∀ v, call 457 [.ref 474, .int v] M = some (some (.int 0), M))(hct : call 460 [.ref 474] M = some (none, M))(hof : ∀ v w, call 473 [.ref 474, .int v, .int w] M = some (some (.int 0), M))(hen : ∀ v w, call 477 [.ref 474, .int v, .int w] M = some (some (.int 0), M)) {n : Nat} : zrun X zmt call zm_474 (n + 7) 0 [(0, .ref 474), (1, .int va), (2, .int vb), (3, .int vc)] [] M = some (some (.int (-2)), M) := by
  refine zr_s0 rfl rfl rfl rfl ?_
  refine zr_s0 rfl rfl rfl rfl ?_
  refine zr_s0 rfl rfl rfl rfl ?_
  refine zr_callV rfl rfl rfl rfl (by decide) h474 rfl ⟨Or.inl rfl, rfl, rfl, rfl, rfl, rfl, Nat.le_of_ble_eq_true rfl⟩ (hof _ _) ?_
  refine zr_if (t := 19) rfl rfl (fun _ => ?_) (fun h => absurd h (by decide))
  refine zr_s0 rfl rfl rfl rfl ?_
  exact zr_ret rfl rfl rfl
theorem m_name {va vb vc : Int32}(h474 : zob M 474 = some (.inr (12, zf_474)))(hsys : ∀ v, call 457 [.ref 474, .int v] M = some (some (.int 0), M))(hct : call 460 [.ref 474] M = some (none, M))(hof : ∀ v w, call 473 [.ref 474, .int v, .int w] M = some (some (.int 0), M))(hen : ∀ v w, call 477 [.ref 474, .int v, .int w] M = some (some (.int 0), M)) {n : Nat} : zrun X zmt call zm_475 (n + 7) 0 [(0, .ref 474), (1, .int va), (2, .int vb), (3, .int vc)] [] M = some (some (.int (-2)), M) := by
  refine zr_s0 rfl rfl rfl rfl ?_
  refine zr_s0 rfl rfl rfl rfl ?_
  refine zr_s0 rfl rfl rfl rfl ?_
  refine zr_callV rfl rfl rfl rfl (by decide) h474 rfl ⟨Or.inl rfl, rfl, rfl, rfl, rfl, rfl, Nat.le_of_ble_eq_true rfl⟩ (hof _ _) ?_
  refine zr_if (t := 12) rfl rfl (fun h => absurd h (by decide)) (fun _ => ?_)
  refine zr_s0 rfl rfl rfl rfl ?_
  exact zr_ret rfl rfl rfl
theorem m_item {va vb vc : Int32}(h474 : zob M 474 = some (.inr (12, zf_474)))(hsys : ∀ v, call 457 [.ref 474, .int v] M = some (some (.int 0), M))(hct : call 460 [.ref 474] M = some (none, M))(hof : ∀ v w, call 473 [.ref 474, .int v, .int w] M = some (some (.int 0), M))(hen : ∀ v w, call 477 [.ref 474, .int v, .int w] M = some (some (.int 0), M)) {n : Nat} : zrun X zmt call zm_476 (n + 6) 0 [(0, .ref 474), (1, .int va), (2, .int vb), (3, .int vc)] [] M = some (some (.int (-2)), M) := by
  refine zr_s0 rfl rfl rfl rfl ?_
  refine zr_s0 rfl rfl rfl rfl ?_
  refine zr_callV rfl rfl rfl rfl (by decide) h474 rfl ⟨Or.inl rfl, rfl, rfl, rfl, rfl, rfl, Nat.le_of_ble_eq_true rfl⟩ (hsys _) ?_
  refine zr_if (t := 39) rfl rfl (fun _ => ?_) (fun h => absurd h (by decide))
  refine zr_s0 rfl rfl rfl rfl ?_
  exact zr_ret rfl rfl rfl
theorem m_effect {va vb : Int32}(h474 : zob M 474 = some (.inr (12, zf_474)))(hsys : ∀ v, call 457 [.ref 474, .int v] M = some (some (.int 0), M))(hct : call 460 [.ref 474] M = some (none, M))(hof : ∀ v w, call 473 [.ref 474, .int v, .int w] M = some (some (.int 0), M))(hen : ∀ v w, call 477 [.ref 474, .int v, .int w] M = some (some (.int 0), M)) {n : Nat} : zrun X zmt call zm_478 (n + 7) 0 [(0, .ref 474), (1, .int va), (2, .int vb)] [] M = some (some (.int (-2)), M) := by
  refine zr_s0 rfl rfl rfl rfl ?_
  refine zr_s0 rfl rfl rfl rfl ?_
  refine zr_s0 rfl rfl rfl rfl ?_
  refine zr_callV rfl rfl rfl rfl (by decide) h474 rfl ⟨Or.inl rfl, rfl, rfl, rfl, rfl, rfl, Nat.le_of_ble_eq_true rfl⟩ (hen _ _) ?_
  refine zr_if (t := 12) rfl rfl (fun h => absurd h (by decide)) (fun _ => ?_)
  refine zr_s0 rfl rfl rfl rfl ?_
  exact zr_ret rfl rfl rfl
theorem m_effectOf {va vb vc : Int32}(h474 : zob M 474 = some (.inr (12, zf_474)))(hsys : ∀ v, call 457 [.ref 474, .int v] M = some (some (.int 0), M))(hct : call 460 [.ref 474] M = some (none, M))(hof : ∀ v w, call 473 [.ref 474, .int v, .int w] M = some (some (.int 0), M))(hen : ∀ v w, call 477 [.ref 474, .int v, .int w] M = some (some (.int 0), M)) {n : Nat} : zrun X zmt call zm_479 (n + 7) 0 [(0, .ref 474), (1, .int va), (2, .int vb), (3, .int vc)] [] M = some (some (.int (-2)), M) := by
  refine zr_s0 rfl rfl rfl rfl ?_
  refine zr_s0 rfl rfl rfl rfl ?_
  refine zr_s0 rfl rfl rfl rfl ?_
  refine zr_callV rfl rfl rfl rfl (by decide) h474 rfl ⟨Or.inl rfl, rfl, rfl, rfl, rfl, rfl, Nat.le_of_ble_eq_true rfl⟩ (hen _ _) ?_
  refine zr_if (t := 18) rfl rfl (fun _ => ?_) (fun h => absurd h (by decide))
  refine zr_s0 rfl rfl rfl rfl ?_
  exact zr_ret rfl rfl rfl
theorem m_lean {va vb : Int32}(h474 : zob M 474 = some (.inr (12, zf_474)))(hsys : ∀ v, call 457 [.ref 474, .int v] M = some (some (.int 0), M))(hct : call 460 [.ref 474] M = some (none, M))(hof : ∀ v w, call 473 [.ref 474, .int v, .int w] M = some (some (.int 0), M))(hen : ∀ v w, call 477 [.ref 474, .int v, .int w] M = some (some (.int 0), M)) {n : Nat} : zrun X zmt call zm_480 (n + 7) 0 [(0, .ref 474), (1, .int va), (2, .int vb)] [] M = some (some (.int (-2)), M) := by
  refine zr_s0 rfl rfl rfl rfl ?_
  refine zr_s0 rfl rfl rfl rfl ?_
  refine zr_s0 rfl rfl rfl rfl ?_
  refine zr_callV rfl rfl rfl rfl (by decide) h474 rfl ⟨Or.inl rfl, rfl, rfl, rfl, rfl, rfl, Nat.le_of_ble_eq_true rfl⟩ (hen _ _) ?_
  refine zr_if (t := 12) rfl rfl (fun h => absurd h (by decide)) (fun _ => ?_)
  refine zr_s0 rfl rfl rfl rfl ?_
  exact zr_ret rfl rfl rfl
theorem m_chip {va vb : Int32}(h474 : zob M 474 = some (.inr (12, zf_474)))(hsys : ∀ v, call 457 [.ref 474, .int v] M = some (some (.int 0), M))(hct : call 460 [.ref 474] M = some (none, M))(hof : ∀ v w, call 473 [.ref 474, .int v, .int w] M = some (some (.int 0), M))(hen : ∀ v w, call 477 [.ref 474, .int v, .int w] M = some (some (.int 0), M)) {n : Nat} : zrun X zmt call zm_481 (n + 7) 0 [(0, .ref 474), (1, .int va), (2, .int vb)] [] M = some (some (.int (-2)), M) := by
  refine zr_s0 rfl rfl rfl rfl ?_
  refine zr_s0 rfl rfl rfl rfl ?_
  refine zr_s0 rfl rfl rfl rfl ?_
  refine zr_callV rfl rfl rfl rfl (by decide) h474 rfl ⟨Or.inl rfl, rfl, rfl, rfl, rfl, rfl, Nat.le_of_ble_eq_true rfl⟩ (hen _ _) ?_
  refine zr_if (t := 12) rfl rfl (fun h => absurd h (by decide)) (fun _ => ?_)
  refine zr_s0 rfl rfl rfl rfl ?_
  exact zr_ret rfl rfl rfl
theorem m_put {va vb vc : Int32}(h474 : zob M 474 = some (.inr (12, zf_474)))(hsys : ∀ v, call 457 [.ref 474, .int v] M = some (some (.int 0), M))(hct : call 460 [.ref 474] M = some (none, M))(hof : ∀ v w, call 473 [.ref 474, .int v, .int w] M = some (some (.int 0), M))(hen : ∀ v w, call 477 [.ref 474, .int v, .int w] M = some (some (.int 0), M)) {n : Nat} : zrun X zmt call zm_489 (n + 8) 0 [(0, .ref 474), (1, .int va), (2, .int vb), (3, .int vc)] [] M = some (some (.int (-2)), M) := by
  refine zr_s0 rfl rfl rfl rfl ?_
  refine zr_callV rfl rfl rfl rfl (by decide) h474 rfl ⟨Or.inl rfl, rfl, rfl, rfl, rfl, rfl, Nat.le_of_ble_eq_true rfl⟩ hct ?_
  refine zr_s0 rfl rfl rfl rfl ?_
  refine zr_s0 rfl rfl rfl rfl ?_
  refine zr_callV rfl rfl rfl rfl (by decide) h474 rfl ⟨Or.inl rfl, rfl, rfl, rfl, rfl, rfl, Nat.le_of_ble_eq_true rfl⟩ (hsys _) ?_
  refine zr_if (t := 41) rfl rfl (fun _ => ?_) (fun h => absurd h (by decide))
  refine zr_s0 rfl rfl rfl rfl ?_
  exact zr_ret rfl rfl rfl
theorem m_keep {va vb : Int32}(h474 : zob M 474 = some (.inr (12, zf_474)))(hsys : ∀ v, call 457 [.ref 474, .int v] M = some (some (.int 0), M))(hct : call 460 [.ref 474] M = some (none, M))(hof : ∀ v w, call 473 [.ref 474, .int v, .int w] M = some (some (.int 0), M))(hen : ∀ v w, call 477 [.ref 474, .int v, .int w] M = some (some (.int 0), M)) {n : Nat} : zrun X zmt call zm_491 (n + 6) 0 [(0, .ref 474), (1, .int va), (2, .int vb)] [] M = some (some (.int (-2)), M) := by
  refine zr_s0 rfl rfl rfl rfl ?_
  refine zr_s0 rfl rfl rfl rfl ?_
  refine zr_callV rfl rfl rfl rfl (by decide) h474 rfl ⟨Or.inl rfl, rfl, rfl, rfl, rfl, rfl, Nat.le_of_ble_eq_true rfl⟩ (hsys _) ?_
  refine zr_if (t := 17) rfl rfl (fun _ => ?_) (fun h => absurd h (by decide))
  refine zr_s0 rfl rfl rfl rfl ?_
  exact zr_ret rfl rfl rfl
theorem m_same {va vb : Int32}(h474 : zob M 474 = some (.inr (12, zf_474)))(hsys : ∀ v, call 457 [.ref 474, .int v] M = some (some (.int 0), M))(hct : call 460 [.ref 474] M = some (none, M))(hof : ∀ v w, call 473 [.ref 474, .int v, .int w] M = some (some (.int 0), M))(hen : ∀ v w, call 477 [.ref 474, .int v, .int w] M = some (some (.int 0), M)) {n : Nat} : zrun X zmt call zm_494 (n + 6) 0 [(0, .ref 474), (1, .int va), (2, .int vb)] [] M = some (some (.int 0), M) := by
  refine zr_s0 rfl rfl rfl rfl ?_
  refine zr_s0 rfl rfl rfl rfl ?_
  refine zr_callV rfl rfl rfl rfl (by decide) h474 rfl ⟨Or.inl rfl, rfl, rfl, rfl, rfl, rfl, Nat.le_of_ble_eq_true rfl⟩ (hsys _) ?_
  refine zr_if (t := 16) rfl rfl (fun _ => ?_) (fun h => absurd h (by decide))
  refine zr_s0 rfl rfl rfl rfl ?_
  exact zr_ret rfl rfl rfl
theorem m_chipWord {va : Int32}(h474 : zob M 474 = some (.inr (12, zf_474)))(hi : ∀ v, call 456 [.int v, .int 0, .int (-1)] M = some (some (.int 0), M)) {n : Nat} : zrun X zmt call zm_482 (n + 10) 0 [(0, .ref 474), (1, .int va)] [] M = some (some (.int (-1)), M) := by
  refine zr_s0 rfl rfl rfl rfl ?_
  refine zr_s0 rfl rfl rfl rfl ?_
  refine zr_s0 rfl rfl rfl rfl ?_
  refine zr_get rfl rfl h474 rfl ?_
  refine zr_s0 rfl rfl rfl rfl ?_
  refine zr_s0 rfl rfl rfl rfl ?_
  refine zr_callS rfl rfl rfl ⟨Or.inl rfl, rfl, rfl, rfl, rfl, Nat.le_of_ble_eq_true rfl⟩ (hi _) ?_
  refine zr_if (t := 23) rfl rfl (fun _ => ?_) (fun h => absurd h (by decide))
  refine zr_s0 rfl rfl rfl rfl ?_
  exact zr_ret rfl rfl rfl
theorem m_chipPut {va : Int32}(h474 : zob M 474 = some (.inr (12, zf_474))) {n : Nat} : zrun X zmt call zm_484 (n + 5) 0 [(0, .ref 474), (1, .int va)] [] M = some (some (.int (-3)), M) := by
  refine zr_s0 rfl rfl rfl rfl ?_
  refine zr_get rfl rfl h474 rfl ?_
  refine zr_if (t := 21) rfl rfl (fun _ => ?_) (fun h => absurd h (by decide))
  refine zr_s0 rfl rfl rfl rfl ?_
  exact zr_ret rfl rfl rfl
theorem m_chipGo0 {va : Int32}(h474 : zob M 474 = some (.inr (12, zf_474)))(hi : call 456 [.int va, .int 1, .int 20000] M = some (some (.int 0), M)) {n : Nat} : zrun X zmt call zm_485 (n + 7) 0 [(0, .ref 474), (1, .int va)] [] M = some (some (.int (-2)), M) := by
  refine zr_s0 rfl rfl rfl rfl ?_
  refine zr_s0 rfl rfl rfl rfl ?_
  refine zr_s0 rfl rfl rfl rfl ?_
  refine zr_callS rfl rfl rfl ⟨Or.inl rfl, rfl, rfl, rfl, rfl, Nat.le_of_ble_eq_true rfl⟩ hi ?_
  refine zr_if (t := 14) rfl rfl (fun h => absurd h (by decide)) (fun _ => ?_)
  refine zr_s0 rfl rfl rfl rfl ?_
  exact zr_ret rfl rfl rfl
theorem m_chipGo1 {va : Int32}(h474 : zob M 474 = some (.inr (12, zf_474)))(hi : call 456 [.int va, .int 1, .int 20000] M = some (some (.int 1), M)) {n : Nat} : zrun X zmt call zm_485 (n + 10) 0 [(0, .ref 474), (1, .int va)] [] M = some (some (.int (-3)), M) := by
  refine zr_s0 rfl rfl rfl rfl ?_
  refine zr_s0 rfl rfl rfl rfl ?_
  refine zr_s0 rfl rfl rfl rfl ?_
  refine zr_callS rfl rfl rfl ⟨Or.inl rfl, rfl, rfl, rfl, rfl, Nat.le_of_ble_eq_true rfl⟩ hi ?_
  refine zr_if (t := 14) rfl rfl (fun _ => ?_) (fun h => absurd h (by decide))
  refine zr_s0 rfl rfl rfl rfl ?_
  refine zr_get rfl rfl h474 rfl ?_
  refine zr_if (t := 24) rfl rfl (fun h => absurd h (by decide)) (fun _ => ?_)
  refine zr_s0 rfl rfl rfl rfl ?_
  exact zr_ret rfl rfl rfl
theorem m_chipToldB {va : Int32}(h474 : zob M 474 = some (.inr (12, zf_474)))(hi : call 456 [.int va, .int 0, .int 7] M = some (some (.int 0), M)) {n : Nat} : zrun X zmt call zm_486 (n + 7) 0 [(0, .ref 474), (1, .int va)] [] M = some (some (.int (-2)), M) := by
  refine zr_s0 rfl rfl rfl rfl ?_
  refine zr_s0 rfl rfl rfl rfl ?_
  refine zr_s0 rfl rfl rfl rfl ?_
  refine zr_callS rfl rfl rfl ⟨Or.inl rfl, rfl, rfl, rfl, rfl, Nat.le_of_ble_eq_true rfl⟩ hi ?_
  refine zr_if (t := 13) rfl rfl (fun h => absurd h (by decide)) (fun _ => ?_)
  refine zr_s0 rfl rfl rfl rfl ?_
  exact zr_ret rfl rfl rfl
theorem m_chipTold_0 (h474 : zob M 474 = some (.inr (12, zf_474)))(hi : call 456 [.int 0, .int 0, .int 7] M = some (some (.int 1), M)) {n : Nat} : zrun X zmt call zm_486 (n + 18) 0 [(0, .ref 474), (1, .int 0)] [] M = some (some (.int 0), M) := by
  refine zr_s0 rfl rfl rfl rfl ?_
  refine zr_s0 rfl rfl rfl rfl ?_
  refine zr_s0 rfl rfl rfl rfl ?_
  refine zr_callS rfl rfl rfl ⟨Or.inl rfl, rfl, rfl, rfl, rfl, Nat.le_of_ble_eq_true rfl⟩ hi ?_
  refine zr_if (t := 13) rfl rfl (fun _ => ?_) (fun h => absurd h (by decide))
  refine zr_s1 rfl rfl rfl rfl rfl ?_
  refine zr_s0 rfl rfl rfl rfl ?_
  refine zr_s0 rfl rfl rfl rfl ?_
  refine zr_get rfl rfl h474 rfl ?_
  refine zr_if (t := 28) rfl rfl (fun _ => ?_) (fun h => absurd h (by decide))
  refine zr_s0 rfl rfl rfl rfl ?_
  refine zr_s0 rfl rfl rfl rfl ?_
  refine zr_s0 rfl rfl rfl rfl ?_
  refine zr_s0 (pc' := 72) rfl rfl rfl rfl ?_
  refine zr_s0 rfl rfl rfl rfl ?_
  refine zr_if (t := 83) rfl rfl (fun _ => ?_) (fun h => absurd h (by decide))
  refine zr_s0 rfl rfl rfl rfl ?_
  exact zr_ret rfl rfl rfl
theorem m_chipTold_1 (h474 : zob M 474 = some (.inr (12, zf_474)))(hi : call 456 [.int 1, .int 0, .int 7] M = some (some (.int 1), M)) {n : Nat} : zrun X zmt call zm_486 (n + 18) 0 [(0, .ref 474), (1, .int 1)] [] M = some (some (.int 0), M) := by
  refine zr_s0 rfl rfl rfl rfl ?_
  refine zr_s0 rfl rfl rfl rfl ?_
  refine zr_s0 rfl rfl rfl rfl ?_
  refine zr_callS rfl rfl rfl ⟨Or.inl rfl, rfl, rfl, rfl, rfl, Nat.le_of_ble_eq_true rfl⟩ hi ?_
  refine zr_if (t := 13) rfl rfl (fun _ => ?_) (fun h => absurd h (by decide))
  refine zr_s1 rfl rfl rfl rfl rfl ?_
  refine zr_s0 rfl rfl rfl rfl ?_
  refine zr_s0 rfl rfl rfl rfl ?_
  refine zr_get rfl rfl h474 rfl ?_
  refine zr_if (t := 28) rfl rfl (fun _ => ?_) (fun h => absurd h (by decide))
  refine zr_s0 rfl rfl rfl rfl ?_
  refine zr_s0 rfl rfl rfl rfl ?_
  refine zr_s0 rfl rfl rfl rfl ?_
  refine zr_s0 (pc' := 85) rfl rfl rfl rfl ?_
  refine zr_s0 rfl rfl rfl rfl ?_
  refine zr_if (t := 100) rfl rfl (fun _ => ?_) (fun h => absurd h (by decide))
  refine zr_s0 rfl rfl rfl rfl ?_
  exact zr_ret rfl rfl rfl
theorem m_chipTold_2 (h474 : zob M 474 = some (.inr (12, zf_474)))(hi : call 456 [.int 2, .int 0, .int 7] M = some (some (.int 1), M)) {n : Nat} : zrun X zmt call zm_486 (n + 18) 0 [(0, .ref 474), (1, .int 2)] [] M = some (some (.int 0), M) := by
  refine zr_s0 rfl rfl rfl rfl ?_
  refine zr_s0 rfl rfl rfl rfl ?_
  refine zr_s0 rfl rfl rfl rfl ?_
  refine zr_callS rfl rfl rfl ⟨Or.inl rfl, rfl, rfl, rfl, rfl, Nat.le_of_ble_eq_true rfl⟩ hi ?_
  refine zr_if (t := 13) rfl rfl (fun _ => ?_) (fun h => absurd h (by decide))
  refine zr_s1 rfl rfl rfl rfl rfl ?_
  refine zr_s0 rfl rfl rfl rfl ?_
  refine zr_s0 rfl rfl rfl rfl ?_
  refine zr_get rfl rfl h474 rfl ?_
  refine zr_if (t := 28) rfl rfl (fun _ => ?_) (fun h => absurd h (by decide))
  refine zr_s0 rfl rfl rfl rfl ?_
  refine zr_s0 rfl rfl rfl rfl ?_
  refine zr_s0 rfl rfl rfl rfl ?_
  refine zr_s0 (pc' := 102) rfl rfl rfl rfl ?_
  refine zr_s0 rfl rfl rfl rfl ?_
  refine zr_if (t := 117) rfl rfl (fun _ => ?_) (fun h => absurd h (by decide))
  refine zr_s0 rfl rfl rfl rfl ?_
  exact zr_ret rfl rfl rfl
theorem m_chipTold_3 (h474 : zob M 474 = some (.inr (12, zf_474)))(hi : call 456 [.int 3, .int 0, .int 7] M = some (some (.int 1), M)) {n : Nat} : zrun X zmt call zm_486 (n + 18) 0 [(0, .ref 474), (1, .int 3)] [] M = some (some (.int 0), M) := by
  refine zr_s0 rfl rfl rfl rfl ?_
  refine zr_s0 rfl rfl rfl rfl ?_
  refine zr_s0 rfl rfl rfl rfl ?_
  refine zr_callS rfl rfl rfl ⟨Or.inl rfl, rfl, rfl, rfl, rfl, Nat.le_of_ble_eq_true rfl⟩ hi ?_
  refine zr_if (t := 13) rfl rfl (fun _ => ?_) (fun h => absurd h (by decide))
  refine zr_s1 rfl rfl rfl rfl rfl ?_
  refine zr_s0 rfl rfl rfl rfl ?_
  refine zr_s0 rfl rfl rfl rfl ?_
  refine zr_get rfl rfl h474 rfl ?_
  refine zr_if (t := 28) rfl rfl (fun _ => ?_) (fun h => absurd h (by decide))
  refine zr_s0 rfl rfl rfl rfl ?_
  refine zr_s0 rfl rfl rfl rfl ?_
  refine zr_s0 rfl rfl rfl rfl ?_
  refine zr_s0 (pc' := 119) rfl rfl rfl rfl ?_
  refine zr_s0 rfl rfl rfl rfl ?_
  refine zr_if (t := 134) rfl rfl (fun _ => ?_) (fun h => absurd h (by decide))
  refine zr_s0 rfl rfl rfl rfl ?_
  exact zr_ret rfl rfl rfl
theorem m_chipTold_4 (h474 : zob M 474 = some (.inr (12, zf_474)))(hi : call 456 [.int 4, .int 0, .int 7] M = some (some (.int 1), M)) {n : Nat} : zrun X zmt call zm_486 (n + 18) 0 [(0, .ref 474), (1, .int 4)] [] M = some (some (.int 0), M) := by
  refine zr_s0 rfl rfl rfl rfl ?_
  refine zr_s0 rfl rfl rfl rfl ?_
  refine zr_s0 rfl rfl rfl rfl ?_
  refine zr_callS rfl rfl rfl ⟨Or.inl rfl, rfl, rfl, rfl, rfl, Nat.le_of_ble_eq_true rfl⟩ hi ?_
  refine zr_if (t := 13) rfl rfl (fun _ => ?_) (fun h => absurd h (by decide))
  refine zr_s1 rfl rfl rfl rfl rfl ?_
  refine zr_s0 rfl rfl rfl rfl ?_
  refine zr_s0 rfl rfl rfl rfl ?_
  refine zr_get rfl rfl h474 rfl ?_
  refine zr_if (t := 28) rfl rfl (fun _ => ?_) (fun h => absurd h (by decide))
  refine zr_s0 rfl rfl rfl rfl ?_
  refine zr_s0 rfl rfl rfl rfl ?_
  refine zr_s0 rfl rfl rfl rfl ?_
  refine zr_s0 (pc' := 136) rfl rfl rfl rfl ?_
  refine zr_s0 rfl rfl rfl rfl ?_
  refine zr_if (t := 147) rfl rfl (fun _ => ?_) (fun h => absurd h (by decide))
  refine zr_s0 rfl rfl rfl rfl ?_
  exact zr_ret rfl rfl rfl
theorem m_chipTold_5 (h474 : zob M 474 = some (.inr (12, zf_474)))(hi : call 456 [.int 5, .int 0, .int 7] M = some (some (.int 1), M)) {n : Nat} : zrun X zmt call zm_486 (n + 18) 0 [(0, .ref 474), (1, .int 5)] [] M = some (some (.int 0), M) := by
  refine zr_s0 rfl rfl rfl rfl ?_
  refine zr_s0 rfl rfl rfl rfl ?_
  refine zr_s0 rfl rfl rfl rfl ?_
  refine zr_callS rfl rfl rfl ⟨Or.inl rfl, rfl, rfl, rfl, rfl, Nat.le_of_ble_eq_true rfl⟩ hi ?_
  refine zr_if (t := 13) rfl rfl (fun _ => ?_) (fun h => absurd h (by decide))
  refine zr_s1 rfl rfl rfl rfl rfl ?_
  refine zr_s0 rfl rfl rfl rfl ?_
  refine zr_s0 rfl rfl rfl rfl ?_
  refine zr_get rfl rfl h474 rfl ?_
  refine zr_if (t := 28) rfl rfl (fun _ => ?_) (fun h => absurd h (by decide))
  refine zr_s0 rfl rfl rfl rfl ?_
  refine zr_s0 rfl rfl rfl rfl ?_
  refine zr_s0 rfl rfl rfl rfl ?_
  refine zr_s0 (pc' := 149) rfl rfl rfl rfl ?_
  refine zr_s0 rfl rfl rfl rfl ?_
  refine zr_if (t := 160) rfl rfl (fun _ => ?_) (fun h => absurd h (by decide))
  refine zr_s0 rfl rfl rfl rfl ?_
  exact zr_ret rfl rfl rfl
theorem m_chipTold_6 (h474 : zob M 474 = some (.inr (12, zf_474)))(hi : call 456 [.int 6, .int 0, .int 7] M = some (some (.int 1), M)) {n : Nat} : zrun X zmt call zm_486 (n + 17) 0 [(0, .ref 474), (1, .int 6)] [] M = some (some (.int 0), M) := by
  refine zr_s0 rfl rfl rfl rfl ?_
  refine zr_s0 rfl rfl rfl rfl ?_
  refine zr_s0 rfl rfl rfl rfl ?_
  refine zr_callS rfl rfl rfl ⟨Or.inl rfl, rfl, rfl, rfl, rfl, Nat.le_of_ble_eq_true rfl⟩ hi ?_
  refine zr_if (t := 13) rfl rfl (fun _ => ?_) (fun h => absurd h (by decide))
  refine zr_s1 rfl rfl rfl rfl rfl ?_
  refine zr_s0 rfl rfl rfl rfl ?_
  refine zr_s0 rfl rfl rfl rfl ?_
  refine zr_get rfl rfl h474 rfl ?_
  refine zr_if (t := 28) rfl rfl (fun _ => ?_) (fun h => absurd h (by decide))
  refine zr_s0 rfl rfl rfl rfl ?_
  refine zr_s0 rfl rfl rfl rfl ?_
  refine zr_s0 rfl rfl rfl rfl ?_
  refine zr_s0 (pc' := 162) rfl rfl rfl rfl ?_
  refine zr_s0 rfl rfl rfl rfl ?_
  refine zr_get rfl rfl h474 rfl ?_
  exact zr_ret rfl rfl rfl
theorem m_chipTold_7 (h474 : zob M 474 = some (.inr (12, zf_474)))(hi : call 456 [.int 7, .int 0, .int 7] M = some (some (.int 1), M)) {n : Nat} : zrun X zmt call zm_486 (n + 18) 0 [(0, .ref 474), (1, .int 7)] [] M = some (some (.int 0), M) := by
  refine zr_s0 rfl rfl rfl rfl ?_
  refine zr_s0 rfl rfl rfl rfl ?_
  refine zr_s0 rfl rfl rfl rfl ?_
  refine zr_callS rfl rfl rfl ⟨Or.inl rfl, rfl, rfl, rfl, rfl, Nat.le_of_ble_eq_true rfl⟩ hi ?_
  refine zr_if (t := 13) rfl rfl (fun _ => ?_) (fun h => absurd h (by decide))
  refine zr_s1 rfl rfl rfl rfl rfl ?_
  refine zr_s0 rfl rfl rfl rfl ?_
  refine zr_s0 rfl rfl rfl rfl ?_
  refine zr_get rfl rfl h474 rfl ?_
  refine zr_if (t := 28) rfl rfl (fun _ => ?_) (fun h => absurd h (by decide))
  refine zr_s0 rfl rfl rfl rfl ?_
  refine zr_s0 rfl rfl rfl rfl ?_
  refine zr_s0 rfl rfl rfl rfl ?_
  refine zr_s0 (pc' := 167) rfl rfl rfl rfl ?_
  refine zr_s0 rfl rfl rfl rfl ?_
  refine zr_if (t := 183) rfl rfl (fun _ => ?_) (fun h => absurd h (by decide))
  refine zr_s0 rfl rfl rfl rfl ?_
  exact zr_ret rfl rfl rfl
theorem m_chipCell {va : Int32}(h474 : zob M 474 = some (.inr (12, zf_474))) {n : Nat} : zrun X zmt call zm_487 (n + 7) 0 [(0, .ref 474), (1, .int va)] [] M = some (some (.int 0), M) := by
  refine zr_s1 rfl rfl rfl rfl rfl ?_
  refine zr_s0 rfl rfl rfl rfl ?_
  refine zr_s0 rfl rfl rfl rfl ?_
  refine zr_get rfl rfl h474 rfl ?_
  refine zr_if (t := 54) rfl rfl (fun _ => ?_) (fun h => absurd h (by decide))
  refine zr_s0 rfl rfl rfl rfl ?_
  exact zr_ret rfl rfl rfl
theorem m_chipByte {va : Int32}(h474 : zob M 474 = some (.inr (12, zf_474))) {n : Nat} : zrun X zmt call zm_488 (n + 5) 0 [(0, .ref 474), (1, .int va)] [] M = some (some (.int (-1)), M) := by
  refine zr_s0 rfl rfl rfl rfl ?_
  refine zr_get rfl rfl h474 rfl ?_
  refine zr_if (t := 31) rfl rfl (fun _ => ?_) (fun h => absurd h (by decide))
  refine zr_s0 rfl rfl rfl rfl ?_
  exact zr_ret rfl rfl rfl
theorem m_again0 {va vb : Int32}(h474 : zob M 474 = some (.inr (12, zf_474)))(hsm : call 461 [.ref 474] M = some (some (.int 0), M))(hi : call 456 [.int va, .int 0, .int 0] M = some (some (.int 0), M)) {n : Nat} : zrun X zmt call zm_492 (n + 10) 0 [(0, .ref 474), (1, .int va), (2, .int vb)] [] M = some (some (.int (-2)), M) := by
  refine zr_s0 rfl rfl rfl rfl ?_
  refine zr_callV rfl rfl rfl rfl (by decide) h474 rfl ⟨Or.inl rfl, rfl, rfl, rfl, rfl, rfl, Nat.le_of_ble_eq_true rfl⟩ hsm ?_
  refine zr_s0 rfl rfl rfl rfl ?_
  refine zr_s0 rfl rfl rfl rfl ?_
  refine zr_s0 rfl rfl rfl rfl ?_
  refine zr_s0 rfl rfl rfl rfl ?_
  refine zr_callS rfl rfl rfl ⟨Or.inl rfl, rfl, rfl, rfl, rfl, Nat.le_of_ble_eq_true rfl⟩ hi ?_
  refine zr_if (t := 23) rfl rfl (fun _ => ?_) (fun h => absurd h (by decide))
  refine zr_s0 rfl rfl rfl rfl ?_
  exact zr_ret rfl rfl rfl
theorem m_again1 {va vb : Int32}(h474 : zob M 474 = some (.inr (12, zf_474)))(hsm : call 461 [.ref 474] M = some (some (.int 0), M))(hi : call 456 [.int va, .int 0, .int 0] M = some (some (.int 1), M))(hj : call 456 [.int vb, .int 0, .int 1] M = some (some (.int 0), M)) {n : Nat} : zrun X zmt call zm_492 (n + 15) 0 [(0, .ref 474), (1, .int va), (2, .int vb)] [] M = some (some (.int (-2)), M) := by
  refine zr_s0 rfl rfl rfl rfl ?_
  refine zr_callV rfl rfl rfl rfl (by decide) h474 rfl ⟨Or.inl rfl, rfl, rfl, rfl, rfl, rfl, Nat.le_of_ble_eq_true rfl⟩ hsm ?_
  refine zr_s0 rfl rfl rfl rfl ?_
  refine zr_s0 rfl rfl rfl rfl ?_
  refine zr_s0 rfl rfl rfl rfl ?_
  refine zr_s0 rfl rfl rfl rfl ?_
  refine zr_callS rfl rfl rfl ⟨Or.inl rfl, rfl, rfl, rfl, rfl, Nat.le_of_ble_eq_true rfl⟩ hi ?_
  refine zr_if (t := 23) rfl rfl (fun h => absurd h (by decide)) (fun _ => ?_)
  refine zr_s0 rfl rfl rfl rfl ?_
  refine zr_s0 rfl rfl rfl rfl ?_
  refine zr_s0 rfl rfl rfl rfl ?_
  refine zr_callS rfl rfl rfl ⟨Or.inl rfl, rfl, rfl, rfl, rfl, Nat.le_of_ble_eq_true rfl⟩ hj ?_
  refine zr_if (t := 26) rfl rfl (fun h => absurd h (by decide)) (fun _ => ?_)
  refine zr_s0 rfl rfl rfl rfl ?_
  exact zr_ret rfl rfl rfl
theorem m_again2_0 {va : Int32}(h474 : zob M 474 = some (.inr (12, zf_474)))(h475 : zob M 475 = some (.inl (0, 238220, .inl f475)))(hu0 : f475 35 = 0)(hu1 : f475 39735 = 0)(hu2 : f475 79435 = 0)(hu3 : f475 119135 = 0)(hu4 : f475 158835 = 0)(hsm : call 461 [.ref 474] M = some (some (.int 0), M))(hi : call 456 [.int va, .int 0, .int 0] M = some (some (.int 1), M))(hj : call 456 [.int 0, .int 0, .int 1] M = some (some (.int 1), M)) {n : Nat} : zrun X zmt call zm_492 (n + 26) 0 [(0, .ref 474), (1, .int va), (2, .int 0)] [] M = some (some (.int (-1)), M) := by
  refine zr_s0 rfl rfl rfl rfl ?_
  refine zr_callV rfl rfl rfl rfl (by decide) h474 rfl ⟨Or.inl rfl, rfl, rfl, rfl, rfl, rfl, Nat.le_of_ble_eq_true rfl⟩ hsm ?_
  refine zr_s0 rfl rfl rfl rfl ?_
  refine zr_s0 rfl rfl rfl rfl ?_
  refine zr_s0 rfl rfl rfl rfl ?_
  refine zr_s0 rfl rfl rfl rfl ?_
  refine zr_callS rfl rfl rfl ⟨Or.inl rfl, rfl, rfl, rfl, rfl, Nat.le_of_ble_eq_true rfl⟩ hi ?_
  refine zr_if (t := 23) rfl rfl (fun h => absurd h (by decide)) (fun _ => ?_)
  refine zr_s0 rfl rfl rfl rfl ?_
  refine zr_s0 rfl rfl rfl rfl ?_
  refine zr_s0 rfl rfl rfl rfl ?_
  refine zr_callS rfl rfl rfl ⟨Or.inl rfl, rfl, rfl, rfl, rfl, Nat.le_of_ble_eq_true rfl⟩ hj ?_
  refine zr_if (t := 26) rfl rfl (fun _ => ?_) (fun h => absurd h (by decide))
  refine zr_s0 rfl rfl rfl rfl ?_
  refine zr_get rfl rfl h474 rfl ?_
  refine zr_s1 rfl rfl rfl rfl rfl ?_
  refine zr_s0 rfl rfl rfl rfl ?_
  refine zr_s0 rfl rfl rfl rfl ?_
  refine zr_s0 rfl rfl rfl rfl ?_
  refine zr_s0 rfl rfl rfl rfl ?_
  refine zr_s0 rfl rfl rfl rfl ?_
  refine zr_s0 rfl rfl rfl rfl ?_
  refine zr_ialdV rfl (by decide) h475 (zvin (by decide)) hu3 ?_
  refine zr_if (t := 46) rfl rfl (fun h => absurd h (by decide)) (fun _ => ?_)
  refine zr_s0 rfl rfl rfl rfl ?_
  exact zr_ret rfl rfl rfl
theorem m_again2_1 {va : Int32}(h474 : zob M 474 = some (.inr (12, zf_474)))(h475 : zob M 475 = some (.inl (0, 238220, .inl f475)))(hu0 : f475 35 = 0)(hu1 : f475 39735 = 0)(hu2 : f475 79435 = 0)(hu3 : f475 119135 = 0)(hu4 : f475 158835 = 0)(hsm : call 461 [.ref 474] M = some (some (.int 0), M))(hi : call 456 [.int va, .int 0, .int 0] M = some (some (.int 1), M))(hj : call 456 [.int 1, .int 0, .int 1] M = some (some (.int 1), M)) {n : Nat} : zrun X zmt call zm_492 (n + 26) 0 [(0, .ref 474), (1, .int va), (2, .int 1)] [] M = some (some (.int (-1)), M) := by
  refine zr_s0 rfl rfl rfl rfl ?_
  refine zr_callV rfl rfl rfl rfl (by decide) h474 rfl ⟨Or.inl rfl, rfl, rfl, rfl, rfl, rfl, Nat.le_of_ble_eq_true rfl⟩ hsm ?_
  refine zr_s0 rfl rfl rfl rfl ?_
  refine zr_s0 rfl rfl rfl rfl ?_
  refine zr_s0 rfl rfl rfl rfl ?_
  refine zr_s0 rfl rfl rfl rfl ?_
  refine zr_callS rfl rfl rfl ⟨Or.inl rfl, rfl, rfl, rfl, rfl, Nat.le_of_ble_eq_true rfl⟩ hi ?_
  refine zr_if (t := 23) rfl rfl (fun h => absurd h (by decide)) (fun _ => ?_)
  refine zr_s0 rfl rfl rfl rfl ?_
  refine zr_s0 rfl rfl rfl rfl ?_
  refine zr_s0 rfl rfl rfl rfl ?_
  refine zr_callS rfl rfl rfl ⟨Or.inl rfl, rfl, rfl, rfl, rfl, Nat.le_of_ble_eq_true rfl⟩ hj ?_
  refine zr_if (t := 26) rfl rfl (fun _ => ?_) (fun h => absurd h (by decide))
  refine zr_s0 rfl rfl rfl rfl ?_
  refine zr_get rfl rfl h474 rfl ?_
  refine zr_s1 rfl rfl rfl rfl rfl ?_
  refine zr_s0 rfl rfl rfl rfl ?_
  refine zr_s0 rfl rfl rfl rfl ?_
  refine zr_s0 rfl rfl rfl rfl ?_
  refine zr_s0 rfl rfl rfl rfl ?_
  refine zr_s0 rfl rfl rfl rfl ?_
  refine zr_s0 rfl rfl rfl rfl ?_
  refine zr_ialdV rfl (by decide) h475 (zvin (by decide)) hu4 ?_
  refine zr_if (t := 46) rfl rfl (fun h => absurd h (by decide)) (fun _ => ?_)
  refine zr_s0 rfl rfl rfl rfl ?_
  exact zr_ret rfl rfl rfl
end ZNEW
