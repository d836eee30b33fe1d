/-! the class makes a system: begin, system -/
theorem zr_aald {X : zX} {mt : Nat → Option zMe} {call : zCall} {r : zMe} {n pc : Nat} {ls : zL} {rest : List Value} {M : zM} {res : Option (Option Value × zM)} {a m t b : Nat} {f : Nat → Option Nat} {j : Int32} (htb : r.2.2.2.2.2.2.2 pc = some (.aaload, 1)) (hob : zob M a = some (.inl (t, m, .inr (.inr (.inr (.inr f)))))) (hc : ¬ (t < 3 ∨ j < 0 ∨ m ≤ j.toNatClampNeg)) (hv : f j.toNatClampNeg = some b) (h : zrun X mt call r n (pc + 1) ls (.ref b :: rest) M = res) : zrun X mt call r (n + 1) pc ls (.int j :: .ref a :: rest) M = res := by
  refine zr_s1 htb rfl rfl rfl ?_ h
  simp only [zs1, hob]
  rw [if_neg hc, hv]
  rfl
section ZXY
variable {X : zX} {call : zCall} {M : zM} {f : Nat → Int32} {va vb cb ch sc : Int32}
theorem x_begin (hM : 486 ≤ M.1) (h19 : zob M 19 = some (.inr (1, zf_19))) {f' : Nat → Int32} (hlay : call 169 [.ref 20, .int 0, .int (Int8.ofInt 10).toInt32] (zxM M f va vb sc) = some (none, zxM M f' va vb sc)) {n : Nat} : zrun X zmt call zm_17 (n + 14) 0 [(0, .ref 19), (1, .int va), (2, .int vb)] [] (zxM M f cb ch sc) = some (none, zxM M f' va vb sc) := by
  have h19' : ∀ cb ch sc, zob (zxM M f cb ch sc) 19 = some (.inr (1, zf_19)) := fun cb ch sc => (zx_o (by decide) (by decide) (by decide)).trans h19
  refine zr_s0 rfl rfl rfl rfl ?_
  refine zr_get rfl rfl (h19' _ _ _) rfl ?_
  refine zr_s0 rfl rfl rfl rfl ?_
  refine zr_putXs (cb' := va) (ch' := ch) rfl rfl hM rfl ⟨Nat.le_of_ble_eq_true rfl, Nat.le_of_ble_eq_true rfl, zfit_int _, Or.inl rfl⟩ rfl ?_
  refine zr_s0 rfl rfl rfl rfl ?_
  refine zr_get rfl rfl (h19' _ _ _) rfl ?_
  refine zr_s0 rfl rfl rfl rfl ?_
  refine zr_putXs (cb' := va) (ch' := vb) rfl rfl hM rfl ⟨Nat.le_of_ble_eq_true rfl, Nat.le_of_ble_eq_true rfl, zfit_int _, Or.inl rfl⟩ rfl ?_
  refine zr_s0 rfl rfl rfl rfl ?_
  refine zr_get rfl rfl (h19' _ _ _) rfl ?_
  refine zr_s0 rfl rfl rfl rfl ?_
  refine zr_s0 rfl rfl rfl rfl ?_
  refine zr_callV rfl rfl rfl rfl (by decide) (zx_s hM) rfl ⟨Or.inl rfl, rfl, rfl, rfl, rfl, rfl, Nat.le_of_ble_eq_true rfl⟩ hlay ?_
  exact zr_ret rfl rfl rfl
theorem x_system {c : Int32} (hc2 : zcI .lt c 2 = false) (hc4 : zcI .gt c 4 = false) (hb1 : zcI .lt vb 0 = false) (hb2 : zcI .le vb 7 = true) (hM : 486 ≤ M.1) {fr : Nat → Option Nat} (h2 : zob M 2 = some (.inl (3, 3, .inr (.inr (.inr (.inr fr)))))) (hfr : fr 0 = some 19) (h19 : zob M 19 = some (.inr (1, zf_19))) {f' : Nat → Int32} (hbeg : call 17 [.ref 19, .int c, .int vb] (zxM M f 0 0 0) = some (none, zxM M f' c vb 0)) {n : Nat} : zrun X zmt call zm_256 (n + 31) 0 [(0, .ref 0), (1, .int c), (2, .int vb)] [] (zxM M f 0 0 0) = some (some (.int 0), zxM M f' c vb 1) := by
  have h2' : zob (zxM M f 0 0 0) 2 = some (.inl (3, 3, .inr (.inr (.inr (.inr fr))))) := (zx_o (by decide) (by decide) (by decide)).trans h2
  have h19' : zob (zxM M f 0 0 0) 19 = some (.inr (1, zf_19)) := (zx_o (by decide) (by decide) (by decide)).trans h19
  refine zr_s0 rfl rfl rfl rfl ?_
  refine zr_s0 rfl rfl rfl rfl ?_
  refine zr_icmp (t := 20) rfl rfl (fun h => Bool.noConfusion (hc2.symm.trans h)) (fun _ => ?_)
  refine zr_s0 rfl rfl rfl rfl ?_
  refine zr_s0 rfl rfl rfl rfl ?_
  refine zr_icmp (t := 20) rfl rfl (fun h => Bool.noConfusion (hc4.symm.trans h)) (fun _ => ?_)
  refine zr_s0 rfl rfl rfl rfl ?_
  refine zr_if (t := 20) rfl rfl (fun h => Bool.noConfusion (hb1.symm.trans h)) (fun _ => ?_)
  refine zr_s0 rfl rfl rfl rfl ?_
  refine zr_s0 rfl rfl rfl rfl ?_
  refine zr_icmp (t := 23) rfl rfl (fun _ => ?_) (fun h => Bool.noConfusion (hb2.symm.trans h))
  refine zr_s0 rfl rfl rfl rfl ?_
  refine zr_get rfl rfl (zx_0 hM) rfl ?_
  refine zr_s0 rfl rfl rfl rfl ?_
  refine zr_icmp (t := 34) rfl rfl (fun _ => ?_) (fun h => absurd h (by decide))
  refine zr_s0 rfl rfl rfl rfl ?_
  refine zr_get rfl rfl (zx_0 hM) rfl ?_
  refine zr_s0 rfl rfl rfl rfl ?_
  refine zr_get rfl rfl (zx_0 hM) rfl ?_
  refine zr_aald rfl h2' (by decide) hfr ?_
  refine zr_s0 rfl rfl rfl rfl ?_
  refine zr_s0 rfl rfl rfl rfl ?_
  refine zr_callV rfl rfl rfl rfl (by decide) h19' rfl ⟨Or.inl rfl, rfl, rfl, rfl, rfl, rfl, Nat.le_of_ble_eq_true rfl⟩ hbeg ?_
  refine zr_s0 rfl rfl rfl rfl ?_
  refine zr_s0 rfl rfl rfl rfl ?_
  refine zr_get rfl rfl (zx_0 hM) rfl ?_
  refine zr_s0 rfl rfl rfl rfl ?_
  refine zr_s0 rfl rfl rfl rfl ?_
  refine zr_s0 rfl rfl rfl rfl ?_
  refine zr_putX0 (sc' := 1) rfl rfl hM rfl ⟨Nat.le_of_ble_eq_true rfl, Nat.le_of_ble_eq_true rfl, zfit_int _, Or.inl rfl⟩ rfl ?_
  exact zr_ret rfl rfl rfl
end ZXY
section ZNEW
variable {X : zX} {call : zCall} {M : zM}
theorem x_systemB {va vb : Int32} (hbad : zin va 2 4 = 0 ∨ zin vb 0 7 = 0) {n : Nat} : zrun X zmt call zm_256 (n + 13) 0 [(0, .ref 0), (1, .int va), (2, .int vb)] [] M = some (some (.int (-2)), M) := by
  refine zr_s0 rfl rfl rfl rfl ?_
  refine zr_s0 rfl rfl rfl rfl ?_
  refine zr_icmp (t := 20) rfl rfl (fun h2 => ?_) (fun h2 => ?_)
  · refine zr_s0 rfl rfl rfl rfl ?_
    exact zr_ret rfl rfl rfl
  · refine zr_s0 rfl rfl rfl rfl ?_
    refine zr_s0 rfl rfl rfl rfl ?_
    refine zr_icmp (t := 20) rfl rfl (fun h7 => ?_) (fun h7 => ?_)
    · refine zr_s0 rfl rfl rfl rfl ?_
      exact zr_ret rfl rfl rfl
    · refine zr_s0 rfl rfl rfl rfl ?_
      refine zr_if (t := 20) rfl rfl (fun h11 => ?_) (fun h11 => ?_)
      · refine zr_s0 rfl rfl rfl rfl ?_
        exact zr_ret rfl rfl rfl
      · refine zr_s0 rfl rfl rfl rfl ?_
        refine zr_s0 rfl rfl rfl rfl ?_
        refine zr_icmp (t := 23) rfl rfl (fun h => hbad.elim (fun e => absurd (e.symm.trans (zin_1 h2 h7)) (by decide)) (fun e => absurd (e.symm.trans (zin_1 h11 (zc_le h))) (by decide))) (fun h17 => ?_)
        refine zr_s0 rfl rfl rfl rfl ?_
        exact zr_ret rfl rfl rfl
theorem m_system0 {va vb : Int32}(hi : call 456 [.int va, .int 2, .int 4] M = some (some (.int 0), M)) {n : Nat} : zrun X zmt call zm_462 (n + 7) 0 [(0, .ref 474), (1, .int va), (2, .int vb)] [] M = some (some (.int (-2)), M) := by
  refine zr_s0 rfl rfl rfl rfl ?_
  refine zr_s0 rfl rfl rfl rfl ?_
  refine zr_s0 rfl rfl rfl rfl ?_
  refine zr_callS rfl rfl rfl ⟨Or.inl rfl, rfl, rfl, rfl, rfl, Nat.le_of_ble_eq_true rfl⟩ hi ?_
  refine zr_if (t := 19) rfl rfl (fun _ => ?_) (fun h => absurd h (by decide))
  refine zr_s0 rfl rfl rfl rfl ?_
  exact zr_ret rfl rfl rfl
theorem m_system1 {va vb : Int32}(hi : call 456 [.int va, .int 2, .int 4] M = some (some (.int 1), M))(hj : call 456 [.int vb, .int 0, .int 7] M = some (some (.int 0), M)) {n : Nat} : zrun X zmt call zm_462 (n + 12) 0 [(0, .ref 474), (1, .int va), (2, .int vb)] [] M = some (some (.int (-2)), M) := by
  refine zr_s0 rfl rfl rfl rfl ?_
  refine zr_s0 rfl rfl rfl rfl ?_
  refine zr_s0 rfl rfl rfl rfl ?_
  refine zr_callS rfl rfl rfl ⟨Or.inl rfl, rfl, rfl, rfl, rfl, Nat.le_of_ble_eq_true rfl⟩ hi ?_
  refine zr_if (t := 19) rfl rfl (fun h => absurd h (by decide)) (fun _ => ?_)
  refine zr_s0 rfl rfl rfl rfl ?_
  refine zr_s0 rfl rfl rfl rfl ?_
  refine zr_s0 rfl rfl rfl rfl ?_
  refine zr_callS rfl rfl rfl ⟨Or.inl rfl, rfl, rfl, rfl, rfl, Nat.le_of_ble_eq_true rfl⟩ hj ?_
  refine zr_if (t := 22) rfl rfl (fun h => absurd h (by decide)) (fun _ => ?_)
  refine zr_s0 rfl rfl rfl rfl ?_
  exact zr_ret rfl rfl rfl
end ZNEW
