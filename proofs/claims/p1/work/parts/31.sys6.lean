/-! the reference makes a system: all of it -/
section ZSYX
variable {X : zX} {call : zCall} {M : zM} {f g : Nat → Int32} {vb : Int32}
theorem zm_system {c m : Nat} (hM : 486 ≤ M.1) (hM2 : M.1 ≤ 1000000) (hi1 : call 456 [.int (nI c), .int 2, .int 4] (zmM M f g 0 0) = some (some (.int 1), zmM M f g 0 0)) (hi2 : call 456 [.int vb, .int 0, .int 7] (zmM M f g 0 0) = some (some (.int 1), zmM M f g 0 0)) (hs : call 461 [.ref 474] (zmM M f g 0 0) = some (some (.int 0), zmM M f g 0 0)) (hC : ∀ (M : zM) (k : Nat), M.1 ≤ 1000000 → k < (zsb 9).length → call 502 [.ref 1000009, .int (nI k)] M = some (some (.int ((zsb 9).getD k 0)), M)) (hN : ∀ (f g : Nat → Int32) (t k : Nat), t < 172 → k < 24 → f 4 = nI t → call 330 [.ref 474, .int 0, .int 1] (zmM M f g (nI c) (nI k)) = some (some (.int (nI t)), zmM M (znw f g t k) g (nI c) (nI k))) (hW : ∀ (f g : Nat → Int32) (t : Nat) (rs : Int32), call 324 [.ref 474, .int (nI t)] (zmM M f g (nI c) rs) = some (some (.int (nI (8292 + 40 * t))), zmM M f g (nI c) rs)) (hP : ∀ (f g : Nat → Int32) (rs : Int32), ∃ f', call 303 [.ref 474, .long (Int64.ofNat 0), .int (Int8.ofInt 10).toInt32] (zmM M f g (nI c) rs) = some (none, zmM M f' g (nI c) rs)) (hm : 800000 ≤ m) : zq (zrun X zmt call zm_462 m 0 [(0, .ref 474), (1, .int (nI c)), (2, .int vb)] [] (zmM M f g 0 0)) = some (some (.int 0), M.1, M.2.1) := by
  obtain ⟨m, rfl⟩ : ∃ m', m = m' + 23 := ⟨m - 23, by omega⟩
  refine zq_of (zr_s0 rfl rfl rfl rfl rfl) ?_
  refine zq_of (zr_s0 rfl rfl rfl rfl rfl) ?_
  refine zq_of (zr_s0 rfl rfl rfl rfl rfl) ?_
  refine zq_of (zr_callS rfl rfl rfl ⟨Or.inl rfl, rfl, rfl, rfl, rfl, Nat.le_of_ble_eq_true rfl⟩ hi1 rfl) ?_
  refine zq_if (t := 19) rfl rfl (fun h => absurd h (by decide)) (fun _ => ?_)
  refine zq_of (zr_s0 rfl rfl rfl rfl rfl) ?_
  refine zq_of (zr_s0 rfl rfl rfl rfl rfl) ?_
  refine zq_of (zr_s0 rfl rfl rfl rfl rfl) ?_
  refine zq_of (zr_callS rfl rfl rfl ⟨Or.inl rfl, rfl, rfl, rfl, rfl, Nat.le_of_ble_eq_true rfl⟩ hi2 rfl) ?_
  refine zq_if (t := 22) rfl rfl (fun _ => ?_) (fun h => absurd h (by decide))
  refine zq_of (zr_s0 rfl rfl rfl rfl rfl) ?_
  refine zq_of (zr_callV rfl rfl rfl rfl (by decide) (zm_o hM) rfl ⟨Or.inl rfl, rfl, rfl, rfl, rfl, rfl, Nat.le_of_ble_eq_true rfl⟩ hs rfl) ?_
  refine zq_of (zr_s0 rfl rfl rfl rfl rfl) ?_
  refine zq_of (zr_s0 rfl rfl rfl rfl rfl) ?_
  refine zq_of (zr_s0 rfl rfl rfl rfl rfl) ?_
  refine zq_icmp (t := 35) rfl rfl (fun _ => ?_) (fun h => absurd h (by decide))
  refine zq_of (zr_s0 rfl rfl rfl rfl rfl) ?_
  refine zq_of (zr_s1 rfl rfl rfl rfl rfl rfl) ?_
  refine zq_of (zr_s0 rfl rfl rfl rfl rfl) ?_
  refine zq_of (zr_s0 rfl rfl rfl rfl rfl) ?_
  refine zq_of (zr_putM (cl' := 0) (rs' := 0) rfl rfl hM rfl ⟨Nat.le_of_ble_eq_true rfl, Nat.le_of_ble_eq_true rfl, zfit_int _, Or.inl rfl⟩ rfl rfl) ?_
  refine zq_of (zr_s0 rfl rfl rfl rfl rfl) ?_
  refine zq_of (zr_s0 rfl rfl rfl rfl rfl) ?_
  have hz : zmM M f g 0 0 = zmM M (zfl f 0 0 0) g 0 0 := by rw [zfl_0]
  rw [hz]
  obtain ⟨m, rfl⟩ : ∃ m', m = m' + 3 + 13 * 39700 := ⟨m - 3 - 13 * 39700, by omega⟩
  refine sys_clear hM ?_ 39700 0 rfl
  obtain ⟨m, rfl⟩ : ∃ m', m = m' + 93 := ⟨m - 93, by omega⟩
  refine zq_of (zr_s0 rfl rfl rfl rfl rfl) ?_
  refine zq_of (zr_get rfl rfl (zm_o hM) rfl rfl) ?_
  refine zq_of (zr_s0 rfl rfl rfl rfl rfl) ?_
  refine zq_of (zr_get rfl rfl (zm_o hM) rfl rfl) ?_
  refine zq_of (zr_s0 rfl rfl rfl rfl rfl) ?_
  refine zq_of (zr_s0 rfl rfl rfl rfl rfl) ?_
  refine zq_of (zr_s0 rfl rfl rfl rfl rfl) ?_
  refine zq_of (zr_iastM (k := 35) rfl hM (by decide) (by decide) rfl) ?_
  refine zq_of (zr_s0 rfl rfl rfl rfl rfl) ?_
  refine zq_of (zr_get rfl rfl (zm_o hM) rfl rfl) ?_
  refine zq_of (zr_s0 rfl rfl rfl rfl rfl) ?_
  refine zq_of (zr_get rfl rfl (zm_o hM) rfl rfl) ?_
  refine zq_of (zr_s0 rfl rfl rfl rfl rfl) ?_
  refine zq_of (zr_s0 rfl rfl rfl rfl rfl) ?_
  refine zq_of (zr_s0 rfl rfl rfl rfl rfl) ?_
  refine zq_of (zr_iastM (k := 1) rfl hM (by decide) (by decide) rfl) ?_
  refine zq_of (zr_s0 rfl rfl rfl rfl rfl) ?_
  refine zq_of (zr_get rfl rfl (zm_o hM) rfl rfl) ?_
  refine zq_of (zr_s0 rfl rfl rfl rfl rfl) ?_
  refine zq_of (zr_get rfl rfl (zm_o hM) rfl rfl) ?_
  refine zq_of (zr_s0 rfl rfl rfl rfl rfl) ?_
  refine zq_of (zr_s0 rfl rfl rfl rfl rfl) ?_
  refine zq_of (zr_s0 rfl rfl rfl rfl rfl) ?_
  refine zq_of (zr_iastM (k := 2) rfl hM (by decide) (by decide) rfl) ?_
  refine zq_of (zr_s0 rfl rfl rfl rfl rfl) ?_
  refine zq_of (zr_get rfl rfl (zm_o hM) rfl rfl) ?_
  refine zq_of (zr_s0 rfl rfl rfl rfl rfl) ?_
  refine zq_of (zr_get rfl rfl (zm_o hM) rfl rfl) ?_
  refine zq_of (zr_s0 rfl rfl rfl rfl rfl) ?_
  refine zq_of (zr_s0 rfl rfl rfl rfl rfl) ?_
  refine zq_of (zr_s0 rfl rfl rfl rfl rfl) ?_
  refine zq_of (zr_iastM (k := 3) rfl hM (by decide) (by decide) rfl) ?_
  refine zq_of (zr_s0 rfl rfl rfl rfl rfl) ?_
  refine zq_of (zr_get rfl rfl (zm_o hM) rfl rfl) ?_
  refine zq_of (zr_s0 rfl rfl rfl rfl rfl) ?_
  refine zq_of (zr_get rfl rfl (zm_o hM) rfl rfl) ?_
  refine zq_of (zr_s0 rfl rfl rfl rfl rfl) ?_
  refine zq_of (zr_s0 rfl rfl rfl rfl rfl) ?_
  refine zq_of (zr_s0 rfl rfl rfl rfl rfl) ?_
  refine zq_of (zr_iastM (k := 9) rfl hM (by decide) (by decide) rfl) ?_
  refine zq_of (zr_s0 rfl rfl rfl rfl rfl) ?_
  refine zq_of (zr_get rfl rfl (zm_o hM) rfl rfl) ?_
  refine zq_of (zr_s0 rfl rfl rfl rfl rfl) ?_
  refine zq_of (zr_get rfl rfl (zm_o hM) rfl rfl) ?_
  refine zq_of (zr_s0 rfl rfl rfl rfl rfl) ?_
  refine zq_of (zr_s0 rfl rfl rfl rfl rfl) ?_
  refine zq_of (zr_s0 rfl rfl rfl rfl rfl) ?_
  refine zq_of (zr_iastM (k := 10) rfl hM (by decide) (by decide) rfl) ?_
  refine zq_of (zr_s0 rfl rfl rfl rfl rfl) ?_
  refine zq_of (zr_get rfl rfl (zm_o hM) rfl rfl) ?_
  refine zq_of (zr_s0 rfl rfl rfl rfl rfl) ?_
  refine zq_of (zr_get rfl rfl (zm_o hM) rfl rfl) ?_
  refine zq_of (zr_s0 rfl rfl rfl rfl rfl) ?_
  refine zq_of (zr_s0 rfl rfl rfl rfl rfl) ?_
  refine zq_of (zr_s0 rfl rfl rfl rfl rfl) ?_
  refine zq_of (zr_iastM (k := 25) rfl hM (by decide) (by decide) rfl) ?_
  refine zq_of (zr_s0 rfl rfl rfl rfl rfl) ?_
  refine zq_of (zr_get rfl rfl (zm_o hM) rfl rfl) ?_
  refine zq_of (zr_s0 rfl rfl rfl rfl rfl) ?_
  refine zq_of (zr_get rfl rfl (zm_o hM) rfl rfl) ?_
  refine zq_of (zr_s0 rfl rfl rfl rfl rfl) ?_
  refine zq_of (zr_s0 rfl rfl rfl rfl rfl) ?_
  refine zq_of (zr_s0 rfl rfl rfl rfl rfl) ?_
  refine zq_of (zr_iastM (k := 11) rfl hM (by decide) (by decide) rfl) ?_
  refine zq_of (zr_s0 rfl rfl rfl rfl rfl) ?_
  refine zq_of (zr_get rfl rfl (zm_o hM) rfl rfl) ?_
  refine zq_of (zr_s0 rfl rfl rfl rfl rfl) ?_
  refine zq_of (zr_get rfl rfl (zm_o hM) rfl rfl) ?_
  refine zq_of (zr_s0 rfl rfl rfl rfl rfl) ?_
  refine zq_of (zr_s0 rfl rfl rfl rfl rfl) ?_
  refine zq_of (zr_s0 rfl rfl rfl rfl rfl) ?_
  refine zq_of (zr_iastM (k := 16) rfl hM (by decide) (by decide) rfl) ?_
  refine zq_of (zr_s0 rfl rfl rfl rfl rfl) ?_
  refine zq_of (zr_get rfl rfl (zm_o hM) rfl rfl) ?_
  refine zq_of (zr_s0 rfl rfl rfl rfl rfl) ?_
  refine zq_of (zr_get rfl rfl (zm_o hM) rfl rfl) ?_
  refine zq_of (zr_s0 rfl rfl rfl rfl rfl) ?_
  refine zq_of (zr_s0 rfl rfl rfl rfl rfl) ?_
  refine zq_of (zr_s0 rfl rfl rfl rfl rfl) ?_
  refine zq_of (zr_iastM (k := 33) rfl hM (by decide) (by decide) rfl) ?_
  refine zq_of (zr_s0 rfl rfl rfl rfl rfl) ?_
  refine zq_of (zr_get rfl rfl (zm_o hM) rfl rfl) ?_
  refine zq_of (zr_s0 rfl rfl rfl rfl rfl) ?_
  refine zq_of (zr_get rfl rfl (zm_o hM) rfl rfl) ?_
  refine zq_of (zr_s0 rfl rfl rfl rfl rfl) ?_
  refine zq_of (zr_s0 rfl rfl rfl rfl rfl) ?_
  refine zq_of (zr_s0 rfl rfl rfl rfl rfl) ?_
  refine zq_of (zr_iastM (k := 30692) rfl hM (by decide) (by decide) rfl) ?_
  refine zq_of (zr_s0 rfl rfl rfl rfl rfl) ?_
  refine zq_of (zr_s0 rfl rfl rfl rfl rfl) ?_
  refine zq_of (zr_putM (cl' := nI c) (rs' := 0) rfl rfl hM rfl ⟨Nat.le_of_ble_eq_true rfl, Nat.le_of_ble_eq_true rfl, zfit_int _, Or.inl rfl⟩ rfl rfl) ?_
  refine zq_of (zr_s0 rfl rfl rfl rfl rfl) ?_
  refine zq_of (zr_s0 rfl rfl rfl rfl rfl) ?_
  generalize hF : upd (upd (upd (upd (upd (upd (upd (upd (upd (upd (upd (zfl f 0 0 39700) 35 _) 1 _) 2 _) 3 _) 9 _) 10 _) 25 _) 11 _) 16 _) 33 _) 30692 _ = F
  have hF4 : F 4 = 0 := by
    rw [← hF, upd_ne (by decide), upd_ne (by decide), upd_ne (by decide), upd_ne (by decide), upd_ne (by decide), upd_ne (by decide), upd_ne (by decide), upd_ne (by decide), upd_ne (by decide), upd_ne (by decide), upd_ne (by decide)]
    unfold zfl
    rw [if_pos (by omega)]
  have hz2 : zmM M F g (nI c) 0 = zmM M (zfl F 4196 32 0) g (nI c) 0 := by rw [zfl_0]
  rw [hz2]
  obtain ⟨m, rfl⟩ : ∃ m', m = m' + 3 + 15 * 4096 := ⟨m - 3 - 15 * 4096, by omega⟩
  refine sys_blank hM ?_ 4096 0 rfl
  obtain ⟨m, rfl⟩ : ∃ m', m = m' + 4 := ⟨m - 4, by omega⟩
  refine zq_of (zr_s0 rfl rfl rfl rfl rfl) ?_
  refine zq_of (zr_s0 rfl rfl rfl rfl rfl) ?_
  refine zq_of (zr_s0 rfl rfl rfl rfl rfl) ?_
  refine zq_of (zr_s0 rfl rfl rfl rfl rfl) ?_
  have hG4 : zfl F 4196 32 4096 4 = nI 0 := by
    unfold zfl
    rw [if_neg (by omega), hF4]
    rfl
  obtain ⟨w1, w2, w3⟩ := zwds_ok
  cases hws : zwds with
  | nil =>
    rw [hws] at w2
    cases w2
  | cons w ws =>
    rw [hws] at w1 w2 w3
    obtain ⟨g1, g2⟩ := w3 w List.mem_cons_self
    have hd : (zsb 9).drop 0 = w ++ 32 :: zjoin ws := w1.symm
    have hl : ws.length = 171 := by
      rw [List.length_cons] at w2
      omega
    have hd2 : (zsb 9).drop (0 + w.length + 1) = zjoin ws := by
      rw [Nat.zero_add, ← w1]
      show (w ++ 32 :: zjoin ws).drop (w.length + 1) = zjoin ws
      rw [List.drop_append, List.drop_of_length_le (by omega), show w.length + 1 - w.length = 1 by omega]
      rfl
    refine sys_iterA (N := 400 + 5 + 1000 * ws.length) (rest := zjoin ws) hM hM2 hC hN hW hd g2 g1 (by decide) hG4 (fun f g rs x y hf m hm => ?_) m (by rw [hl]; omega)
    refine sys_names (N := 400) hM hM2 hC hN hW (fun f g a rs x y m hm => ?_) ws 1 (0 + w.length + 1) f g rs x y (by rw [hl]) hd2 (fun w hw => w3 w (List.mem_cons_of_mem _ hw)) hf m hm
    obtain ⟨m, rfl⟩ : ∃ m', m = m' + 14 := ⟨m - 14, by omega⟩
    refine zq_of (zr_s0 rfl rfl rfl rfl rfl) ?_
    refine zq_of (zr_get rfl rfl (zm_o hM) rfl rfl) ?_
    refine zq_of (zr_s0 rfl rfl rfl rfl rfl) ?_
    refine zq_of (zr_get rfl rfl (zm_o hM) rfl rfl) ?_
    refine zq_of (zr_s0 rfl rfl rfl rfl rfl) ?_
    refine zq_of (zr_s0 rfl rfl rfl rfl rfl) ?_
    refine zq_of (zr_s0 rfl rfl rfl rfl rfl) ?_
    refine zq_of (zr_iastM (k := 16) rfl hM (by decide) (by decide) rfl) ?_
    refine zq_of (zr_s0 rfl rfl rfl rfl rfl) ?_
    refine zq_of (zr_s0 rfl rfl rfl rfl rfl) ?_
    refine zq_of (zr_s0 rfl rfl rfl rfl rfl) ?_
    obtain ⟨f', hf'⟩ := hP (upd f 16 (Int32.ofInt (-1))) g rs
    refine zq_of (zr_callV rfl rfl rfl rfl (by decide) (zm_o hM) rfl ⟨Or.inl rfl, rfl, rfl, rfl, rfl, rfl, Nat.le_of_ble_eq_true rfl⟩ hf' rfl) ?_
    refine zq_of (zr_s0 rfl rfl rfl rfl rfl) ?_
    rw [zr_ret rfl rfl rfl]
    rfl
end ZSYX
