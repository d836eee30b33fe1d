/-! the reference makes a system: its words -/
section ZSYW
variable {X : zX} {call : zCall} {M : zM} {g : Nat → Int32} {cl rs va vb : Int32} {R : Option (Option Value × Nat × Nat)}
theorem sys_iterA {t a N : Nat} {f : Nat → Int32} {rs : Int32} (hM : 486 ≤ M.1) (hM2 : M.1 ≤ 1000000) (hC : ∀ (M : zM) (k : Nat), M.1 ≤ 1000000 → k < (zsb 9).length → call 502 [.ref 1000009, .int (nI k)] M = some (some (.int ((zsb 9).getD k 0)), M)) (hN : ∀ (f g : Nat → Int32) (t k : Nat), t < 172 → k < 24 → f 4 = nI t → call 330 [.ref 474, .int 0, .int 1] (zmM M f g cl (nI k)) = some (some (.int (nI t)), zmM M (znw f g t k) g cl (nI k))) (hW : ∀ (f g : Nat → Int32) (t : Nat) (rs : Int32), call 324 [.ref 474, .int (nI t)] (zmM M f g cl rs) = some (some (.int (nI (8292 + 40 * t))), zmM M f g cl rs)) {rest w : List Int32} (hd : (zsb 9).drop a = w ++ 32 :: rest) (hw : ∀ c ∈ w, c ≠ 32) (hk : w.length < 24) (ht : t < 172) (hf : f 4 = nI t) (hK : ∀ (f g : Nat → Int32) (rs x y : Int32), f 4 = nI (t + 1) → ∀ m, N ≤ m → zq (zrun X zmt call zm_462 m 265 [(0, .ref 474), (1, .int va), (2, .int vb), (3, .int 0), (4, .int (nI (a + w.length + 1))), (5, .int (nI (t + 1))), (6, .int x), (7, .int y)] [] (zmM M f g cl rs)) = R) : ∀ m, N + 1000 ≤ m → zq (zrun X zmt call zm_462 m 265 [(0, .ref 474), (1, .int va), (2, .int vb), (3, .int 0), (4, .int (nI a)), (5, .int (nI t))] [] (zmM M f g cl rs)) = R := by
  have hlen : (zsb 9).length < 2 ^ 31 := (zsb_char 9 (by decide)).1
  intro m hm
  obtain ⟨m, rfl⟩ : ∃ m', m = (m' + 5 + 21 * w.length) + 6 := ⟨m - (5 + 21 * w.length) - 6, by omega⟩
  refine zq_of (zr_s0 rfl rfl rfl rfl rfl) ?_
  refine zq_of (zr_s0 rfl rfl rfl rfl rfl) ?_
  refine zq_icmp (t := 460) rfl rfl (fun h => absurd (show zcI .ge (nI t) (nI 172) = true from h) (zc_nge ht (by decide))) (fun _ => ?_)
  refine zq_of (zr_s0 rfl rfl rfl rfl rfl) ?_
  refine zq_of (zr_s0 rfl rfl rfl rfl rfl) ?_
  refine zq_of (zr_putM (cl' := cl) (rs' := nI 0) rfl rfl hM rfl ⟨Nat.le_of_ble_eq_true rfl, Nat.le_of_ble_eq_true rfl, zfit_int _, Or.inl rfl⟩ rfl rfl) ?_
  refine sys_wordA hM hM2 hC rest w a 0 g hd hw (by omega) (fun g' => ?_)
  rw [Nat.zero_add]
  have e4 : nI (a + w.length) + Int32.ofInt 1 = nI (a + w.length + 1) := nI_1 _
  have e5 : nI t + Int32.ofInt 1 = nI (t + 1) := nI_1 t
  have J429 : ∀ (x : Int32) (m : Nat), N + 40 ≤ m → zq (zrun X zmt call zm_462 m 429 [(0, .ref 474), (1, .int va), (2, .int vb), (3, .int 0), (4, .int (nI (a + w.length + 1))), (5, .int (nI t)), (6, .int (nI t))] [.int x] (zmM M (znw f g' t w.length) g' cl (nI w.length))) = R := by
    intro x m hm
    obtain ⟨m, rfl⟩ : ∃ m', m = m' + 20 := ⟨m - 20, by omega⟩
    refine zq_of (zr_s0 rfl rfl rfl rfl rfl) ?_
    refine zq_of (zr_s0 rfl rfl rfl rfl rfl) ?_
    refine zq_of (zr_get rfl rfl (zm_o hM) rfl rfl) ?_
    refine zq_of (zr_s0 rfl rfl rfl rfl rfl) ?_
    refine zq_of (zr_s0 rfl rfl rfl rfl rfl) ?_
    refine zq_of (zr_callV rfl rfl rfl rfl (by decide) (zm_o hM) rfl ⟨Or.inl rfl, rfl, rfl, rfl, rfl, rfl, Nat.le_of_ble_eq_true rfl⟩ (hW _ _ _ _) rfl) ?_
    refine zq_of (zr_s0 rfl rfl rfl rfl rfl) ?_
    refine zq_of (zr_s0 rfl rfl rfl rfl rfl) ?_
    refine zq_of (zr_s0 rfl rfl rfl rfl rfl) ?_
    refine zq_if (t := 452) rfl rfl (fun _ => ?_) (fun _ => ?_)
    · refine zq_of (zr_s0 rfl rfl rfl rfl rfl) ?_
      refine zq_of (zr_iastM (k := 8292 + 40 * t + 2) rfl hM (by rw [show Int32.ofInt 2 = nI 2 by decide, nI_add]) (by omega) rfl) ?_
      refine zq_of (zr_s0 rfl rfl rfl rfl rfl) ?_
      refine zq_of (zr_s0 rfl rfl rfl rfl rfl) ?_
      rw [e5]
      exact hK _ _ _ _ _ ((upd_ne (by omega)).trans znw_4) _ (by omega)
    · refine zq_of (zr_s0 rfl rfl rfl rfl rfl) ?_
      refine zq_of (zr_s0 rfl rfl rfl rfl rfl) ?_
      refine zq_of (zr_iastM (k := 8292 + 40 * t + 2) rfl hM (by rw [show Int32.ofInt 2 = nI 2 by decide, nI_add]) (by omega) rfl) ?_
      refine zq_of (zr_s0 rfl rfl rfl rfl rfl) ?_
      refine zq_of (zr_s0 rfl rfl rfl rfl rfl) ?_
      rw [e5]
      exact hK _ _ _ _ _ ((upd_ne (by omega)).trans znw_4) _ (by omega)
  have J424 : ∀ m, N + 50 ≤ m → zq (zrun X zmt call zm_462 m 424 [(0, .ref 474), (1, .int va), (2, .int vb), (3, .int 0), (4, .int (nI (a + w.length + 1))), (5, .int (nI t)), (6, .int (nI t))] [] (zmM M (znw f g' t w.length) g' cl (nI w.length))) = R := by
    intro m hm
    obtain ⟨m, rfl⟩ : ∃ m', m = m' + 2 := ⟨m - 2, by omega⟩
    refine zq_of (zr_s0 rfl rfl rfl rfl rfl) ?_
    refine zq_of (zr_s0 rfl rfl rfl rfl rfl) ?_
    exact J429 _ _ (by omega)
  have J428 : ∀ m, N + 50 ≤ m → zq (zrun X zmt call zm_462 m 428 [(0, .ref 474), (1, .int va), (2, .int vb), (3, .int 0), (4, .int (nI (a + w.length + 1))), (5, .int (nI t)), (6, .int (nI t))] [] (zmM M (znw f g' t w.length) g' cl (nI w.length))) = R := by
    intro m hm
    obtain ⟨m, rfl⟩ : ∃ m', m = m' + 1 := ⟨m - 1, by omega⟩
    refine zq_of (zr_s0 rfl rfl rfl rfl rfl) ?_
    exact J429 _ _ (by omega)
  have J409 : ∀ m, N + 60 ≤ m → zq (zrun X zmt call zm_462 m 409 [(0, .ref 474), (1, .int va), (2, .int vb), (3, .int 0), (4, .int (nI (a + w.length + 1))), (5, .int (nI t)), (6, .int (nI t))] [] (zmM M (znw f g' t w.length) g' cl (nI w.length))) = R := by
    intro m hm
    obtain ⟨m, rfl⟩ : ∃ m', m = m' + 6 := ⟨m - 6, by omega⟩
    refine zq_of (zr_s0 rfl rfl rfl rfl rfl) ?_
    refine zq_of (zr_s0 rfl rfl rfl rfl rfl) ?_
    refine zq_icmp (t := 428) rfl rfl (fun _ => J428 _ (by omega)) (fun _ => ?_)
    refine zq_of (zr_s0 rfl rfl rfl rfl rfl) ?_
    refine zq_of (zr_s0 rfl rfl rfl rfl rfl) ?_
    exact zq_icmp (t := 428) rfl rfl (fun _ => J428 _ (by omega)) (fun _ => J424 _ (by omega))
  have J367 : ∀ m, N + 100 ≤ m → zq (zrun X zmt call zm_462 m 367 [(0, .ref 474), (1, .int va), (2, .int vb), (3, .int 0), (4, .int (nI (a + w.length + 1))), (5, .int (nI t)), (6, .int (nI t))] [] (zmM M (znw f g' t w.length) g' cl (nI w.length))) = R := by
    intro m hm
    obtain ⟨m, rfl⟩ : ∃ m', m = m' + 18 := ⟨m - 18, by omega⟩
    refine zq_of (zr_s0 rfl rfl rfl rfl rfl) ?_
    refine zq_of (zr_s0 rfl rfl rfl rfl rfl) ?_
    refine zq_icmp (t := 424) rfl rfl (fun _ => J424 _ (by omega)) (fun _ => ?_)
    refine zq_of (zr_s0 rfl rfl rfl rfl rfl) ?_
    refine zq_of (zr_s0 rfl rfl rfl rfl rfl) ?_
    refine zq_icmp (t := 424) rfl rfl (fun _ => J424 _ (by omega)) (fun _ => ?_)
    refine zq_of (zr_s0 rfl rfl rfl rfl rfl) ?_
    refine zq_of (zr_s0 rfl rfl rfl rfl rfl) ?_
    refine zq_icmp (t := 424) rfl rfl (fun _ => J424 _ (by omega)) (fun _ => ?_)
    refine zq_of (zr_s0 rfl rfl rfl rfl rfl) ?_
    refine zq_of (zr_s0 rfl rfl rfl rfl rfl) ?_
    refine zq_icmp (t := 424) rfl rfl (fun _ => J424 _ (by omega)) (fun _ => ?_)
    refine zq_of (zr_s0 rfl rfl rfl rfl rfl) ?_
    refine zq_of (zr_s0 rfl rfl rfl rfl rfl) ?_
    refine zq_icmp (t := 409) rfl rfl (fun _ => J409 _ (by omega)) (fun _ => ?_)
    refine zq_of (zr_s0 rfl rfl rfl rfl rfl) ?_
    refine zq_of (zr_s0 rfl rfl rfl rfl rfl) ?_
    exact zq_icmp (t := 424) rfl rfl (fun _ => J424 _ (by omega)) (fun _ => J409 _ (by omega))
  obtain ⟨m, rfl⟩ : ∃ m', m = m' + 18 := ⟨m - 18, by omega⟩
  refine zq_of (zr_s0 rfl rfl rfl rfl rfl) ?_
  rw [e4]
  refine zq_of (zr_s0 rfl rfl rfl rfl rfl) ?_
  refine zq_of (zr_s0 rfl rfl rfl rfl rfl) ?_
  refine zq_of (zr_s0 rfl rfl rfl rfl rfl) ?_
  refine zq_of (zr_callV rfl rfl rfl rfl (by decide) (zm_o hM) rfl ⟨Or.inl rfl, rfl, rfl, rfl, rfl, rfl, Nat.le_of_ble_eq_true rfl⟩ (hN f g' t w.length ht hk hf) rfl) ?_
  refine zq_of (zr_s0 rfl rfl rfl rfl rfl) ?_
  refine zq_of (zr_s0 rfl rfl rfl rfl rfl) ?_
  refine zq_of (zr_s0 rfl rfl rfl rfl rfl) ?_
  refine zq_icmp (t := 367) rfl rfl (fun _ => J367 (m + 9) (by omega)) (fun _ => ?_)
  refine zq_of (zr_s0 rfl rfl rfl rfl rfl) ?_
  refine zq_of (zr_s0 rfl rfl rfl rfl rfl) ?_
  refine zq_icmp (t := 367) rfl rfl (fun _ => J367 (m + 6) (by omega)) (fun _ => ?_)
  refine zq_of (zr_s0 rfl rfl rfl rfl rfl) ?_
  refine zq_of (zr_s0 rfl rfl rfl rfl rfl) ?_
  refine zq_icmp (t := 424) rfl rfl (fun _ => J424 (m + 3) (by omega)) (fun _ => ?_)
  refine zq_of (zr_s0 rfl rfl rfl rfl rfl) ?_
  refine zq_of (zr_s0 rfl rfl rfl rfl rfl) ?_
  exact zq_icmp (t := 424) rfl rfl (fun _ => J424 (m + 0) (by omega)) (fun _ => J367 (m + 0) (by omega))
theorem sys_iterB {t a N : Nat} {f : Nat → Int32} {rs : Int32} {v6 v7 : Int32} (hM : 486 ≤ M.1) (hM2 : M.1 ≤ 1000000) (hC : ∀ (M : zM) (k : Nat), M.1 ≤ 1000000 → k < (zsb 9).length → call 502 [.ref 1000009, .int (nI k)] M = some (some (.int ((zsb 9).getD k 0)), M)) (hN : ∀ (f g : Nat → Int32) (t k : Nat), t < 172 → k < 24 → f 4 = nI t → call 330 [.ref 474, .int 0, .int 1] (zmM M f g cl (nI k)) = some (some (.int (nI t)), zmM M (znw f g t k) g cl (nI k))) (hW : ∀ (f g : Nat → Int32) (t : Nat) (rs : Int32), call 324 [.ref 474, .int (nI t)] (zmM M f g cl rs) = some (some (.int (nI (8292 + 40 * t))), zmM M f g cl rs)) {rest w : List Int32} (hd : (zsb 9).drop a = w ++ 32 :: rest) (hw : ∀ c ∈ w, c ≠ 32) (hk : w.length < 24) (ht : t < 172) (hf : f 4 = nI t) (hK : ∀ (f g : Nat → Int32) (rs x y : Int32), f 4 = nI (t + 1) → ∀ m, N ≤ m → zq (zrun X zmt call zm_462 m 265 [(0, .ref 474), (1, .int va), (2, .int vb), (3, .int 0), (4, .int (nI (a + w.length + 1))), (5, .int (nI (t + 1))), (6, .int x), (7, .int y)] [] (zmM M f g cl rs)) = R) : ∀ m, N + 1000 ≤ m → zq (zrun X zmt call zm_462 m 265 [(0, .ref 474), (1, .int va), (2, .int vb), (3, .int 0), (4, .int (nI a)), (5, .int (nI t)), (6, .int v6), (7, .int v7)] [] (zmM M f g cl rs)) = R := by
  have hlen : (zsb 9).length < 2 ^ 31 := (zsb_char 9 (by decide)).1
  intro m hm
  obtain ⟨m, rfl⟩ : ∃ m', m = (m' + 5 + 21 * w.length) + 6 := ⟨m - (5 + 21 * w.length) - 6, by omega⟩
  refine zq_of (zr_s0 rfl rfl rfl rfl rfl) ?_
  refine zq_of (zr_s0 rfl rfl rfl rfl rfl) ?_
  refine zq_icmp (t := 460) rfl rfl (fun h => absurd (show zcI .ge (nI t) (nI 172) = true from h) (zc_nge ht (by decide))) (fun _ => ?_)
  refine zq_of (zr_s0 rfl rfl rfl rfl rfl) ?_
  refine zq_of (zr_s0 rfl rfl rfl rfl rfl) ?_
  refine zq_of (zr_putM (cl' := cl) (rs' := nI 0) rfl rfl hM rfl ⟨Nat.le_of_ble_eq_true rfl, Nat.le_of_ble_eq_true rfl, zfit_int _, Or.inl rfl⟩ rfl rfl) ?_
  refine sys_wordB hM hM2 hC rest w a 0 g hd hw (by omega) (fun g' => ?_)
  rw [Nat.zero_add]
  have e4 : nI (a + w.length) + Int32.ofInt 1 = nI (a + w.length + 1) := nI_1 _
  have e5 : nI t + Int32.ofInt 1 = nI (t + 1) := nI_1 t
  have J429 : ∀ (x : Int32) (m : Nat), N + 40 ≤ m → zq (zrun X zmt call zm_462 m 429 [(0, .ref 474), (1, .int va), (2, .int vb), (3, .int 0), (4, .int (nI (a + w.length + 1))), (5, .int (nI t)), (6, .int (nI t)), (7, .int v7)] [.int x] (zmM M (znw f g' t w.length) g' cl (nI w.length))) = R := by
    intro x m hm
    obtain ⟨m, rfl⟩ : ∃ m', m = m' + 20 := ⟨m - 20, by omega⟩
    refine zq_of (zr_s0 rfl rfl rfl rfl rfl) ?_
    refine zq_of (zr_s0 rfl rfl rfl rfl rfl) ?_
    refine zq_of (zr_get rfl rfl (zm_o hM) rfl rfl) ?_
    refine zq_of (zr_s0 rfl rfl rfl rfl rfl) ?_
    refine zq_of (zr_s0 rfl rfl rfl rfl rfl) ?_
    refine zq_of (zr_callV rfl rfl rfl rfl (by decide) (zm_o hM) rfl ⟨Or.inl rfl, rfl, rfl, rfl, rfl, rfl, Nat.le_of_ble_eq_true rfl⟩ (hW _ _ _ _) rfl) ?_
    refine zq_of (zr_s0 rfl rfl rfl rfl rfl) ?_
    refine zq_of (zr_s0 rfl rfl rfl rfl rfl) ?_
    refine zq_of (zr_s0 rfl rfl rfl rfl rfl) ?_
    refine zq_if (t := 452) rfl rfl (fun _ => ?_) (fun _ => ?_)
    · refine zq_of (zr_s0 rfl rfl rfl rfl rfl) ?_
      refine zq_of (zr_iastM (k := 8292 + 40 * t + 2) rfl hM (by rw [show Int32.ofInt 2 = nI 2 by decide, nI_add]) (by omega) rfl) ?_
      refine zq_of (zr_s0 rfl rfl rfl rfl rfl) ?_
      refine zq_of (zr_s0 rfl rfl rfl rfl rfl) ?_
      rw [e5]
      exact hK _ _ _ _ _ ((upd_ne (by omega)).trans znw_4) _ (by omega)
    · refine zq_of (zr_s0 rfl rfl rfl rfl rfl) ?_
      refine zq_of (zr_s0 rfl rfl rfl rfl rfl) ?_
      refine zq_of (zr_iastM (k := 8292 + 40 * t + 2) rfl hM (by rw [show Int32.ofInt 2 = nI 2 by decide, nI_add]) (by omega) rfl) ?_
      refine zq_of (zr_s0 rfl rfl rfl rfl rfl) ?_
      refine zq_of (zr_s0 rfl rfl rfl rfl rfl) ?_
      rw [e5]
      exact hK _ _ _ _ _ ((upd_ne (by omega)).trans znw_4) _ (by omega)
  have J424 : ∀ m, N + 50 ≤ m → zq (zrun X zmt call zm_462 m 424 [(0, .ref 474), (1, .int va), (2, .int vb), (3, .int 0), (4, .int (nI (a + w.length + 1))), (5, .int (nI t)), (6, .int (nI t)), (7, .int v7)] [] (zmM M (znw f g' t w.length) g' cl (nI w.length))) = R := by
    intro m hm
    obtain ⟨m, rfl⟩ : ∃ m', m = m' + 2 := ⟨m - 2, by omega⟩
    refine zq_of (zr_s0 rfl rfl rfl rfl rfl) ?_
    refine zq_of (zr_s0 rfl rfl rfl rfl rfl) ?_
    exact J429 _ _ (by omega)
  have J428 : ∀ m, N + 50 ≤ m → zq (zrun X zmt call zm_462 m 428 [(0, .ref 474), (1, .int va), (2, .int vb), (3, .int 0), (4, .int (nI (a + w.length + 1))), (5, .int (nI t)), (6, .int (nI t)), (7, .int v7)] [] (zmM M (znw f g' t w.length) g' cl (nI w.length))) = R := by
    intro m hm
    obtain ⟨m, rfl⟩ : ∃ m', m = m' + 1 := ⟨m - 1, by omega⟩
    refine zq_of (zr_s0 rfl rfl rfl rfl rfl) ?_
    exact J429 _ _ (by omega)
  have J409 : ∀ m, N + 60 ≤ m → zq (zrun X zmt call zm_462 m 409 [(0, .ref 474), (1, .int va), (2, .int vb), (3, .int 0), (4, .int (nI (a + w.length + 1))), (5, .int (nI t)), (6, .int (nI t)), (7, .int v7)] [] (zmM M (znw f g' t w.length) g' cl (nI w.length))) = R := by
    intro m hm
    obtain ⟨m, rfl⟩ : ∃ m', m = m' + 6 := ⟨m - 6, by omega⟩
    refine zq_of (zr_s0 rfl rfl rfl rfl rfl) ?_
    refine zq_of (zr_s0 rfl rfl rfl rfl rfl) ?_
    refine zq_icmp (t := 428) rfl rfl (fun _ => J428 _ (by omega)) (fun _ => ?_)
    refine zq_of (zr_s0 rfl rfl rfl rfl rfl) ?_
    refine zq_of (zr_s0 rfl rfl rfl rfl rfl) ?_
    exact zq_icmp (t := 428) rfl rfl (fun _ => J428 _ (by omega)) (fun _ => J424 _ (by omega))
  have J367 : ∀ m, N + 100 ≤ m → zq (zrun X zmt call zm_462 m 367 [(0, .ref 474), (1, .int va), (2, .int vb), (3, .int 0), (4, .int (nI (a + w.length + 1))), (5, .int (nI t)), (6, .int (nI t)), (7, .int v7)] [] (zmM M (znw f g' t w.length) g' cl (nI w.length))) = R := by
    intro m hm
    obtain ⟨m, rfl⟩ : ∃ m', m = m' + 18 := ⟨m - 18, by omega⟩
    refine zq_of (zr_s0 rfl rfl rfl rfl rfl) ?_
    refine zq_of (zr_s0 rfl rfl rfl rfl rfl) ?_
    refine zq_icmp (t := 424) rfl rfl (fun _ => J424 _ (by omega)) (fun _ => ?_)
    refine zq_of (zr_s0 rfl rfl rfl rfl rfl) ?_
    refine zq_of (zr_s0 rfl rfl rfl rfl rfl) ?_
    refine zq_icmp (t := 424) rfl rfl (fun _ => J424 _ (by omega)) (fun _ => ?_)
    refine zq_of (zr_s0 rfl rfl rfl rfl rfl) ?_
    refine zq_of (zr_s0 rfl rfl rfl rfl rfl) ?_
    refine zq_icmp (t := 424) rfl rfl (fun _ => J424 _ (by omega)) (fun _ => ?_)
    refine zq_of (zr_s0 rfl rfl rfl rfl rfl) ?_
    refine zq_of (zr_s0 rfl rfl rfl rfl rfl) ?_
    refine zq_icmp (t := 424) rfl rfl (fun _ => J424 _ (by omega)) (fun _ => ?_)
    refine zq_of (zr_s0 rfl rfl rfl rfl rfl) ?_
    refine zq_of (zr_s0 rfl rfl rfl rfl rfl) ?_
    refine zq_icmp (t := 409) rfl rfl (fun _ => J409 _ (by omega)) (fun _ => ?_)
    refine zq_of (zr_s0 rfl rfl rfl rfl rfl) ?_
    refine zq_of (zr_s0 rfl rfl rfl rfl rfl) ?_
    exact zq_icmp (t := 424) rfl rfl (fun _ => J424 _ (by omega)) (fun _ => J409 _ (by omega))
  obtain ⟨m, rfl⟩ : ∃ m', m = m' + 18 := ⟨m - 18, by omega⟩
  refine zq_of (zr_s0 rfl rfl rfl rfl rfl) ?_
  rw [e4]
  refine zq_of (zr_s0 rfl rfl rfl rfl rfl) ?_
  refine zq_of (zr_s0 rfl rfl rfl rfl rfl) ?_
  refine zq_of (zr_s0 rfl rfl rfl rfl rfl) ?_
  refine zq_of (zr_callV rfl rfl rfl rfl (by decide) (zm_o hM) rfl ⟨Or.inl rfl, rfl, rfl, rfl, rfl, rfl, Nat.le_of_ble_eq_true rfl⟩ (hN f g' t w.length ht hk hf) rfl) ?_
  refine zq_of (zr_s0 rfl rfl rfl rfl rfl) ?_
  refine zq_of (zr_s0 rfl rfl rfl rfl rfl) ?_
  refine zq_of (zr_s0 rfl rfl rfl rfl rfl) ?_
  refine zq_icmp (t := 367) rfl rfl (fun _ => J367 (m + 9) (by omega)) (fun _ => ?_)
  refine zq_of (zr_s0 rfl rfl rfl rfl rfl) ?_
  refine zq_of (zr_s0 rfl rfl rfl rfl rfl) ?_
  refine zq_icmp (t := 367) rfl rfl (fun _ => J367 (m + 6) (by omega)) (fun _ => ?_)
  refine zq_of (zr_s0 rfl rfl rfl rfl rfl) ?_
  refine zq_of (zr_s0 rfl rfl rfl rfl rfl) ?_
  refine zq_icmp (t := 424) rfl rfl (fun _ => J424 (m + 3) (by omega)) (fun _ => ?_)
  refine zq_of (zr_s0 rfl rfl rfl rfl rfl) ?_
  refine zq_of (zr_s0 rfl rfl rfl rfl rfl) ?_
  exact zq_icmp (t := 424) rfl rfl (fun _ => J424 (m + 0) (by omega)) (fun _ => J367 (m + 0) (by omega))
def zjoin : List (List Int32) → List Int32
  | [] => []
  | w :: ws => w ++ 32 :: zjoin ws
def zsplit : List Int32 → List Int32 → List (List Int32)
  | [], _ => []
  | c :: cs, w => if c = 32 then w :: zsplit cs [] else zsplit cs (w ++ [c])
def zwds : List (List Int32) := zsplit (zsb 9) []
theorem zwds_ok : zjoin zwds = zsb 9 ∧ zwds.length = 172 ∧ ∀ w ∈ zwds, w.length < 24 ∧ ∀ c ∈ w, c ≠ 32 := by decide +kernel
theorem zfuel_S {N k m : Nat} (h : N + 5 + 1000 * (k + 1) ≤ m) : N + 5 + 1000 * k + 1000 ≤ m := by
  rw [Nat.mul_add, Nat.mul_one, ← Nat.add_assoc] at h
  exact h
theorem sys_names {N : Nat} (hM : 486 ≤ M.1) (hM2 : M.1 ≤ 1000000) (hC : ∀ (M : zM) (k : Nat), M.1 ≤ 1000000 → k < (zsb 9).length → call 502 [.ref 1000009, .int (nI k)] M = some (some (.int ((zsb 9).getD k 0)), M)) (hN : ∀ (f g : Nat → Int32) (t k : Nat), t < 172 → k < 24 → f 4 = nI t → call 330 [.ref 474, .int 0, .int 1] (zmM M f g cl (nI k)) = some (some (.int (nI t)), zmM M (znw f g t k) g cl (nI k))) (hW : ∀ (f g : Nat → Int32) (t : Nat) (rs : Int32), call 324 [.ref 474, .int (nI t)] (zmM M f g cl rs) = some (some (.int (nI (8292 + 40 * t))), zmM M f g cl rs)) (hE : ∀ (f g : Nat → Int32) (a : Nat) (rs x y : Int32), ∀ m, N ≤ m → zq (zrun X zmt call zm_462 m 460 [(0, .ref 474), (1, .int va), (2, .int vb), (3, .int 0), (4, .int (nI a)), (5, .int (nI 172)), (6, .int x), (7, .int y)] [] (zmM M f g cl rs)) = R) : ∀ (ws : List (List Int32)) (t a : Nat) (f g : Nat → Int32) (rs v6 v7 : Int32), t + ws.length = 172 → (zsb 9).drop a = zjoin ws → (∀ w ∈ ws, w.length < 24 ∧ ∀ c ∈ w, c ≠ 32) → f 4 = nI t → ∀ m, N + 5 + 1000 * ws.length ≤ m → zq (zrun X zmt call zm_462 m 265 [(0, .ref 474), (1, .int va), (2, .int vb), (3, .int 0), (4, .int (nI a)), (5, .int (nI t)), (6, .int v6), (7, .int v7)] [] (zmM M f g cl rs)) = R := by
  intro ws
  induction ws with
  | nil =>
    intro t a f g rs v6 v7 ht hd hg hf m hm
    have ht : t = 172 := ht
    subst ht
    obtain ⟨m, rfl⟩ : ∃ m', m = m' + 3 := ⟨m - 3, by omega⟩
    refine zq_of (zr_s0 rfl rfl rfl rfl rfl) ?_
    refine zq_of (zr_s0 rfl rfl rfl rfl rfl) ?_
    refine zq_icmp (t := 460) rfl rfl (fun _ => hE _ _ _ _ _ _ _ (by omega)) (fun h => absurd (show zcI .ge (nI 172) (nI 172) = false from h) zc_self)
  | cons w ws ih =>
    intro t a f g rs v6 v7 ht hd hg hf m hm
    rw [List.length_cons] at ht hm
    obtain ⟨g1, g2⟩ := hg w List.mem_cons_self
    have hd2 : (zsb 9).drop (a + w.length + 1) = zjoin ws := by
      have : (zsb 9).drop (a + (w.length + 1)) = ((zsb 9).drop a).drop (w.length + 1) := List.drop_drop.symm
      rw [show a + w.length + 1 = a + (w.length + 1) by omega, this, hd]
      show (w ++ 32 :: zjoin ws).drop (w.length + 1) = zjoin ws
      rw [List.drop_append, List.drop_of_length_le (by omega), show w.length + 1 - w.length = 1 by omega]
      rfl
    have hd1 : (zsb 9).drop a = w ++ 32 :: zjoin ws := hd
    have hm2 : N + 5 + 1000 * ws.length + 1000 ≤ m := zfuel_S hm
    have ht2 : t < 172 := by omega
    have hg3 : ∀ w ∈ ws, w.length < 24 ∧ ∀ c ∈ w, c ≠ 32 := fun w hw => hg w (List.mem_cons_of_mem _ hw)
    have ht3 : t + 1 + ws.length = 172 := by omega
    exact sys_iterB (N := N + 5 + 1000 * ws.length) (rest := zjoin ws) hM hM2 hC hN hW hd1 g2 g1 ht2 hf (fun f g rs x y hf m hm => ih (t + 1) (a + w.length + 1) f g rs x y ht3 hd2 hg3 hf m hm) m hm2
end ZSYW
