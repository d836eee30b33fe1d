/-! THE LAW'S LOOP -/
theorem law_rnd {X : zX} {i : Nat} {M : zM} (hL : X.1 ≤ 2560) (hi : i + 5 ≤ X.1) (hM : lInv M) : lRnd X i M := by
  obtain ⟨j, hj, e⟩ := pk_andE (X.2.1 i) (m := (Int8.ofInt 31).toInt32) 5 (by decide)
  have hj : j < 32 := hj
  have hj : j = 0 ∨ j = 1 ∨ j = 2 ∨ j = 3 ∨ j = 4 ∨ j = 5 ∨ j = 6 ∨ j = 7 ∨ j = 8 ∨ j = 9 ∨ j = 10 ∨ j = 11 ∨ j = 12 ∨ j = 13 ∨ j = 14 ∨ j = 15 ∨ j = 16 ∨ j = 17 ∨ j = 18 ∨ j = 19 ∨ j = 20 ∨ j = 21 ∨ j = 22 ∨ j = 23 ∨ j = 24 ∨ j = 25 ∨ j = 26 ∨ j = 27 ∨ j = 28 ∨ j = 29 ∨ j = 30 ∨ j = 31 := by omega
  rcases hj with rfl | rfl | rfl | rfl | rfl | rfl | rfl | rfl | rfl | rfl | rfl | rfl | rfl | rfl | rfl | rfl | rfl | rfl | rfl | rfl | rfl | rfl | rfl | rfl | rfl | rfl | rfl | rfl | rfl | rfl | rfl | rfl
  · exact rnd_0 hL hi hM e
  · exact rnd_1 hL hi hM e
  · exact rnd_2 hL hi hM e
  · exact rnd_3 hL hi hM e
  · exact rnd_4 hL hi hM e
  · exact rnd_5 hL hi hM e
  · exact rnd_6 hL hi hM e
  · exact rnd_7 hL hi hM e
  · exact rnd_8 hL hi hM e
  · exact rnd_9 hL hi hM e
  · exact rnd_10 hL hi hM e
  · exact rnd_11 hL hi hM e
  · exact rnd_12 hL hi hM e
  · exact rnd_13 hL hi hM e
  · exact rnd_14 hL hi hM e
  · exact rnd_15 hL hi hM e
  · exact rnd_16 hL hi hM e
  · exact rnd_17 hL hi hM e
  · exact rnd_18 hL hi hM e
  · exact rnd_19 hL hi hM e
  · exact rnd_20 hL hi hM e
  · exact rnd_21 hL hi hM e
  · exact rnd_22 hL hi hM e
  · exact rnd_23 hL hi hM e
  · exact rnd_24 hL hi hM e
  · exact rnd_25 hL hi hM e
  · exact rnd_26 hL hi hM e
  · exact rnd_27 hL hi hM e
  · exact rnd_28 hL hi hM e
  · exact rnd_29 hL hi hM e
  · exact rnd_30 hL hi hM e
  · exact rnd_31 hL hi hM e
theorem law_loop {X : zX} (hL : X.1 ≤ 2560) : ∀ (m i : Nat) (M : zM), X.1 ≤ i + 5 * m → i ≤ 2565 → lInv M → ∃ (M' : zM) (N0 : Nat), M'.1 = 486 ∧ M'.2.1 = M.2.1 ∧ ∀ N, N0 ≤ N → zrun X zmt (zlc X N) zlaw (80 * m + 20) 18 (zls (nI i)) [] M = some (some (.int 1), M') := by
  intro m
  induction m with
  | zero =>
    intro i M h hi hM
    have h1 : M.1 = 486 := by
      obtain ⟨t, n, k0, k1, u0, u1, u2, hc, -⟩ := hM
      exact hc.1.1
    exact ⟨M, 0, h1, rfl, fun N hN => law_stop (n := 12) hL (by omega) (by omega)⟩
  | succ m ih =>
    intro i M h hi hM
    rcases Nat.lt_or_ge X.1 (i + 5) with c | c
    · have h1 : M.1 = 486 := by
        obtain ⟨t, n, k0, k1, u0, u1, u2, hc, -⟩ := hM
        exact hc.1.1
      exact ⟨M, 0, h1, rfl, fun N hN => lfuel (law_stop (n := 0) hL (by omega) c) rfl (by omega)⟩
    · obtain ⟨M1, N1, a1, a2, a3, a4⟩ := law_rnd hL c hM
      obtain ⟨M2, N2, b1, b2, b3⟩ := ih (i + 5) M1 (by omega) (by omega) a1
      refine ⟨M2, N1 + N2, b1, b2.trans a3, fun N hN => ?_⟩
      have q := a4 N (by omega) (80 * m + 20) _ (b3 N (by omega)) rfl
      exact lfuel q rfl (by omega)
theorem law_begin {X : zX} {call : zCall} {Ma Mb : zM} {res : Option (Option Value × zM)} (hM : Ma.1 = 474) (h1 : call 253 [.ref 0] zM1 = some (none, Ma)) (h2 : call 455 [.ref 474] (zpush Ma (.inr (12, zdef 12 35))) = some (none, Mb)) {n : Nat} (h : zrun X zmt call zlaw n 18 (zls (nI 0)) [] Mb = res) : zrun X zmt call zlaw (n + 10) 0 [(0, .ref 1000016)] [] zM0 = res := by
  obtain ⟨ka, sa, fa⟩ := Ma
  have hM : ka = 474 := hM
  subst hM
  refine zr_s1 (M' := zM1) rfl rfl rfl rfl rfl ?_
  refine zr_s0 rfl rfl rfl rfl ?_
  refine zr_callI rfl rfl rfl rfl ⟨Or.inl rfl, rfl, rfl, rfl, rfl, Nat.le_of_ble_eq_true rfl⟩ h1 ?_
  refine zr_s0 rfl rfl rfl rfl ?_
  refine zr_s1 (M' := zpush (474, sa, fa) (.inr (12, zdef 12 35))) rfl rfl rfl rfl rfl ?_
  refine zr_s0 rfl rfl rfl rfl ?_
  refine zr_callI rfl rfl rfl rfl ⟨Or.inl rfl, rfl, rfl, rfl, rfl, Nat.le_of_ble_eq_true rfl⟩ h2 ?_
  refine zr_s0 rfl rfl rfl rfl ?_
  refine zr_s0 rfl rfl rfl rfl ?_
  refine zr_s0 rfl rfl rfl rfl ?_
  exact h
