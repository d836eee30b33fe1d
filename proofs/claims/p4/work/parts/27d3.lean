/-! THE LAW: a round of each kind (printed by gen82.py) -/
theorem rnd_0 {X : zX} {i : Nat} {M : zM} (hL : X.1 ≤ 2560) (hi : i + 5 ≤ X.1) (hM : lInv M) (hj : X.2.1 i &&& (Int8.ofInt 31).toInt32 = nI 0) : lRnd X i M := by
  obtain ⟨t, n, k0, k1, u0, u1, u2, hc, hr, hb, hu⟩ := hM
  obtain ⟨r, t2, n2, k02, k12, M1, g1, g2, g3, g4⟩ := mc_0 (X := X) hc hr hb (((X.2.1 (i + 1)).toInt64 <<< ((Int8.ofInt 32).toInt32.toInt64 &&& 63)) ||| ((X.2.1 (i + 2)).toInt64 &&& Int64.ofNat 4294967295)) (X.2.1 (i + 3))
  obtain ⟨r', s2, m2, l0, l1, v0, v1, v2, M2, e1, e2, e3, e4, e5⟩ := mr_0 (X := X) g2 g3 hb hu (((X.2.1 (i + 1)).toInt64 <<< ((Int8.ofInt 32).toInt32.toInt64 &&& 63)) ||| ((X.2.1 (i + 2)).toInt64 &&& Int64.ofNat 4294967295)) (X.2.1 (i + 3))
  obtain ⟨q1, q2, q3, q4, q5⟩ := spT_d g4 e5
  rw [q1, q3, q4] at e3
  rw [q2] at e4
  have G1 := lCall_gr g1 hc.1.1 g2.1.1
  have G2 := lCall_gr e1 g2.1.1 e2.1.1
  obtain ⟨N1, w1⟩ := g1
  obtain ⟨N2, w2⟩ := e1
  obtain ⟨f0, z0⟩ := zob_of hc.1 (k := 0) (c := 11) (by decide)
  obtain ⟨f1, z1⟩ := zob_of g2.1 sSh_474
  refine ⟨M2, N1 + N2, ⟨t2, n2, k02, k12, v0, v1, v2, e2, e3, spT_b hb g4, e4⟩, e2.1.1, G2.trans G1, fun N hN n res h hs => ?_⟩
  have a := law_c0 (call := zlc X N) hL hi z0 z1 (w1 N (by omega)) (w2 N (by omega)) (law_next (by omega) h)
  exact lfuel (law_at hL hi hj rfl a) hs (by omega)
theorem rnd_1 {X : zX} {i : Nat} {M : zM} (hL : X.1 ≤ 2560) (hi : i + 5 ≤ X.1) (hM : lInv M) (hj : X.2.1 i &&& (Int8.ofInt 31).toInt32 = nI 1) : lRnd X i M := by
  obtain ⟨t, n, k0, k1, u0, u1, u2, hc, hr, hb, hu⟩ := hM
  obtain ⟨r, t2, n2, k02, k12, M1, g1, g2, g3, g4⟩ := mc_1 (X := X) hc hr hb 
  obtain ⟨r', s2, m2, l0, l1, v0, v1, v2, M2, e1, e2, e3, e4, e5⟩ := mr_1 (X := X) g2 g3 hb hu 
  obtain ⟨q1, q2, q3, q4, q5⟩ := spW_d g4 e5
  rw [q1, q3, q4] at e3
  rw [q2] at e4
  have G1 := lCall_gr g1 hc.1.1 g2.1.1
  have G2 := lCall_gr e1 g2.1.1 e2.1.1
  obtain ⟨N1, w1⟩ := g1
  obtain ⟨N2, w2⟩ := e1
  obtain ⟨f0, z0⟩ := zob_of hc.1 (k := 0) (c := 11) (by decide)
  obtain ⟨f1, z1⟩ := zob_of g2.1 sSh_474
  refine ⟨M2, N1 + N2, ⟨t2, n2, k02, k12, v0, v1, v2, e2, e3, spW_b hb g4, e4⟩, e2.1.1, G2.trans G1, fun N hN n res h hs => ?_⟩
  have a := law_c1 (call := zlc X N) hL hi z0 z1 (w1 N (by omega)) (w2 N (by omega)) (law_next (by omega) h)
  exact lfuel (law_at hL hi hj rfl a) hs (by omega)
theorem rnd_2 {X : zX} {i : Nat} {M : zM} (hL : X.1 ≤ 2560) (hi : i + 5 ≤ X.1) (hM : lInv M) (hj : X.2.1 i &&& (Int8.ofInt 31).toInt32 = nI 2) : lRnd X i M := by
  obtain ⟨t, n, k0, k1, u0, u1, u2, hc, hr, hb, hu⟩ := hM
  obtain ⟨r, t2, n2, k02, k12, M1, g1, g2, g3, g4⟩ := mc_2 (X := X) hc hr hb (X.2.1 (i + 1)) (X.2.1 (i + 2))
  obtain ⟨r', s2, m2, l0, l1, v0, v1, v2, M2, e1, e2, e3, e4, e5⟩ := mr_2 (X := X) g2 g3 hb hu (X.2.1 (i + 1)) (X.2.1 (i + 2))
  obtain ⟨q1, q2, q3, q4, q5⟩ := spS_d hb g4 e5
  rw [q1, q3, q4] at e3
  rw [q2] at e4
  have er : r' = r := Int32.toInt_inj.mp q5
  rw [er] at e1
  have G1 := lCall_gr g1 hc.1.1 g2.1.1
  have G2 := lCall_gr e1 g2.1.1 e2.1.1
  obtain ⟨N1, w1⟩ := g1
  obtain ⟨N2, w2⟩ := e1
  obtain ⟨f0, z0⟩ := zob_of hc.1 (k := 0) (c := 11) (by decide)
  obtain ⟨f1, z1⟩ := zob_of g2.1 sSh_474
  refine ⟨M2, N1 + N2, ⟨t2, n2, k02, k12, v0, v1, v2, e2, e3, spS_b hb g4, e4⟩, e2.1.1, G2.trans G1, fun N hN n res h hs => ?_⟩
  have a := law_c2 (call := zlc X N) hL hi z0 z1 (w1 N (by omega)) (w2 N (by omega)) (law_next (by omega) h)
  exact lfuel (law_at hL hi hj rfl a) hs (by omega)
theorem rnd_3 {X : zX} {i : Nat} {M : zM} (hL : X.1 ≤ 2560) (hi : i + 5 ≤ X.1) (hM : lInv M) (hj : X.2.1 i &&& (Int8.ofInt 31).toInt32 = nI 3) : lRnd X i M := by
  obtain ⟨t, n, k0, k1, u0, u1, u2, hc, hr, hb, hu⟩ := hM
  obtain ⟨r, t2, n2, k02, k12, M1, g1, g2, g3, g4⟩ := mc_3 (X := X) hc hr hb (X.2.1 (i + 1)) (X.2.1 (i + 2))
  obtain ⟨r', s2, m2, l0, l1, v0, v1, v2, M2, e1, e2, e3, e4, e5⟩ := mr_3 (X := X) g2 g3 hb hu (X.2.1 (i + 1)) (X.2.1 (i + 2))
  obtain ⟨q1, q2, q3, q4⟩ := spE_d g4 e5
  rw [q1, q3, q4] at e3
  rw [q2] at e4
  have G1 := lCall_gr g1 hc.1.1 g2.1.1
  have G2 := lCall_gr e1 g2.1.1 e2.1.1
  obtain ⟨N1, w1⟩ := g1
  obtain ⟨N2, w2⟩ := e1
  obtain ⟨f0, z0⟩ := zob_of hc.1 (k := 0) (c := 11) (by decide)
  obtain ⟨f1, z1⟩ := zob_of g2.1 sSh_474
  refine ⟨M2, N1 + N2, ⟨t2, n2, k02, k12, v0, v1, v2, e2, e3, spE_b hb g4, e4⟩, e2.1.1, G2.trans G1, fun N hN n res h hs => ?_⟩
  have a := law_c3 (call := zlc X N) hL hi z0 z1 (w1 N (by omega)) (w2 N (by omega)) (law_next (by omega) h)
  exact lfuel (law_at hL hi hj rfl a) hs (by omega)
theorem rnd_4 {X : zX} {i : Nat} {M : zM} (hL : X.1 ≤ 2560) (hi : i + 5 ≤ X.1) (hM : lInv M) (hj : X.2.1 i &&& (Int8.ofInt 31).toInt32 = nI 4) : lRnd X i M := by
  obtain ⟨t, n, k0, k1, u0, u1, u2, hc, hr, hb, hu⟩ := hM
  obtain ⟨r, t2, n2, k02, k12, M1, g1, g2, g3, g4⟩ := mc_4 (X := X) hc hr hb (X.2.1 (i + 1)) (X.2.1 (i + 2))
  obtain ⟨r', s2, m2, l0, l1, v0, v1, v2, M2, e1, e2, e3, e4, e5⟩ := mr_4 (X := X) g2 g3 hb hu (X.2.1 (i + 1)) (X.2.1 (i + 2))
  obtain ⟨q1, q2, q3, q4⟩ := spO_d g4 e5
  rw [q1, q3, q4] at e3
  rw [q2] at e4
  have G1 := lCall_gr g1 hc.1.1 g2.1.1
  have G2 := lCall_gr e1 g2.1.1 e2.1.1
  obtain ⟨N1, w1⟩ := g1
  obtain ⟨N2, w2⟩ := e1
  obtain ⟨f0, z0⟩ := zob_of hc.1 (k := 0) (c := 11) (by decide)
  obtain ⟨f1, z1⟩ := zob_of g2.1 sSh_474
  refine ⟨M2, N1 + N2, ⟨t2, n2, k02, k12, v0, v1, v2, e2, e3, spO_b hb g4, e4⟩, e2.1.1, G2.trans G1, fun N hN n res h hs => ?_⟩
  have a := law_c4 (call := zlc X N) hL hi z0 z1 (w1 N (by omega)) (w2 N (by omega)) (law_next (by omega) h)
  exact lfuel (law_at hL hi hj rfl a) hs (by omega)
theorem rnd_5 {X : zX} {i : Nat} {M : zM} (hL : X.1 ≤ 2560) (hi : i + 5 ≤ X.1) (hM : lInv M) (hj : X.2.1 i &&& (Int8.ofInt 31).toInt32 = nI 5) : lRnd X i M := by
  obtain ⟨t, n, k0, k1, u0, u1, u2, hc, hr, hb, hu⟩ := hM
  obtain ⟨r, t2, n2, k02, k12, M1, g1, g2, g3, g4⟩ := mc_5 (X := X) hc hr hb (X.2.1 (i + 1)) (X.2.1 (i + 2))
  obtain ⟨r', s2, m2, l0, l1, v0, v1, v2, M2, e1, e2, e3, e4, e5⟩ := mr_5 (X := X) g2 g3 hb hu (X.2.1 (i + 1)) (X.2.1 (i + 2))
  obtain ⟨q1, q2, q3, q4⟩ := spO_d g4 e5
  rw [q1, q3, q4] at e3
  rw [q2] at e4
  have G1 := lCall_gr g1 hc.1.1 g2.1.1
  have G2 := lCall_gr e1 g2.1.1 e2.1.1
  obtain ⟨N1, w1⟩ := g1
  obtain ⟨N2, w2⟩ := e1
  obtain ⟨f0, z0⟩ := zob_of hc.1 (k := 0) (c := 11) (by decide)
  obtain ⟨f1, z1⟩ := zob_of g2.1 sSh_474
  refine ⟨M2, N1 + N2, ⟨t2, n2, k02, k12, v0, v1, v2, e2, e3, spO_b hb g4, e4⟩, e2.1.1, G2.trans G1, fun N hN n res h hs => ?_⟩
  have a := law_c5 (call := zlc X N) hL hi z0 z1 (w1 N (by omega)) (w2 N (by omega)) (law_next (by omega) h)
  exact lfuel (law_at hL hi hj rfl a) hs (by omega)
theorem rnd_6 {X : zX} {i : Nat} {M : zM} (hL : X.1 ≤ 2560) (hi : i + 5 ≤ X.1) (hM : lInv M) (hj : X.2.1 i &&& (Int8.ofInt 31).toInt32 = nI 6) : lRnd X i M := by
  obtain ⟨t, n, k0, k1, u0, u1, u2, hc, hr, hb, hu⟩ := hM
  obtain ⟨r, t2, n2, k02, k12, M1, g1, g2, g3, g4⟩ := mc_6 (X := X) hc hr hb (X.2.1 (i + 1)) (X.2.1 (i + 2))
  obtain ⟨r', s2, m2, l0, l1, v0, v1, v2, M2, e1, e2, e3, e4, e5⟩ := mr_6 (X := X) g2 g3 hb hu (X.2.1 (i + 1)) (X.2.1 (i + 2))
  obtain ⟨q1, q2, q3, q4⟩ := spO_d g4 e5
  rw [q1, q3, q4] at e3
  rw [q2] at e4
  have G1 := lCall_gr g1 hc.1.1 g2.1.1
  have G2 := lCall_gr e1 g2.1.1 e2.1.1
  obtain ⟨N1, w1⟩ := g1
  obtain ⟨N2, w2⟩ := e1
  obtain ⟨f0, z0⟩ := zob_of hc.1 (k := 0) (c := 11) (by decide)
  obtain ⟨f1, z1⟩ := zob_of g2.1 sSh_474
  refine ⟨M2, N1 + N2, ⟨t2, n2, k02, k12, v0, v1, v2, e2, e3, spO_b hb g4, e4⟩, e2.1.1, G2.trans G1, fun N hN n res h hs => ?_⟩
  have a := law_c6 (call := zlc X N) hL hi z0 z1 (w1 N (by omega)) (w2 N (by omega)) (law_next (by omega) h)
  exact lfuel (law_at hL hi hj rfl a) hs (by omega)
theorem rnd_7 {X : zX} {i : Nat} {M : zM} (hL : X.1 ≤ 2560) (hi : i + 5 ≤ X.1) (hM : lInv M) (hj : X.2.1 i &&& (Int8.ofInt 31).toInt32 = nI 7) : lRnd X i M := by
  obtain ⟨t, n, k0, k1, u0, u1, u2, hc, hr, hb, hu⟩ := hM
  obtain ⟨r, t2, n2, k02, k12, M1, g1, g2, g3, g4⟩ := mc_7 (X := X) hc hr hb (X.2.1 (i + 1)) (X.2.1 (i + 2))
  obtain ⟨r', s2, m2, l0, l1, v0, v1, v2, M2, e1, e2, e3, e4, e5⟩ := mr_7 (X := X) g2 g3 hb hu (X.2.1 (i + 1)) (X.2.1 (i + 2))
  obtain ⟨q1, q2, q3, q4⟩ := spO_d g4 e5
  rw [q1, q3, q4] at e3
  rw [q2] at e4
  have G1 := lCall_gr g1 hc.1.1 g2.1.1
  have G2 := lCall_gr e1 g2.1.1 e2.1.1
  obtain ⟨N1, w1⟩ := g1
  obtain ⟨N2, w2⟩ := e1
  obtain ⟨f0, z0⟩ := zob_of hc.1 (k := 0) (c := 11) (by decide)
  obtain ⟨f1, z1⟩ := zob_of g2.1 sSh_474
  refine ⟨M2, N1 + N2, ⟨t2, n2, k02, k12, v0, v1, v2, e2, e3, spO_b hb g4, e4⟩, e2.1.1, G2.trans G1, fun N hN n res h hs => ?_⟩
  have a := law_c7 (call := zlc X N) hL hi z0 z1 (w1 N (by omega)) (w2 N (by omega)) (law_next (by omega) h)
  exact lfuel (law_at hL hi hj rfl a) hs (by omega)
theorem rnd_8 {X : zX} {i : Nat} {M : zM} (hL : X.1 ≤ 2560) (hi : i + 5 ≤ X.1) (hM : lInv M) (hj : X.2.1 i &&& (Int8.ofInt 31).toInt32 = nI 8) : lRnd X i M := by
  obtain ⟨t, n, k0, k1, u0, u1, u2, hc, hr, hb, hu⟩ := hM
  obtain ⟨r, t2, n2, k02, k12, M1, g1, g2, g3, g4⟩ := mc_8 (X := X) hc hr hb (X.2.1 (i + 1)) (X.2.1 (i + 2)) (X.2.1 (i + 3))
  obtain ⟨r', s2, m2, l0, l1, v0, v1, v2, M2, e1, e2, e3, e4, e5⟩ := mr_8 (X := X) g2 g3 hb hu (X.2.1 (i + 1)) (X.2.1 (i + 2)) (X.2.1 (i + 3))
  obtain ⟨q1, q2, q3, q4⟩ := spO_d g4 e5
  rw [q1, q3, q4] at e3
  rw [q2] at e4
  have G1 := lCall_gr g1 hc.1.1 g2.1.1
  have G2 := lCall_gr e1 g2.1.1 e2.1.1
  obtain ⟨N1, w1⟩ := g1
  obtain ⟨N2, w2⟩ := e1
  obtain ⟨f0, z0⟩ := zob_of hc.1 (k := 0) (c := 11) (by decide)
  obtain ⟨f1, z1⟩ := zob_of g2.1 sSh_474
  refine ⟨M2, N1 + N2, ⟨t2, n2, k02, k12, v0, v1, v2, e2, e3, spO_b hb g4, e4⟩, e2.1.1, G2.trans G1, fun N hN n res h hs => ?_⟩
  have a := law_c8 (call := zlc X N) hL hi z0 z1 (w1 N (by omega)) (w2 N (by omega)) (law_next (by omega) h)
  exact lfuel (law_at hL hi hj rfl a) hs (by omega)
theorem rnd_9 {X : zX} {i : Nat} {M : zM} (hL : X.1 ≤ 2560) (hi : i + 5 ≤ X.1) (hM : lInv M) (hj : X.2.1 i &&& (Int8.ofInt 31).toInt32 = nI 9) : lRnd X i M := by
  obtain ⟨t, n, k0, k1, u0, u1, u2, hc, hr, hb, hu⟩ := hM
  obtain ⟨r, t2, n2, k02, k12, M1, g1, g2, g3, g4⟩ := mc_9 (X := X) hc hr hb (X.2.1 (i + 1)) (X.2.1 (i + 2)) (X.2.1 (i + 3)) (X.2.1 (i + 4))
  obtain ⟨r', s2, m2, l0, l1, v0, v1, v2, M2, e1, e2, e3, e4, e5⟩ := mr_9 (X := X) g2 g3 hb hu (X.2.1 (i + 1)) (X.2.1 (i + 2)) (X.2.1 (i + 3)) (X.2.1 (i + 4))
  obtain ⟨q1, q2, q3, q4⟩ := spO_d g4 e5
  rw [q1, q3, q4] at e3
  rw [q2] at e4
  have G1 := lCall_gr g1 hc.1.1 g2.1.1
  have G2 := lCall_gr e1 g2.1.1 e2.1.1
  obtain ⟨N1, w1⟩ := g1
  obtain ⟨N2, w2⟩ := e1
  obtain ⟨f0, z0⟩ := zob_of hc.1 (k := 0) (c := 11) (by decide)
  obtain ⟨f1, z1⟩ := zob_of g2.1 sSh_474
  refine ⟨M2, N1 + N2, ⟨t2, n2, k02, k12, v0, v1, v2, e2, e3, spO_b hb g4, e4⟩, e2.1.1, G2.trans G1, fun N hN n res h hs => ?_⟩
  have a := law_c9 (call := zlc X N) hL hi z0 z1 (w1 N (by omega)) (w2 N (by omega)) (law_next (by omega) h)
  exact lfuel (law_at hL hi hj rfl a) hs (by omega)
theorem rnd_10 {X : zX} {i : Nat} {M : zM} (hL : X.1 ≤ 2560) (hi : i + 5 ≤ X.1) (hM : lInv M) (hj : X.2.1 i &&& (Int8.ofInt 31).toInt32 = nI 10) : lRnd X i M := by
  obtain ⟨t, n, k0, k1, u0, u1, u2, hc, hr, hb, hu⟩ := hM
  obtain ⟨r, t2, n2, k02, k12, M1, g1, g2, g3, g4⟩ := mc_10 (X := X) hc hr hb (X.2.1 (i + 1)) (X.2.1 (i + 2))
  obtain ⟨r', s2, m2, l0, l1, v0, v1, v2, M2, e1, e2, e3, e4, e5⟩ := mr_10 (X := X) g2 g3 hb hu (X.2.1 (i + 1)) (X.2.1 (i + 2))
  obtain ⟨q1, q2, q3, q4⟩ := spO_d g4 e5
  rw [q1, q3, q4] at e3
  rw [q2] at e4
  have G1 := lCall_gr g1 hc.1.1 g2.1.1
  have G2 := lCall_gr e1 g2.1.1 e2.1.1
  obtain ⟨N1, w1⟩ := g1
  obtain ⟨N2, w2⟩ := e1
  obtain ⟨f0, z0⟩ := zob_of hc.1 (k := 0) (c := 11) (by decide)
  obtain ⟨f1, z1⟩ := zob_of g2.1 sSh_474
  refine ⟨M2, N1 + N2, ⟨t2, n2, k02, k12, v0, v1, v2, e2, e3, spO_b hb g4, e4⟩, e2.1.1, G2.trans G1, fun N hN n res h hs => ?_⟩
  have a := law_c10 (call := zlc X N) hL hi z0 z1 (w1 N (by omega)) (w2 N (by omega)) (law_next (by omega) h)
  exact lfuel (law_at hL hi hj rfl a) hs (by omega)
theorem rnd_11 {X : zX} {i : Nat} {M : zM} (hL : X.1 ≤ 2560) (hi : i + 5 ≤ X.1) (hM : lInv M) (hj : X.2.1 i &&& (Int8.ofInt 31).toInt32 = nI 11) : lRnd X i M := by
  obtain ⟨t, n, k0, k1, u0, u1, u2, hc, hr, hb, hu⟩ := hM
  obtain ⟨r, t2, n2, k02, k12, M1, g1, g2, g3, g4⟩ := mc_11 (X := X) hc hr hb (X.2.1 (i + 1)) (X.2.1 (i + 2)) (X.2.1 (i + 3))
  obtain ⟨r', s2, m2, l0, l1, v0, v1, v2, M2, e1, e2, e3, e4, e5⟩ := mr_11 (X := X) g2 g3 hb hu (X.2.1 (i + 1)) (X.2.1 (i + 2)) (X.2.1 (i + 3))
  obtain ⟨q1, q2, q3, q4⟩ := spO_d g4 e5
  rw [q1, q3, q4] at e3
  rw [q2] at e4
  have G1 := lCall_gr g1 hc.1.1 g2.1.1
  have G2 := lCall_gr e1 g2.1.1 e2.1.1
  obtain ⟨N1, w1⟩ := g1
  obtain ⟨N2, w2⟩ := e1
  obtain ⟨f0, z0⟩ := zob_of hc.1 (k := 0) (c := 11) (by decide)
  obtain ⟨f1, z1⟩ := zob_of g2.1 sSh_474
  refine ⟨M2, N1 + N2, ⟨t2, n2, k02, k12, v0, v1, v2, e2, e3, spO_b hb g4, e4⟩, e2.1.1, G2.trans G1, fun N hN n res h hs => ?_⟩
  have a := law_c11 (call := zlc X N) hL hi z0 z1 (w1 N (by omega)) (w2 N (by omega)) (law_next (by omega) h)
  exact lfuel (law_at hL hi hj rfl a) hs (by omega)
theorem rnd_12 {X : zX} {i : Nat} {M : zM} (hL : X.1 ≤ 2560) (hi : i + 5 ≤ X.1) (hM : lInv M) (hj : X.2.1 i &&& (Int8.ofInt 31).toInt32 = nI 12) : lRnd X i M := by
  obtain ⟨t, n, k0, k1, u0, u1, u2, hc, hr, hb, hu⟩ := hM
  obtain ⟨r, t2, n2, k02, k12, M1, g1, g2, g3, g4⟩ := mc_12 (X := X) hc hr hb (X.2.1 (i + 1))
  obtain ⟨r', s2, m2, l0, l1, v0, v1, v2, M2, e1, e2, e3, e4, e5⟩ := mr_12 (X := X) g2 g3 hb hu (X.2.1 (i + 1))
  obtain ⟨q1, q2, q3, q4⟩ := spE_d g4 e5
  rw [q1, q3, q4] at e3
  rw [q2] at e4
  have G1 := lCall_gr g1 hc.1.1 g2.1.1
  have G2 := lCall_gr e1 g2.1.1 e2.1.1
  obtain ⟨N1, w1⟩ := g1
  obtain ⟨N2, w2⟩ := e1
  obtain ⟨f0, z0⟩ := zob_of hc.1 (k := 0) (c := 11) (by decide)
  obtain ⟨f1, z1⟩ := zob_of g2.1 sSh_474
  refine ⟨M2, N1 + N2, ⟨t2, n2, k02, k12, v0, v1, v2, e2, e3, spE_b hb g4, e4⟩, e2.1.1, G2.trans G1, fun N hN n res h hs => ?_⟩
  have a := law_c12 (call := zlc X N) hL hi z0 z1 (w1 N (by omega)) (w2 N (by omega)) (law_next (by omega) h)
  exact lfuel (law_at hL hi hj rfl a) hs (by omega)
theorem rnd_13 {X : zX} {i : Nat} {M : zM} (hL : X.1 ≤ 2560) (hi : i + 5 ≤ X.1) (hM : lInv M) (hj : X.2.1 i &&& (Int8.ofInt 31).toInt32 = nI 13) : lRnd X i M := by
  obtain ⟨t, n, k0, k1, u0, u1, u2, hc, hr, hb, hu⟩ := hM
  obtain ⟨r, t2, n2, k02, k12, M1, g1, g2, g3, g4⟩ := mc_13 (X := X) hc hr hb (X.2.1 (i + 1)) (X.2.1 (i + 2)) (X.2.1 (i + 3))
  obtain ⟨r', s2, m2, l0, l1, v0, v1, v2, M2, e1, e2, e3, e4, e5⟩ := mr_13 (X := X) g2 g3 hb hu (X.2.1 (i + 1)) (X.2.1 (i + 2)) (X.2.1 (i + 3))
  obtain ⟨q1, q2, q3, q4⟩ := spO_d g4 e5
  rw [q1, q3, q4] at e3
  rw [q2] at e4
  have G1 := lCall_gr g1 hc.1.1 g2.1.1
  have G2 := lCall_gr e1 g2.1.1 e2.1.1
  obtain ⟨N1, w1⟩ := g1
  obtain ⟨N2, w2⟩ := e1
  obtain ⟨f0, z0⟩ := zob_of hc.1 (k := 0) (c := 11) (by decide)
  obtain ⟨f1, z1⟩ := zob_of g2.1 sSh_474
  refine ⟨M2, N1 + N2, ⟨t2, n2, k02, k12, v0, v1, v2, e2, e3, spO_b hb g4, e4⟩, e2.1.1, G2.trans G1, fun N hN n res h hs => ?_⟩
  have a := law_c13 (call := zlc X N) hL hi z0 z1 (w1 N (by omega)) (w2 N (by omega)) (law_next (by omega) h)
  exact lfuel (law_at hL hi hj rfl a) hs (by omega)
theorem rnd_14 {X : zX} {i : Nat} {M : zM} (hL : X.1 ≤ 2560) (hi : i + 5 ≤ X.1) (hM : lInv M) (hj : X.2.1 i &&& (Int8.ofInt 31).toInt32 = nI 14) : lRnd X i M := by
  obtain ⟨t, n, k0, k1, u0, u1, u2, hc, hr, hb, hu⟩ := hM
  obtain ⟨r, t2, n2, k02, k12, M1, g1, g2, g3, g4⟩ := mc_14 (X := X) hc hr hb (X.2.1 (i + 1)) (X.2.1 (i + 2)) (X.2.1 (i + 3))
  obtain ⟨r', s2, m2, l0, l1, v0, v1, v2, M2, e1, e2, e3, e4, e5⟩ := mr_14 (X := X) g2 g3 hb hu (X.2.1 (i + 1)) (X.2.1 (i + 2)) (X.2.1 (i + 3))
  obtain ⟨q1, q2, q3, q4⟩ := spO_d g4 e5
  rw [q1, q3, q4] at e3
  rw [q2] at e4
  have G1 := lCall_gr g1 hc.1.1 g2.1.1
  have G2 := lCall_gr e1 g2.1.1 e2.1.1
  obtain ⟨N1, w1⟩ := g1
  obtain ⟨N2, w2⟩ := e1
  obtain ⟨f0, z0⟩ := zob_of hc.1 (k := 0) (c := 11) (by decide)
  obtain ⟨f1, z1⟩ := zob_of g2.1 sSh_474
  refine ⟨M2, N1 + N2, ⟨t2, n2, k02, k12, v0, v1, v2, e2, e3, spO_b hb g4, e4⟩, e2.1.1, G2.trans G1, fun N hN n res h hs => ?_⟩
  have a := law_c14 (call := zlc X N) hL hi z0 z1 (w1 N (by omega)) (w2 N (by omega)) (law_next (by omega) h)
  exact lfuel (law_at hL hi hj rfl a) hs (by omega)
theorem rnd_15 {X : zX} {i : Nat} {M : zM} (hL : X.1 ≤ 2560) (hi : i + 5 ≤ X.1) (hM : lInv M) (hj : X.2.1 i &&& (Int8.ofInt 31).toInt32 = nI 15) : lRnd X i M := by
  obtain ⟨t, n, k0, k1, u0, u1, u2, hc, hr, hb, hu⟩ := hM
  obtain ⟨r, t2, n2, k02, k12, M1, g1, g2, g3, g4⟩ := mc_15 (X := X) hc hr hb (X.2.1 (i + 1)) (X.2.1 (i + 2)) (X.2.1 (i + 3))
  obtain ⟨r', s2, m2, l0, l1, v0, v1, v2, M2, e1, e2, e3, e4, e5⟩ := mr_15 (X := X) g2 g3 hb hu (X.2.1 (i + 1)) (X.2.1 (i + 2)) (X.2.1 (i + 3))
  obtain ⟨q1, q2, q3, q4⟩ := spO_d g4 e5
  rw [q1, q3, q4] at e3
  rw [q2] at e4
  have G1 := lCall_gr g1 hc.1.1 g2.1.1
  have G2 := lCall_gr e1 g2.1.1 e2.1.1
  obtain ⟨N1, w1⟩ := g1
  obtain ⟨N2, w2⟩ := e1
  obtain ⟨f0, z0⟩ := zob_of hc.1 (k := 0) (c := 11) (by decide)
  obtain ⟨f1, z1⟩ := zob_of g2.1 sSh_474
  refine ⟨M2, N1 + N2, ⟨t2, n2, k02, k12, v0, v1, v2, e2, e3, spO_b hb g4, e4⟩, e2.1.1, G2.trans G1, fun N hN n res h hs => ?_⟩
  have a := law_c15 (call := zlc X N) hL hi z0 z1 (w1 N (by omega)) (w2 N (by omega)) (law_next (by omega) h)
  exact lfuel (law_at hL hi hj rfl a) hs (by omega)
theorem rnd_16 {X : zX} {i : Nat} {M : zM} (hL : X.1 ≤ 2560) (hi : i + 5 ≤ X.1) (hM : lInv M) (hj : X.2.1 i &&& (Int8.ofInt 31).toInt32 = nI 16) : lRnd X i M := by
  obtain ⟨t, n, k0, k1, u0, u1, u2, hc, hr, hb, hu⟩ := hM
  obtain ⟨r, t2, n2, k02, k12, M1, g1, g2, g3, g4⟩ := mc_16 (X := X) hc hr hb (X.2.1 (i + 1)) (X.2.1 (i + 2))
  obtain ⟨r', s2, m2, l0, l1, v0, v1, v2, M2, e1, e2, e3, e4, e5⟩ := mr_16 (X := X) g2 g3 hb hu (X.2.1 (i + 1)) (X.2.1 (i + 2))
  obtain ⟨q1, q2, q3, q4⟩ := spO_d g4 e5
  rw [q1, q3, q4] at e3
  rw [q2] at e4
  have G1 := lCall_gr g1 hc.1.1 g2.1.1
  have G2 := lCall_gr e1 g2.1.1 e2.1.1
  obtain ⟨N1, w1⟩ := g1
  obtain ⟨N2, w2⟩ := e1
  obtain ⟨f0, z0⟩ := zob_of hc.1 (k := 0) (c := 11) (by decide)
  obtain ⟨f1, z1⟩ := zob_of g2.1 sSh_474
  refine ⟨M2, N1 + N2, ⟨t2, n2, k02, k12, v0, v1, v2, e2, e3, spO_b hb g4, e4⟩, e2.1.1, G2.trans G1, fun N hN n res h hs => ?_⟩
  have a := law_c16 (call := zlc X N) hL hi z0 z1 (w1 N (by omega)) (w2 N (by omega)) (law_next (by omega) h)
  exact lfuel (law_at hL hi hj rfl a) hs (by omega)
theorem rnd_17 {X : zX} {i : Nat} {M : zM} (hL : X.1 ≤ 2560) (hi : i + 5 ≤ X.1) (hM : lInv M) (hj : X.2.1 i &&& (Int8.ofInt 31).toInt32 = nI 17) : lRnd X i M := by
  obtain ⟨t, n, k0, k1, u0, u1, u2, hc, hr, hb, hu⟩ := hM
  obtain ⟨r, t2, n2, k02, k12, M1, g1, g2, g3, g4⟩ := mc_17 (X := X) hc hr hb (X.2.1 (i + 1)) (X.2.1 (i + 2)) (X.2.1 (i + 3))
  obtain ⟨r', s2, m2, l0, l1, v0, v1, v2, M2, e1, e2, e3, e4, e5⟩ := mr_17 (X := X) g2 g3 hb hu (X.2.1 (i + 1)) (X.2.1 (i + 2)) (X.2.1 (i + 3))
  obtain ⟨q1, q2, q3, q4⟩ := spO_d g4 e5
  rw [q1, q3, q4] at e3
  rw [q2] at e4
  have G1 := lCall_gr g1 hc.1.1 g2.1.1
  have G2 := lCall_gr e1 g2.1.1 e2.1.1
  obtain ⟨N1, w1⟩ := g1
  obtain ⟨N2, w2⟩ := e1
  obtain ⟨f0, z0⟩ := zob_of hc.1 (k := 0) (c := 11) (by decide)
  obtain ⟨f1, z1⟩ := zob_of g2.1 sSh_474
  refine ⟨M2, N1 + N2, ⟨t2, n2, k02, k12, v0, v1, v2, e2, e3, spO_b hb g4, e4⟩, e2.1.1, G2.trans G1, fun N hN n res h hs => ?_⟩
  have a := law_c17 (call := zlc X N) hL hi z0 z1 (w1 N (by omega)) (w2 N (by omega)) (law_next (by omega) h)
  exact lfuel (law_at hL hi hj rfl a) hs (by omega)
theorem rnd_18 {X : zX} {i : Nat} {M : zM} (hL : X.1 ≤ 2560) (hi : i + 5 ≤ X.1) (hM : lInv M) (hj : X.2.1 i &&& (Int8.ofInt 31).toInt32 = nI 18) : lRnd X i M := by
  obtain ⟨t, n, k0, k1, u0, u1, u2, hc, hr, hb, hu⟩ := hM
  obtain ⟨r, t2, n2, k02, k12, M1, g1, g2, g3, g4⟩ := mc_18 (X := X) hc hr hb (X.2.1 (i + 1)) (X.2.1 (i + 2))
  obtain ⟨r', s2, m2, l0, l1, v0, v1, v2, M2, e1, e2, e3, e4, e5⟩ := mr_18 (X := X) g2 g3 hb hu (X.2.1 (i + 1)) (X.2.1 (i + 2))
  obtain ⟨q1, q2, q3, q4⟩ := spO_d g4 e5
  rw [q1, q3, q4] at e3
  rw [q2] at e4
  have G1 := lCall_gr g1 hc.1.1 g2.1.1
  have G2 := lCall_gr e1 g2.1.1 e2.1.1
  obtain ⟨N1, w1⟩ := g1
  obtain ⟨N2, w2⟩ := e1
  obtain ⟨f0, z0⟩ := zob_of hc.1 (k := 0) (c := 11) (by decide)
  obtain ⟨f1, z1⟩ := zob_of g2.1 sSh_474
  refine ⟨M2, N1 + N2, ⟨t2, n2, k02, k12, v0, v1, v2, e2, e3, spO_b hb g4, e4⟩, e2.1.1, G2.trans G1, fun N hN n res h hs => ?_⟩
  have a := law_c18 (call := zlc X N) hL hi z0 z1 (w1 N (by omega)) (w2 N (by omega)) (law_next (by omega) h)
  exact lfuel (law_at hL hi hj rfl a) hs (by omega)
theorem rnd_19 {X : zX} {i : Nat} {M : zM} (hL : X.1 ≤ 2560) (hi : i + 5 ≤ X.1) (hM : lInv M) (hj : X.2.1 i &&& (Int8.ofInt 31).toInt32 = nI 19) : lRnd X i M := by
  obtain ⟨t, n, k0, k1, u0, u1, u2, hc, hr, hb, hu⟩ := hM
  obtain ⟨r, t2, n2, k02, k12, M1, g1, g2, g3, g4⟩ := mc_19 (X := X) hc hr hb (X.2.1 (i + 1)) (X.2.1 (i + 2))
  obtain ⟨r', s2, m2, l0, l1, v0, v1, v2, M2, e1, e2, e3, e4, e5⟩ := mr_19 (X := X) g2 g3 hb hu (X.2.1 (i + 1)) (X.2.1 (i + 2))
  obtain ⟨q1, q2, q3, q4⟩ := spO_d g4 e5
  rw [q1, q3, q4] at e3
  rw [q2] at e4
  have G1 := lCall_gr g1 hc.1.1 g2.1.1
  have G2 := lCall_gr e1 g2.1.1 e2.1.1
  obtain ⟨N1, w1⟩ := g1
  obtain ⟨N2, w2⟩ := e1
  obtain ⟨f0, z0⟩ := zob_of hc.1 (k := 0) (c := 11) (by decide)
  obtain ⟨f1, z1⟩ := zob_of g2.1 sSh_474
  refine ⟨M2, N1 + N2, ⟨t2, n2, k02, k12, v0, v1, v2, e2, e3, spO_b hb g4, e4⟩, e2.1.1, G2.trans G1, fun N hN n res h hs => ?_⟩
  have a := law_c19 (call := zlc X N) hL hi z0 z1 (w1 N (by omega)) (w2 N (by omega)) (law_next (by omega) h)
  exact lfuel (law_at hL hi hj rfl a) hs (by omega)
theorem rnd_20 {X : zX} {i : Nat} {M : zM} (hL : X.1 ≤ 2560) (hi : i + 5 ≤ X.1) (hM : lInv M) (hj : X.2.1 i &&& (Int8.ofInt 31).toInt32 = nI 20) : lRnd X i M := by
  obtain ⟨t, n, k0, k1, u0, u1, u2, hc, hr, hb, hu⟩ := hM
  obtain ⟨r, t2, n2, k02, k12, M1, g1, g2, g3, g4⟩ := mc_20 (X := X) hc hr hb (X.2.1 (i + 1))
  obtain ⟨r', s2, m2, l0, l1, v0, v1, v2, M2, e1, e2, e3, e4, e5⟩ := mr_20 (X := X) g2 g3 hb hu (X.2.1 (i + 1))
  obtain ⟨q1, q2, q3, q4⟩ := spO_d g4 e5
  rw [q1, q3, q4] at e3
  rw [q2] at e4
  have G1 := lCall_gr g1 hc.1.1 g2.1.1
  have G2 := lCall_gr e1 g2.1.1 e2.1.1
  obtain ⟨N1, w1⟩ := g1
  obtain ⟨N2, w2⟩ := e1
  obtain ⟨f0, z0⟩ := zob_of hc.1 (k := 0) (c := 11) (by decide)
  obtain ⟨f1, z1⟩ := zob_of g2.1 sSh_474
  refine ⟨M2, N1 + N2, ⟨t2, n2, k02, k12, v0, v1, v2, e2, e3, spO_b hb g4, e4⟩, e2.1.1, G2.trans G1, fun N hN n res h hs => ?_⟩
  have a := law_c20 (call := zlc X N) hL hi z0 z1 (w1 N (by omega)) (w2 N (by omega)) (law_next (by omega) h)
  exact lfuel (law_at hL hi hj rfl a) hs (by omega)
theorem rnd_21 {X : zX} {i : Nat} {M : zM} (hL : X.1 ≤ 2560) (hi : i + 5 ≤ X.1) (hM : lInv M) (hj : X.2.1 i &&& (Int8.ofInt 31).toInt32 = nI 21) : lRnd X i M := by
  obtain ⟨t, n, k0, k1, u0, u1, u2, hc, hr, hb, hu⟩ := hM
  obtain ⟨r, t2, n2, k02, k12, M1, g1, g2, g3, g4⟩ := mc_21 (X := X) hc hr hb (X.2.1 (i + 1))
  obtain ⟨r', s2, m2, l0, l1, v0, v1, v2, M2, e1, e2, e3, e4, e5⟩ := mr_21 (X := X) g2 g3 hb hu (X.2.1 (i + 1))
  obtain ⟨q1, q2, q3, q4⟩ := spO_d g4 e5
  rw [q1, q3, q4] at e3
  rw [q2] at e4
  have G1 := lCall_gr g1 hc.1.1 g2.1.1
  have G2 := lCall_gr e1 g2.1.1 e2.1.1
  obtain ⟨N1, w1⟩ := g1
  obtain ⟨N2, w2⟩ := e1
  obtain ⟨f0, z0⟩ := zob_of hc.1 (k := 0) (c := 11) (by decide)
  obtain ⟨f1, z1⟩ := zob_of g2.1 sSh_474
  refine ⟨M2, N1 + N2, ⟨t2, n2, k02, k12, v0, v1, v2, e2, e3, spO_b hb g4, e4⟩, e2.1.1, G2.trans G1, fun N hN n res h hs => ?_⟩
  have a := law_c21 (call := zlc X N) hL hi z0 z1 (w1 N (by omega)) (w2 N (by omega)) (law_next (by omega) h)
  exact lfuel (law_at hL hi hj rfl a) hs (by omega)
theorem rnd_22 {X : zX} {i : Nat} {M : zM} (hL : X.1 ≤ 2560) (hi : i + 5 ≤ X.1) (hM : lInv M) (hj : X.2.1 i &&& (Int8.ofInt 31).toInt32 = nI 22) : lRnd X i M := by
  obtain ⟨t, n, k0, k1, u0, u1, u2, hc, hr, hb, hu⟩ := hM
  obtain ⟨r, t2, n2, k02, k12, M1, g1, g2, g3, g4⟩ := mc_22 (X := X) hc hr hb (X.2.1 (i + 1))
  obtain ⟨r', s2, m2, l0, l1, v0, v1, v2, M2, e1, e2, e3, e4, e5⟩ := mr_22 (X := X) g2 g3 hb hu (X.2.1 (i + 1))
  obtain ⟨q1, q2, q3, q4⟩ := spO_d g4 e5
  rw [q1, q3, q4] at e3
  rw [q2] at e4
  have G1 := lCall_gr g1 hc.1.1 g2.1.1
  have G2 := lCall_gr e1 g2.1.1 e2.1.1
  obtain ⟨N1, w1⟩ := g1
  obtain ⟨N2, w2⟩ := e1
  obtain ⟨f0, z0⟩ := zob_of hc.1 (k := 0) (c := 11) (by decide)
  obtain ⟨f1, z1⟩ := zob_of g2.1 sSh_474
  refine ⟨M2, N1 + N2, ⟨t2, n2, k02, k12, v0, v1, v2, e2, e3, spO_b hb g4, e4⟩, e2.1.1, G2.trans G1, fun N hN n res h hs => ?_⟩
  have a := law_c22 (call := zlc X N) hL hi z0 z1 (w1 N (by omega)) (w2 N (by omega)) (law_next (by omega) h)
  exact lfuel (law_at hL hi hj rfl a) hs (by omega)
theorem rnd_23 {X : zX} {i : Nat} {M : zM} (hL : X.1 ≤ 2560) (hi : i + 5 ≤ X.1) (hM : lInv M) (hj : X.2.1 i &&& (Int8.ofInt 31).toInt32 = nI 23) : lRnd X i M := by
  obtain ⟨t, n, k0, k1, u0, u1, u2, hc, hr, hb, hu⟩ := hM
  obtain ⟨r, t2, n2, k02, k12, M1, g1, g2, g3, g4⟩ := mc_23 (X := X) hc hr hb (X.2.1 (i + 1))
  obtain ⟨r', s2, m2, l0, l1, v0, v1, v2, M2, e1, e2, e3, e4, e5⟩ := mr_23 (X := X) g2 g3 hb hu (X.2.1 (i + 1))
  obtain ⟨q1, q2, q3, q4⟩ := spO_d g4 e5
  rw [q1, q3, q4] at e3
  rw [q2] at e4
  have G1 := lCall_gr g1 hc.1.1 g2.1.1
  have G2 := lCall_gr e1 g2.1.1 e2.1.1
  obtain ⟨N1, w1⟩ := g1
  obtain ⟨N2, w2⟩ := e1
  obtain ⟨f0, z0⟩ := zob_of hc.1 (k := 0) (c := 11) (by decide)
  obtain ⟨f1, z1⟩ := zob_of g2.1 sSh_474
  refine ⟨M2, N1 + N2, ⟨t2, n2, k02, k12, v0, v1, v2, e2, e3, spO_b hb g4, e4⟩, e2.1.1, G2.trans G1, fun N hN n res h hs => ?_⟩
  have a := law_c23 (call := zlc X N) hL hi z0 z1 (w1 N (by omega)) (w2 N (by omega)) (law_next (by omega) h)
  exact lfuel (law_at hL hi hj rfl a) hs (by omega)
theorem rnd_24 {X : zX} {i : Nat} {M : zM} (hL : X.1 ≤ 2560) (hi : i + 5 ≤ X.1) (hM : lInv M) (hj : X.2.1 i &&& (Int8.ofInt 31).toInt32 = nI 24) : lRnd X i M := by
  obtain ⟨t, n, k0, k1, u0, u1, u2, hc, hr, hb, hu⟩ := hM
  obtain ⟨r, t2, n2, k02, k12, M1, g1, g2, g3, g4⟩ := mc_24 (X := X) hc hr hb (X.2.1 (i + 1))
  obtain ⟨r', s2, m2, l0, l1, v0, v1, v2, M2, e1, e2, e3, e4, e5⟩ := mr_24 (X := X) g2 g3 hb hu (X.2.1 (i + 1))
  obtain ⟨q1, q2, q3, q4⟩ := spO_d g4 e5
  rw [q1, q3, q4] at e3
  rw [q2] at e4
  have G1 := lCall_gr g1 hc.1.1 g2.1.1
  have G2 := lCall_gr e1 g2.1.1 e2.1.1
  obtain ⟨N1, w1⟩ := g1
  obtain ⟨N2, w2⟩ := e1
  obtain ⟨f0, z0⟩ := zob_of hc.1 (k := 0) (c := 11) (by decide)
  obtain ⟨f1, z1⟩ := zob_of g2.1 sSh_474
  refine ⟨M2, N1 + N2, ⟨t2, n2, k02, k12, v0, v1, v2, e2, e3, spO_b hb g4, e4⟩, e2.1.1, G2.trans G1, fun N hN n res h hs => ?_⟩
  have a := law_c24 (call := zlc X N) hL hi z0 z1 (w1 N (by omega)) (w2 N (by omega)) (law_next (by omega) h)
  exact lfuel (law_at hL hi hj rfl a) hs (by omega)
theorem rnd_25 {X : zX} {i : Nat} {M : zM} (hL : X.1 ≤ 2560) (hi : i + 5 ≤ X.1) (hM : lInv M) (hj : X.2.1 i &&& (Int8.ofInt 31).toInt32 = nI 25) : lRnd X i M := by
  obtain ⟨t, n, k0, k1, u0, u1, u2, hc, hr, hb, hu⟩ := hM
  obtain ⟨r, t2, n2, k02, k12, M1, g1, g2, g3, g4⟩ := mc_25 (X := X) hc hr hb (X.2.1 (i + 1))
  obtain ⟨r', s2, m2, l0, l1, v0, v1, v2, M2, e1, e2, e3, e4, e5⟩ := mr_25 (X := X) g2 g3 hb hu (X.2.1 (i + 1))
  obtain ⟨q1, q2, q3, q4⟩ := spO_d g4 e5
  rw [q1, q3, q4] at e3
  rw [q2] at e4
  have G1 := lCall_gr g1 hc.1.1 g2.1.1
  have G2 := lCall_gr e1 g2.1.1 e2.1.1
  obtain ⟨N1, w1⟩ := g1
  obtain ⟨N2, w2⟩ := e1
  obtain ⟨f0, z0⟩ := zob_of hc.1 (k := 0) (c := 11) (by decide)
  obtain ⟨f1, z1⟩ := zob_of g2.1 sSh_474
  refine ⟨M2, N1 + N2, ⟨t2, n2, k02, k12, v0, v1, v2, e2, e3, spO_b hb g4, e4⟩, e2.1.1, G2.trans G1, fun N hN n res h hs => ?_⟩
  have a := law_c25 (call := zlc X N) hL hi z0 z1 (w1 N (by omega)) (w2 N (by omega)) (law_next (by omega) h)
  exact lfuel (law_at hL hi hj rfl a) hs (by omega)
theorem rnd_26 {X : zX} {i : Nat} {M : zM} (hL : X.1 ≤ 2560) (hi : i + 5 ≤ X.1) (hM : lInv M) (hj : X.2.1 i &&& (Int8.ofInt 31).toInt32 = nI 26) : lRnd X i M := by
  obtain ⟨t, n, k0, k1, u0, u1, u2, hc, hr, hb, hu⟩ := hM
  obtain ⟨r, t2, n2, k02, k12, M1, g1, g2, g3, g4⟩ := mc_26 (X := X) hc hr hb (X.2.1 (i + 1)) (X.2.1 (i + 2)) (X.2.1 (i + 3))
  obtain ⟨r', s2, m2, l0, l1, v0, v1, v2, M2, e1, e2, e3, e4, e5⟩ := mr_26 (X := X) g2 g3 hb hu (X.2.1 (i + 1)) (X.2.1 (i + 2)) (X.2.1 (i + 3))
  obtain ⟨q1, q2, q3, q4, q5⟩ := spP_d g4 e5
  rw [q1, q3, q4] at e3
  rw [q2] at e4
  have G1 := lCall_gr g1 hc.1.1 g2.1.1
  have G2 := lCall_gr e1 g2.1.1 e2.1.1
  obtain ⟨N1, w1⟩ := g1
  obtain ⟨N2, w2⟩ := e1
  obtain ⟨f0, z0⟩ := zob_of hc.1 (k := 0) (c := 11) (by decide)
  obtain ⟨f1, z1⟩ := zob_of g2.1 sSh_474
  refine ⟨M2, N1 + N2, ⟨t2, n2, k02, k12, v0, v1, v2, e2, e3, spP_b hb g4, e4⟩, e2.1.1, G2.trans G1, fun N hN n res h hs => ?_⟩
  have a := law_c26 (call := zlc X N) hL hi z0 z1 (w1 N (by omega)) (w2 N (by omega)) (law_next (by omega) h)
  exact lfuel (law_at hL hi hj rfl a) hs (by omega)
theorem rnd_27 {X : zX} {i : Nat} {M : zM} (hL : X.1 ≤ 2560) (hi : i + 5 ≤ X.1) (hM : lInv M) (hj : X.2.1 i &&& (Int8.ofInt 31).toInt32 = nI 27) : lRnd X i M := by
  obtain ⟨t, n, k0, k1, u0, u1, u2, hc, hr, hb, hu⟩ := hM
  obtain ⟨r, t2, n2, k02, k12, M1, g1, g2, g3, g4⟩ := mc_27 (X := X) hc hr hb (X.2.1 (i + 1)) (X.2.1 (i + 2))
  obtain ⟨r', s2, m2, l0, l1, v0, v1, v2, M2, e1, e2, e3, e4, e5⟩ := mr_27 (X := X) g2 g3 hb hu (X.2.1 (i + 1)) (X.2.1 (i + 2))
  obtain ⟨q1, q2, q3, q4, q5⟩ := spK_d g4 e5
  rw [q1, q3, q4] at e3
  rw [q2] at e4
  have G1 := lCall_gr g1 hc.1.1 g2.1.1
  have G2 := lCall_gr e1 g2.1.1 e2.1.1
  obtain ⟨N1, w1⟩ := g1
  obtain ⟨N2, w2⟩ := e1
  obtain ⟨f0, z0⟩ := zob_of hc.1 (k := 0) (c := 11) (by decide)
  obtain ⟨f1, z1⟩ := zob_of g2.1 sSh_474
  refine ⟨M2, N1 + N2, ⟨t2, n2, k02, k12, v0, v1, v2, e2, e3, spK_b hb g4, e4⟩, e2.1.1, G2.trans G1, fun N hN n res h hs => ?_⟩
  have a := law_c27 (call := zlc X N) hL hi z0 z1 (w1 N (by omega)) (w2 N (by omega)) (law_next (by omega) h)
  exact lfuel (law_at hL hi hj rfl a) hs (by omega)
theorem rnd_28 {X : zX} {i : Nat} {M : zM} (hL : X.1 ≤ 2560) (hi : i + 5 ≤ X.1) (hM : lInv M) (hj : X.2.1 i &&& (Int8.ofInt 31).toInt32 = nI 28) : lRnd X i M := by
  obtain ⟨t, n, k0, k1, u0, u1, u2, hc, hr, hb, hu⟩ := hM
  obtain ⟨r, t2, n2, k02, k12, M1, g1, g2, g3, g4⟩ := mc_28 (X := X) hc hr hb (X.2.1 (i + 1)) (X.2.1 (i + 2))
  obtain ⟨r', s2, m2, l0, l1, v0, v1, v2, M2, e1, e2, e3, e4, e5⟩ := mr_28 (X := X) g2 g3 hb hu (X.2.1 (i + 1)) (X.2.1 (i + 2))
  obtain ⟨q1, q2, q3, q4, q5⟩ := spA_d hb g4 e5
  rw [q1, q3, q4] at e3
  rw [q2] at e4
  have G1 := lCall_gr g1 hc.1.1 g2.1.1
  have G2 := lCall_gr e1 g2.1.1 e2.1.1
  obtain ⟨N1, w1⟩ := g1
  obtain ⟨N2, w2⟩ := e1
  obtain ⟨f0, z0⟩ := zob_of hc.1 (k := 0) (c := 11) (by decide)
  obtain ⟨f1, z1⟩ := zob_of g2.1 sSh_474
  refine ⟨M2, N1 + N2, ⟨t2, n2, k02, k12, v0, v1, v2, e2, e3, spA_b hb g4, e4⟩, e2.1.1, G2.trans G1, fun N hN n res h hs => ?_⟩
  have a := law_c28 (call := zlc X N) hL hi z0 z1 (w1 N (by omega)) (w2 N (by omega)) (law_next (by omega) h)
  exact lfuel (law_at hL hi hj rfl a) hs (by omega)
theorem rnd_29 {X : zX} {i : Nat} {M : zM} (hL : X.1 ≤ 2560) (hi : i + 5 ≤ X.1) (hM : lInv M) (hj : X.2.1 i &&& (Int8.ofInt 31).toInt32 = nI 29) : lRnd X i M := by
  obtain ⟨t, n, k0, k1, u0, u1, u2, hc, hr, hb, hu⟩ := hM
  obtain ⟨r, t2, n2, k02, k12, M1, g1, g2, g3, g4⟩ := mc_29 (X := X) hc hr hb (X.2.1 (i + 1)) (X.2.1 (i + 2))
  obtain ⟨r', s2, m2, l0, l1, v0, v1, v2, M2, e1, e2, e3, e4, e5⟩ := mr_29 (X := X) g2 g3 hb hu (X.2.1 (i + 1)) (X.2.1 (i + 2))
  obtain ⟨q1, q2, q3, q4⟩ := spO_d g4 e5
  rw [q1, q3, q4] at e3
  rw [q2] at e4
  have G1 := lCall_gr g1 hc.1.1 g2.1.1
  have G2 := lCall_gr e1 g2.1.1 e2.1.1
  obtain ⟨N1, w1⟩ := g1
  obtain ⟨N2, w2⟩ := e1
  obtain ⟨f0, z0⟩ := zob_of hc.1 (k := 0) (c := 11) (by decide)
  obtain ⟨f1, z1⟩ := zob_of g2.1 sSh_474
  refine ⟨M2, N1 + N2, ⟨t2, n2, k02, k12, v0, v1, v2, e2, e3, spO_b hb g4, e4⟩, e2.1.1, G2.trans G1, fun N hN n res h hs => ?_⟩
  have a := law_c29 (call := zlc X N) hL hi z0 z1 (w1 N (by omega)) (w2 N (by omega)) (law_next (by omega) h)
  exact lfuel (law_at hL hi hj rfl a) hs (by omega)
theorem rnd_30 {X : zX} {i : Nat} {M : zM} (hL : X.1 ≤ 2560) (hi : i + 5 ≤ X.1) (hM : lInv M) (hj : X.2.1 i &&& (Int8.ofInt 31).toInt32 = nI 30) : lRnd X i M := by
  have h1 : M.1 = 486 := by
    obtain ⟨t, n, k0, k1, u0, u1, u2, hc, -⟩ := hM
    exact hc.1.1
  refine ⟨M, 0, hM, h1, rfl, fun N hN n res h hs => ?_⟩
  exact lfuel (law_at (T := 1188) hL hi hj rfl (law_next (by omega) h)) hs (by omega)
theorem rnd_31 {X : zX} {i : Nat} {M : zM} (hL : X.1 ≤ 2560) (hi : i + 5 ≤ X.1) (hM : lInv M) (hj : X.2.1 i &&& (Int8.ofInt 31).toInt32 = nI 31) : lRnd X i M := by
  have h1 : M.1 = 486 := by
    obtain ⟨t, n, k0, k1, u0, u1, u2, hc, -⟩ := hM
    exact hc.1.1
  refine ⟨M, 0, hM, h1, rfl, fun N hN n res h hs => ?_⟩
  exact lfuel (law_at (T := 1188) hL hi hj rfl (law_next (by omega) h)) hs (by omega)
