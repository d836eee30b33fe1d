/-! RULES: theorems (printed by tools/t63.py) -/
theorem tN_89_4_0 : vN rQ 89 hn_89_4_0 := by
  intro R G ps hl
  obtain ⟨b, p, i, k, rfl⟩ := hl4 hl
  refine hv2 (fun V hag0 g0 => ?_)
  replace g0 : R 58 ((8295 : Int) + (1 * b + (40 * i + 0))) = V := g0
  replace hag0 : (0 : Int) ≤ ((8295 : Int) + (1 * b + (40 * i + 0))) := hag0
  replace g0 : dV (R 58) b (i) = V := hF (R := R 58) g0 (ad_8 b i)
  show hV _ _ _ _ _ [b, p, i, k, V]
  refine hv13 (fun g1 => ?_)
  replace g1 : ((0 : Int) + (1 * k + 0)) = ((0 : Int) + (1 * V + 0)) := g1
  refine hvC ?_
  refine rqi_89_4 (?_ : q89 b i k (R 58) (R 67) (R 68) (R 60) (R 66))
  subst g0
  intro l_ l0 l1
  omega

theorem tN_89_4_1 : vN rQ 89 hn_89_4_1 := by
  intro R G ps hl
  obtain ⟨b, p, i, k, rfl⟩ := hl4 hl
  refine hv4 (hm4 (fun b2 p2 i2 k2 g0 => ?_))
  replace g0 : q89 b2 i2 k2 (R 58) (R 67) (R 68) (R 60) (R 66) := rqo_89_4 g0
  refine hmb rfl ?_
  show hmt _ _ _ [b, p, i, k, b2]
  refine hmb rfl ?_
  show hmt _ _ _ [b, p, i, k, b2, p2]
  refine hmb rfl ?_
  show hmt _ _ _ [b, p, i, k, b2, p2, i2]
  refine hmb rfl ?_
  show hmt _ _ _ [b, p, i, k, b2, p2, i2, k2]
  refine hmn ?_
  show hV _ _ _ _ _ [b, p, i, k, b2, p2, i2, k2]
  refine hv13 (fun g1 => ?_)
  replace g1 : ((0 : Int) + (1 * b2 + 0)) = ((0 : Int) + (1 * b + 0)) := g1
  refine hv13 (fun g2 => ?_)
  replace g2 : ((0 : Int) + (1 * p2 + 0)) = ((0 : Int) + (1 * p + 0)) := g2
  refine hv13 (fun g3 => ?_)
  replace g3 : ((0 : Int) + (1 * i2 + 0)) = ((0 : Int) + (1 * i + 0)) := g3
  refine hv13 (fun g4 => ?_)
  replace g4 : ((0 : Int) + (1 * k2 + 0)) = ((-1 : Int) + (1 * k + 0)) := g4
  refine hv2 (fun V hag5 g5 => ?_)
  replace g5 : R 58 ((8295 : Int) + (1 * b + (40 * i + 0))) = V := g5
  replace hag5 : (0 : Int) ≤ ((8295 : Int) + (1 * b + (40 * i + 0))) := hag5
  replace g5 : dV (R 58) b (i) = V := hF (R := R 58) g5 (ad_8 b i)
  show hV _ _ _ _ _ [b, p, i, k, b2, p2, i2, k2, V]
  refine hv2 (fun N hag6 g6 => ?_)
  replace g6 : R 58 ((8296 : Int) + (1 * b + (40 * i + 0))) = N := g6
  replace hag6 : (0 : Int) ≤ ((8296 : Int) + (1 * b + (40 * i + 0))) := hag6
  replace g6 : dL (R 58) b (i) = N := hF (R := R 58) g6 (ad_9 b i)
  show hV _ _ _ _ _ [b, p, i, k, b2, p2, i2, k2, V, N]
  refine hv0 (fun g7 => ?_)
  replace g7 : (0 : Int) ≤ ((-1 : Int) + (1 * k + ((-1) * V + 0))) := g7
  refine hv0 (fun g8 => ?_)
  replace g8 : (0 : Int) ≤ ((0 : Int) + ((-1) * k + (1 * V + (1 * N + 0)))) := g8
  refine hv2 (fun to hag9 g9 => ?_)
  replace g9 : R 60 ((-1 : Int) + (1 * k + 0)) = to := g9
  replace hag9 : (0 : Int) ≤ ((-1 : Int) + (1 * k + 0)) := hag9
  replace g9 : R 60 (k - 1) = to := hF (R := R 60) g9 (ad_36 k)
  show hV _ _ _ _ _ [b, p, i, k, b2, p2, i2, k2, V, N, to]
  refine hv2 (fun kk hag10 g10 => ?_)
  replace g10 : R 58 ((22690 : Int) + (1 * b + (2 * k + 0))) = kk := g10
  replace hag10 : (0 : Int) ≤ ((22690 : Int) + (1 * b + (2 * k + 0))) := hag10
  replace g10 : iK (R 58) b (k - 1) = kk := hF (R := R 58) g10 (ad_18 b k)
  show hV _ _ _ _ _ [b, p, i, k, b2, p2, i2, k2, V, N, to, kk]
  refine hv2 (fun nn hag11 g11 => ?_)
  replace g11 : R 58 ((22691 : Int) + (1 * b + (2 * k + 0))) = nn := g11
  replace hag11 : (0 : Int) ≤ ((22691 : Int) + (1 * b + (2 * k + 0))) := hag11
  replace g11 : iN (R 58) b (k - 1) = nn := hF (R := R 58) g11 (ad_19 b k)
  show hV _ _ _ _ _ [b, p, i, k, b2, p2, i2, k2, V, N, to, kk, nn]
  refine hv2 (fun w hag12 g12 => ?_)
  replace g12 : R 66 ((0 : Int) + (1 * to + 0)) = w := g12
  replace hag12 : (0 : Int) ≤ ((0 : Int) + (1 * to + 0)) := hag12
  replace g12 : R 66 (to) = w := hF (R := R 66) g12 (ad_44 to)
  show hV _ _ _ _ _ [b, p, i, k, b2, p2, i2, k2, V, N, to, kk, nn, w]
  refine hv13 (fun g13 => ?_)
  replace g13 : ((0 : Int) + (1 * kk + 0)) = ((1 : Int) + 0) := g13
  refine hv13 (fun g14 => ?_)
  replace g14 : ((0 : Int) + (1 * w + 0)) = ((16777216 : Int) + 0) := g14
  refine hvC ?_
  refine rqi_89_4 (?_ : q89 b i k (R 58) (R 67) (R 68) (R 60) (R 66))
  have q_ : b = b2 := by omega
  subst q_
  have q_ : p = p2 := by omega
  subst q_
  have q_ : i = i2 := by omega
  subst q_
  have q_ : k2 = k - 1 := by omega
  subst q_
  subst g5
  subst g6
  subst g9
  subst g10
  subst g11
  subst g12
  exact q89_s g0 (Or.inl ⟨by omega, by omega⟩)

theorem tN_89_4_2 : vN rQ 89 hn_89_4_2 := by
  intro R G ps hl
  obtain ⟨b, p, i, k, rfl⟩ := hl4 hl
  refine hv4 (hm4 (fun b2 p2 i2 k2 g0 => ?_))
  replace g0 : q89 b2 i2 k2 (R 58) (R 67) (R 68) (R 60) (R 66) := rqo_89_4 g0
  refine hmb rfl ?_
  show hmt _ _ _ [b, p, i, k, b2]
  refine hmb rfl ?_
  show hmt _ _ _ [b, p, i, k, b2, p2]
  refine hmb rfl ?_
  show hmt _ _ _ [b, p, i, k, b2, p2, i2]
  refine hmb rfl ?_
  show hmt _ _ _ [b, p, i, k, b2, p2, i2, k2]
  refine hmn ?_
  show hV _ _ _ _ _ [b, p, i, k, b2, p2, i2, k2]
  refine hv13 (fun g1 => ?_)
  replace g1 : ((0 : Int) + (1 * b2 + 0)) = ((0 : Int) + (1 * b + 0)) := g1
  refine hv13 (fun g2 => ?_)
  replace g2 : ((0 : Int) + (1 * p2 + 0)) = ((0 : Int) + (1 * p + 0)) := g2
  refine hv13 (fun g3 => ?_)
  replace g3 : ((0 : Int) + (1 * i2 + 0)) = ((0 : Int) + (1 * i + 0)) := g3
  refine hv13 (fun g4 => ?_)
  replace g4 : ((0 : Int) + (1 * k2 + 0)) = ((-1 : Int) + (1 * k + 0)) := g4
  refine hv2 (fun V hag5 g5 => ?_)
  replace g5 : R 58 ((8295 : Int) + (1 * b + (40 * i + 0))) = V := g5
  replace hag5 : (0 : Int) ≤ ((8295 : Int) + (1 * b + (40 * i + 0))) := hag5
  replace g5 : dV (R 58) b (i) = V := hF (R := R 58) g5 (ad_8 b i)
  show hV _ _ _ _ _ [b, p, i, k, b2, p2, i2, k2, V]
  refine hv2 (fun N hag6 g6 => ?_)
  replace g6 : R 58 ((8296 : Int) + (1 * b + (40 * i + 0))) = N := g6
  replace hag6 : (0 : Int) ≤ ((8296 : Int) + (1 * b + (40 * i + 0))) := hag6
  replace g6 : dL (R 58) b (i) = N := hF (R := R 58) g6 (ad_9 b i)
  show hV _ _ _ _ _ [b, p, i, k, b2, p2, i2, k2, V, N]
  refine hv0 (fun g7 => ?_)
  replace g7 : (0 : Int) ≤ ((-1 : Int) + (1 * k + ((-1) * V + 0))) := g7
  refine hv0 (fun g8 => ?_)
  replace g8 : (0 : Int) ≤ ((0 : Int) + ((-1) * k + (1 * V + (1 * N + 0)))) := g8
  refine hv2 (fun to hag9 g9 => ?_)
  replace g9 : R 60 ((-1 : Int) + (1 * k + 0)) = to := g9
  replace hag9 : (0 : Int) ≤ ((-1 : Int) + (1 * k + 0)) := hag9
  replace g9 : R 60 (k - 1) = to := hF (R := R 60) g9 (ad_36 k)
  show hV _ _ _ _ _ [b, p, i, k, b2, p2, i2, k2, V, N, to]
  refine hv2 (fun kk hag10 g10 => ?_)
  replace g10 : R 58 ((22690 : Int) + (1 * b + (2 * k + 0))) = kk := g10
  replace hag10 : (0 : Int) ≤ ((22690 : Int) + (1 * b + (2 * k + 0))) := hag10
  replace g10 : iK (R 58) b (k - 1) = kk := hF (R := R 58) g10 (ad_18 b k)
  show hV _ _ _ _ _ [b, p, i, k, b2, p2, i2, k2, V, N, to, kk]
  refine hv2 (fun nn hag11 g11 => ?_)
  replace g11 : R 58 ((22691 : Int) + (1 * b + (2 * k + 0))) = nn := g11
  replace hag11 : (0 : Int) ≤ ((22691 : Int) + (1 * b + (2 * k + 0))) := hag11
  replace g11 : iN (R 58) b (k - 1) = nn := hF (R := R 58) g11 (ad_19 b k)
  show hV _ _ _ _ _ [b, p, i, k, b2, p2, i2, k2, V, N, to, kk, nn]
  refine hv2 (fun w hag12 g12 => ?_)
  replace g12 : R 66 ((0 : Int) + (1 * to + 0)) = w := g12
  replace hag12 : (0 : Int) ≤ ((0 : Int) + (1 * to + 0)) := hag12
  replace g12 : R 66 (to) = w := hF (R := R 66) g12 (ad_44 to)
  show hV _ _ _ _ _ [b, p, i, k, b2, p2, i2, k2, V, N, to, kk, nn, w]
  refine hv13 (fun g13 => ?_)
  replace g13 : ((0 : Int) + (1 * kk + 0)) = ((0 : Int) + 0) := g13
  refine hv2 (fun wk hag14 g14 => ?_)
  replace g14 : R 58 ((8292 : Int) + (1 * b + (40 * nn + 0))) = wk := g14
  replace hag14 : (0 : Int) ≤ ((8292 : Int) + (1 * b + (40 * nn + 0))) := hag14
  replace g14 : dK (R 58) b (nn) = wk := hF (R := R 58) g14 (ad_41 b nn)
  show hV _ _ _ _ _ [b, p, i, k, b2, p2, i2, k2, V, N, to, kk, nn, w, wk]
  refine hv0 (fun g15 => ?_)
  replace g15 : (0 : Int) ≤ ((-2 : Int) + (1 * wk + 0)) := g15
  refine hv13 (fun g16 => ?_)
  replace g16 : ((0 : Int) + (1 * w + 0)) = ((16777216 : Int) + 0) := g16
  refine hvC ?_
  refine rqi_89_4 (?_ : q89 b i k (R 58) (R 67) (R 68) (R 60) (R 66))
  have q_ : b = b2 := by omega
  subst q_
  have q_ : p = p2 := by omega
  subst q_
  have q_ : i = i2 := by omega
  subst q_
  have q_ : k2 = k - 1 := by omega
  subst q_
  subst g5
  subst g6
  subst g9
  subst g10
  subst g11
  subst g12
  subst g14
  exact q89_s g0 (Or.inr (Or.inl ⟨by omega, by omega, by omega⟩))

theorem tN_89_4_3 : vN rQ 89 hn_89_4_3 := by
  intro R G ps hl
  obtain ⟨b, p, i, k, rfl⟩ := hl4 hl
  refine hv4 (hm4 (fun b2 p2 i2 k2 g0 => ?_))
  replace g0 : q89 b2 i2 k2 (R 58) (R 67) (R 68) (R 60) (R 66) := rqo_89_4 g0
  refine hmb rfl ?_
  show hmt _ _ _ [b, p, i, k, b2]
  refine hmb rfl ?_
  show hmt _ _ _ [b, p, i, k, b2, p2]
  refine hmb rfl ?_
  show hmt _ _ _ [b, p, i, k, b2, p2, i2]
  refine hmb rfl ?_
  show hmt _ _ _ [b, p, i, k, b2, p2, i2, k2]
  refine hmn ?_
  show hV _ _ _ _ _ [b, p, i, k, b2, p2, i2, k2]
  refine hv13 (fun g1 => ?_)
  replace g1 : ((0 : Int) + (1 * b2 + 0)) = ((0 : Int) + (1 * b + 0)) := g1
  refine hv13 (fun g2 => ?_)
  replace g2 : ((0 : Int) + (1 * p2 + 0)) = ((0 : Int) + (1 * p + 0)) := g2
  refine hv13 (fun g3 => ?_)
  replace g3 : ((0 : Int) + (1 * i2 + 0)) = ((0 : Int) + (1 * i + 0)) := g3
  refine hv13 (fun g4 => ?_)
  replace g4 : ((0 : Int) + (1 * k2 + 0)) = ((-1 : Int) + (1 * k + 0)) := g4
  refine hv2 (fun V hag5 g5 => ?_)
  replace g5 : R 58 ((8295 : Int) + (1 * b + (40 * i + 0))) = V := g5
  replace hag5 : (0 : Int) ≤ ((8295 : Int) + (1 * b + (40 * i + 0))) := hag5
  replace g5 : dV (R 58) b (i) = V := hF (R := R 58) g5 (ad_8 b i)
  show hV _ _ _ _ _ [b, p, i, k, b2, p2, i2, k2, V]
  refine hv2 (fun N hag6 g6 => ?_)
  replace g6 : R 58 ((8296 : Int) + (1 * b + (40 * i + 0))) = N := g6
  replace hag6 : (0 : Int) ≤ ((8296 : Int) + (1 * b + (40 * i + 0))) := hag6
  replace g6 : dL (R 58) b (i) = N := hF (R := R 58) g6 (ad_9 b i)
  show hV _ _ _ _ _ [b, p, i, k, b2, p2, i2, k2, V, N]
  refine hv0 (fun g7 => ?_)
  replace g7 : (0 : Int) ≤ ((-1 : Int) + (1 * k + ((-1) * V + 0))) := g7
  refine hv0 (fun g8 => ?_)
  replace g8 : (0 : Int) ≤ ((0 : Int) + ((-1) * k + (1 * V + (1 * N + 0)))) := g8
  refine hv2 (fun to hag9 g9 => ?_)
  replace g9 : R 60 ((-1 : Int) + (1 * k + 0)) = to := g9
  replace hag9 : (0 : Int) ≤ ((-1 : Int) + (1 * k + 0)) := hag9
  replace g9 : R 60 (k - 1) = to := hF (R := R 60) g9 (ad_36 k)
  show hV _ _ _ _ _ [b, p, i, k, b2, p2, i2, k2, V, N, to]
  refine hv2 (fun kk hag10 g10 => ?_)
  replace g10 : R 58 ((22690 : Int) + (1 * b + (2 * k + 0))) = kk := g10
  replace hag10 : (0 : Int) ≤ ((22690 : Int) + (1 * b + (2 * k + 0))) := hag10
  replace g10 : iK (R 58) b (k - 1) = kk := hF (R := R 58) g10 (ad_18 b k)
  show hV _ _ _ _ _ [b, p, i, k, b2, p2, i2, k2, V, N, to, kk]
  refine hv2 (fun nn hag11 g11 => ?_)
  replace g11 : R 58 ((22691 : Int) + (1 * b + (2 * k + 0))) = nn := g11
  replace hag11 : (0 : Int) ≤ ((22691 : Int) + (1 * b + (2 * k + 0))) := hag11
  replace g11 : iN (R 58) b (k - 1) = nn := hF (R := R 58) g11 (ad_19 b k)
  show hV _ _ _ _ _ [b, p, i, k, b2, p2, i2, k2, V, N, to, kk, nn]
  refine hv2 (fun w hag12 g12 => ?_)
  replace g12 : R 66 ((0 : Int) + (1 * to + 0)) = w := g12
  replace hag12 : (0 : Int) ≤ ((0 : Int) + (1 * to + 0)) := hag12
  replace g12 : R 66 (to) = w := hF (R := R 66) g12 (ad_44 to)
  show hV _ _ _ _ _ [b, p, i, k, b2, p2, i2, k2, V, N, to, kk, nn, w]
  refine hv13 (fun g13 => ?_)
  replace g13 : ((0 : Int) + (1 * kk + 0)) = ((0 : Int) + 0) := g13
  refine hv2 (fun wk hag14 g14 => ?_)
  replace g14 : R 58 ((8292 : Int) + (1 * b + (40 * nn + 0))) = wk := g14
  replace hag14 : (0 : Int) ≤ ((8292 : Int) + (1 * b + (40 * nn + 0))) := hag14
  replace g14 : dK (R 58) b (nn) = wk := hF (R := R 58) g14 (ad_41 b nn)
  show hV _ _ _ _ _ [b, p, i, k, b2, p2, i2, k2, V, N, to, kk, nn, w, wk]
  refine hv13 (fun g15 => ?_)
  replace g15 : ((0 : Int) + (1 * wk + 0)) = ((1 : Int) + 0) := g15
  refine hv9 (fun t17_0 d z g16 => ?_)
  replace g16 : hopS 1 t17_0 d z := g16
  refine hmc rfl (fun e17_0 => ?_)
  replace e17_0 : ((285212672 : Int) + 0) = t17_0 := e17_0
  refine hmb rfl ?_
  show hmt _ _ _ [b, p, i, k, b2, p2, i2, k2, V, N, to, kk, nn, w, wk, d]
  refine hmn ?_
  show hV _ _ _ _ _ [b, p, i, k, b2, p2, i2, k2, V, N, to, kk, nn, w, wk, d, z]
  refine hv13 (fun g17 => ?_)
  replace g17 : ((0 : Int) + (1 * z + 0)) = ((0 : Int) + (1 * w + 0)) := g17
  refine hv6 (fun j a g18 => ?_)
  replace g18 : R 68 (((0 : Int) + 0) + ((1 : Nat) : Int) * j) = a := g18
  replace g18 : R 68 (j) = a := hF (R := R 68) g18 (ad_45 j)
  show hV _ _ _ _ _ [b, p, i, k, b2, p2, i2, k2, V, N, to, kk, nn, w, wk, d, z, j, a]
  refine hv13 (fun g19 => ?_)
  replace g19 : ((0 : Int) + (1 * a + 0)) = ((0 : Int) + (1 * d + 0)) := g19
  refine hv2 (fun t hag20 g20 => ?_)
  replace g20 : R 67 ((0 : Int) + (1 * j + 0)) = t := g20
  replace hag20 : (0 : Int) ≤ ((0 : Int) + (1 * j + 0)) := hag20
  replace g20 : R 67 (j) = t := hF (R := R 67) g20 (ad_46 j)
  show hV _ _ _ _ _ [b, p, i, k, b2, p2, i2, k2, V, N, to, kk, nn, w, wk, d, z, j, a, t]
  refine hv13 (fun g21 => ?_)
  replace g21 : ((0 : Int) + (1 * t + 0)) = ((0 : Int) + (1 * nn + 0)) := g21
  refine hv4 (hm1 (fun n8 g22 => ?_))
  replace g22 : q80 n8 (R 67) := rqo_80_1 g22
  refine hmb rfl ?_
  show hmt _ _ _ [b, p, i, k, b2, p2, i2, k2, V, N, to, kk, nn, w, wk, d, z, j, a, t, n8]
  refine hmn ?_
  show hV _ _ _ _ _ [b, p, i, k, b2, p2, i2, k2, V, N, to, kk, nn, w, wk, d, z, j, a, t, n8]
  refine hv0 (fun g23 => ?_)
  replace g23 : (0 : Int) ≤ ((-1 : Int) + ((-1) * j + (1 * n8 + 0))) := g23
  refine hvC ?_
  refine rqi_89_4 (?_ : q89 b i k (R 58) (R 67) (R 68) (R 60) (R 66))
  have q_ : t17_0 = 285212672 := by omega
  subst q_
  have q_ : b = b2 := by omega
  subst q_
  have q_ : p = p2 := by omega
  subst q_
  have q_ : i = i2 := by omega
  subst q_
  have q_ : k2 = k - 1 := by omega
  subst q_
  have q_ : w = z := by omega
  subst q_
  subst g5
  subst g6
  subst g9
  subst g10
  subst g11
  subst g12
  subst g14
  subst g18
  subst g20
  have o1 := hop_ior g16
  rw [show d = R 68 j by omega] at o1
  exact q89_s g0 (Or.inr (Or.inr (Or.inl ⟨by omega, by omega, j, n8, by omega, by omega, g22, by omega, by rw [o1]⟩)))

theorem tN_89_4_4 : vN rQ 89 hn_89_4_4 := by
  intro R G ps hl
  obtain ⟨b, p, i, k, rfl⟩ := hl4 hl
  refine hv4 (hm4 (fun b2 p2 i2 k2 g0 => ?_))
  replace g0 : q89 b2 i2 k2 (R 58) (R 67) (R 68) (R 60) (R 66) := rqo_89_4 g0
  refine hmb rfl ?_
  show hmt _ _ _ [b, p, i, k, b2]
  refine hmb rfl ?_
  show hmt _ _ _ [b, p, i, k, b2, p2]
  refine hmb rfl ?_
  show hmt _ _ _ [b, p, i, k, b2, p2, i2]
  refine hmb rfl ?_
  show hmt _ _ _ [b, p, i, k, b2, p2, i2, k2]
  refine hmn ?_
  show hV _ _ _ _ _ [b, p, i, k, b2, p2, i2, k2]
  refine hv13 (fun g1 => ?_)
  replace g1 : ((0 : Int) + (1 * b2 + 0)) = ((0 : Int) + (1 * b + 0)) := g1
  refine hv13 (fun g2 => ?_)
  replace g2 : ((0 : Int) + (1 * p2 + 0)) = ((0 : Int) + (1 * p + 0)) := g2
  refine hv13 (fun g3 => ?_)
  replace g3 : ((0 : Int) + (1 * i2 + 0)) = ((0 : Int) + (1 * i + 0)) := g3
  refine hv13 (fun g4 => ?_)
  replace g4 : ((0 : Int) + (1 * k2 + 0)) = ((-1 : Int) + (1 * k + 0)) := g4
  refine hv2 (fun V hag5 g5 => ?_)
  replace g5 : R 58 ((8295 : Int) + (1 * b + (40 * i + 0))) = V := g5
  replace hag5 : (0 : Int) ≤ ((8295 : Int) + (1 * b + (40 * i + 0))) := hag5
  replace g5 : dV (R 58) b (i) = V := hF (R := R 58) g5 (ad_8 b i)
  show hV _ _ _ _ _ [b, p, i, k, b2, p2, i2, k2, V]
  refine hv2 (fun N hag6 g6 => ?_)
  replace g6 : R 58 ((8296 : Int) + (1 * b + (40 * i + 0))) = N := g6
  replace hag6 : (0 : Int) ≤ ((8296 : Int) + (1 * b + (40 * i + 0))) := hag6
  replace g6 : dL (R 58) b (i) = N := hF (R := R 58) g6 (ad_9 b i)
  show hV _ _ _ _ _ [b, p, i, k, b2, p2, i2, k2, V, N]
  refine hv0 (fun g7 => ?_)
  replace g7 : (0 : Int) ≤ ((-1 : Int) + (1 * k + ((-1) * V + 0))) := g7
  refine hv0 (fun g8 => ?_)
  replace g8 : (0 : Int) ≤ ((0 : Int) + ((-1) * k + (1 * V + (1 * N + 0)))) := g8
  refine hv2 (fun to hag9 g9 => ?_)
  replace g9 : R 60 ((-1 : Int) + (1 * k + 0)) = to := g9
  replace hag9 : (0 : Int) ≤ ((-1 : Int) + (1 * k + 0)) := hag9
  replace g9 : R 60 (k - 1) = to := hF (R := R 60) g9 (ad_36 k)
  show hV _ _ _ _ _ [b, p, i, k, b2, p2, i2, k2, V, N, to]
  refine hv2 (fun kk hag10 g10 => ?_)
  replace g10 : R 58 ((22690 : Int) + (1 * b + (2 * k + 0))) = kk := g10
  replace hag10 : (0 : Int) ≤ ((22690 : Int) + (1 * b + (2 * k + 0))) := hag10
  replace g10 : iK (R 58) b (k - 1) = kk := hF (R := R 58) g10 (ad_18 b k)
  show hV _ _ _ _ _ [b, p, i, k, b2, p2, i2, k2, V, N, to, kk]
  refine hv2 (fun nn hag11 g11 => ?_)
  replace g11 : R 58 ((22691 : Int) + (1 * b + (2 * k + 0))) = nn := g11
  replace hag11 : (0 : Int) ≤ ((22691 : Int) + (1 * b + (2 * k + 0))) := hag11
  replace g11 : iN (R 58) b (k - 1) = nn := hF (R := R 58) g11 (ad_19 b k)
  show hV _ _ _ _ _ [b, p, i, k, b2, p2, i2, k2, V, N, to, kk, nn]
  refine hv2 (fun w hag12 g12 => ?_)
  replace g12 : R 66 ((0 : Int) + (1 * to + 0)) = w := g12
  replace hag12 : (0 : Int) ≤ ((0 : Int) + (1 * to + 0)) := hag12
  replace g12 : R 66 (to) = w := hF (R := R 66) g12 (ad_44 to)
  show hV _ _ _ _ _ [b, p, i, k, b2, p2, i2, k2, V, N, to, kk, nn, w]
  refine hv5 (fun g13 => ?_)
  replace g13 : ild ((0 : Int) + (1 * kk + 0)) := rqo_93_1 g13
  simp only [Int.zero_add, Int.one_mul, Int.add_zero] at g13
  refine hv9 (fun a1 t15_1 s g14 => ?_)
  replace g14 : hopS 2 a1 t15_1 s := g14
  refine hmb rfl ?_
  show hmt _ _ _ [b, p, i, k, b2, p2, i2, k2, V, N, to, kk, nn, w, a1]
  refine hmc rfl (fun e15_1 => ?_)
  replace e15_1 : ((24 : Int) + 0) = t15_1 := e15_1
  refine hmn ?_
  show hV _ _ _ _ _ [b, p, i, k, b2, p2, i2, k2, V, N, to, kk, nn, w, a1, s]
  refine hv13 (fun g15 => ?_)
  replace g15 : ((0 : Int) + (1 * a1 + 0)) = ((0 : Int) + (1 * kk + 0)) := g15
  refine hv9 (fun s2 d z g16 => ?_)
  replace g16 : hopS 1 s2 d z := g16
  refine hmb rfl ?_
  show hmt _ _ _ [b, p, i, k, b2, p2, i2, k2, V, N, to, kk, nn, w, a1, s, s2]
  refine hmb rfl ?_
  show hmt _ _ _ [b, p, i, k, b2, p2, i2, k2, V, N, to, kk, nn, w, a1, s, s2, d]
  refine hmn ?_
  show hV _ _ _ _ _ [b, p, i, k, b2, p2, i2, k2, V, N, to, kk, nn, w, a1, s, s2, d, z]
  refine hv13 (fun g17 => ?_)
  replace g17 : ((0 : Int) + (1 * s2 + 0)) = ((0 : Int) + (1 * s + 0)) := g17
  refine hv13 (fun g18 => ?_)
  replace g18 : ((0 : Int) + (1 * z + 0)) = ((0 : Int) + (1 * w + 0)) := g18
  refine hv2 (fun pl hag19 g19 => ?_)
  replace g19 : R 60 ((0 : Int) + (1 * nn + 0)) = pl := g19
  replace hag19 : (0 : Int) ≤ ((0 : Int) + (1 * nn + 0)) := hag19
  replace g19 : R 60 (nn) = pl := hF (R := R 60) g19 (ad_47 nn)
  show hV _ _ _ _ _ [b, p, i, k, b2, p2, i2, k2, V, N, to, kk, nn, w, a1, s, s2, d, z, pl]
  refine hv13 (fun g20 => ?_)
  replace g20 : ((0 : Int) + (1 * pl + 0)) = ((0 : Int) + (1 * d + 0)) := g20
  refine hvC ?_
  refine rqi_89_4 (?_ : q89 b i k (R 58) (R 67) (R 68) (R 60) (R 66))
  have q_ : t15_1 = 24 := by omega
  subst q_
  have q_ : b = b2 := by omega
  subst q_
  have q_ : p = p2 := by omega
  subst q_
  have q_ : i = i2 := by omega
  subst q_
  have q_ : k2 = k - 1 := by omega
  subst q_
  have q_ : kk = a1 := by omega
  subst q_
  have q_ : s = s2 := by omega
  subst q_
  have q_ : w = z := by omega
  subst q_
  subst g5
  subst g6
  subst g9
  subst g10
  subst g11
  subst g12
  subst g19
  have o1 := hop_ishl g14
  have o2 := hop_ior g16
  exact q89_s g0 (Or.inr (Or.inr (Or.inr (Or.inl ⟨g13, by rw [o1, show R 60 (iN (R 58) b (k - 1)) = d by omega, o2]⟩))))

theorem tN_89_4_5 : vN rQ 89 hn_89_4_5 := by
  intro R G ps hl
  obtain ⟨b, p, i, k, rfl⟩ := hl4 hl
  refine hv4 (hm4 (fun b2 p2 i2 k2 g0 => ?_))
  replace g0 : q89 b2 i2 k2 (R 58) (R 67) (R 68) (R 60) (R 66) := rqo_89_4 g0
  refine hmb rfl ?_
  show hmt _ _ _ [b, p, i, k, b2]
  refine hmb rfl ?_
  show hmt _ _ _ [b, p, i, k, b2, p2]
  refine hmb rfl ?_
  show hmt _ _ _ [b, p, i, k, b2, p2, i2]
  refine hmb rfl ?_
  show hmt _ _ _ [b, p, i, k, b2, p2, i2, k2]
  refine hmn ?_
  show hV _ _ _ _ _ [b, p, i, k, b2, p2, i2, k2]
  refine hv13 (fun g1 => ?_)
  replace g1 : ((0 : Int) + (1 * b2 + 0)) = ((0 : Int) + (1 * b + 0)) := g1
  refine hv13 (fun g2 => ?_)
  replace g2 : ((0 : Int) + (1 * p2 + 0)) = ((0 : Int) + (1 * p + 0)) := g2
  refine hv13 (fun g3 => ?_)
  replace g3 : ((0 : Int) + (1 * i2 + 0)) = ((0 : Int) + (1 * i + 0)) := g3
  refine hv13 (fun g4 => ?_)
  replace g4 : ((0 : Int) + (1 * k2 + 0)) = ((-1 : Int) + (1 * k + 0)) := g4
  refine hv2 (fun V hag5 g5 => ?_)
  replace g5 : R 58 ((8295 : Int) + (1 * b + (40 * i + 0))) = V := g5
  replace hag5 : (0 : Int) ≤ ((8295 : Int) + (1 * b + (40 * i + 0))) := hag5
  replace g5 : dV (R 58) b (i) = V := hF (R := R 58) g5 (ad_8 b i)
  show hV _ _ _ _ _ [b, p, i, k, b2, p2, i2, k2, V]
  refine hv2 (fun N hag6 g6 => ?_)
  replace g6 : R 58 ((8296 : Int) + (1 * b + (40 * i + 0))) = N := g6
  replace hag6 : (0 : Int) ≤ ((8296 : Int) + (1 * b + (40 * i + 0))) := hag6
  replace g6 : dL (R 58) b (i) = N := hF (R := R 58) g6 (ad_9 b i)
  show hV _ _ _ _ _ [b, p, i, k, b2, p2, i2, k2, V, N]
  refine hv0 (fun g7 => ?_)
  replace g7 : (0 : Int) ≤ ((-1 : Int) + (1 * k + ((-1) * V + 0))) := g7
  refine hv0 (fun g8 => ?_)
  replace g8 : (0 : Int) ≤ ((0 : Int) + ((-1) * k + (1 * V + (1 * N + 0)))) := g8
  refine hv2 (fun to hag9 g9 => ?_)
  replace g9 : R 60 ((-1 : Int) + (1 * k + 0)) = to := g9
  replace hag9 : (0 : Int) ≤ ((-1 : Int) + (1 * k + 0)) := hag9
  replace g9 : R 60 (k - 1) = to := hF (R := R 60) g9 (ad_36 k)
  show hV _ _ _ _ _ [b, p, i, k, b2, p2, i2, k2, V, N, to]
  refine hv2 (fun kk hag10 g10 => ?_)
  replace g10 : R 58 ((22690 : Int) + (1 * b + (2 * k + 0))) = kk := g10
  replace hag10 : (0 : Int) ≤ ((22690 : Int) + (1 * b + (2 * k + 0))) := hag10
  replace g10 : iK (R 58) b (k - 1) = kk := hF (R := R 58) g10 (ad_18 b k)
  show hV _ _ _ _ _ [b, p, i, k, b2, p2, i2, k2, V, N, to, kk]
  refine hv2 (fun nn hag11 g11 => ?_)
  replace g11 : R 58 ((22691 : Int) + (1 * b + (2 * k + 0))) = nn := g11
  replace hag11 : (0 : Int) ≤ ((22691 : Int) + (1 * b + (2 * k + 0))) := hag11
  replace g11 : iN (R 58) b (k - 1) = nn := hF (R := R 58) g11 (ad_19 b k)
  show hV _ _ _ _ _ [b, p, i, k, b2, p2, i2, k2, V, N, to, kk, nn]
  refine hv2 (fun w hag12 g12 => ?_)
  replace g12 : R 66 ((0 : Int) + (1 * to + 0)) = w := g12
  replace hag12 : (0 : Int) ≤ ((0 : Int) + (1 * to + 0)) := hag12
  replace g12 : R 66 (to) = w := hF (R := R 66) g12 (ad_44 to)
  show hV _ _ _ _ _ [b, p, i, k, b2, p2, i2, k2, V, N, to, kk, nn, w]
  refine hv0 (fun g13 => ?_)
  replace g13 : (0 : Int) ≤ ((-2 : Int) + (1 * kk + 0)) := g13
  refine hv0 (fun g14 => ?_)
  replace g14 : (0 : Int) ≤ ((13 : Int) + ((-1) * kk + 0)) := g14
  refine hv5 (fun g15 => ?_)
  replace g15 : ¬ ild ((0 : Int) + (1 * kk + 0)) := rqo_94_1 g15
  simp only [Int.zero_add, Int.one_mul, Int.add_zero] at g15
  refine hv9 (fun a1 t17_1 s g16 => ?_)
  replace g16 : hopS 2 a1 t17_1 s := g16
  refine hmb rfl ?_
  show hmt _ _ _ [b, p, i, k, b2, p2, i2, k2, V, N, to, kk, nn, w, a1]
  refine hmc rfl (fun e17_1 => ?_)
  replace e17_1 : ((24 : Int) + 0) = t17_1 := e17_1
  refine hmn ?_
  show hV _ _ _ _ _ [b, p, i, k, b2, p2, i2, k2, V, N, to, kk, nn, w, a1, s]
  refine hv13 (fun g17 => ?_)
  replace g17 : ((0 : Int) + (1 * a1 + 0)) = ((0 : Int) + (1 * kk + 0)) := g17
  refine hv9 (fun s2 d z g18 => ?_)
  replace g18 : hopS 1 s2 d z := g18
  refine hmb rfl ?_
  show hmt _ _ _ [b, p, i, k, b2, p2, i2, k2, V, N, to, kk, nn, w, a1, s, s2]
  refine hmb rfl ?_
  show hmt _ _ _ [b, p, i, k, b2, p2, i2, k2, V, N, to, kk, nn, w, a1, s, s2, d]
  refine hmn ?_
  show hV _ _ _ _ _ [b, p, i, k, b2, p2, i2, k2, V, N, to, kk, nn, w, a1, s, s2, d, z]
  refine hv13 (fun g19 => ?_)
  replace g19 : ((0 : Int) + (1 * s2 + 0)) = ((0 : Int) + (1 * s + 0)) := g19
  refine hv13 (fun g20 => ?_)
  replace g20 : ((0 : Int) + (1 * z + 0)) = ((0 : Int) + (1 * w + 0)) := g20
  refine hv13 (fun g21 => ?_)
  replace g21 : ((0 : Int) + (1 * d + 0)) = ((0 : Int) + (1 * nn + 0)) := g21
  refine hv0 (fun g22 => ?_)
  replace g22 : (0 : Int) ≤ ((0 : Int) + (1 * nn + 0)) := g22
  refine hv0 (fun g23 => ?_)
  replace g23 : (0 : Int) ≤ ((16777215 : Int) + ((-1) * nn + 0)) := g23
  refine hvC ?_
  refine rqi_89_4 (?_ : q89 b i k (R 58) (R 67) (R 68) (R 60) (R 66))
  have q_ : t17_1 = 24 := by omega
  subst q_
  have q_ : b = b2 := by omega
  subst q_
  have q_ : p = p2 := by omega
  subst q_
  have q_ : i = i2 := by omega
  subst q_
  have q_ : k2 = k - 1 := by omega
  subst q_
  have q_ : kk = a1 := by omega
  subst q_
  have q_ : s = s2 := by omega
  subst q_
  have q_ : w = z := by omega
  subst q_
  have q_ : nn = d := by omega
  subst q_
  subst g5
  subst g6
  subst g9
  subst g10
  subst g11
  subst g12
  have o1 := hop_ishl g16
  have o2 := hop_ior g18
  exact q89_s g0 (Or.inr (Or.inr (Or.inr (Or.inr (Or.inl ⟨by omega, by omega, g15, by omega, by omega, by rw [o1, o2]⟩)))))

theorem tN_89_4_6 : vN rQ 89 hn_89_4_6 := by
  intro R G ps hl
  obtain ⟨b, p, i, k, rfl⟩ := hl4 hl
  refine hv4 (hm4 (fun b2 p2 i2 k2 g0 => ?_))
  replace g0 : q89 b2 i2 k2 (R 58) (R 67) (R 68) (R 60) (R 66) := rqo_89_4 g0
  refine hmb rfl ?_
  show hmt _ _ _ [b, p, i, k, b2]
  refine hmb rfl ?_
  show hmt _ _ _ [b, p, i, k, b2, p2]
  refine hmb rfl ?_
  show hmt _ _ _ [b, p, i, k, b2, p2, i2]
  refine hmb rfl ?_
  show hmt _ _ _ [b, p, i, k, b2, p2, i2, k2]
  refine hmn ?_
  show hV _ _ _ _ _ [b, p, i, k, b2, p2, i2, k2]
  refine hv13 (fun g1 => ?_)
  replace g1 : ((0 : Int) + (1 * b2 + 0)) = ((0 : Int) + (1 * b + 0)) := g1
  refine hv13 (fun g2 => ?_)
  replace g2 : ((0 : Int) + (1 * p2 + 0)) = ((0 : Int) + (1 * p + 0)) := g2
  refine hv13 (fun g3 => ?_)
  replace g3 : ((0 : Int) + (1 * i2 + 0)) = ((0 : Int) + (1 * i + 0)) := g3
  refine hv13 (fun g4 => ?_)
  replace g4 : ((0 : Int) + (1 * k2 + 0)) = ((-1 : Int) + (1 * k + 0)) := g4
  refine hv2 (fun V hag5 g5 => ?_)
  replace g5 : R 58 ((8295 : Int) + (1 * b + (40 * i + 0))) = V := g5
  replace hag5 : (0 : Int) ≤ ((8295 : Int) + (1 * b + (40 * i + 0))) := hag5
  replace g5 : dV (R 58) b (i) = V := hF (R := R 58) g5 (ad_8 b i)
  show hV _ _ _ _ _ [b, p, i, k, b2, p2, i2, k2, V]
  refine hv2 (fun N hag6 g6 => ?_)
  replace g6 : R 58 ((8296 : Int) + (1 * b + (40 * i + 0))) = N := g6
  replace hag6 : (0 : Int) ≤ ((8296 : Int) + (1 * b + (40 * i + 0))) := hag6
  replace g6 : dL (R 58) b (i) = N := hF (R := R 58) g6 (ad_9 b i)
  show hV _ _ _ _ _ [b, p, i, k, b2, p2, i2, k2, V, N]
  refine hv0 (fun g7 => ?_)
  replace g7 : (0 : Int) ≤ ((-1 : Int) + (1 * k + ((-1) * V + 0))) := g7
  refine hv0 (fun g8 => ?_)
  replace g8 : (0 : Int) ≤ ((0 : Int) + ((-1) * k + (1 * V + (1 * N + 0)))) := g8
  refine hv2 (fun to hag9 g9 => ?_)
  replace g9 : R 60 ((-1 : Int) + (1 * k + 0)) = to := g9
  replace hag9 : (0 : Int) ≤ ((-1 : Int) + (1 * k + 0)) := hag9
  replace g9 : R 60 (k - 1) = to := hF (R := R 60) g9 (ad_36 k)
  show hV _ _ _ _ _ [b, p, i, k, b2, p2, i2, k2, V, N, to]
  refine hv2 (fun kk hag10 g10 => ?_)
  replace g10 : R 58 ((22690 : Int) + (1 * b + (2 * k + 0))) = kk := g10
  replace hag10 : (0 : Int) ≤ ((22690 : Int) + (1 * b + (2 * k + 0))) := hag10
  replace g10 : iK (R 58) b (k - 1) = kk := hF (R := R 58) g10 (ad_18 b k)
  show hV _ _ _ _ _ [b, p, i, k, b2, p2, i2, k2, V, N, to, kk]
  refine hv2 (fun nn hag11 g11 => ?_)
  replace g11 : R 58 ((22691 : Int) + (1 * b + (2 * k + 0))) = nn := g11
  replace hag11 : (0 : Int) ≤ ((22691 : Int) + (1 * b + (2 * k + 0))) := hag11
  replace g11 : iN (R 58) b (k - 1) = nn := hF (R := R 58) g11 (ad_19 b k)
  show hV _ _ _ _ _ [b, p, i, k, b2, p2, i2, k2, V, N, to, kk, nn]
  refine hv2 (fun w hag12 g12 => ?_)
  replace g12 : R 66 ((0 : Int) + (1 * to + 0)) = w := g12
  replace hag12 : (0 : Int) ≤ ((0 : Int) + (1 * to + 0)) := hag12
  replace g12 : R 66 (to) = w := hF (R := R 66) g12 (ad_44 to)
  show hV _ _ _ _ _ [b, p, i, k, b2, p2, i2, k2, V, N, to, kk, nn, w]
  refine hv13 (fun g13 => ?_)
  replace g13 : ((0 : Int) + (1 * kk + 0)) = ((0 : Int) + 0) := g13
  refine hv2 (fun wk hag14 g14 => ?_)
  replace g14 : R 58 ((8292 : Int) + (1 * b + (40 * nn + 0))) = wk := g14
  replace hag14 : (0 : Int) ≤ ((8292 : Int) + (1 * b + (40 * nn + 0))) := hag14
  replace g14 : dK (R 58) b (nn) = wk := hF (R := R 58) g14 (ad_41 b nn)
  show hV _ _ _ _ _ [b, p, i, k, b2, p2, i2, k2, V, N, to, kk, nn, w, wk]
  refine hv13 (fun g15 => ?_)
  replace g15 : ((0 : Int) + (1 * wk + 0)) = ((0 : Int) + 0) := g15
  refine hv9 (fun a1 t17_1 s g16 => ?_)
  replace g16 : hopS 2 a1 t17_1 s := g16
  refine hmb rfl ?_
  show hmt _ _ _ [b, p, i, k, b2, p2, i2, k2, V, N, to, kk, nn, w, wk, a1]
  refine hmc rfl (fun e17_1 => ?_)
  replace e17_1 : ((24 : Int) + 0) = t17_1 := e17_1
  refine hmn ?_
  show hV _ _ _ _ _ [b, p, i, k, b2, p2, i2, k2, V, N, to, kk, nn, w, wk, a1, s]
  refine hv13 (fun g17 => ?_)
  replace g17 : ((0 : Int) + (1 * a1 + 0)) = ((0 : Int) + (1 * kk + 0)) := g17
  refine hv9 (fun s2 d z g18 => ?_)
  replace g18 : hopS 1 s2 d z := g18
  refine hmb rfl ?_
  show hmt _ _ _ [b, p, i, k, b2, p2, i2, k2, V, N, to, kk, nn, w, wk, a1, s, s2]
  refine hmb rfl ?_
  show hmt _ _ _ [b, p, i, k, b2, p2, i2, k2, V, N, to, kk, nn, w, wk, a1, s, s2, d]
  refine hmn ?_
  show hV _ _ _ _ _ [b, p, i, k, b2, p2, i2, k2, V, N, to, kk, nn, w, wk, a1, s, s2, d, z]
  refine hv13 (fun g19 => ?_)
  replace g19 : ((0 : Int) + (1 * s2 + 0)) = ((0 : Int) + (1 * s + 0)) := g19
  refine hv13 (fun g20 => ?_)
  replace g20 : ((0 : Int) + (1 * z + 0)) = ((0 : Int) + (1 * w + 0)) := g20
  refine hv13 (fun g21 => ?_)
  replace g21 : ((0 : Int) + (1 * d + 0)) = ((0 : Int) + (1 * nn + 0)) := g21
  refine hv0 (fun g22 => ?_)
  replace g22 : (0 : Int) ≤ ((0 : Int) + (1 * nn + 0)) := g22
  refine hv0 (fun g23 => ?_)
  replace g23 : (0 : Int) ≤ ((16777215 : Int) + ((-1) * nn + 0)) := g23
  refine hvC ?_
  refine rqi_89_4 (?_ : q89 b i k (R 58) (R 67) (R 68) (R 60) (R 66))
  have q_ : t17_1 = 24 := by omega
  subst q_
  have q_ : b = b2 := by omega
  subst q_
  have q_ : p = p2 := by omega
  subst q_
  have q_ : i = i2 := by omega
  subst q_
  have q_ : k2 = k - 1 := by omega
  subst q_
  have q_ : kk = a1 := by omega
  subst q_
  have q_ : s = s2 := by omega
  subst q_
  have q_ : w = z := by omega
  subst q_
  have q_ : nn = d := by omega
  subst q_
  subst g5
  subst g6
  subst g9
  subst g10
  subst g11
  subst g12
  subst g14
  have o1 := hop_ishl g16
  have o2 := hop_ior g18
  have o3 : shl24 0 = s := by
    rw [show (0 : Int) = iK (R 58) b (k - 1) by omega]
    exact o1
  exact q89_s g0 (Or.inr (Or.inr (Or.inr (Or.inr (Or.inr ⟨by omega, by omega, by omega, by omega, by rw [o3, o2]⟩)))))

theorem tN_90_2_0 : vN rQ 90 hn_90_2_0 := by
  intro R G ps hl
  obtain ⟨b, k, rfl⟩ := hl2 hl
  refine hv13 (fun g0 => ?_)
  replace g0 : ((0 : Int) + (1 * k + 0)) = ((0 : Int) + 0) := g0
  refine hvC ?_
  refine rqi_90_2 (?_ : q90 b k (R 58) (R 67) (R 68) (R 60) (R 66))
  intro p_ p0 p1
  omega

theorem tN_90_2_1 : vN rQ 90 hn_90_2_1 := by
  intro R G ps hl
  obtain ⟨b, p, rfl⟩ := hl2 hl
  refine hv2 (fun i hag0 g0 => ?_)
  replace g0 : R 67 ((-1 : Int) + (1 * p + 0)) = i := g0
  replace hag0 : (0 : Int) ≤ ((-1 : Int) + (1 * p + 0)) := hag0
  replace g0 : R 67 (p - 1) = i := hF (R := R 67) g0 (ad_48 p)
  show hV _ _ _ _ _ [b, p, i]
  refine hv2 (fun V hag1 g1 => ?_)
  replace g1 : R 58 ((8295 : Int) + (1 * b + (40 * i + 0))) = V := g1
  replace hag1 : (0 : Int) ≤ ((8295 : Int) + (1 * b + (40 * i + 0))) := hag1
  replace g1 : dV (R 58) b (i) = V := hF (R := R 58) g1 (ad_8 b i)
  show hV _ _ _ _ _ [b, p, i, V]
  refine hv2 (fun N hag2 g2 => ?_)
  replace g2 : R 58 ((8296 : Int) + (1 * b + (40 * i + 0))) = N := g2
  replace hag2 : (0 : Int) ≤ ((8296 : Int) + (1 * b + (40 * i + 0))) := hag2
  replace g2 : dL (R 58) b (i) = N := hF (R := R 58) g2 (ad_9 b i)
  show hV _ _ _ _ _ [b, p, i, V, N]
  refine hv4 (hm2 (fun b2 p2 g3 => ?_))
  replace g3 : q90 b2 p2 (R 58) (R 67) (R 68) (R 60) (R 66) := rqo_90_2 g3
  refine hmb rfl ?_
  show hmt _ _ _ [b, p, i, V, N, b2]
  refine hmb rfl ?_
  show hmt _ _ _ [b, p, i, V, N, b2, p2]
  refine hmn ?_
  show hV _ _ _ _ _ [b, p, i, V, N, b2, p2]
  refine hv13 (fun g4 => ?_)
  replace g4 : ((0 : Int) + (1 * b2 + 0)) = ((0 : Int) + (1 * b + 0)) := g4
  refine hv13 (fun g5 => ?_)
  replace g5 : ((0 : Int) + (1 * p2 + 0)) = ((-1 : Int) + (1 * p + 0)) := g5
  refine hv4 (hm4 (fun b3 p3 i3 k3 g6 => ?_))
  replace g6 : q89 b3 i3 k3 (R 58) (R 67) (R 68) (R 60) (R 66) := rqo_89_4 g6
  refine hmb rfl ?_
  show hmt _ _ _ [b, p, i, V, N, b2, p2, b3]
  refine hmb rfl ?_
  show hmt _ _ _ [b, p, i, V, N, b2, p2, b3, p3]
  refine hmb rfl ?_
  show hmt _ _ _ [b, p, i, V, N, b2, p2, b3, p3, i3]
  refine hmb rfl ?_
  show hmt _ _ _ [b, p, i, V, N, b2, p2, b3, p3, i3, k3]
  refine hmn ?_
  show hV _ _ _ _ _ [b, p, i, V, N, b2, p2, b3, p3, i3, k3]
  refine hv13 (fun g7 => ?_)
  replace g7 : ((0 : Int) + (1 * b3 + 0)) = ((0 : Int) + (1 * b + 0)) := g7
  refine hv13 (fun g8 => ?_)
  replace g8 : ((0 : Int) + (1 * p3 + 0)) = ((-1 : Int) + (1 * p + 0)) := g8
  refine hv13 (fun g9 => ?_)
  replace g9 : ((0 : Int) + (1 * i3 + 0)) = ((0 : Int) + (1 * i + 0)) := g9
  refine hv13 (fun g10 => ?_)
  replace g10 : ((0 : Int) + (1 * k3 + 0)) = ((0 : Int) + (1 * V + (1 * N + 0))) := g10
  refine hvC ?_
  refine rqi_90_2 (?_ : q90 b p (R 58) (R 67) (R 68) (R 60) (R 66))
  have q_ : b = b2 := by omega
  subst q_
  have q_ : p2 = p - 1 := by omega
  subst q_
  have q_ : b = b3 := by omega
  subst q_
  have q_ : p3 = p - 1 := by omega
  subst q_
  have q_ : i = i3 := by omega
  subst q_
  have q_ : k3 = V + N := by omega
  subst q_
  subst g0
  subst g1
  subst g2
  exact q90_s g3 rfl g6

theorem tN_20_1_0 : vN rQ 20 hn_20_1_0 := by
  intro R G ps hl
  obtain ⟨n, rfl⟩ := hl1 hl
  refine hv4 (hm0 (fun g0 => ?_))
  replace g0 : q23 (G 27) (G 28) (R 66) (R 58) := rqo_23_0 g0
  refine hmn ?_
  show hV _ _ _ _ _ [n]
  refine hv3 (fun cs g1 => ?_)
  replace g1 : G 27 = cs := g1
  show hV _ _ _ _ _ [n, cs]
  refine hv0 (fun g2 => ?_)
  replace g2 : (0 : Int) ≤ ((-1 : Int) + (1 * cs + 0)) := g2
  refine hv13 (fun g3 => ?_)
  replace g3 : ((0 : Int) + (1 * cs + 0)) = ((0 : Int) + (1 * n + 0)) := g3
  refine hvC ?_
  refine rqi_20_1 (?_ : q20 n (R 66))
  obtain ⟨k1, k2⟩ := g0
  rcases k2 with k2 | ⟨h1, h2, h3, -⟩
  · exfalso
    omega
  · rw [show n = G 27 by omega]
    exact h1

theorem tN_20_1_1 : vN rQ 20 hn_20_1_1 := by
  intro R G ps hl
  obtain ⟨n, rfl⟩ := hl1 hl
  refine hv4 (hm3 (fun b pm e g0 => ?_))
  replace g0 : q82 b pm e (R 58) (R 67) (R 68) (R 60) := rqo_82_3 g0
  refine hmb rfl ?_
  show hmt _ _ _ [n, b]
  refine hmb rfl ?_
  show hmt _ _ _ [n, b, pm]
  refine hmb rfl ?_
  show hmt _ _ _ [n, b, pm, e]
  refine hmn ?_
  show hV _ _ _ _ _ [n, b, pm, e]
  refine hv13 (fun g1 => ?_)
  replace g1 : ((0 : Int) + (1 * e + 0)) = ((0 : Int) + (1 * n + 0)) := g1
  refine hv0 (fun g2 => ?_)
  replace g2 : (0 : Int) ≤ ((-1 : Int) + (1 * pm + 0)) := g2
  refine hv4 (hm2 (fun b2 p2 g3 => ?_))
  replace g3 : q90 b2 p2 (R 58) (R 67) (R 68) (R 60) (R 66) := rqo_90_2 g3
  refine hmb rfl ?_
  show hmt _ _ _ [n, b, pm, e, b2]
  refine hmb rfl ?_
  show hmt _ _ _ [n, b, pm, e, b2, p2]
  refine hmn ?_
  show hV _ _ _ _ _ [n, b, pm, e, b2, p2]
  refine hv13 (fun g4 => ?_)
  replace g4 : ((0 : Int) + (1 * b2 + 0)) = ((0 : Int) + (1 * b + 0)) := g4
  refine hv13 (fun g5 => ?_)
  replace g5 : ((0 : Int) + (1 * p2 + 0)) = ((0 : Int) + (1 * pm + 0)) := g5
  refine hv4 (hm3 (fun b3 q3 n3 g6 => ?_))
  replace g6 : q86 b3 q3 n3 (R 58) (R 67) := rqo_86_3 g6
  refine hmb rfl ?_
  show hmt _ _ _ [n, b, pm, e, b2, p2, b3]
  refine hmb rfl ?_
  show hmt _ _ _ [n, b, pm, e, b2, p2, b3, q3]
  refine hmb rfl ?_
  show hmt _ _ _ [n, b, pm, e, b2, p2, b3, q3, n3]
  refine hmn ?_
  show hV _ _ _ _ _ [n, b, pm, e, b2, p2, b3, q3, n3]
  refine hv13 (fun g7 => ?_)
  replace g7 : ((0 : Int) + (1 * b3 + 0)) = ((0 : Int) + (1 * b + 0)) := g7
  refine hv13 (fun g8 => ?_)
  replace g8 : ((0 : Int) + (1 * q3 + 0)) = ((0 : Int) + (1 * pm + 0)) := g8
  refine hv0 (fun g9 => ?_)
  replace g9 : (0 : Int) ≤ ((0 : Int) + (1 * pm + ((-1) * n3 + 0))) := g9
  refine hv4 (hm1 (fun n8 g10 => ?_))
  replace g10 : q80 n8 (R 67) := rqo_80_1 g10
  refine hmb rfl ?_
  show hmt _ _ _ [n, b, pm, e, b2, p2, b3, q3, n3, n8]
  refine hmn ?_
  show hV _ _ _ _ _ [n, b, pm, e, b2, p2, b3, q3, n3, n8]
  refine hv0 (fun g11 => ?_)
  replace g11 : (0 : Int) ≤ ((0 : Int) + ((-1) * pm + (1 * n8 + 0))) := g11
  refine hvC ?_
  refine rqi_20_1 (?_ : q20 n (R 66))
  have q_ : n = e := by omega
  subst q_
  have q_ : b = b2 := by omega
  subst q_
  have q_ : pm = p2 := by omega
  subst q_
  have q_ : b = b3 := by omega
  subst q_
  have q_ : pm = q3 := by omega
  subst q_
  exact q20_made g0 (by omega) g3 (q86_m g6 (by omega)) g10 (by omega)

theorem tN_21_1_0 : vN rQ 21 hn_21_1_0 := by
  intro R G ps hl
  obtain ⟨n, rfl⟩ := hl1 hl
  refine hv13 (fun g0 => ?_)
  replace g0 : ((0 : Int) + (1 * n + 0)) = ((0 : Int) + 0) := g0
  refine hvC ?_
  refine rqi_21_1 (?_ : q21 n (R 66))
  intro S hS
  rw [show n = 0 by omega]
  exact hS.1

theorem tN_21_1_1 : vN rQ 21 hn_21_1_1 := by
  intro R G ps hl
  obtain ⟨e, rfl⟩ := hl1 hl
  refine hv4 (hm0 (fun g0 => ?_))
  replace g0 : q23 (G 27) (G 28) (R 66) (R 58) := rqo_23_0 g0
  refine hmn ?_
  show hV _ _ _ _ _ [e]
  refine hv3 (fun cs g1 => ?_)
  replace g1 : G 27 = cs := g1
  show hV _ _ _ _ _ [e, cs]
  refine hv0 (fun g2 => ?_)
  replace g2 : (0 : Int) ≤ ((-1 : Int) + (1 * cs + 0)) := g2
  refine hv3 (fun aT g3 => ?_)
  replace g3 : G 28 = aT := g3
  show hV _ _ _ _ _ [e, cs, aT]
  refine hv13 (fun g4 => ?_)
  replace g4 : ((0 : Int) + (1 * aT + 0)) = ((0 : Int) + (1 * e + 0)) := g4
  refine hvC ?_
  refine rqi_21_1 (?_ : q21 e (R 66))
  obtain ⟨k1, k2⟩ := g0
  rcases k2 with k2 | ⟨h1, h2, h3, -⟩
  · exfalso
    omega
  · rw [show e = G 28 by omega]
    exact h2

theorem tN_21_1_2 : vN rQ 21 hn_21_1_2 := by
  intro R G ps hl
  obtain ⟨e, rfl⟩ := hl1 hl
  refine hv4 (hm1 (fun i g0 => ?_))
  replace g0 : q21 i (R 66) := rqo_21_1 g0
  refine hmb rfl ?_
  show hmt _ _ _ [e, i]
  refine hmn ?_
  show hV _ _ _ _ _ [e, i]
  refine hv2 (fun w hag1 g1 => ?_)
  replace g1 : R 66 ((0 : Int) + (1 * i + 0)) = w := g1
  replace hag1 : (0 : Int) ≤ ((0 : Int) + (1 * i + 0)) := hag1
  replace g1 : R 66 (i) = w := hF (R := R 66) g1 (ad_49 i)
  show hV _ _ _ _ _ [e, i, w]
  refine hv9 (fun t3_0 t3_1 k g2 => ?_)
  replace g2 : hopS 3 t3_0 t3_1 k := g2
  refine hmc rfl (fun e3_0 => ?_)
  replace e3_0 : ((0 : Int) + (1 * w + 0)) = t3_0 := e3_0
  refine hmc rfl (fun e3_1 => ?_)
  replace e3_1 : ((24 : Int) + 0) = t3_1 := e3_1
  refine hmn ?_
  show hV _ _ _ _ _ [e, i, w, k]
  refine hv13 (fun g3 => ?_)
  replace g3 : ((0 : Int) + (1 * e + 0)) = ((1 : Int) + (1 * i + 0)) := g3
  refine hv0 (fun g4 => ?_)
  replace g4 : (0 : Int) ≤ ((-2 : Int) + (1 * k + 0)) := g4
  refine hvC ?_
  refine rqi_21_1 (?_ : q21 e (R 66))
  have q_ : w = t3_0 := by omega
  subst q_
  have q_ : t3_1 = 24 := by omega
  subst q_
  subst g1
  have o1 := hop_ishr g2
  rw [show e = i + 1 by omega]
  exact q21_1 g0 (by omega)

theorem tN_21_1_3 : vN rQ 21 hn_21_1_3 := by
  intro R G ps hl
  obtain ⟨e, rfl⟩ := hl1 hl
  refine hv4 (hm1 (fun i g0 => ?_))
  replace g0 : q21 i (R 66) := rqo_21_1 g0
  refine hmb rfl ?_
  show hmt _ _ _ [e, i]
  refine hmn ?_
  show hV _ _ _ _ _ [e, i]
  refine hv2 (fun w hag1 g1 => ?_)
  replace g1 : R 66 ((0 : Int) + (1 * i + 0)) = w := g1
  replace hag1 : (0 : Int) ≤ ((0 : Int) + (1 * i + 0)) := hag1
  replace g1 : R 66 (i) = w := hF (R := R 66) g1 (ad_49 i)
  show hV _ _ _ _ _ [e, i, w]
  refine hv9 (fun t3_0 t3_1 k g2 => ?_)
  replace g2 : hopS 3 t3_0 t3_1 k := g2
  refine hmc rfl (fun e3_0 => ?_)
  replace e3_0 : ((0 : Int) + (1 * w + 0)) = t3_0 := e3_0
  refine hmc rfl (fun e3_1 => ?_)
  replace e3_1 : ((24 : Int) + 0) = t3_1 := e3_1
  refine hmn ?_
  show hV _ _ _ _ _ [e, i, w, k]
  refine hv9 (fun t4_0 t4_1 n g3 => ?_)
  replace g3 : hopS 0 t4_0 t4_1 n := g3
  refine hmc rfl (fun e4_0 => ?_)
  replace e4_0 : ((0 : Int) + (1 * w + 0)) = t4_0 := e4_0
  refine hmc rfl (fun e4_1 => ?_)
  replace e4_1 : ((16777215 : Int) + 0) = t4_1 := e4_1
  refine hmn ?_
  show hV _ _ _ _ _ [e, i, w, k, n]
  refine hv13 (fun g4 => ?_)
  replace g4 : ((0 : Int) + (1 * e + 0)) = ((1 : Int) + (1 * i + 0)) := g4
  refine hv13 (fun g5 => ?_)
  replace g5 : ((0 : Int) + (1 * k + 0)) = ((0 : Int) + 0) := g5
  refine hv1 (fun g6 => ?_)
  replace g6 : ((0 : Int) + (1 * n + 0)) ≠ ((150 : Int) + 0) := g6
  refine hvC ?_
  refine rqi_21_1 (?_ : q21 e (R 66))
  have q_ : w = t3_0 := by omega
  subst q_
  have q_ : t3_1 = 24 := by omega
  subst q_
  have q_ : w = t4_0 := by omega
  subst q_
  have q_ : t4_1 = 16777215 := by omega
  subst q_
  have q_ : k = 0 := by omega
  subst q_
  subst g1
  have o1 := hop_ishr g2
  have o2 := hop_iand g3
  rw [show e = i + 1 by omega]
  exact q21_0 g0 (by omega) (by omega)

theorem tN_21_1_4 : vN rQ 21 hn_21_1_4 := by
  intro R G ps hl
  obtain ⟨e, rfl⟩ := hl1 hl
  refine hv4 (hm1 (fun i g0 => ?_))
  replace g0 : q21 i (R 66) := rqo_21_1 g0
  refine hmb rfl ?_
  show hmt _ _ _ [e, i]
  refine hmn ?_
  show hV _ _ _ _ _ [e, i]
  refine hv2 (fun w hag1 g1 => ?_)
  replace g1 : R 66 ((0 : Int) + (1 * i + 0)) = w := g1
  replace hag1 : (0 : Int) ≤ ((0 : Int) + (1 * i + 0)) := hag1
  replace g1 : R 66 (i) = w := hF (R := R 66) g1 (ad_49 i)
  show hV _ _ _ _ _ [e, i, w]
  refine hv9 (fun t3_0 t3_1 k g2 => ?_)
  replace g2 : hopS 3 t3_0 t3_1 k := g2
  refine hmc rfl (fun e3_0 => ?_)
  replace e3_0 : ((0 : Int) + (1 * w + 0)) = t3_0 := e3_0
  refine hmc rfl (fun e3_1 => ?_)
  replace e3_1 : ((24 : Int) + 0) = t3_1 := e3_1
  refine hmn ?_
  show hV _ _ _ _ _ [e, i, w, k]
  refine hv13 (fun g3 => ?_)
  replace g3 : ((0 : Int) + (1 * e + 0)) = ((2 : Int) + (1 * i + 0)) := g3
  refine hv13 (fun g4 => ?_)
  replace g4 : ((0 : Int) + (1 * k + 0)) = ((1 : Int) + 0) := g4
  refine hvC ?_
  refine rqi_21_1 (?_ : q21 e (R 66))
  have q_ : w = t3_0 := by omega
  subst q_
  have q_ : t3_1 = 24 := by omega
  subst q_
  have q_ : k = 1 := by omega
  subst q_
  subst g1
  have o1 := hop_ishr g2
  rw [show e = i + 2 by omega]
  exact q21_2 g0 (by omega)

theorem tN_21_1_5 : vN rQ 21 hn_21_1_5 := by
  intro R G ps hl
  obtain ⟨e, rfl⟩ := hl1 hl
  refine hv4 (hm1 (fun i g0 => ?_))
  replace g0 : q21 i (R 66) := rqo_21_1 g0
  refine hmb rfl ?_
  show hmt _ _ _ [e, i]
  refine hmn ?_
  show hV _ _ _ _ _ [e, i]
  refine hv2 (fun w hag1 g1 => ?_)
  replace g1 : R 66 ((0 : Int) + (1 * i + 0)) = w := g1
  replace hag1 : (0 : Int) ≤ ((0 : Int) + (1 * i + 0)) := hag1
  replace g1 : R 66 (i) = w := hF (R := R 66) g1 (ad_49 i)
  show hV _ _ _ _ _ [e, i, w]
  refine hv9 (fun t3_0 t3_1 k g2 => ?_)
  replace g2 : hopS 3 t3_0 t3_1 k := g2
  refine hmc rfl (fun e3_0 => ?_)
  replace e3_0 : ((0 : Int) + (1 * w + 0)) = t3_0 := e3_0
  refine hmc rfl (fun e3_1 => ?_)
  replace e3_1 : ((24 : Int) + 0) = t3_1 := e3_1
  refine hmn ?_
  show hV _ _ _ _ _ [e, i, w, k]
  refine hv9 (fun t4_0 t4_1 n g3 => ?_)
  replace g3 : hopS 0 t4_0 t4_1 n := g3
  refine hmc rfl (fun e4_0 => ?_)
  replace e4_0 : ((0 : Int) + (1 * w + 0)) = t4_0 := e4_0
  refine hmc rfl (fun e4_1 => ?_)
  replace e4_1 : ((16777215 : Int) + 0) = t4_1 := e4_1
  refine hmn ?_
  show hV _ _ _ _ _ [e, i, w, k, n]
  refine hv13 (fun g4 => ?_)
  replace g4 : ((0 : Int) + (1 * e + 0)) = ((0 : Int) + (1 * n + 0)) := g4
  refine hv13 (fun g5 => ?_)
  replace g5 : ((0 : Int) + (1 * k + 0)) = ((17 : Int) + 0) := g5
  refine hvC ?_
  refine rqi_21_1 (?_ : q21 e (R 66))
  have q_ : w = t3_0 := by omega
  subst q_
  have q_ : t3_1 = 24 := by omega
  subst q_
  have q_ : w = t4_0 := by omega
  subst q_
  have q_ : t4_1 = 16777215 := by omega
  subst q_
  have q_ : k = 17 := by omega
  subst q_
  subst g1
  have o1 := hop_ishr g2
  have o2 := hop_iand g3
  rw [show e = n by omega, ← o2]
  exact q21_j g0 (Or.inr (by omega))

theorem tN_21_1_6 : vN rQ 21 hn_21_1_6 := by
  intro R G ps hl
  obtain ⟨e, rfl⟩ := hl1 hl
  refine hv4 (hm1 (fun i g0 => ?_))
  replace g0 : q21 i (R 66) := rqo_21_1 g0
  refine hmb rfl ?_
  show hmt _ _ _ [e, i]
  refine hmn ?_
  show hV _ _ _ _ _ [e, i]
  refine hv2 (fun w hag1 g1 => ?_)
  replace g1 : R 66 ((0 : Int) + (1 * i + 0)) = w := g1
  replace hag1 : (0 : Int) ≤ ((0 : Int) + (1 * i + 0)) := hag1
  replace g1 : R 66 (i) = w := hF (R := R 66) g1 (ad_49 i)
  show hV _ _ _ _ _ [e, i, w]
  refine hv9 (fun t3_0 t3_1 k g2 => ?_)
  replace g2 : hopS 3 t3_0 t3_1 k := g2
  refine hmc rfl (fun e3_0 => ?_)
  replace e3_0 : ((0 : Int) + (1 * w + 0)) = t3_0 := e3_0
  refine hmc rfl (fun e3_1 => ?_)
  replace e3_1 : ((24 : Int) + 0) = t3_1 := e3_1
  refine hmn ?_
  show hV _ _ _ _ _ [e, i, w, k]
  refine hv9 (fun t4_0 t4_1 n g3 => ?_)
  replace g3 : hopS 0 t4_0 t4_1 n := g3
  refine hmc rfl (fun e4_0 => ?_)
  replace e4_0 : ((0 : Int) + (1 * w + 0)) = t4_0 := e4_0
  refine hmc rfl (fun e4_1 => ?_)
  replace e4_1 : ((16777215 : Int) + 0) = t4_1 := e4_1
  refine hmn ?_
  show hV _ _ _ _ _ [e, i, w, k, n]
  refine hv13 (fun g4 => ?_)
  replace g4 : ((0 : Int) + (1 * e + 0)) = ((0 : Int) + (1 * n + 0)) := g4
  refine hv5 (fun g5 => ?_)
  replace g5 : ild ((0 : Int) + (1 * k + 0)) := rqo_93_1 g5
  simp only [Int.zero_add, Int.one_mul, Int.add_zero] at g5
  refine hvC ?_
  refine rqi_21_1 (?_ : q21 e (R 66))
  have q_ : w = t3_0 := by omega
  subst q_
  have q_ : t3_1 = 24 := by omega
  subst q_
  have q_ : w = t4_0 := by omega
  subst q_
  have q_ : t4_1 = 16777215 := by omega
  subst q_
  subst g1
  have o1 := hop_ishr g2
  have o2 := hop_iand g3
  rw [show e = n by omega, ← o2]
  exact q21_j g0 (Or.inl (by rw [o1]; exact g5))

theorem tN_21_1_7 : vN rQ 21 hn_21_1_7 := by
  intro R G ps hl
  obtain ⟨e, rfl⟩ := hl1 hl
  refine hv4 (hm1 (fun f g0 => ?_))
  replace g0 : q22 f (R 66) (R 58) := rqo_22_1 g0
  refine hmb rfl ?_
  show hmt _ _ _ [e, f]
  refine hmn ?_
  show hV _ _ _ _ _ [e, f]
  refine hv6 (fun j w g1 => ?_)
  replace g1 : R 58 (((229441 : Int) + 0) + ((10 : Nat) : Int) * j) = w := g1
  replace g1 : R 58 (10 * j + 229441) = w := hF (R := R 58) g1 (ad_50 j)
  show hV _ _ _ _ _ [e, f, j, w]
  refine hv13 (fun g2 => ?_)
  replace g2 : ((0 : Int) + (1 * w + 0)) = ((0 : Int) + (1 * e + 0)) := g2
  refine hv0 (fun g3 => ?_)
  replace g3 : (0 : Int) ≤ ((0 : Int) + (1 * j + 0)) := g3
  refine hv0 (fun g4 => ?_)
  replace g4 : (0 : Int) ≤ ((-1 : Int) + (1 * f + ((-1) * j + 0))) := g4
  refine hvC ?_
  refine rqi_21_1 (?_ : q21 e (R 66))
  have t := g0 j (by omega) (by omega)
  rw [show (229441 : Int) + 10 * j = 10 * j + 229441 by omega] at t
  rw [show R 58 (10 * j + 229441) = e by omega] at t
  exact t

theorem tN_22_1_0 : vN rQ 22 hn_22_1_0 := by
  intro R G ps hl
  obtain ⟨n, rfl⟩ := hl1 hl
  refine hv13 (fun g0 => ?_)
  replace g0 : ((0 : Int) + (1 * n + 0)) = ((0 : Int) + 0) := g0
  refine hvC ?_
  refine rqi_22_1 (?_ : q22 n (R 66) (R 58))
  intro i h0 h1
  omega

theorem tN_22_1_1 : vN rQ 22 hn_22_1_1 := by
  intro R G ps hl
  obtain ⟨n, rfl⟩ := hl1 hl
  refine hv4 (hm1 (fun f g0 => ?_))
  replace g0 : q22 f (R 66) (R 58) := rqo_22_1 g0
  refine hmb rfl ?_
  show hmt _ _ _ [n, f]
  refine hmn ?_
  show hV _ _ _ _ _ [n, f]
  refine hv0 (fun g1 => ?_)
  replace g1 : (0 : Int) ≤ ((0 : Int) + ((-1) * n + (1 * f + 0))) := g1
  refine hvC ?_
  refine rqi_22_1 (?_ : q22 n (R 66) (R 58))
  intro i h0 h1
  exact g0 i h0 (by omega)

theorem tN_22_1_2 : vN rQ 22 hn_22_1_2 := by
  intro R G ps hl
  obtain ⟨n, rfl⟩ := hl1 hl
  refine hv4 (hm0 (fun g0 => ?_))
  replace g0 : q23 (G 27) (G 28) (R 66) (R 58) := rqo_23_0 g0
  refine hmn ?_
  show hV _ _ _ _ _ [n]
  refine hv3 (fun cs g1 => ?_)
  replace g1 : G 27 = cs := g1
  show hV _ _ _ _ _ [n, cs]
  refine hv0 (fun g2 => ?_)
  replace g2 : (0 : Int) ≤ ((-1 : Int) + (1 * cs + 0)) := g2
  refine hv2 (fun fr hag3 g3 => ?_)
  replace g3 : R 58 ((229198 : Int) + 0) = fr := g3
  replace hag3 : (0 : Int) ≤ ((229198 : Int) + 0) := hag3
  replace g3 : R 58 (229198) = fr := hF (R := R 58) g3 (ad_51)
  show hV _ _ _ _ _ [n, cs, fr]
  refine hv13 (fun g4 => ?_)
  replace g4 : ((0 : Int) + (1 * fr + 0)) = ((0 : Int) + (1 * n + 0)) := g4
  refine hvC ?_
  refine rqi_22_1 (?_ : q22 n (R 66) (R 58))
  obtain ⟨k1, k2⟩ := g0
  rcases k2 with k2 | ⟨h1, h2, h3, -⟩
  · exfalso
    omega
  · rw [show n = R 58 229198 by omega]
    exact h3

theorem tN_22_1_3 : vN rQ 22 hn_22_1_3 := by
  intro R G ps hl
  obtain ⟨n, rfl⟩ := hl1 hl
  refine hv2 (fun w hag0 g0 => ?_)
  replace g0 : R 58 ((229431 : Int) + (10 * n + 0)) = w := g0
  replace hag0 : (0 : Int) ≤ ((229431 : Int) + (10 * n + 0)) := hag0
  replace g0 : R 58 (10 * n + 229431) = w := hF (R := R 58) g0 (ad_52 n)
  show hV _ _ _ _ _ [n, w]
  refine hv4 (hm1 (fun f g1 => ?_))
  replace g1 : q22 f (R 66) (R 58) := rqo_22_1 g1
  refine hmb rfl ?_
  show hmt _ _ _ [n, w, f]
  refine hmn ?_
  show hV _ _ _ _ _ [n, w, f]
  refine hv13 (fun g2 => ?_)
  replace g2 : ((0 : Int) + (1 * f + 0)) = ((-1 : Int) + (1 * n + 0)) := g2
  refine hv5 (fun g3 => ?_)
  replace g3 : q21 ((0 : Int) + (1 * w + 0)) (R 66) := rqo_21_1 g3
  simp only [Int.zero_add, Int.one_mul, Int.add_zero] at g3
  refine hvC ?_
  refine rqi_22_1 (?_ : q22 n (R 66) (R 58))
  intro i h0 h1
  rcases (show i < n - 1 ∨ i = n - 1 by omega) with d1 | d1
  · exact g1 i h0 (by omega)
  · rw [show R 58 (229441 + 10 * i) = w from hF (R := R 58) g0 (by omega)]
    exact g3

theorem tN_23_0_0 : vN rQ 23 hn_23_0_0 := by
  intro R G ps hl
  obtain rfl := hl0 hl
  refine hv3 (fun cs g0 => ?_)
  replace g0 : G 27 = cs := g0
  show hV _ _ _ _ _ [cs]
  refine hv13 (fun g1 => ?_)
  replace g1 : ((0 : Int) + (1 * cs + 0)) = ((0 : Int) + 0) := g1
  refine hvC ?_
  refine rqi_23_0 (?_ : q23 (G 27) (G 28) (R 66) (R 58))
  exact ⟨by omega, Or.inl (by omega)⟩

theorem tN_23_0_1 : vN rQ 23 hn_23_0_1 := by
  intro R G ps hl
  obtain rfl := hl0 hl
  refine hv3 (fun cs g0 => ?_)
  replace g0 : G 27 = cs := g0
  show hV _ _ _ _ _ [cs]
  refine hv0 (fun g1 => ?_)
  replace g1 : (0 : Int) ≤ ((2000 : Int) + ((-1) * cs + 0)) := g1
  refine hv3 (fun aT g2 => ?_)
  replace g2 : G 28 = aT := g2
  show hV _ _ _ _ _ [cs, aT]
  refine hv2 (fun fr hag3 g3 => ?_)
  replace g3 : R 58 ((229198 : Int) + 0) = fr := g3
  replace hag3 : (0 : Int) ≤ ((229198 : Int) + 0) := hag3
  replace g3 : R 58 (229198) = fr := hF (R := R 58) g3 (ad_51)
  show hV _ _ _ _ _ [cs, aT, fr]
  refine hv0 (fun g4 => ?_)
  replace g4 : (0 : Int) ≤ ((40 : Int) + ((-1) * fr + 0)) := g4
  refine hv5 (fun g5 => ?_)
  replace g5 : q20 ((0 : Int) + (1 * cs + 0)) (R 66) := rqo_20_1 g5
  simp only [Int.zero_add, Int.one_mul, Int.add_zero] at g5
  refine hv5 (fun g6 => ?_)
  replace g6 : q21 ((0 : Int) + (1 * aT + 0)) (R 66) := rqo_21_1 g6
  simp only [Int.zero_add, Int.one_mul, Int.add_zero] at g6
  refine hv5 (fun g7 => ?_)
  replace g7 : q22 ((0 : Int) + (1 * fr + 0)) (R 66) (R 58) := rqo_22_1 g7
  simp only [Int.zero_add, Int.one_mul, Int.add_zero] at g7
  refine hvC ?_
  refine rqi_23_0 (?_ : q23 (G 27) (G 28) (R 66) (R 58))
  refine ⟨by omega, Or.inr ⟨?_, ?_, ?_, by omega⟩⟩
  · rw [show G 27 = cs by omega]
    exact g5
  · rw [show G 28 = aT by omega]
    exact g6
  · rw [show R 58 229198 = fr by omega]
    exact g7

theorem tN_24_0_0 : vN rQ 24 hn_24_0_0 := by
  intro R G ps hl
  obtain rfl := hl0 hl
  refine hv3 (fun cs g0 => ?_)
  replace g0 : G 27 = cs := g0
  show hV _ _ _ _ _ [cs]
  refine hv13 (fun g1 => ?_)
  replace g1 : ((0 : Int) + (1 * cs + 0)) = ((0 : Int) + 0) := g1
  refine hvC ?_
  refine rqi_24_0 (?_ : G 27 ≤ 0 ∨ 2 ≤ R 58 198501)
  omega

theorem tN_24_0_1 : vN rQ 24 hn_24_0_1 := by
  intro R G ps hl
  obtain rfl := hl0 hl
  refine hv2 (fun w hag0 g0 => ?_)
  replace g0 : R 58 ((198501 : Int) + 0) = w := g0
  replace hag0 : (0 : Int) ≤ ((198501 : Int) + 0) := hag0
  replace g0 : R 58 (198501) = w := hF (R := R 58) g0 (ad_53)
  show hV _ _ _ _ _ [w]
  refine hv0 (fun g1 => ?_)
  replace g1 : (0 : Int) ≤ ((-2 : Int) + (1 * w + 0)) := g1
  refine hvC ?_
  refine rqi_24_0 (?_ : G 27 ≤ 0 ∨ 2 ≤ R 58 198501)
  omega

theorem tN_92_1_0 : vN rQ 92 hn_92_1_0 := by
  intro R G ps hl
  obtain ⟨k, rfl⟩ := hl1 hl
  refine hv4 (hm1 (fun cs g0 => ?_))
  replace g0 : q20 cs (R 66) := rqo_20_1 g0
  refine hmb rfl ?_
  show hmt _ _ _ [k, cs]
  refine hmn ?_
  show hV _ _ _ _ _ [k, cs]
  refine hv4 (hm1 (fun i g1 => ?_))
  replace g1 : q21 i (R 66) := rqo_21_1 g1
  refine hmb rfl ?_
  show hmt _ _ _ [k, cs, i]
  refine hmn ?_
  show hV _ _ _ _ _ [k, cs, i]
  refine hv2 (fun w hag2 g2 => ?_)
  replace g2 : R 66 ((0 : Int) + (1 * i + 0)) = w := g2
  replace hag2 : (0 : Int) ≤ ((0 : Int) + (1 * i + 0)) := hag2
  replace g2 : R 66 (i) = w := hF (R := R 66) g2 (ad_49 i)
  show hV _ _ _ _ _ [k, cs, i, w]
  refine hv9 (fun t4_0 t4_1 k2 g3 => ?_)
  replace g3 : hopS 3 t4_0 t4_1 k2 := g3
  refine hmc rfl (fun e4_0 => ?_)
  replace e4_0 : ((0 : Int) + (1 * w + 0)) = t4_0 := e4_0
  refine hmc rfl (fun e4_1 => ?_)
  replace e4_1 : ((24 : Int) + 0) = t4_1 := e4_1
  refine hmn ?_
  show hV _ _ _ _ _ [k, cs, i, w, k2]
  refine hv13 (fun g4 => ?_)
  replace g4 : ((0 : Int) + (1 * k2 + 0)) = ((0 : Int) + (1 * k + 0)) := g4
  refine hvC ?_
  refine rqi_92_1 (?_ : k ≠ 10)
  have q_ : w = t4_0 := by omega
  subst q_
  have q_ : t4_1 = 24 := by omega
  subst q_
  have q_ : k = k2 := by omega
  subst q_
  subst g2
  have o1 := hop_ishr g3
  obtain ⟨-, -, -, y4, -⟩ := gd g0 g1
  omega

theorem tU_12_8_0 : vU rQ 12 hu_12_8_0 := by
  intro R G ps ts hl ht hq
  obtain ⟨b, many, ic, under, pc, x, y, h, rfl⟩ := hl8 hl
  obtain ⟨b_, many_, ic_, under_, pc_, x_, y_, h_, rfl⟩ := hl8 ht
  replace hq : q12 b many ic under pc x y h (R 58) := rqo_12_8 hq
  refine hv13 (fun g0 => ?_)
  replace g0 : ((0 : Int) + (1 * x_ + 0)) = ((-1 : Int) + 0) := g0
  refine hv5 (fun g1 => ?_)
  replace g1 : dNx (R 58) ((0 : Int) + (1 * b + 0)) ((0 : Int) + (1 * ic + 0)) ((0 : Int) + (1 * under + 0)) ((0 : Int) + (1 * pc + 0)) ((0 : Int) + (1 * x + 0)) := rqo_19_5 g1
  simp only [Int.zero_add, Int.one_mul, Int.add_zero] at g1
  refine hvC ?_
  refine rqi_12_8 (?_ : q12 ((0 : Int) + (1 * b + 0)) ((0 : Int) + (1 * many + 0)) ((0 : Int) + (1 * ic + 0)) ((0 : Int) + (1 * under + 0)) ((0 : Int) + (1 * pc + 0)) ((-1 : Int) + 0) ((0 : Int) + (1 * y + 0)) ((0 : Int) + (1 * h + 0)) (R 58))
  simp only [Int.zero_add, Int.one_mul, Int.add_zero]
  obtain ⟨z, hD, hh⟩ := hq
  exact ⟨z, dm_x hD g1, hh⟩

theorem tU_12_8_1 : vU rQ 12 hu_12_8_1 := by
  intro R G ps ts hl ht hq
  obtain ⟨b, many, ic, under, pc, x, y, h, rfl⟩ := hl8 hl
  obtain ⟨b_, many_, ic_, under_, pc_, x_, y_, h_, rfl⟩ := hl8 ht
  replace hq : q12 b many ic under pc x y h (R 58) := rqo_12_8 hq
  refine hv13 (fun g0 => ?_)
  replace g0 : ((0 : Int) + (1 * y_ + 0)) = ((-1 : Int) + 0) := g0
  refine hvC ?_
  refine rqi_12_8 (?_ : q12 ((0 : Int) + (1 * b + 0)) ((0 : Int) + (1 * many + 0)) ((0 : Int) + (1 * ic + 0)) ((0 : Int) + (1 * under + 0)) ((0 : Int) + (1 * pc + 0)) ((0 : Int) + (1 * x + 0)) ((-1 : Int) + 0) ((0 : Int) + (1 * h + 0)) (R 58))
  simp only [Int.zero_add, Int.one_mul, Int.add_zero]
  obtain ⟨z, hD, hh⟩ := hq
  exact ⟨z, dm_y hD, hh⟩

theorem tU_12_8_2 : vU rQ 12 hu_12_8_2 := by
  intro R G ps ts hl ht hq
  obtain ⟨b, many, ic, under, pc, x, y, h, rfl⟩ := hl8 hl
  obtain ⟨b_, many_, ic_, under_, pc_, x_, y_, h_, rfl⟩ := hl8 ht
  replace hq : q12 b many ic under pc x y h (R 58) := rqo_12_8 hq
  refine hv0 (fun g0 => ?_)
  replace g0 : (0 : Int) ≤ ((-1 : Int) + ((-1) * pc + (1 * pc_ + 0))) := g0
  refine hv0 (fun g1 => ?_)
  replace g1 : (0 : Int) ≤ ((-1 : Int) + (1 * under + 0)) := g1
  refine hv0 (fun g2 => ?_)
  replace g2 : (0 : Int) ≤ ((31 : Int) + ((-1) * pc + 0)) := g2
  refine hv2 (fun k hag3 g3 => ?_)
  replace g3 : R 58 ((37420 : Int) + (1 * b + (6 * pc + 0))) = k := g3
  replace hag3 : (0 : Int) ≤ ((37420 : Int) + (1 * b + (6 * pc + 0))) := hag3
  replace g3 : pK (R 58) b (pc) = k := hF (R := R 58) g3 (ad_54 b pc)
  show hV _ _ _ _ _ [b, many, ic, under, pc, x, y, h, b_, many_, ic_, under_, pc_, x_, y_, h_, k]
  refine hv2 (fun l hag4 g4 => ?_)
  replace g4 : R 58 ((37421 : Int) + (1 * b + (6 * pc + 0))) = l := g4
  replace hag4 : (0 : Int) ≤ ((37421 : Int) + (1 * b + (6 * pc + 0))) := hag4
  replace g4 : pP (R 58) b (pc) = l := hF (R := R 58) g4 (ad_55 b pc)
  show hV _ _ _ _ _ [b, many, ic, under, pc, x, y, h, b_, many_, ic_, under_, pc_, x_, y_, h_, k, l]
  refine hv0 (fun g5 => ?_)
  replace g5 : (0 : Int) ≤ ((0 : Int) + (1 * l + 0)) := g5
  refine hv10 (fun g6 => ?_)
  replace g6 : ((0 : Int) + (1 * k + 0)) = (2 : Int) ∨ ((0 : Int) + (1 * k + 0)) = (4 : Int) := g6
  refine hv13 (fun g7 => ?_)
  replace g7 : ((0 : Int) + (1 * l + 0)) = ((0 : Int) + (1 * y + 0)) := g7
  refine hvC ?_
  refine rqi_12_8 (?_ : q12 ((0 : Int) + (1 * b + 0)) ((0 : Int) + (1 * many + 0)) ((0 : Int) + (1 * ic + 0)) ((0 : Int) + (1 * under + 0)) ((1 : Int) + (1 * pc + 0)) ((0 : Int) + (1 * x + 0)) ((0 : Int) + (1 * y + 0)) ((0 : Int) + (1 * h + 0)) (R 58))
  simp only [Int.zero_add, Int.one_mul, Int.add_zero]
  obtain ⟨z, hD, hh⟩ := hq
  rw [show (1 : Int) + pc = pc + 1 by omega]
  exact ⟨z, dm_pushA hD (by omega) (by omega) (by omega) (by omega), hh⟩

theorem tU_12_8_3 : vU rQ 12 hu_12_8_3 := by
  intro R G ps ts hl ht hq
  obtain ⟨b, many, ic, under, pc, x, y, h, rfl⟩ := hl8 hl
  obtain ⟨b_, many_, ic_, under_, pc_, x_, y_, h_, rfl⟩ := hl8 ht
  replace hq : q12 b many ic under pc x y h (R 58) := rqo_12_8 hq
  refine hv0 (fun g0 => ?_)
  replace g0 : (0 : Int) ≤ ((-1 : Int) + ((-1) * pc + (1 * pc_ + 0))) := g0
  refine hv0 (fun g1 => ?_)
  replace g1 : (0 : Int) ≤ ((-1 : Int) + (1 * under + 0)) := g1
  refine hv0 (fun g2 => ?_)
  replace g2 : (0 : Int) ≤ ((31 : Int) + ((-1) * pc + 0)) := g2
  refine hv2 (fun k hag3 g3 => ?_)
  replace g3 : R 58 ((37420 : Int) + (1 * b + (6 * pc + 0))) = k := g3
  replace hag3 : (0 : Int) ≤ ((37420 : Int) + (1 * b + (6 * pc + 0))) := hag3
  replace g3 : pK (R 58) b (pc) = k := hF (R := R 58) g3 (ad_54 b pc)
  show hV _ _ _ _ _ [b, many, ic, under, pc, x, y, h, b_, many_, ic_, under_, pc_, x_, y_, h_, k]
  refine hv2 (fun l hag4 g4 => ?_)
  replace g4 : R 58 ((37421 : Int) + (1 * b + (6 * pc + 0))) = l := g4
  replace hag4 : (0 : Int) ≤ ((37421 : Int) + (1 * b + (6 * pc + 0))) := hag4
  replace g4 : pP (R 58) b (pc) = l := hF (R := R 58) g4 (ad_55 b pc)
  show hV _ _ _ _ _ [b, many, ic, under, pc, x, y, h, b_, many_, ic_, under_, pc_, x_, y_, h_, k, l]
  refine hv0 (fun g5 => ?_)
  replace g5 : (0 : Int) ≤ ((0 : Int) + (1 * l + 0)) := g5
  refine hv13 (fun g6 => ?_)
  replace g6 : ((0 : Int) + (1 * k + 0)) = ((1 : Int) + 0) := g6
  refine hv13 (fun g7 => ?_)
  replace g7 : ((0 : Int) + (1 * l + 0)) = ((0 : Int) + (1 * x + 0)) := g7
  refine hv2 (fun kk hag8 g8 => ?_)
  replace g8 : R 58 ((22692 : Int) + (1 * b + (2 * l + 0))) = kk := g8
  replace hag8 : (0 : Int) ≤ ((22692 : Int) + (1 * b + (2 * l + 0))) := hag8
  replace g8 : iK (R 58) b (l) = kk := hF (R := R 58) g8 (ad_56 b l)
  show hV _ _ _ _ _ [b, many, ic, under, pc, x, y, h, b_, many_, ic_, under_, pc_, x_, y_, h_, k, l, kk]
  refine hv0 (fun g9 => ?_)
  replace g9 : (0 : Int) ≤ ((-2 : Int) + (1 * kk + 0)) := g9
  refine hv0 (fun g10 => ?_)
  replace g10 : (0 : Int) ≤ ((3 : Int) + ((-1) * kk + 0)) := g10
  refine hvC ?_
  refine rqi_12_8 (?_ : q12 ((0 : Int) + (1 * b + 0)) ((0 : Int) + (1 * many + 0)) ((0 : Int) + (1 * ic + 0)) ((0 : Int) + (1 * under + 0)) ((1 : Int) + (1 * pc + 0)) ((0 : Int) + (1 * x + 0)) ((0 : Int) + (1 * y + 0)) ((0 : Int) + (1 * h + 0)) (R 58))
  simp only [Int.zero_add, Int.one_mul, Int.add_zero]
  obtain ⟨z, hD, hh⟩ := hq
  rw [show (1 : Int) + pc = pc + 1 by omega]
  have e : x = l := by omega
  subst e
  exact ⟨z, dm_pushB hD (by omega) (by omega) (by omega) (by omega) (by omega), hh⟩

theorem tU_12_8_4 : vU rQ 12 hu_12_8_4 := by
  intro R G ps ts hl ht hq
  obtain ⟨b, many, ic, under, pc, x, y, h, rfl⟩ := hl8 hl
  obtain ⟨b_, many_, ic_, under_, pc_, x_, y_, h_, rfl⟩ := hl8 ht
  replace hq : q12 b many ic under pc x y h (R 58) := rqo_12_8 hq
  refine hv0 (fun g0 => ?_)
  replace g0 : (0 : Int) ≤ ((-1 : Int) + ((-1) * pc + (1 * pc_ + 0))) := g0
  refine hv0 (fun g1 => ?_)
  replace g1 : (0 : Int) ≤ ((-1 : Int) + (1 * under + 0)) := g1
  refine hv0 (fun g2 => ?_)
  replace g2 : (0 : Int) ≤ ((31 : Int) + ((-1) * pc + 0)) := g2
  refine hv2 (fun k hag3 g3 => ?_)
  replace g3 : R 58 ((37420 : Int) + (1 * b + (6 * pc + 0))) = k := g3
  replace hag3 : (0 : Int) ≤ ((37420 : Int) + (1 * b + (6 * pc + 0))) := hag3
  replace g3 : pK (R 58) b (pc) = k := hF (R := R 58) g3 (ad_54 b pc)
  show hV _ _ _ _ _ [b, many, ic, under, pc, x, y, h, b_, many_, ic_, under_, pc_, x_, y_, h_, k]
  refine hv2 (fun l hag4 g4 => ?_)
  replace g4 : R 58 ((37421 : Int) + (1 * b + (6 * pc + 0))) = l := g4
  replace hag4 : (0 : Int) ≤ ((37421 : Int) + (1 * b + (6 * pc + 0))) := hag4
  replace g4 : pP (R 58) b (pc) = l := hF (R := R 58) g4 (ad_55 b pc)
  show hV _ _ _ _ _ [b, many, ic, under, pc, x, y, h, b_, many_, ic_, under_, pc_, x_, y_, h_, k, l]
  refine hv0 (fun g5 => ?_)
  replace g5 : (0 : Int) ≤ ((0 : Int) + (1 * l + 0)) := g5
  refine hv13 (fun g6 => ?_)
  replace g6 : ((0 : Int) + (1 * k + 0)) = ((6 : Int) + 0) := g6
  refine hv13 (fun g7 => ?_)
  replace g7 : ((0 : Int) + (1 * l + 0)) = ((0 : Int) + (1 * x + 0)) := g7
  refine hv2 (fun kk hag8 g8 => ?_)
  replace g8 : R 58 ((22692 : Int) + (1 * b + (2 * l + 0))) = kk := g8
  replace hag8 : (0 : Int) ≤ ((22692 : Int) + (1 * b + (2 * l + 0))) := hag8
  replace g8 : iK (R 58) b (l) = kk := hF (R := R 58) g8 (ad_56 b l)
  show hV _ _ _ _ _ [b, many, ic, under, pc, x, y, h, b_, many_, ic_, under_, pc_, x_, y_, h_, k, l, kk]
  refine hv0 (fun g9 => ?_)
  replace g9 : (0 : Int) ≤ ((-2 : Int) + (1 * kk + 0)) := g9
  refine hv0 (fun g10 => ?_)
  replace g10 : (0 : Int) ≤ ((2 : Int) + ((-1) * kk + 0)) := g10
  refine hvC ?_
  refine rqi_12_8 (?_ : q12 ((0 : Int) + (1 * b + 0)) ((0 : Int) + (1 * many + 0)) ((0 : Int) + (1 * ic + 0)) ((0 : Int) + (1 * under + 0)) ((1 : Int) + (1 * pc + 0)) ((0 : Int) + (1 * x + 0)) ((0 : Int) + (1 * y + 0)) ((0 : Int) + (1 * h + 0)) (R 58))
  simp only [Int.zero_add, Int.one_mul, Int.add_zero]
  obtain ⟨z, hD, hh⟩ := hq
  rw [show (1 : Int) + pc = pc + 1 by omega]
  have e : x = l := by omega
  subst e
  exact ⟨z, dm_pushB hD (by omega) (by omega) (by omega) (by omega) (by omega), hh⟩

theorem tU_12_8_5 : vU rQ 12 hu_12_8_5 := by
  intro R G ps ts hl ht hq
  obtain ⟨b, many, ic, under, pc, x, y, h, rfl⟩ := hl8 hl
  obtain ⟨b_, many_, ic_, under_, pc_, x_, y_, h_, rfl⟩ := hl8 ht
  replace hq : q12 b many ic under pc x y h (R 58) := rqo_12_8 hq
  refine hv13 (fun g0 => ?_)
  replace g0 : ((0 : Int) + (1 * pc + 0)) = ((1 : Int) + (1 * pc_ + 0)) := g0
  refine hv0 (fun g1 => ?_)
  replace g1 : (0 : Int) ≤ ((0 : Int) + (1 * pc_ + 0)) := g1
  refine hv2 (fun l hag2 g2 => ?_)
  replace g2 : R 58 ((37421 : Int) + (1 * b + (6 * pc_ + 0))) = l := g2
  replace hag2 : (0 : Int) ≤ ((37421 : Int) + (1 * b + (6 * pc_ + 0))) := hag2
  replace g2 : pP (R 58) b (pc_) = l := hF (R := R 58) g2 (ad_57 b pc_)
  show hV _ _ _ _ _ [b, many, ic, under, pc, x, y, h, b_, many_, ic_, under_, pc_, x_, y_, h_, l]
  refine hv5 (fun g3 => ?_)
  replace g3 : q25 ((0 : Int) + (1 * b + 0)) ((0 : Int) + (1 * pc_ + 0)) (R 58) := rqo_25_2 g3
  simp only [Int.zero_add, Int.one_mul, Int.add_zero] at g3
  refine hv2 (fun n hag4 g4 => ?_)
  replace g4 : R 58 ((22693 : Int) + (1 * b + (2 * l + 0))) = n := g4
  replace hag4 : (0 : Int) ≤ ((22693 : Int) + (1 * b + (2 * l + 0))) := hag4
  replace g4 : iN (R 58) b (l) = n := hF (R := R 58) g4 (ad_58 b l)
  show hV _ _ _ _ _ [b, many, ic, under, pc, x, y, h, b_, many_, ic_, under_, pc_, x_, y_, h_, l, n]
  refine hv5 (fun g5 => ?_)
  replace g5 : dRs (R 58) ((0 : Int) + (1 * b + 0)) ((0 : Int) + (1 * ic + 0)) ((0 : Int) + (1 * pc_ + 0)) ((0 : Int) + (1 * n + 0)) := rqo_18_4 g5
  simp only [Int.zero_add, Int.one_mul, Int.add_zero] at g5
  refine hv5 (fun g6 => ?_)
  replace g6 : dNx (R 58) ((0 : Int) + (1 * b + 0)) ((0 : Int) + (1 * ic + 0)) ((0 : Int) + (1 * under + 0)) ((0 : Int) + (1 * pc + 0)) ((0 : Int) + (1 * x + 0)) := rqo_19_5 g6
  simp only [Int.zero_add, Int.one_mul, Int.add_zero] at g6
  refine hvC ?_
  refine rqi_12_8 (?_ : q12 ((0 : Int) + (1 * b + 0)) ((0 : Int) + (1 * many + 0)) ((0 : Int) + (1 * ic + 0)) ((0 : Int) + (1 * under + 0)) ((0 : Int) + (1 * pc_ + 0)) ((-1 : Int) + 0) ((0 : Int) + (1 * y + 0)) ((0 : Int) + (1 * h + 0)) (R 58))
  simp only [Int.zero_add, Int.one_mul, Int.add_zero]
  obtain ⟨z, hD, hh⟩ := hq
  have e : pc_ = pc - 1 := by omega
  subst e
  have t := dm_x hD g6
  have k3 := g3
  unfold q25 at k3
  have e1 : pP (R 58) b (pc - 1) = l := by omega
  have e2 : iN (R 58) b l = n := by omega
  exact ⟨z, dm_dropr t (by omega) (by omega) (by rw [e1, e2]; exact g5) (Or.inl rfl), hh⟩

theorem tU_12_8_6 : vU rQ 12 hu_12_8_6 := by
  intro R G ps ts hl ht hq
  obtain ⟨b, many, ic, under, pc, x, y, h, rfl⟩ := hl8 hl
  obtain ⟨b_, many_, ic_, under_, pc_, x_, y_, h_, rfl⟩ := hl8 ht
  replace hq : q12 b many ic under pc x y h (R 58) := rqo_12_8 hq
  refine hv13 (fun g0 => ?_)
  replace g0 : ((0 : Int) + (1 * under + 0)) = ((0 : Int) + 0) := g0
  refine hv13 (fun g1 => ?_)
  replace g1 : ((0 : Int) + (1 * pc_ + 0)) = ((0 : Int) + 0) := g1
  refine hvC ?_
  refine rqi_12_8 (?_ : q12 ((0 : Int) + (1 * b + 0)) ((0 : Int) + (1 * many + 0)) ((0 : Int) + (1 * ic + 0)) ((0 : Int) + (1 * under + 0)) ((0 : Int) + 0) ((0 : Int) + (1 * x + 0)) ((0 : Int) + (1 * y + 0)) ((0 : Int) + (1 * h + 0)) (R 58))
  simp only [Int.zero_add, Int.one_mul, Int.add_zero]
  obtain ⟨z, hD, hh⟩ := hq
  have u0 := hD.2.2.2.2.2.2.2.2.2.2.1 (by omega)
  rw [← u0]
  exact ⟨z, hD, hh⟩

theorem tU_12_8_7 : vU rQ 12 hu_12_8_7 := by
  intro R G ps ts hl ht hq
  obtain ⟨b, many, ic, under, pc, x, y, h, rfl⟩ := hl8 hl
  obtain ⟨b_, many_, ic_, under_, pc_, x_, y_, h_, rfl⟩ := hl8 ht
  replace hq : q12 b many ic under pc x y h (R 58) := rqo_12_8 hq
  refine hv13 (fun g0 => ?_)
  replace g0 : ((0 : Int) + (1 * many_ + 0)) = ((1 : Int) + (1 * many + 0)) := g0
  refine hv13 (fun g1 => ?_)
  replace g1 : ((0 : Int) + (1 * under_ + 0)) = ((1 : Int) + (1 * under + 0)) := g1
  refine hv0 (fun g2 => ?_)
  replace g2 : (0 : Int) ≤ ((-172 : Int) + (1 * many + 0)) := g2
  refine hv0 (fun g3 => ?_)
  replace g3 : (0 : Int) ≤ ((359 : Int) + ((-1) * many + 0)) := g3
  refine hv0 (fun g4 => ?_)
  replace g4 : (0 : Int) ≤ ((4 : Int) + ((-1) * under + 0)) := g4
  refine hv2 (fun w0 hag5 g5 => ?_)
  replace g5 : R 58 ((8292 : Int) + (1 * b + (40 * many + 0))) = w0 := g5
  replace hag5 : (0 : Int) ≤ ((8292 : Int) + (1 * b + (40 * many + 0))) := hag5
  replace g5 : dK (R 58) b (many) = w0 := hF (R := R 58) g5 (ad_59 b many)
  show hV _ _ _ _ _ [b, many, ic, under, pc, x, y, h, b_, many_, ic_, under_, pc_, x_, y_, h_, w0]
  refine hv13 (fun g6 => ?_)
  replace g6 : ((0 : Int) + (1 * w0 + 0)) = ((1 : Int) + 0) := g6
  refine hv2 (fun w3 hag7 g7 => ?_)
  replace g7 : R 58 ((8295 : Int) + (1 * b + (40 * many + 0))) = w3 := g7
  replace hag7 : (0 : Int) ≤ ((8295 : Int) + (1 * b + (40 * many + 0))) := hag7
  replace g7 : dV (R 58) b (many) = w3 := hF (R := R 58) g7 (ad_60 b many)
  show hV _ _ _ _ _ [b, many, ic, under, pc, x, y, h, b_, many_, ic_, under_, pc_, x_, y_, h_, w0, w3]
  refine hv13 (fun g8 => ?_)
  replace g8 : ((0 : Int) + (1 * w3 + 0)) = ((0 : Int) + (1 * ic + 0)) := g8
  refine hv2 (fun w4 hag9 g9 => ?_)
  replace g9 : R 58 ((8296 : Int) + (1 * b + (40 * many + 0))) = w4 := g9
  replace hag9 : (0 : Int) ≤ ((8296 : Int) + (1 * b + (40 * many + 0))) := hag9
  replace g9 : dL (R 58) b (many) = w4 := hF (R := R 58) g9 (ad_61 b many)
  show hV _ _ _ _ _ [b, many, ic, under, pc, x, y, h, b_, many_, ic_, under_, pc_, x_, y_, h_, w0, w3, w4]
  refine hv13 (fun g10 => ?_)
  replace g10 : ((0 : Int) + (1 * w4 + 0)) = ((0 : Int) + 0) := g10
  refine hv2 (fun w14 hag11 g11 => ?_)
  replace g11 : R 58 ((8306 : Int) + (1 * b + (40 * many + 0))) = w14 := g11
  replace hag11 : (0 : Int) ≤ ((8306 : Int) + (1 * b + (40 * many + 0))) := hag11
  replace g11 : dJ (R 58) b (many) = w14 := hF (R := R 58) g11 (ad_62 b many)
  show hV _ _ _ _ _ [b, many, ic, under, pc, x, y, h, b_, many_, ic_, under_, pc_, x_, y_, h_, w0, w3, w4, w14]
  refine hv13 (fun g12 => ?_)
  replace g12 : ((0 : Int) + (1 * w14 + 0)) = ((0 : Int) + 0) := g12
  refine hv2 (fun w7 hag13 g13 => ?_)
  replace g13 : R 58 ((8299 : Int) + (1 * b + (40 * many + 0))) = w7 := g13
  replace hag13 : (0 : Int) ≤ ((8299 : Int) + (1 * b + (40 * many + 0))) := hag13
  replace g13 : dH (R 58) b (many) = w7 := hF (R := R 58) g13 (ad_63 b many)
  show hV _ _ _ _ _ [b, many, ic, under, pc, x, y, h, b_, many_, ic_, under_, pc_, x_, y_, h_, w0, w3, w4, w14, w7]
  refine hv13 (fun g14 => ?_)
  replace g14 : ((0 : Int) + (1 * w7 + 0)) = ((1 : Int) + 0) := g14
  refine hv2 (fun w13 hag15 g15 => ?_)
  replace g15 : R 58 ((8305 : Int) + (1 * b + (40 * many + 0))) = w13 := g15
  replace hag15 : (0 : Int) ≤ ((8305 : Int) + (1 * b + (40 * many + 0))) := hag15
  replace g15 : dI (R 58) b (many) = w13 := hF (R := R 58) g15 (ad_64 b many)
  show hV _ _ _ _ _ [b, many, ic, under, pc, x, y, h, b_, many_, ic_, under_, pc_, x_, y_, h_, w0, w3, w4, w14, w7, w13]
  refine hv2 (fun d0 hag16 g16 => ?_)
  replace g16 : R 58 ((37612 : Int) + (1 * b + (300 * under + 0))) = d0 := g16
  replace hag16 : (0 : Int) ≤ ((37612 : Int) + (1 * b + (300 * under + 0))) := hag16
  replace g16 : fT (R 58) b (under) = d0 := hF (R := R 58) g16 (ad_65 b under)
  show hV _ _ _ _ _ [b, many, ic, under, pc, x, y, h, b_, many_, ic_, under_, pc_, x_, y_, h_, w0, w3, w4, w14, w7, w13, d0]
  refine hv13 (fun g17 => ?_)
  replace g17 : ((0 : Int) + (1 * d0 + 0)) = ((0 : Int) + (1 * many + 0)) := g17
  refine hv2 (fun d1 hag18 g18 => ?_)
  replace g18 : R 58 ((37613 : Int) + (1 * b + (300 * under + 0))) = d1 := g18
  replace hag18 : (0 : Int) ≤ ((37613 : Int) + (1 * b + (300 * under + 0))) := hag18
  replace g18 : fS (R 58) b (under) = d1 := hF (R := R 58) g18 (ad_66 b under)
  show hV _ _ _ _ _ [b, many, ic, under, pc, x, y, h, b_, many_, ic_, under_, pc_, x_, y_, h_, w0, w3, w4, w14, w7, w13, d0, d1]
  refine hv13 (fun g19 => ?_)
  replace g19 : ((0 : Int) + (1 * d1 + 0)) = ((0 : Int) + (1 * ic + 0)) := g19
  refine hv2 (fun d7 hag20 g20 => ?_)
  replace g20 : R 58 ((37619 : Int) + (1 * b + (300 * under + 0))) = d7 := g20
  replace hag20 : (0 : Int) ≤ ((37619 : Int) + (1 * b + (300 * under + 0))) := hag20
  replace g20 : fJ (R 58) b (under) = d7 := hF (R := R 58) g20 (ad_67 b under)
  show hV _ _ _ _ _ [b, many, ic, under, pc, x, y, h, b_, many_, ic_, under_, pc_, x_, y_, h_, w0, w3, w4, w14, w7, w13, d0, d1, d7]
  refine hv13 (fun g21 => ?_)
  replace g21 : ((0 : Int) + (1 * under + 0)) = ((0 : Int) + 0) := g21
  refine hv13 (fun g22 => ?_)
  replace g22 : ((0 : Int) + (1 * w13 + 0)) = ((0 : Int) + 0) := g22
  refine hv2 (fun d5 hag23 g23 => ?_)
  replace g23 : R 58 ((37617 : Int) + (1 * b + (300 * under + 0))) = d5 := g23
  replace hag23 : (0 : Int) ≤ ((37617 : Int) + (1 * b + (300 * under + 0))) := hag23
  replace g23 : fP (R 58) b (under) = d5 := hF (R := R 58) g23 (ad_68 b under)
  show hV _ _ _ _ _ [b, many, ic, under, pc, x, y, h, b_, many_, ic_, under_, pc_, x_, y_, h_, w0, w3, w4, w14, w7, w13, d0, d1, d7, d5]
  refine hv13 (fun g24 => ?_)
  replace g24 : ((0 : Int) + (1 * d5 + 0)) = ((0 : Int) + (1 * pc + 0)) := g24
  refine hv5 (fun g25 => ?_)
  replace g25 : dNx (R 58) ((0 : Int) + (1 * b + 0)) ((0 : Int) + (1 * ic + 0)) ((0 : Int) + (1 * under + 0)) ((0 : Int) + (1 * pc + 0)) ((0 : Int) + (1 * x + 0)) := rqo_19_5 g25
  simp only [Int.zero_add, Int.one_mul, Int.add_zero] at g25
  refine hvC ?_
  refine rqi_12_8 (?_ : q12 ((0 : Int) + (1 * b + 0)) ((1 : Int) + (1 * many + 0)) ((0 : Int) + (1 * ic + 0)) ((1 : Int) + (1 * under + 0)) ((0 : Int) + (1 * pc + 0)) ((-1 : Int) + 0) ((-1 : Int) + 0) ((1 : Int) + 0) (R 58))
  simp only [Int.zero_add, Int.one_mul, Int.add_zero]
  obtain ⟨z, hD, hh⟩ := hq
  have e0 : under = 0 := by omega
  subst e0
  have t := dm_begin hD (by omega) (by omega) (by omega) (by omega) (by omega) (by omega) (by omega) (by omega) (by omega)
  rw [show (1 : Int) + many = many + 1 by omega]
  refine ⟨z, t, fun _ _ => ?_⟩
  rw [show fT (R 58) b 0 = many by omega]
  omega

theorem tU_12_8_8 : vU rQ 12 hu_12_8_8 := by
  intro R G ps ts hl ht hq
  obtain ⟨b, many, ic, under, pc, x, y, h, rfl⟩ := hl8 hl
  obtain ⟨b_, many_, ic_, under_, pc_, x_, y_, h_, rfl⟩ := hl8 ht
  replace hq : q12 b many ic under pc x y h (R 58) := rqo_12_8 hq
  refine hv13 (fun g0 => ?_)
  replace g0 : ((0 : Int) + (1 * many_ + 0)) = ((1 : Int) + (1 * many + 0)) := g0
  refine hv13 (fun g1 => ?_)
  replace g1 : ((0 : Int) + (1 * under_ + 0)) = ((1 : Int) + (1 * under + 0)) := g1
  refine hv0 (fun g2 => ?_)
  replace g2 : (0 : Int) ≤ ((-172 : Int) + (1 * many + 0)) := g2
  refine hv0 (fun g3 => ?_)
  replace g3 : (0 : Int) ≤ ((359 : Int) + ((-1) * many + 0)) := g3
  refine hv0 (fun g4 => ?_)
  replace g4 : (0 : Int) ≤ ((4 : Int) + ((-1) * under + 0)) := g4
  refine hv2 (fun w0 hag5 g5 => ?_)
  replace g5 : R 58 ((8292 : Int) + (1 * b + (40 * many + 0))) = w0 := g5
  replace hag5 : (0 : Int) ≤ ((8292 : Int) + (1 * b + (40 * many + 0))) := hag5
  replace g5 : dK (R 58) b (many) = w0 := hF (R := R 58) g5 (ad_59 b many)
  show hV _ _ _ _ _ [b, many, ic, under, pc, x, y, h, b_, many_, ic_, under_, pc_, x_, y_, h_, w0]
  refine hv13 (fun g6 => ?_)
  replace g6 : ((0 : Int) + (1 * w0 + 0)) = ((1 : Int) + 0) := g6
  refine hv2 (fun w3 hag7 g7 => ?_)
  replace g7 : R 58 ((8295 : Int) + (1 * b + (40 * many + 0))) = w3 := g7
  replace hag7 : (0 : Int) ≤ ((8295 : Int) + (1 * b + (40 * many + 0))) := hag7
  replace g7 : dV (R 58) b (many) = w3 := hF (R := R 58) g7 (ad_60 b many)
  show hV _ _ _ _ _ [b, many, ic, under, pc, x, y, h, b_, many_, ic_, under_, pc_, x_, y_, h_, w0, w3]
  refine hv13 (fun g8 => ?_)
  replace g8 : ((0 : Int) + (1 * w3 + 0)) = ((0 : Int) + (1 * ic + 0)) := g8
  refine hv2 (fun w4 hag9 g9 => ?_)
  replace g9 : R 58 ((8296 : Int) + (1 * b + (40 * many + 0))) = w4 := g9
  replace hag9 : (0 : Int) ≤ ((8296 : Int) + (1 * b + (40 * many + 0))) := hag9
  replace g9 : dL (R 58) b (many) = w4 := hF (R := R 58) g9 (ad_61 b many)
  show hV _ _ _ _ _ [b, many, ic, under, pc, x, y, h, b_, many_, ic_, under_, pc_, x_, y_, h_, w0, w3, w4]
  refine hv13 (fun g10 => ?_)
  replace g10 : ((0 : Int) + (1 * w4 + 0)) = ((0 : Int) + 0) := g10
  refine hv2 (fun w14 hag11 g11 => ?_)
  replace g11 : R 58 ((8306 : Int) + (1 * b + (40 * many + 0))) = w14 := g11
  replace hag11 : (0 : Int) ≤ ((8306 : Int) + (1 * b + (40 * many + 0))) := hag11
  replace g11 : dJ (R 58) b (many) = w14 := hF (R := R 58) g11 (ad_62 b many)
  show hV _ _ _ _ _ [b, many, ic, under, pc, x, y, h, b_, many_, ic_, under_, pc_, x_, y_, h_, w0, w3, w4, w14]
  refine hv13 (fun g12 => ?_)
  replace g12 : ((0 : Int) + (1 * w14 + 0)) = ((0 : Int) + 0) := g12
  refine hv2 (fun w7 hag13 g13 => ?_)
  replace g13 : R 58 ((8299 : Int) + (1 * b + (40 * many + 0))) = w7 := g13
  replace hag13 : (0 : Int) ≤ ((8299 : Int) + (1 * b + (40 * many + 0))) := hag13
  replace g13 : dH (R 58) b (many) = w7 := hF (R := R 58) g13 (ad_63 b many)
  show hV _ _ _ _ _ [b, many, ic, under, pc, x, y, h, b_, many_, ic_, under_, pc_, x_, y_, h_, w0, w3, w4, w14, w7]
  refine hv13 (fun g14 => ?_)
  replace g14 : ((0 : Int) + (1 * w7 + 0)) = ((1 : Int) + 0) := g14
  refine hv2 (fun w13 hag15 g15 => ?_)
  replace g15 : R 58 ((8305 : Int) + (1 * b + (40 * many + 0))) = w13 := g15
  replace hag15 : (0 : Int) ≤ ((8305 : Int) + (1 * b + (40 * many + 0))) := hag15
  replace g15 : dI (R 58) b (many) = w13 := hF (R := R 58) g15 (ad_64 b many)
  show hV _ _ _ _ _ [b, many, ic, under, pc, x, y, h, b_, many_, ic_, under_, pc_, x_, y_, h_, w0, w3, w4, w14, w7, w13]
  refine hv2 (fun d0 hag16 g16 => ?_)
  replace g16 : R 58 ((37612 : Int) + (1 * b + (300 * under + 0))) = d0 := g16
  replace hag16 : (0 : Int) ≤ ((37612 : Int) + (1 * b + (300 * under + 0))) := hag16
  replace g16 : fT (R 58) b (under) = d0 := hF (R := R 58) g16 (ad_65 b under)
  show hV _ _ _ _ _ [b, many, ic, under, pc, x, y, h, b_, many_, ic_, under_, pc_, x_, y_, h_, w0, w3, w4, w14, w7, w13, d0]
  refine hv13 (fun g17 => ?_)
  replace g17 : ((0 : Int) + (1 * d0 + 0)) = ((0 : Int) + (1 * many + 0)) := g17
  refine hv2 (fun d1 hag18 g18 => ?_)
  replace g18 : R 58 ((37613 : Int) + (1 * b + (300 * under + 0))) = d1 := g18
  replace hag18 : (0 : Int) ≤ ((37613 : Int) + (1 * b + (300 * under + 0))) := hag18
  replace g18 : fS (R 58) b (under) = d1 := hF (R := R 58) g18 (ad_66 b under)
  show hV _ _ _ _ _ [b, many, ic, under, pc, x, y, h, b_, many_, ic_, under_, pc_, x_, y_, h_, w0, w3, w4, w14, w7, w13, d0, d1]
  refine hv13 (fun g19 => ?_)
  replace g19 : ((0 : Int) + (1 * d1 + 0)) = ((0 : Int) + (1 * ic + 0)) := g19
  refine hv2 (fun d7 hag20 g20 => ?_)
  replace g20 : R 58 ((37619 : Int) + (1 * b + (300 * under + 0))) = d7 := g20
  replace hag20 : (0 : Int) ≤ ((37619 : Int) + (1 * b + (300 * under + 0))) := hag20
  replace g20 : fJ (R 58) b (under) = d7 := hF (R := R 58) g20 (ad_67 b under)
  show hV _ _ _ _ _ [b, many, ic, under, pc, x, y, h, b_, many_, ic_, under_, pc_, x_, y_, h_, w0, w3, w4, w14, w7, w13, d0, d1, d7]
  refine hv0 (fun g21 => ?_)
  replace g21 : (0 : Int) ≤ ((-1 : Int) + (1 * under + 0)) := g21
  refine hv13 (fun g22 => ?_)
  replace g22 : ((0 : Int) + (1 * w13 + 0)) = ((1 : Int) + 0) := g22
  refine hv13 (fun g23 => ?_)
  replace g23 : ((0 : Int) + (1 * d7 + 0)) = ((-1 : Int) + (1 * ic + 0)) := g23
  refine hv13 (fun g24 => ?_)
  replace g24 : ((0 : Int) + (1 * x + 0)) = ((-1 : Int) + (1 * ic + 0)) := g24
  refine hv0 (fun g25 => ?_)
  replace g25 : (0 : Int) ≤ ((0 : Int) + (1 * x + 0)) := g25
  refine hv2 (fun xk hag26 g26 => ?_)
  replace g26 : R 58 ((22692 : Int) + (1 * b + (2 * x + 0))) = xk := g26
  replace hag26 : (0 : Int) ≤ ((22692 : Int) + (1 * b + (2 * x + 0))) := hag26
  replace g26 : iK (R 58) b (x) = xk := hF (R := R 58) g26 (ad_12 b x)
  show hV _ _ _ _ _ [b, many, ic, under, pc, x, y, h, b_, many_, ic_, under_, pc_, x_, y_, h_, w0, w3, w4, w14, w7, w13, d0, d1, d7, xk]
  refine hv13 (fun g27 => ?_)
  replace g27 : ((0 : Int) + (1 * xk + 0)) = ((2 : Int) + 0) := g27
  refine hv2 (fun e hag28 g28 => ?_)
  replace g28 : R 58 ((37312 : Int) + (1 * b + (300 * under + 0))) = e := g28
  replace hag28 : (0 : Int) ≤ ((37312 : Int) + (1 * b + (300 * under + 0))) := hag28
  replace g28 : fT (R 58) b (under - 1) = e := hF (R := R 58) g28 (ad_69 b under)
  show hV _ _ _ _ _ [b, many, ic, under, pc, x, y, h, b_, many_, ic_, under_, pc_, x_, y_, h_, w0, w3, w4, w14, w7, w13, d0, d1, d7, xk, e]
  refine hv2 (fun e14 hag29 g29 => ?_)
  replace g29 : R 58 ((8306 : Int) + (1 * b + (40 * e + 0))) = e14 := g29
  replace hag29 : (0 : Int) ≤ ((8306 : Int) + (1 * b + (40 * e + 0))) := hag29
  replace g29 : dJ (R 58) b (e) = e14 := hF (R := R 58) g29 (ad_70 b e)
  show hV _ _ _ _ _ [b, many, ic, under, pc, x, y, h, b_, many_, ic_, under_, pc_, x_, y_, h_, w0, w3, w4, w14, w7, w13, d0, d1, d7, xk, e, e14]
  refine hv13 (fun g30 => ?_)
  replace g30 : ((0 : Int) + (1 * e14 + 0)) = ((1 : Int) + 0) := g30
  refine hvC ?_
  refine rqi_12_8 (?_ : q12 ((0 : Int) + (1 * b + 0)) ((1 : Int) + (1 * many + 0)) ((0 : Int) + (1 * ic + 0)) ((1 : Int) + (1 * under + 0)) ((0 : Int) + (1 * pc + 0)) ((-1 : Int) + 0) ((-1 : Int) + 0) ((0 : Int) + (1 * h + 0)) (R 58))
  simp only [Int.zero_add, Int.one_mul, Int.add_zero]
  obtain ⟨z, hD, hh⟩ := hq
  have ee : fT (R 58) b (under - 1) = e := by omega
  have t := dm_inner hD (by omega) (by omega) (by omega) (by omega) (by omega) (by omega) (by omega) (by omega) (by omega) (by omega) (by omega) (by omega) (by omega) (by rw [ee]; omega)
  rw [show (1 : Int) + many = many + 1 by omega, show (1 : Int) + under = under + 1 by omega]
  exact ⟨z, t, fun c _ => hh c (by omega)⟩

theorem tU_12_8_9 : vU rQ 12 hu_12_8_9 := by
  intro R G ps ts hl ht hq
  obtain ⟨b, many, ic, under, pc, x, y, h, rfl⟩ := hl8 hl
  obtain ⟨b_, many_, ic_, under_, pc_, x_, y_, h_, rfl⟩ := hl8 ht
  replace hq : q12 b many ic under pc x y h (R 58) := rqo_12_8 hq
  refine hv13 (fun g0 => ?_)
  replace g0 : ((0 : Int) + (1 * many_ + 0)) = ((1 : Int) + (1 * many + 0)) := g0
  refine hv13 (fun g1 => ?_)
  replace g1 : ((0 : Int) + (1 * under_ + 0)) = ((0 : Int) + (1 * under + 0)) := g1
  refine hv0 (fun g2 => ?_)
  replace g2 : (0 : Int) ≤ ((-172 : Int) + (1 * many + 0)) := g2
  refine hv0 (fun g3 => ?_)
  replace g3 : (0 : Int) ≤ ((359 : Int) + ((-1) * many + 0)) := g3
  refine hv2 (fun k hag4 g4 => ?_)
  replace g4 : R 58 ((8292 : Int) + (1 * b + (40 * many + 0))) = k := g4
  replace hag4 : (0 : Int) ≤ ((8292 : Int) + (1 * b + (40 * many + 0))) := hag4
  replace g4 : dK (R 58) b (many) = k := hF (R := R 58) g4 (ad_59 b many)
  show hV _ _ _ _ _ [b, many, ic, under, pc, x, y, h, b_, many_, ic_, under_, pc_, x_, y_, h_, k]
  refine hv0 (fun g5 => ?_)
  replace g5 : (0 : Int) ≤ ((-2 : Int) + (1 * k + 0)) := g5
  refine hv0 (fun g6 => ?_)
  replace g6 : (0 : Int) ≤ ((5 : Int) + ((-1) * k + 0)) := g6
  refine hvC ?_
  refine rqi_12_8 (?_ : q12 ((0 : Int) + (1 * b + 0)) ((1 : Int) + (1 * many + 0)) ((0 : Int) + (1 * ic + 0)) ((0 : Int) + (1 * under + 0)) ((0 : Int) + (1 * pc + 0)) ((0 : Int) + (1 * x + 0)) ((0 : Int) + (1 * y + 0)) ((0 : Int) + (1 * h + 0)) (R 58))
  simp only [Int.zero_add, Int.one_mul, Int.add_zero]
  obtain ⟨z, hD, hh⟩ := hq
  rw [show (1 : Int) + many = many + 1 by omega]
  exact ⟨z, dm_word hD (by omega) (by omega) (by omega), hh⟩

theorem tU_12_8_10 : vU rQ 12 hu_12_8_10 := by
  intro R G ps ts hl ht hq
  obtain ⟨b, many, ic, under, pc, x, y, h, rfl⟩ := hl8 hl
  obtain ⟨b_, many_, ic_, under_, pc_, x_, y_, h_, rfl⟩ := hl8 ht
  replace hq : q12 b many ic under pc x y h (R 58) := rqo_12_8 hq
  refine hv13 (fun g0 => ?_)
  replace g0 : ((0 : Int) + (1 * many_ + 0)) = ((1 : Int) + (1 * many + 0)) := g0
  refine hv13 (fun g1 => ?_)
  replace g1 : ((0 : Int) + (1 * under_ + 0)) = ((0 : Int) + (1 * under + 0)) := g1
  refine hv0 (fun g2 => ?_)
  replace g2 : (0 : Int) ≤ ((-172 : Int) + (1 * many + 0)) := g2
  refine hv0 (fun g3 => ?_)
  replace g3 : (0 : Int) ≤ ((359 : Int) + ((-1) * many + 0)) := g3
  refine hv2 (fun k hag4 g4 => ?_)
  replace g4 : R 58 ((8292 : Int) + (1 * b + (40 * many + 0))) = k := g4
  replace hag4 : (0 : Int) ≤ ((8292 : Int) + (1 * b + (40 * many + 0))) := hag4
  replace g4 : dK (R 58) b (many) = k := hF (R := R 58) g4 (ad_59 b many)
  show hV _ _ _ _ _ [b, many, ic, under, pc, x, y, h, b_, many_, ic_, under_, pc_, x_, y_, h_, k]
  refine hv0 (fun g5 => ?_)
  replace g5 : (0 : Int) ≤ ((-7 : Int) + (1 * k + 0)) := g5
  refine hvC ?_
  refine rqi_12_8 (?_ : q12 ((0 : Int) + (1 * b + 0)) ((1 : Int) + (1 * many + 0)) ((0 : Int) + (1 * ic + 0)) ((0 : Int) + (1 * under + 0)) ((0 : Int) + (1 * pc + 0)) ((0 : Int) + (1 * x + 0)) ((0 : Int) + (1 * y + 0)) ((0 : Int) + (1 * h + 0)) (R 58))
  simp only [Int.zero_add, Int.one_mul, Int.add_zero]
  obtain ⟨z, hD, hh⟩ := hq
  rw [show (1 : Int) + many = many + 1 by omega]
  exact ⟨z, dm_word hD (by omega) (by omega) (by omega), hh⟩

theorem tU_12_8_11 : vU rQ 12 hu_12_8_11 := by
  intro R G ps ts hl ht hq
  obtain ⟨b, many, ic, under, pc, x, y, h, rfl⟩ := hl8 hl
  obtain ⟨b_, many_, ic_, under_, pc_, x_, y_, h_, rfl⟩ := hl8 ht
  replace hq : q12 b many ic under pc x y h (R 58) := rqo_12_8 hq
  refine hv13 (fun g0 => ?_)
  replace g0 : ((0 : Int) + (1 * many_ + 0)) = ((1 : Int) + (1 * many + 0)) := g0
  refine hv13 (fun g1 => ?_)
  replace g1 : ((0 : Int) + (1 * under_ + 0)) = ((0 : Int) + (1 * under + 0)) := g1
  refine hv0 (fun g2 => ?_)
  replace g2 : (0 : Int) ≤ ((-172 : Int) + (1 * many + 0)) := g2
  refine hv0 (fun g3 => ?_)
  replace g3 : (0 : Int) ≤ ((359 : Int) + ((-1) * many + 0)) := g3
  refine hv2 (fun k hag4 g4 => ?_)
  replace g4 : R 58 ((8292 : Int) + (1 * b + (40 * many + 0))) = k := g4
  replace hag4 : (0 : Int) ≤ ((8292 : Int) + (1 * b + (40 * many + 0))) := hag4
  replace g4 : dK (R 58) b (many) = k := hF (R := R 58) g4 (ad_59 b many)
  show hV _ _ _ _ _ [b, many, ic, under, pc, x, y, h, b_, many_, ic_, under_, pc_, x_, y_, h_, k]
  refine hv13 (fun g5 => ?_)
  replace g5 : ((0 : Int) + (1 * k + 0)) = ((6 : Int) + 0) := g5
  refine hv13 (fun g6 => ?_)
  replace g6 : ((0 : Int) + (1 * under + 0)) = ((0 : Int) + 0) := g6
  refine hv2 (fun s hag7 g7 => ?_)
  replace g7 : R 58 ((8295 : Int) + (1 * b + (40 * many + 0))) = s := g7
  replace hag7 : (0 : Int) ≤ ((8295 : Int) + (1 * b + (40 * many + 0))) := hag7
  replace g7 : dV (R 58) b (many) = s := hF (R := R 58) g7 (ad_60 b many)
  show hV _ _ _ _ _ [b, many, ic, under, pc, x, y, h, b_, many_, ic_, under_, pc_, x_, y_, h_, k, s]
  refine hv0 (fun g8 => ?_)
  replace g8 : (0 : Int) ≤ ((0 : Int) + (1 * s + 0)) := g8
  refine hv0 (fun g9 => ?_)
  replace g9 : (0 : Int) ≤ ((31 : Int) + ((-1) * s + 0)) := g9
  refine hv2 (fun a hag10 g10 => ?_)
  replace g10 : R 58 ((39112 : Int) + (1 * b + (16 * s + 0))) = a := g10
  replace hag10 : (0 : Int) ≤ ((39112 : Int) + (1 * b + (16 * s + 0))) := hag10
  replace g10 : mM (R 58) b (s) = a := hF (R := R 58) g10 (ad_71 b s)
  show hV _ _ _ _ _ [b, many, ic, under, pc, x, y, h, b_, many_, ic_, under_, pc_, x_, y_, h_, k, s, a]
  refine hv13 (fun g11 => ?_)
  replace g11 : ((0 : Int) + (1 * a + 0)) = ((0 : Int) + (1 * many + 0)) := g11
  refine hv2 (fun c hag12 g12 => ?_)
  replace g12 : R 58 ((39113 : Int) + (1 * b + (16 * s + 0))) = c := g12
  replace hag12 : (0 : Int) ≤ ((39113 : Int) + (1 * b + (16 * s + 0))) := hag12
  replace g12 : mI (R 58) b (s) = c := hF (R := R 58) g12 (ad_72 b s)
  show hV _ _ _ _ _ [b, many, ic, under, pc, x, y, h, b_, many_, ic_, under_, pc_, x_, y_, h_, k, s, a, c]
  refine hv13 (fun g13 => ?_)
  replace g13 : ((0 : Int) + (1 * c + 0)) = ((0 : Int) + (1 * ic + 0)) := g13
  refine hvC ?_
  refine rqi_12_8 (?_ : q12 ((0 : Int) + (1 * b + 0)) ((1 : Int) + (1 * many + 0)) ((0 : Int) + (1 * ic + 0)) ((0 : Int) + (1 * under + 0)) ((0 : Int) + (1 * pc + 0)) ((0 : Int) + (1 * x + 0)) ((0 : Int) + (1 * y + 0)) ((0 : Int) + (1 * h + 0)) (R 58))
  simp only [Int.zero_add, Int.one_mul, Int.add_zero]
  obtain ⟨z, hD, hh⟩ := hq
  rw [show (1 : Int) + many = many + 1 by omega]
  have e : dV (R 58) b many = s := by omega
  exact ⟨z, dm_word hD (by omega) (by omega) (by rw [e]; omega), hh⟩

theorem tU_12_8_12 : vU rQ 12 hu_12_8_12 := by
  intro R G ps ts hl ht hq
  obtain ⟨b, many, ic, under, pc, x, y, h, rfl⟩ := hl8 hl
  obtain ⟨b_, many_, ic_, under_, pc_, x_, y_, h_, rfl⟩ := hl8 ht
  replace hq : q12 b many ic under pc x y h (R 58) := rqo_12_8 hq
  refine hv13 (fun g0 => ?_)
  replace g0 : ((0 : Int) + (1 * many_ + 0)) = ((0 : Int) + (1 * many + 0)) := g0
  refine hv13 (fun g1 => ?_)
  replace g1 : ((0 : Int) + (1 * under_ + 0)) = ((-1 : Int) + (1 * under + 0)) := g1
  refine hv0 (fun g2 => ?_)
  replace g2 : (0 : Int) ≤ ((-2 : Int) + (1 * under + 0)) := g2
  refine hvC ?_
  refine rqi_12_8 (?_ : q12 ((0 : Int) + (1 * b + 0)) ((0 : Int) + (1 * many + 0)) ((0 : Int) + (1 * ic + 0)) ((-1 : Int) + (1 * under + 0)) ((0 : Int) + (1 * pc + 0)) ((0 : Int) + (1 * x + 0)) ((0 : Int) + (1 * y + 0)) ((0 : Int) + (1 * h + 0)) (R 58))
  simp only [Int.zero_add, Int.one_mul, Int.add_zero]
  obtain ⟨z, hD, hh⟩ := hq
  rw [show (-1 : Int) + under = under - 1 by omega]
  exact ⟨z, dm_endi hD (by omega), fun c1 c2 => hh c1 (by omega)⟩

theorem tU_12_8_13 : vU rQ 12 hu_12_8_13 := by
  intro R G ps ts hl ht hq
  obtain ⟨b, many, ic, under, pc, x, y, h, rfl⟩ := hl8 hl
  obtain ⟨b_, many_, ic_, under_, pc_, x_, y_, h_, rfl⟩ := hl8 ht
  replace hq : q12 b many ic under pc x y h (R 58) := rqo_12_8 hq
  refine hv13 (fun g0 => ?_)
  replace g0 : ((0 : Int) + (1 * many_ + 0)) = ((0 : Int) + (1 * many + 0)) := g0
  refine hv13 (fun g1 => ?_)
  replace g1 : ((0 : Int) + (1 * under_ + 0)) = ((-1 : Int) + (1 * under + 0)) := g1
  refine hv13 (fun g2 => ?_)
  replace g2 : ((0 : Int) + (1 * under + 0)) = ((1 : Int) + 0) := g2
  refine hv2 (fun w hag3 g3 => ?_)
  replace g3 : R 58 ((37612 : Int) + (1 * b + 0)) = w := g3
  replace hag3 : (0 : Int) ≤ ((37612 : Int) + (1 * b + 0)) := hag3
  replace g3 : fT (R 58) b (0) = w := hF (R := R 58) g3 (ad_73 b)
  show hV _ _ _ _ _ [b, many, ic, under, pc, x, y, h, b_, many_, ic_, under_, pc_, x_, y_, h_, w]
  refine hv2 (fun d5 hag4 g4 => ?_)
  replace g4 : R 58 ((37617 : Int) + (1 * b + 0)) = d5 := g4
  replace hag4 : (0 : Int) ≤ ((37617 : Int) + (1 * b + 0)) := hag4
  replace g4 : fP (R 58) b (0) = d5 := hF (R := R 58) g4 (ad_74 b)
  show hV _ _ _ _ _ [b, many, ic, under, pc, x, y, h, b_, many_, ic_, under_, pc_, x_, y_, h_, w, d5]
  refine hv13 (fun g5 => ?_)
  replace g5 : ((0 : Int) + (1 * d5 + 0)) = ((0 : Int) + (1 * pc + 0)) := g5
  refine hv13 (fun g6 => ?_)
  replace g6 : ((0 : Int) + (1 * x + 0)) = ((-1 : Int) + (1 * ic + 0)) := g6
  refine hv0 (fun g7 => ?_)
  replace g7 : (0 : Int) ≤ ((0 : Int) + (1 * x + 0)) := g7
  refine hv2 (fun V hag8 g8 => ?_)
  replace g8 : R 58 ((8295 : Int) + (1 * b + (40 * w + 0))) = V := g8
  replace hag8 : (0 : Int) ≤ ((8295 : Int) + (1 * b + (40 * w + 0))) := hag8
  replace g8 : dV (R 58) b (w) = V := hF (R := R 58) g8 (ad_75 b w)
  show hV _ _ _ _ _ [b, many, ic, under, pc, x, y, h, b_, many_, ic_, under_, pc_, x_, y_, h_, w, d5, V]
  refine hv2 (fun N hag9 g9 => ?_)
  replace g9 : R 58 ((8296 : Int) + (1 * b + (40 * w + 0))) = N := g9
  replace hag9 : (0 : Int) ≤ ((8296 : Int) + (1 * b + (40 * w + 0))) := hag9
  replace g9 : dL (R 58) b (w) = N := hF (R := R 58) g9 (ad_76 b w)
  show hV _ _ _ _ _ [b, many, ic, under, pc, x, y, h, b_, many_, ic_, under_, pc_, x_, y_, h_, w, d5, V, N]
  refine hv13 (fun g10 => ?_)
  replace g10 : ((0 : Int) + (1 * V + (1 * N + 0))) = ((0 : Int) + (1 * ic + 0)) := g10
  refine hv2 (fun xk hag11 g11 => ?_)
  replace g11 : R 58 ((22692 : Int) + (1 * b + (2 * x + 0))) = xk := g11
  replace hag11 : (0 : Int) ≤ ((22692 : Int) + (1 * b + (2 * x + 0))) := hag11
  replace g11 : iK (R 58) b (x) = xk := hF (R := R 58) g11 (ad_12 b x)
  show hV _ _ _ _ _ [b, many, ic, under, pc, x, y, h, b_, many_, ic_, under_, pc_, x_, y_, h_, w, d5, V, N, xk]
  refine hv13 (fun g12 => ?_)
  replace g12 : ((0 : Int) + (1 * xk + 0)) = ((0 : Int) + 0) := g12
  refine hv2 (fun xn hag13 g13 => ?_)
  replace g13 : R 58 ((22693 : Int) + (1 * b + (2 * x + 0))) = xn := g13
  replace hag13 : (0 : Int) ≤ ((22693 : Int) + (1 * b + (2 * x + 0))) := hag13
  replace g13 : iN (R 58) b (x) = xn := hF (R := R 58) g13 (ad_77 b x)
  show hV _ _ _ _ _ [b, many, ic, under, pc, x, y, h, b_, many_, ic_, under_, pc_, x_, y_, h_, w, d5, V, N, xk, xn]
  refine hv13 (fun g14 => ?_)
  replace g14 : ((0 : Int) + (1 * xn + 0)) = ((150 : Int) + 0) := g14
  refine hvC ?_
  refine rqi_12_8 (?_ : q12 ((0 : Int) + (1 * b + 0)) ((0 : Int) + (1 * many + 0)) ((0 : Int) + (1 * ic + 0)) ((0 : Int) + 0) ((0 : Int) + (1 * pc + 0)) ((-1 : Int) + 0) ((-1 : Int) + 0) ((1 : Int) + 0) (R 58))
  simp only [Int.zero_add, Int.one_mul, Int.add_zero]
  obtain ⟨z, hD, hh⟩ := hq
  have e0 : under = 1 := by omega
  rw [e0] at hD
  have ew : fT (R 58) b 0 = w := by omega
  have t := dm_end hD (by omega) (by omega) (by omega) (by rw [ew]; omega) (by omega) (by omega)
  exact ⟨z, t, fun _ c => by omega⟩

theorem tU_12_8_14 : vU rQ 12 hu_12_8_14 := by
  intro R G ps ts hl ht hq
  obtain ⟨b, many, ic, under, pc, x, y, h, rfl⟩ := hl8 hl
  obtain ⟨b_, many_, ic_, under_, pc_, x_, y_, h_, rfl⟩ := hl8 ht
  replace hq : q12 b many ic under pc x y h (R 58) := rqo_12_8 hq
  refine hv13 (fun g0 => ?_)
  replace g0 : ((0 : Int) + (1 * under_ + 0)) = ((0 : Int) + 0) := g0
  refine hv0 (fun g1 => ?_)
  replace g1 : (0 : Int) ≤ ((-1 : Int) + (1 * under + 0)) := g1
  refine hv2 (fun w hag2 g2 => ?_)
  replace g2 : R 58 ((37612 : Int) + (1 * b + 0)) = w := g2
  replace hag2 : (0 : Int) ≤ ((37612 : Int) + (1 * b + 0)) := hag2
  replace g2 : fT (R 58) b (0) = w := hF (R := R 58) g2 (ad_73 b)
  show hV _ _ _ _ _ [b, many, ic, under, pc, x, y, h, b_, many_, ic_, under_, pc_, x_, y_, h_, w]
  refine hv13 (fun g3 => ?_)
  replace g3 : ((0 : Int) + (1 * w + 0)) = ((0 : Int) + (1 * many_ + 0)) := g3
  refine hv2 (fun s hag4 g4 => ?_)
  replace g4 : R 58 ((37613 : Int) + (1 * b + 0)) = s := g4
  replace hag4 : (0 : Int) ≤ ((37613 : Int) + (1 * b + 0)) := hag4
  replace g4 : fS (R 58) b (0) = s := hF (R := R 58) g4 (ad_78 b)
  show hV _ _ _ _ _ [b, many, ic, under, pc, x, y, h, b_, many_, ic_, under_, pc_, x_, y_, h_, w, s]
  refine hv13 (fun g5 => ?_)
  replace g5 : ((0 : Int) + (1 * s + 0)) = ((0 : Int) + (1 * ic_ + 0)) := g5
  refine hv13 (fun g6 => ?_)
  replace g6 : ((0 : Int) + (1 * pc_ + 0)) = ((0 : Int) + 0) := g6
  refine hvC ?_
  refine rqi_12_8 (?_ : q12 ((0 : Int) + (1 * b + 0)) ((0 : Int) + (1 * many_ + 0)) ((0 : Int) + (1 * ic_ + 0)) ((0 : Int) + 0) ((0 : Int) + 0) ((-1 : Int) + 0) ((-1 : Int) + 0) ((1 : Int) + 0) (R 58))
  simp only [Int.zero_add, Int.one_mul, Int.add_zero]
  obtain ⟨z, hD, hh⟩ := hq
  have t := dm_out hD (by omega)
  rw [show fT (R 58) b 0 = many_ by omega, show fS (R 58) b 0 = ic_ by omega] at t
  exact ⟨z, t, fun _ c => by omega⟩

theorem tU_12_8_15 : vU rQ 12 hu_12_8_15 := by
  intro R G ps ts hl ht hq
  obtain ⟨b, many, ic, under, pc, x, y, h, rfl⟩ := hl8 hl
  obtain ⟨b_, many_, ic_, under_, pc_, x_, y_, h_, rfl⟩ := hl8 ht
  replace hq : q12 b many ic under pc x y h (R 58) := rqo_12_8 hq
  refine hv13 (fun g0 => ?_)
  replace g0 : ((0 : Int) + (1 * under_ + 0)) = ((0 : Int) + 0) := g0
  refine hv13 (fun g1 => ?_)
  replace g1 : ((0 : Int) + (1 * under + 0)) = ((0 : Int) + 0) := g1
  refine hv5 (fun g2 => ?_)
  replace g2 : dNx (R 58) ((0 : Int) + (1 * b + 0)) ((0 : Int) + (1 * ic + 0)) ((0 : Int) + (1 * under + 0)) ((0 : Int) + (1 * pc + 0)) ((0 : Int) + (1 * x + 0)) := rqo_19_5 g2
  simp only [Int.zero_add, Int.one_mul, Int.add_zero] at g2
  refine hv6 (fun i k g3 => ?_)
  replace g3 : R 58 (((8292 : Int) + (1 * b + 0)) + ((40 : Nat) : Int) * i) = k := g3
  replace g3 : dK (R 58) b (i) = k := hF (R := R 58) g3 (ad_79 b i)
  show hV _ _ _ _ _ [b, many, ic, under, pc, x, y, h, b_, many_, ic_, under_, pc_, x_, y_, h_, i, k]
  refine hv13 (fun g4 => ?_)
  replace g4 : ((0 : Int) + (1 * k + 0)) = ((6 : Int) + 0) := g4
  refine hv0 (fun g5 => ?_)
  replace g5 : (0 : Int) ≤ ((-1 : Int) + (1 * many + ((-1) * i + 0))) := g5
  refine hv0 (fun g6 => ?_)
  replace g6 : (0 : Int) ≤ ((0 : Int) + (1 * i + 0)) := g6
  refine hv2 (fun s hag7 g7 => ?_)
  replace g7 : R 58 ((8295 : Int) + (1 * b + (40 * i + 0))) = s := g7
  replace hag7 : (0 : Int) ≤ ((8295 : Int) + (1 * b + (40 * i + 0))) := hag7
  replace g7 : dV (R 58) b (i) = s := hF (R := R 58) g7 (ad_8 b i)
  show hV _ _ _ _ _ [b, many, ic, under, pc, x, y, h, b_, many_, ic_, under_, pc_, x_, y_, h_, i, k, s]
  refine hv2 (fun a hag8 g8 => ?_)
  replace g8 : R 58 ((39112 : Int) + (1 * b + (16 * s + 0))) = a := g8
  replace hag8 : (0 : Int) ≤ ((39112 : Int) + (1 * b + (16 * s + 0))) := hag8
  replace g8 : mM (R 58) b (s) = a := hF (R := R 58) g8 (ad_71 b s)
  show hV _ _ _ _ _ [b, many, ic, under, pc, x, y, h, b_, many_, ic_, under_, pc_, x_, y_, h_, i, k, s, a]
  refine hv13 (fun g9 => ?_)
  replace g9 : ((0 : Int) + (1 * a + 0)) = ((0 : Int) + (1 * many_ + 0)) := g9
  refine hv2 (fun c hag10 g10 => ?_)
  replace g10 : R 58 ((39113 : Int) + (1 * b + (16 * s + 0))) = c := g10
  replace hag10 : (0 : Int) ≤ ((39113 : Int) + (1 * b + (16 * s + 0))) := hag10
  replace g10 : mI (R 58) b (s) = c := hF (R := R 58) g10 (ad_72 b s)
  show hV _ _ _ _ _ [b, many, ic, under, pc, x, y, h, b_, many_, ic_, under_, pc_, x_, y_, h_, i, k, s, a, c]
  refine hv13 (fun g11 => ?_)
  replace g11 : ((0 : Int) + (1 * c + 0)) = ((0 : Int) + (1 * ic_ + 0)) := g11
  refine hv13 (fun g12 => ?_)
  replace g12 : ((0 : Int) + (1 * pc_ + 0)) = ((0 : Int) + (1 * pc + 0)) := g12
  refine hvC ?_
  refine rqi_12_8 (?_ : q12 ((0 : Int) + (1 * b + 0)) ((0 : Int) + (1 * many_ + 0)) ((0 : Int) + (1 * ic_ + 0)) ((0 : Int) + 0) ((0 : Int) + (1 * pc + 0)) ((-1 : Int) + 0) ((-1 : Int) + 0) ((1 : Int) + 0) (R 58))
  simp only [Int.zero_add, Int.one_mul, Int.add_zero]
  obtain ⟨z, hD, hh⟩ := hq
  have e0 : under = 0 := by omega
  rw [e0] at hD
  have t := dm_mark hD (i := i) (by omega) (by omega) (by omega)
  rw [show dV (R 58) b i = s by omega, show mM (R 58) b s = many_ by omega, show mI (R 58) b s = ic_ by omega] at t
  exact ⟨z, t, fun _ c => by omega⟩

theorem tX_6_0_0 : vX rQ 6 hx_6_0_0 := by
  intro R G ps idx val hl hq
  obtain rfl := hl0 hl
  replace hq : q6 [] (R 58) := rqo_6_0 hq
  refine hv8 (fun q r g0 g0a g0b => ?_)
  replace g0 : ((0 : Int) + (1 * idx + 0)) = ((39700 : Nat) : Int) * q + r := g0
  replace g0b : r < ((39700 : Nat) : Int) := g0b
  show hV _ _ _ _ _ [idx, val, q, r]
  refine hvC ?_
  refine ⟨rqi_6_1 (?_ : q6 [((0 : Int) + (39700 * q + 0))] (R 58)), trivial⟩
  try simp only [Int.zero_add, Int.one_mul, Int.add_zero]
  intro z z0 z1 hx
  exact hq z z0 z1 (fun x hm => by cases hm)

theorem tX_10_0_0 : vX rQ 10 hx_10_0_0 := by
  intro R G ps idx val hl hq
  obtain rfl := hl0 hl
  replace hq : q10 [] (R 58) := rqo_10_0 hq
  refine hv8 (fun q r g0 g0a g0b => ?_)
  replace g0 : ((0 : Int) + (1 * idx + 0)) = ((39700 : Nat) : Int) * q + r := g0
  replace g0b : r < ((39700 : Nat) : Int) := g0b
  show hV _ _ _ _ _ [idx, val, q, r]
  refine hv0 (fun g1 => ?_)
  replace g1 : (0 : Int) ≤ ((5 : Int) + ((-1) * q + 0)) := g1
  refine hv0 (fun g2 => ?_)
  replace g2 : (0 : Int) ≤ ((0 : Int) + (1 * q + 0)) := g2
  refine hv2 (fun many hag3 g3 => ?_)
  replace g3 : R 58 ((4 : Int) + (39700 * q + 0)) = many := g3
  replace hag3 : (0 : Int) ≤ ((4 : Int) + (39700 * q + 0)) := hag3
  replace g3 : R 58 ((39700 * q) + 4) = many := hF (R := R 58) g3 (ad_80 q)
  show hV _ _ _ _ _ [idx, val, q, r, many]
  refine hv2 (fun ic hag4 g4 => ?_)
  replace g4 : R 58 ((5 : Int) + (39700 * q + 0)) = ic := g4
  replace hag4 : (0 : Int) ≤ ((5 : Int) + (39700 * q + 0)) := hag4
  replace g4 : R 58 ((39700 * q) + 5) = ic := hF (R := R 58) g4 (ad_81 q)
  show hV _ _ _ _ _ [idx, val, q, r, many, ic]
  refine hv2 (fun under hag5 g5 => ?_)
  replace g5 : R 58 ((24 : Int) + (39700 * q + 0)) = under := g5
  replace hag5 : (0 : Int) ≤ ((24 : Int) + (39700 * q + 0)) := hag5
  replace g5 : R 58 ((39700 * q) + 24) = under := hF (R := R 58) g5 (ad_82 q)
  show hV _ _ _ _ _ [idx, val, q, r, many, ic, under]
  refine hv2 (fun pc hag6 g6 => ?_)
  replace g6 : R 58 ((17 : Int) + (39700 * q + 0)) = pc := g6
  replace hag6 : (0 : Int) ≤ ((17 : Int) + (39700 * q + 0)) := hag6
  replace g6 : R 58 ((39700 * q) + 17) = pc := hF (R := R 58) g6 (ad_83 q)
  show hV _ _ _ _ _ [idx, val, q, r, many, ic, under, pc]
  refine hvC ?_
  refine ⟨rqi_10_1 (?_ : q10 [((0 : Int) + (39700 * q + 0))] (R 58)), rqi_12_8 (?_ : q12 ((0 : Int) + (39700 * q + 0)) ((0 : Int) + (1 * many + 0)) ((0 : Int) + (1 * ic + 0)) ((0 : Int) + (1 * under + 0)) ((0 : Int) + (1 * pc + 0)) ((-1 : Int) + 0) ((-1 : Int) + 0) ((1 : Int) + 0) (R 58)), trivial⟩
  try simp only [Int.zero_add, Int.one_mul, Int.add_zero]
  · intro z z0 z1 hx
    exact hq z z0 z1 (fun x hx => by cases hx)
  · simp only [Int.zero_add, Int.one_mul, Int.add_zero]
    obtain ⟨hD, hH⟩ := hq q (by omega) (by omega) (fun x hx => by cases hx)
    rw [show R 58 (39700 * q + 4) = many by omega, show R 58 (39700 * q + 5) = ic by omega, show R 58 (39700 * q + 24) = under by omega, show R 58 (39700 * q + 17) = pc by omega] at hD
    rw [show R 58 (39700 * q + 24) = under by omega] at hH
    exact ⟨⟨q, by omega, by omega, rfl⟩, hD, fun _ c => hH c⟩

theorem tX_12_8_0 : vX rQ 12 hx_12_8_0 := by
  intro R G ps idx val hl hq
  obtain ⟨b, many, ic, under, pc, x, y, h, rfl⟩ := hl8 hl
  replace hq : q12 b many ic under pc x y h (R 58) := rqo_12_8 hq
  refine hv8 (fun q r g0 g0a g0b => ?_)
  replace g0 : ((0 : Int) + (1 * idx + 0)) = ((39700 : Nat) : Int) * q + r := g0
  replace g0b : r < ((39700 : Nat) : Int) := g0b
  show hV _ _ _ _ _ [b, many, ic, under, pc, x, y, h, idx, val, q, r]
  refine hv13 (fun g1 => ?_)
  replace g1 : ((0 : Int) + (39700 * q + 0)) = ((0 : Int) + (1 * b + 0)) := g1
  refine hv0 (fun g2 => ?_)
  replace g2 : (0 : Int) ≤ ((-37420 : Int) + (1 * r + 0)) := g2
  refine hv0 (fun g3 => ?_)
  replace g3 : (0 : Int) ≤ ((37611 : Int) + ((-1) * r + 0)) := g3
  refine hv8 (fun p po g4 g4a g4b => ?_)
  replace g4 : ((-37420 : Int) + (1 * r + 0)) = ((6 : Nat) : Int) * p + po := g4
  replace g4b : po < ((6 : Nat) : Int) := g4b
  show hV _ _ _ _ _ [b, many, ic, under, pc, x, y, h, idx, val, q, r, p, po]
  refine hv0 (fun g5 => ?_)
  replace g5 : (0 : Int) ≤ ((-1 : Int) + (1 * pc + ((-1) * p + 0))) := g5
  refine hv0 (fun g6 => ?_)
  replace g6 : (0 : Int) ≤ ((-1 : Int) + (1 * pc + 0)) := g6
  refine hv2 (fun k hag7 g7 => ?_)
  replace g7 : R 58 ((37414 : Int) + (1 * b + (6 * pc + 0))) = k := g7
  replace hag7 : (0 : Int) ≤ ((37414 : Int) + (1 * b + (6 * pc + 0))) := hag7
  replace g7 : pK (R 58) b (pc - 1) = k := hF (R := R 58) g7 (ad_10 b pc)
  show hV _ _ _ _ _ [b, many, ic, under, pc, x, y, h, idx, val, q, r, p, po, k]
  refine hv10 (fun g8 => ?_)
  replace g8 : ((0 : Int) + (1 * k + 0)) = (2 : Int) ∨ ((0 : Int) + (1 * k + 0)) = (4 : Int) := g8
  refine hv2 (fun l hag9 g9 => ?_)
  replace g9 : R 58 ((37415 : Int) + (1 * b + (6 * pc + 0))) = l := g9
  replace hag9 : (0 : Int) ≤ ((37415 : Int) + (1 * b + (6 * pc + 0))) := hag9
  replace g9 : pP (R 58) b (pc - 1) = l := hF (R := R 58) g9 (ad_11 b pc)
  show hV _ _ _ _ _ [b, many, ic, under, pc, x, y, h, idx, val, q, r, p, po, k, l]
  refine hvC ?_
  refine ⟨rqi_12_8 (?_ : q12 ((0 : Int) + (1 * b + 0)) ((0 : Int) + (1 * many + 0)) ((0 : Int) + (1 * ic + 0)) ((0 : Int) + (1 * under + 0)) ((-1 : Int) + (1 * pc + 0)) ((0 : Int) + (1 * x + 0)) ((0 : Int) + (1 * l + 0)) ((0 : Int) + (1 * h + 0)) (R 58)), trivial⟩
  try simp only [Int.zero_add, Int.one_mul, Int.add_zero]
  obtain ⟨z, hD, hh⟩ := hq
  rw [show (-1 : Int) + pc = pc - 1 by omega] at *
  exact ⟨z, dm_drop0 hD (by omega) (by omega) (Or.inr (Or.inr (by omega))), hh⟩

theorem tX_12_8_1 : vX rQ 12 hx_12_8_1 := by
  intro R G ps idx val hl hq
  obtain ⟨b, many, ic, under, pc, x, y, h, rfl⟩ := hl8 hl
  replace hq : q12 b many ic under pc x y h (R 58) := rqo_12_8 hq
  refine hv8 (fun q r g0 g0a g0b => ?_)
  replace g0 : ((0 : Int) + (1 * idx + 0)) = ((39700 : Nat) : Int) * q + r := g0
  replace g0b : r < ((39700 : Nat) : Int) := g0b
  show hV _ _ _ _ _ [b, many, ic, under, pc, x, y, h, idx, val, q, r]
  refine hv13 (fun g1 => ?_)
  replace g1 : ((0 : Int) + (39700 * q + 0)) = ((0 : Int) + (1 * b + 0)) := g1
  refine hv0 (fun g2 => ?_)
  replace g2 : (0 : Int) ≤ ((-37420 : Int) + (1 * r + 0)) := g2
  refine hv0 (fun g3 => ?_)
  replace g3 : (0 : Int) ≤ ((37611 : Int) + ((-1) * r + 0)) := g3
  refine hv8 (fun p po g4 g4a g4b => ?_)
  replace g4 : ((-37420 : Int) + (1 * r + 0)) = ((6 : Nat) : Int) * p + po := g4
  replace g4b : po < ((6 : Nat) : Int) := g4b
  show hV _ _ _ _ _ [b, many, ic, under, pc, x, y, h, idx, val, q, r, p, po]
  refine hv0 (fun g5 => ?_)
  replace g5 : (0 : Int) ≤ ((-1 : Int) + (1 * pc + ((-1) * p + 0))) := g5
  refine hv0 (fun g6 => ?_)
  replace g6 : (0 : Int) ≤ ((-1 : Int) + (1 * pc + 0)) := g6
  refine hv2 (fun l hag7 g7 => ?_)
  replace g7 : R 58 ((37415 : Int) + (1 * b + (6 * pc + 0))) = l := g7
  replace hag7 : (0 : Int) ≤ ((37415 : Int) + (1 * b + (6 * pc + 0))) := hag7
  replace g7 : pP (R 58) b (pc - 1) = l := hF (R := R 58) g7 (ad_11 b pc)
  show hV _ _ _ _ _ [b, many, ic, under, pc, x, y, h, idx, val, q, r, p, po, l]
  refine hv13 (fun g8 => ?_)
  replace g8 : ((0 : Int) + (1 * x + 0)) = ((0 : Int) + (1 * l + 0)) := g8
  refine hv5 (fun g9 => ?_)
  replace g9 : q25 ((0 : Int) + (1 * b + 0)) ((-1 : Int) + (1 * pc + 0)) (R 58) := rqo_25_2 g9
  simp only [Int.zero_add, Int.one_mul, Int.add_zero] at g9
  refine hvC ?_
  refine ⟨rqi_12_8 (?_ : q12 ((0 : Int) + (1 * b + 0)) ((0 : Int) + (1 * many + 0)) ((0 : Int) + (1 * ic + 0)) ((0 : Int) + (1 * under + 0)) ((-1 : Int) + (1 * pc + 0)) ((0 : Int) + (1 * x + 0)) ((0 : Int) + (1 * y + 0)) ((0 : Int) + (1 * h + 0)) (R 58)), trivial⟩
  try simp only [Int.zero_add, Int.one_mul, Int.add_zero]
  obtain ⟨z, hD, hh⟩ := hq
  rw [show (-1 : Int) + pc = pc - 1 by omega] at *
  have k3 := g9
  unfold q25 at k3
  exact ⟨z, dm_dropx hD (by omega) (by omega) (by omega), hh⟩

theorem tX_12_8_2 : vX rQ 12 hx_12_8_2 := by
  intro R G ps idx val hl hq
  obtain ⟨b, many, ic, under, pc, x, y, h, rfl⟩ := hl8 hl
  replace hq : q12 b many ic under pc x y h (R 58) := rqo_12_8 hq
  refine hv8 (fun q r g0 g0a g0b => ?_)
  replace g0 : ((0 : Int) + (1 * idx + 0)) = ((39700 : Nat) : Int) * q + r := g0
  replace g0b : r < ((39700 : Nat) : Int) := g0b
  show hV _ _ _ _ _ [b, many, ic, under, pc, x, y, h, idx, val, q, r]
  refine hv13 (fun g1 => ?_)
  replace g1 : ((0 : Int) + (39700 * q + 0)) = ((0 : Int) + (1 * b + 0)) := g1
  refine hv0 (fun g2 => ?_)
  replace g2 : (0 : Int) ≤ ((-37420 : Int) + (1 * r + 0)) := g2
  refine hv0 (fun g3 => ?_)
  replace g3 : (0 : Int) ≤ ((37611 : Int) + ((-1) * r + 0)) := g3
  refine hv8 (fun p po g4 g4a g4b => ?_)
  replace g4 : ((-37420 : Int) + (1 * r + 0)) = ((6 : Nat) : Int) * p + po := g4
  replace g4b : po < ((6 : Nat) : Int) := g4b
  show hV _ _ _ _ _ [b, many, ic, under, pc, x, y, h, idx, val, q, r, p, po]
  refine hv0 (fun g5 => ?_)
  replace g5 : (0 : Int) ≤ ((-1 : Int) + (1 * pc + ((-1) * p + 0))) := g5
  refine hv0 (fun g6 => ?_)
  replace g6 : (0 : Int) ≤ ((-1 : Int) + (1 * pc + 0)) := g6
  refine hv2 (fun l hag7 g7 => ?_)
  replace g7 : R 58 ((37415 : Int) + (1 * b + (6 * pc + 0))) = l := g7
  replace hag7 : (0 : Int) ≤ ((37415 : Int) + (1 * b + (6 * pc + 0))) := hag7
  replace g7 : pP (R 58) b (pc - 1) = l := hF (R := R 58) g7 (ad_11 b pc)
  show hV _ _ _ _ _ [b, many, ic, under, pc, x, y, h, idx, val, q, r, p, po, l]
  refine hv5 (fun g8 => ?_)
  replace g8 : q25 ((0 : Int) + (1 * b + 0)) ((-1 : Int) + (1 * pc + 0)) (R 58) := rqo_25_2 g8
  simp only [Int.zero_add, Int.one_mul, Int.add_zero] at g8
  refine hv2 (fun n hag9 g9 => ?_)
  replace g9 : R 58 ((22693 : Int) + (1 * b + (2 * l + 0))) = n := g9
  replace hag9 : (0 : Int) ≤ ((22693 : Int) + (1 * b + (2 * l + 0))) := hag9
  replace g9 : iN (R 58) b (l) = n := hF (R := R 58) g9 (ad_58 b l)
  show hV _ _ _ _ _ [b, many, ic, under, pc, x, y, h, idx, val, q, r, p, po, l, n]
  refine hv5 (fun g10 => ?_)
  replace g10 : dRs (R 58) ((0 : Int) + (1 * b + 0)) ((0 : Int) + (1 * ic + 0)) ((-1 : Int) + (1 * pc + 0)) ((0 : Int) + (1 * n + 0)) := rqo_18_4 g10
  simp only [Int.zero_add, Int.one_mul, Int.add_zero] at g10
  refine hv2 (fun kx hag11 g11 => ?_)
  replace g11 : R 58 ((22692 : Int) + (1 * b + (2 * x + 0))) = kx := g11
  replace hag11 : (0 : Int) ≤ ((22692 : Int) + (1 * b + (2 * x + 0))) := hag11
  replace g11 : iK (R 58) b (x) = kx := hF (R := R 58) g11 (ad_12 b x)
  show hV _ _ _ _ _ [b, many, ic, under, pc, x, y, h, idx, val, q, r, p, po, l, n, kx]
  refine hv1 (fun g12 => ?_)
  replace g12 : ((0 : Int) + (1 * kx + 0)) ≠ ((0 : Int) + 0) := g12
  refine hvC ?_
  refine ⟨rqi_12_8 (?_ : q12 ((0 : Int) + (1 * b + 0)) ((0 : Int) + (1 * many + 0)) ((0 : Int) + (1 * ic + 0)) ((0 : Int) + (1 * under + 0)) ((-1 : Int) + (1 * pc + 0)) ((0 : Int) + (1 * x + 0)) ((0 : Int) + (1 * y + 0)) ((0 : Int) + (1 * h + 0)) (R 58)), trivial⟩
  try simp only [Int.zero_add, Int.one_mul, Int.add_zero]
  obtain ⟨z, hD, hh⟩ := hq
  rw [show (-1 : Int) + pc = pc - 1 by omega] at *
  have k3 := g8
  unfold q25 at k3
  have e1 : pP (R 58) b (pc - 1) = l := by omega
  have e2 : iN (R 58) b l = n := by omega
  exact ⟨z, dm_dropr hD (by omega) (by omega) (by rw [e1, e2]; exact g10) (Or.inr (fun _ => by omega)), hh⟩

theorem tS_1_0_0 : vS rQ 1 hs_1_0_0 := by
  refine ⟨fun _ => ?_, fun h => absurd h (by decide)⟩
  intro R G ps idx val hl i0 i1 hq
  replace i1 : idx < 238220 := i1
  obtain rfl := hl0 hl
  replace hq : qT bs0 c1 [] (R 58) := rqo_1_0 hq
  refine hv8 (fun q r g0 g0a g0b => ?_)
  replace g0 : ((-1 : Int) + (1 * idx + 0)) = ((39700 : Nat) : Int) * q + r := g0
  replace g0b : r < ((39700 : Nat) : Int) := g0b
  show hV _ _ _ _ _ [idx, val, q, r]
  refine hv0 (fun g1 => ?_)
  replace g1 : (0 : Int) ≤ ((5 : Int) + ((-1) * q + 0)) := g1
  refine hv0 (fun g2 => ?_)
  replace g2 : (0 : Int) ≤ ((0 : Int) + (1 * q + 0)) := g2
  refine hv13 (fun g3 => ?_)
  replace g3 : ((0 : Int) + (1 * r + 0)) = ((0 : Int) + 0) := g3
  refine hv0 (fun g4 => ?_)
  replace g4 : (0 : Int) ≤ ((-2 : Int) + (1 * val + 0)) := g4
  refine hvC ?_
  refine ⟨rqi_1_0 (?_ : qT bs0 c1 [] ((hupR R 58 idx val) 58)), trivial⟩
  try simp only [Int.zero_add, Int.one_mul, Int.add_zero]
  intro z E hb hx
  by_cases hE : E = idx - 1
  · unfold c1
    have w0 : hupR R 58 idx val 58 (E + 35) = R 58 (E + 35) := hup_n (by omega)
    have w1 : hupR R 58 idx val 58 (E + 1) = val := hup_y (by omega)
    omega
  · have hh := hq z E hb (fun x hm => by cases hm)
    unfold bs0 at hb
    obtain ⟨z0, z1, ze⟩ := hb
    unfold c1 at *
    have w0 : hupR R 58 idx val 58 (E + 35) = R 58 (E + 35) := hup_n (by omega)
    have w1 : hupR R 58 idx val 58 (E + 1) = R 58 (E + 1) := hup_n (by omega)
    rw [w0, w1]
    exact hh

theorem tS_1_1_0 : vS rQ 1 hs_1_1_0 := by
  refine ⟨fun _ => ?_, fun h => absurd h (by decide)⟩
  intro R G ps idx val hl i0 i1 hq
  replace i1 : idx < 238220 := i1
  obtain ⟨x0, rfl⟩ := hl1 hl
  replace hq : qT bs0 c1 [x0] (R 58) := rqo_1_1 hq
  refine hv13 (fun g0 => ?_)
  replace g0 : ((-35 : Int) + (1 * idx + 0)) = ((0 : Int) + (1 * x0 + 0)) := g0
  refine hv8 (fun q r g1 g1a g1b => ?_)
  replace g1 : ((-35 : Int) + (1 * idx + 0)) = ((39700 : Nat) : Int) * q + r := g1
  replace g1b : r < ((39700 : Nat) : Int) := g1b
  show hV _ _ _ _ _ [x0, idx, val, q, r]
  refine hv0 (fun g2 => ?_)
  replace g2 : (0 : Int) ≤ ((5 : Int) + ((-1) * q + 0)) := g2
  refine hv0 (fun g3 => ?_)
  replace g3 : (0 : Int) ≤ ((0 : Int) + (1 * q + 0)) := g3
  refine hv13 (fun g4 => ?_)
  replace g4 : ((0 : Int) + (1 * r + 0)) = ((0 : Int) + 0) := g4
  refine hvC ?_
  refine ⟨rqi_1_1 (?_ : qT bs0 c1 [((0 : Int) + (1 * x0 + 0))] ((hupR R 58 idx val) 58)), trivial⟩
  try simp only [Int.zero_add, Int.one_mul, Int.add_zero]
  intro z E hb hx
  by_cases hE : E = idx - 35
  · exact absurd (by omega) (hx x0 (by simp))
  · have hh := hq z E hb (fun x hm => by have := List.mem_singleton.mp hm; first | omega | (rw [this]; exact hx x0 (by simp)))
    unfold bs0 at hb
    obtain ⟨z0, z1, ze⟩ := hb
    unfold c1 at *
    have w0 : hupR R 58 idx val 58 (E + 35) = R 58 (E + 35) := hup_n (by omega)
    have w1 : hupR R 58 idx val 58 (E + 1) = R 58 (E + 1) := hup_n (by omega)
    rw [w0, w1]
    exact hh

theorem tS_1_1_1 : vS rQ 1 hs_1_1_1 := by
  refine ⟨fun _ => ?_, fun h => absurd h (by decide)⟩
  intro R G ps idx val hl i0 i1 hq
  replace i1 : idx < 238220 := i1
  obtain ⟨x0, rfl⟩ := hl1 hl
  replace hq : qT bs0 c1 [x0] (R 58) := rqo_1_1 hq
  refine hv13 (fun g0 => ?_)
  replace g0 : ((-1 : Int) + (1 * idx + 0)) = ((0 : Int) + (1 * x0 + 0)) := g0
  refine hv8 (fun q r g1 g1a g1b => ?_)
  replace g1 : ((-1 : Int) + (1 * idx + 0)) = ((39700 : Nat) : Int) * q + r := g1
  replace g1b : r < ((39700 : Nat) : Int) := g1b
  show hV _ _ _ _ _ [x0, idx, val, q, r]
  refine hv0 (fun g2 => ?_)
  replace g2 : (0 : Int) ≤ ((5 : Int) + ((-1) * q + 0)) := g2
  refine hv0 (fun g3 => ?_)
  replace g3 : (0 : Int) ≤ ((0 : Int) + (1 * q + 0)) := g3
  refine hv13 (fun g4 => ?_)
  replace g4 : ((0 : Int) + (1 * r + 0)) = ((0 : Int) + 0) := g4
  refine hv0 (fun g5 => ?_)
  replace g5 : (0 : Int) ≤ ((-2 : Int) + (1 * val + 0)) := g5
  refine hvC ?_
  refine ⟨rqi_1_0 (?_ : qT bs0 c1 [] ((hupR R 58 idx val) 58)), trivial⟩
  try simp only [Int.zero_add, Int.one_mul, Int.add_zero]
  intro z E hb hx
  by_cases hE : E = idx - 1
  · unfold c1
    have w0 : hupR R 58 idx val 58 (E + 35) = R 58 (E + 35) := hup_n (by omega)
    have w1 : hupR R 58 idx val 58 (E + 1) = val := hup_y (by omega)
    omega
  · have hh := hq z E hb (fun x hm => by have := List.mem_singleton.mp hm; first | omega | (rw [this]; exact hx x0 (by simp)))
    unfold bs0 at hb
    obtain ⟨z0, z1, ze⟩ := hb
    unfold c1 at *
    have w0 : hupR R 58 idx val 58 (E + 35) = R 58 (E + 35) := hup_n (by omega)
    have w1 : hupR R 58 idx val 58 (E + 1) = R 58 (E + 1) := hup_n (by omega)
    rw [w0, w1]
    exact hh

theorem tS_2_0_0 : vS rQ 2 hs_2_0_0 := by
  refine ⟨fun _ => ?_, fun h => absurd h (by decide)⟩
  intro R G ps idx val hl i0 i1 hq
  replace i1 : idx < 238220 := i1
  obtain rfl := hl0 hl
  replace hq : qT bs0 c2 [] (R 58) := rqo_2_0 hq
  refine hv8 (fun q r g0 g0a g0b => ?_)
  replace g0 : ((-8 : Int) + (1 * idx + 0)) = ((39700 : Nat) : Int) * q + r := g0
  replace g0b : r < ((39700 : Nat) : Int) := g0b
  show hV _ _ _ _ _ [idx, val, q, r]
  refine hv0 (fun g1 => ?_)
  replace g1 : (0 : Int) ≤ ((5 : Int) + ((-1) * q + 0)) := g1
  refine hv0 (fun g2 => ?_)
  replace g2 : (0 : Int) ≤ ((0 : Int) + (1 * q + 0)) := g2
  refine hv13 (fun g3 => ?_)
  replace g3 : ((0 : Int) + (1 * r + 0)) = ((0 : Int) + 0) := g3
  refine hv0 (fun g4 => ?_)
  replace g4 : (0 : Int) ≤ ((0 : Int) + ((-1) * val + 0)) := g4
  refine hvC ?_
  refine ⟨rqi_2_0 (?_ : qT bs0 c2 [] ((hupR R 58 idx val) 58)), trivial⟩
  try simp only [Int.zero_add, Int.one_mul, Int.add_zero]
  intro z E hb hx
  by_cases hE : E = idx - 8
  · unfold c2
    have w0 : hupR R 58 idx val 58 (E + 8) = val := hup_y (by omega)
    have w1 : hupR R 58 idx val 58 (E + 24) = R 58 (E + 24) := hup_n (by omega)
    omega
  · have hh := hq z E hb (fun x hm => by cases hm)
    unfold bs0 at hb
    obtain ⟨z0, z1, ze⟩ := hb
    unfold c2 at *
    have w0 : hupR R 58 idx val 58 (E + 8) = R 58 (E + 8) := hup_n (by omega)
    have w1 : hupR R 58 idx val 58 (E + 24) = R 58 (E + 24) := hup_n (by omega)
    rw [w0, w1]
    exact hh

theorem tS_2_0_1 : vS rQ 2 hs_2_0_1 := by
  refine ⟨fun _ => ?_, fun h => absurd h (by decide)⟩
  intro R G ps idx val hl i0 i1 hq
  replace i1 : idx < 238220 := i1
  obtain rfl := hl0 hl
  replace hq : qT bs0 c2 [] (R 58) := rqo_2_0 hq
  refine hv8 (fun q r g0 g0a g0b => ?_)
  replace g0 : ((-8 : Int) + (1 * idx + 0)) = ((39700 : Nat) : Int) * q + r := g0
  replace g0b : r < ((39700 : Nat) : Int) := g0b
  show hV _ _ _ _ _ [idx, val, q, r]
  refine hv0 (fun g1 => ?_)
  replace g1 : (0 : Int) ≤ ((5 : Int) + ((-1) * q + 0)) := g1
  refine hv0 (fun g2 => ?_)
  replace g2 : (0 : Int) ≤ ((0 : Int) + (1 * q + 0)) := g2
  refine hv13 (fun g3 => ?_)
  replace g3 : ((0 : Int) + (1 * r + 0)) = ((0 : Int) + 0) := g3
  refine hv2 (fun y1 hag4 g4 => ?_)
  replace g4 : R 58 ((16 : Int) + (1 * idx + 0)) = y1 := g4
  replace hag4 : (0 : Int) ≤ ((16 : Int) + (1 * idx + 0)) := hag4
  replace g4 : R 58 (idx + 16) = y1 := hF (R := R 58) g4 (ad_84 idx)
  show hV _ _ _ _ _ [idx, val, q, r, y1]
  refine hv0 (fun g5 => ?_)
  replace g5 : (0 : Int) ≤ ((-1 : Int) + (1 * y1 + 0)) := g5
  refine hvC ?_
  refine ⟨rqi_2_0 (?_ : qT bs0 c2 [] ((hupR R 58 idx val) 58)), trivial⟩
  try simp only [Int.zero_add, Int.one_mul, Int.add_zero]
  intro z E hb hx
  by_cases hE : E = idx - 8
  · unfold c2
    have w0 : hupR R 58 idx val 58 (E + 8) = val := hup_y (by omega)
    have w1 := (hup_n (R := R) (r := 58) (a := idx) (v := val) (i := (E + 24)) (by omega)).trans (hF (R := R 58) g4 (by omega))
    omega
  · have hh := hq z E hb (fun x hm => by cases hm)
    unfold bs0 at hb
    obtain ⟨z0, z1, ze⟩ := hb
    unfold c2 at *
    have w0 : hupR R 58 idx val 58 (E + 8) = R 58 (E + 8) := hup_n (by omega)
    have w1 : hupR R 58 idx val 58 (E + 24) = R 58 (E + 24) := hup_n (by omega)
    rw [w0, w1]
    exact hh

theorem tS_2_0_2 : vS rQ 2 hs_2_0_2 := by
  refine ⟨fun _ => ?_, fun h => absurd h (by decide)⟩
  intro R G ps idx val hl i0 i1 hq
  replace i1 : idx < 238220 := i1
  obtain rfl := hl0 hl
  replace hq : qT bs0 c2 [] (R 58) := rqo_2_0 hq
  refine hv8 (fun q r g0 g0a g0b => ?_)
  replace g0 : ((-24 : Int) + (1 * idx + 0)) = ((39700 : Nat) : Int) * q + r := g0
  replace g0b : r < ((39700 : Nat) : Int) := g0b
  show hV _ _ _ _ _ [idx, val, q, r]
  refine hv0 (fun g1 => ?_)
  replace g1 : (0 : Int) ≤ ((5 : Int) + ((-1) * q + 0)) := g1
  refine hv0 (fun g2 => ?_)
  replace g2 : (0 : Int) ≤ ((0 : Int) + (1 * q + 0)) := g2
  refine hv13 (fun g3 => ?_)
  replace g3 : ((0 : Int) + (1 * r + 0)) = ((0 : Int) + 0) := g3
  refine hv2 (fun y0 hag4 g4 => ?_)
  replace g4 : R 58 ((-16 : Int) + (1 * idx + 0)) = y0 := g4
  replace hag4 : (0 : Int) ≤ ((-16 : Int) + (1 * idx + 0)) := hag4
  replace g4 : R 58 (idx - 16) = y0 := hF (R := R 58) g4 (ad_85 idx)
  show hV _ _ _ _ _ [idx, val, q, r, y0]
  refine hv0 (fun g5 => ?_)
  replace g5 : (0 : Int) ≤ ((0 : Int) + ((-1) * y0 + 0)) := g5
  refine hvC ?_
  refine ⟨rqi_2_0 (?_ : qT bs0 c2 [] ((hupR R 58 idx val) 58)), trivial⟩
  try simp only [Int.zero_add, Int.one_mul, Int.add_zero]
  intro z E hb hx
  by_cases hE : E = idx - 24
  · unfold c2
    have w0 := (hup_n (R := R) (r := 58) (a := idx) (v := val) (i := (E + 8)) (by omega)).trans (hF (R := R 58) g4 (by omega))
    have w1 : hupR R 58 idx val 58 (E + 24) = val := hup_y (by omega)
    omega
  · have hh := hq z E hb (fun x hm => by cases hm)
    unfold bs0 at hb
    obtain ⟨z0, z1, ze⟩ := hb
    unfold c2 at *
    have w0 : hupR R 58 idx val 58 (E + 8) = R 58 (E + 8) := hup_n (by omega)
    have w1 : hupR R 58 idx val 58 (E + 24) = R 58 (E + 24) := hup_n (by omega)
    rw [w0, w1]
    exact hh

theorem tS_2_0_3 : vS rQ 2 hs_2_0_3 := by
  refine ⟨fun _ => ?_, fun h => absurd h (by decide)⟩
  intro R G ps idx val hl i0 i1 hq
  replace i1 : idx < 238220 := i1
  obtain rfl := hl0 hl
  replace hq : qT bs0 c2 [] (R 58) := rqo_2_0 hq
  refine hv8 (fun q r g0 g0a g0b => ?_)
  replace g0 : ((-24 : Int) + (1 * idx + 0)) = ((39700 : Nat) : Int) * q + r := g0
  replace g0b : r < ((39700 : Nat) : Int) := g0b
  show hV _ _ _ _ _ [idx, val, q, r]
  refine hv0 (fun g1 => ?_)
  replace g1 : (0 : Int) ≤ ((5 : Int) + ((-1) * q + 0)) := g1
  refine hv0 (fun g2 => ?_)
  replace g2 : (0 : Int) ≤ ((0 : Int) + (1 * q + 0)) := g2
  refine hv13 (fun g3 => ?_)
  replace g3 : ((0 : Int) + (1 * r + 0)) = ((0 : Int) + 0) := g3
  refine hv0 (fun g4 => ?_)
  replace g4 : (0 : Int) ≤ ((-1 : Int) + (1 * val + 0)) := g4
  refine hvC ?_
  refine ⟨rqi_2_0 (?_ : qT bs0 c2 [] ((hupR R 58 idx val) 58)), trivial⟩
  try simp only [Int.zero_add, Int.one_mul, Int.add_zero]
  intro z E hb hx
  by_cases hE : E = idx - 24
  · unfold c2
    have w0 : hupR R 58 idx val 58 (E + 8) = R 58 (E + 8) := hup_n (by omega)
    have w1 : hupR R 58 idx val 58 (E + 24) = val := hup_y (by omega)
    omega
  · have hh := hq z E hb (fun x hm => by cases hm)
    unfold bs0 at hb
    obtain ⟨z0, z1, ze⟩ := hb
    unfold c2 at *
    have w0 : hupR R 58 idx val 58 (E + 8) = R 58 (E + 8) := hup_n (by omega)
    have w1 : hupR R 58 idx val 58 (E + 24) = R 58 (E + 24) := hup_n (by omega)
    rw [w0, w1]
    exact hh

theorem tS_2_0_4 : vS rQ 2 hs_2_0_4 := by
  refine ⟨fun _ => ?_, fun h => absurd h (by decide)⟩
  intro R G ps idx val hl i0 i1 hq
  replace i1 : idx < 238220 := i1
  obtain rfl := hl0 hl
  replace hq : qT bs0 c2 [] (R 58) := rqo_2_0 hq
  refine hv8 (fun q r g0 g0a g0b => ?_)
  replace g0 : ((-24 : Int) + (1 * idx + 0)) = ((39700 : Nat) : Int) * q + r := g0
  replace g0b : r < ((39700 : Nat) : Int) := g0b
  show hV _ _ _ _ _ [idx, val, q, r]
  refine hv0 (fun g1 => ?_)
  replace g1 : (0 : Int) ≤ ((5 : Int) + ((-1) * q + 0)) := g1
  refine hv0 (fun g2 => ?_)
  replace g2 : (0 : Int) ≤ ((0 : Int) + (1 * q + 0)) := g2
  refine hv13 (fun g3 => ?_)
  replace g3 : ((0 : Int) + (1 * r + 0)) = ((0 : Int) + 0) := g3
  refine hvC ?_
  refine ⟨rqi_2_1 (?_ : qT bs0 c2 [((-24 : Int) + (1 * idx + 0))] ((hupR R 58 idx val) 58)), trivial⟩
  try simp only [Int.zero_add, Int.one_mul, Int.add_zero]
  intro z E hb hx
  by_cases hE : E = idx - 24
  · exact absurd (by omega) (hx (-24 + idx) (by simp))
  · have hh := hq z E hb (fun x hm => by cases hm)
    unfold bs0 at hb
    obtain ⟨z0, z1, ze⟩ := hb
    unfold c2 at *
    have w0 : hupR R 58 idx val 58 (E + 8) = R 58 (E + 8) := hup_n (by omega)
    have w1 : hupR R 58 idx val 58 (E + 24) = R 58 (E + 24) := hup_n (by omega)
    rw [w0, w1]
    exact hh

theorem tS_2_1_0 : vS rQ 2 hs_2_1_0 := by
  refine ⟨fun _ => ?_, fun h => absurd h (by decide)⟩
  intro R G ps idx val hl i0 i1 hq
  replace i1 : idx < 238220 := i1
  obtain ⟨x0, rfl⟩ := hl1 hl
  replace hq : qT bs0 c2 [x0] (R 58) := rqo_2_1 hq
  refine hv13 (fun g0 => ?_)
  replace g0 : ((-8 : Int) + (1 * idx + 0)) = ((0 : Int) + (1 * x0 + 0)) := g0
  refine hv8 (fun q r g1 g1a g1b => ?_)
  replace g1 : ((-8 : Int) + (1 * idx + 0)) = ((39700 : Nat) : Int) * q + r := g1
  replace g1b : r < ((39700 : Nat) : Int) := g1b
  show hV _ _ _ _ _ [x0, idx, val, q, r]
  refine hv0 (fun g2 => ?_)
  replace g2 : (0 : Int) ≤ ((5 : Int) + ((-1) * q + 0)) := g2
  refine hv0 (fun g3 => ?_)
  replace g3 : (0 : Int) ≤ ((0 : Int) + (1 * q + 0)) := g3
  refine hv13 (fun g4 => ?_)
  replace g4 : ((0 : Int) + (1 * r + 0)) = ((0 : Int) + 0) := g4
  refine hv0 (fun g5 => ?_)
  replace g5 : (0 : Int) ≤ ((0 : Int) + ((-1) * val + 0)) := g5
  refine hvC ?_
  refine ⟨rqi_2_0 (?_ : qT bs0 c2 [] ((hupR R 58 idx val) 58)), trivial⟩
  try simp only [Int.zero_add, Int.one_mul, Int.add_zero]
  intro z E hb hx
  by_cases hE : E = idx - 8
  · unfold c2
    have w0 : hupR R 58 idx val 58 (E + 8) = val := hup_y (by omega)
    have w1 : hupR R 58 idx val 58 (E + 24) = R 58 (E + 24) := hup_n (by omega)
    omega
  · have hh := hq z E hb (fun x hm => by have := List.mem_singleton.mp hm; first | omega | (rw [this]; exact hx x0 (by simp)))
    unfold bs0 at hb
    obtain ⟨z0, z1, ze⟩ := hb
    unfold c2 at *
    have w0 : hupR R 58 idx val 58 (E + 8) = R 58 (E + 8) := hup_n (by omega)
    have w1 : hupR R 58 idx val 58 (E + 24) = R 58 (E + 24) := hup_n (by omega)
    rw [w0, w1]
    exact hh

theorem tS_8_0_0 : vS rQ 8 hs_8_0_0 := by
  refine ⟨fun _ => ?_, fun h => absurd h (by decide)⟩
  intro R G ps idx val hl i0 i1 hq
  replace i1 : idx < 238220 := i1
  obtain rfl := hl0 hl
  replace hq : qT bs0 c8 [] (R 58) := rqo_8_0 hq
  refine hv8 (fun q r g0 g0a g0b => ?_)
  replace g0 : ((-33 : Int) + (1 * idx + 0)) = ((39700 : Nat) : Int) * q + r := g0
  replace g0b : r < ((39700 : Nat) : Int) := g0b
  show hV _ _ _ _ _ [idx, val, q, r]
  refine hv0 (fun g1 => ?_)
  replace g1 : (0 : Int) ≤ ((5 : Int) + ((-1) * q + 0)) := g1
  refine hv0 (fun g2 => ?_)
  replace g2 : (0 : Int) ≤ ((0 : Int) + (1 * q + 0)) := g2
  refine hv13 (fun g3 => ?_)
  replace g3 : ((0 : Int) + (1 * r + 0)) = ((0 : Int) + 0) := g3
  refine hv0 (fun g4 => ?_)
  replace g4 : (0 : Int) ≤ ((-16 : Int) + (1 * val + 0)) := g4
  refine hvC ?_
  refine ⟨rqi_8_0 (?_ : qT bs0 c8 [] ((hupR R 58 idx val) 58)), trivial⟩
  try simp only [Int.zero_add, Int.one_mul, Int.add_zero]
  intro z E hb hx
  by_cases hE : E = idx - 33
  · unfold c8
    have w0 : hupR R 58 idx val 58 (E + 35) = R 58 (E + 35) := hup_n (by omega)
    have w1 : hupR R 58 idx val 58 (E + 33) = val := hup_y (by omega)
    omega
  · have hh := hq z E hb (fun x hm => by cases hm)
    unfold bs0 at hb
    obtain ⟨z0, z1, ze⟩ := hb
    unfold c8 at *
    have w0 : hupR R 58 idx val 58 (E + 35) = R 58 (E + 35) := hup_n (by omega)
    have w1 : hupR R 58 idx val 58 (E + 33) = R 58 (E + 33) := hup_n (by omega)
    rw [w0, w1]
    exact hh

theorem tS_8_1_0 : vS rQ 8 hs_8_1_0 := by
  refine ⟨fun _ => ?_, fun h => absurd h (by decide)⟩
  intro R G ps idx val hl i0 i1 hq
  replace i1 : idx < 238220 := i1
  obtain ⟨x0, rfl⟩ := hl1 hl
  replace hq : qT bs0 c8 [x0] (R 58) := rqo_8_1 hq
  refine hv13 (fun g0 => ?_)
  replace g0 : ((-35 : Int) + (1 * idx + 0)) = ((0 : Int) + (1 * x0 + 0)) := g0
  refine hv8 (fun q r g1 g1a g1b => ?_)
  replace g1 : ((-35 : Int) + (1 * idx + 0)) = ((39700 : Nat) : Int) * q + r := g1
  replace g1b : r < ((39700 : Nat) : Int) := g1b
  show hV _ _ _ _ _ [x0, idx, val, q, r]
  refine hv0 (fun g2 => ?_)
  replace g2 : (0 : Int) ≤ ((5 : Int) + ((-1) * q + 0)) := g2
  refine hv0 (fun g3 => ?_)
  replace g3 : (0 : Int) ≤ ((0 : Int) + (1 * q + 0)) := g3
  refine hv13 (fun g4 => ?_)
  replace g4 : ((0 : Int) + (1 * r + 0)) = ((0 : Int) + 0) := g4
  refine hvC ?_
  refine ⟨rqi_8_1 (?_ : qT bs0 c8 [((0 : Int) + (1 * x0 + 0))] ((hupR R 58 idx val) 58)), trivial⟩
  try simp only [Int.zero_add, Int.one_mul, Int.add_zero]
  intro z E hb hx
  by_cases hE : E = idx - 35
  · exact absurd (by omega) (hx x0 (by simp))
  · have hh := hq z E hb (fun x hm => by have := List.mem_singleton.mp hm; first | omega | (rw [this]; exact hx x0 (by simp)))
    unfold bs0 at hb
    obtain ⟨z0, z1, ze⟩ := hb
    unfold c8 at *
    have w0 : hupR R 58 idx val 58 (E + 35) = R 58 (E + 35) := hup_n (by omega)
    have w1 : hupR R 58 idx val 58 (E + 33) = R 58 (E + 33) := hup_n (by omega)
    rw [w0, w1]
    exact hh

