/-! RULES: theorems (printed by tools/t63.py) -/
theorem tN_40_3_2 : vN rQ 40 hn_40_3_2 := by
  intro R G ps hl
  obtain ⟨t, c, u, rfl⟩ := hl3 hl
  refine hv0 (fun g0 => ?_)
  replace g0 : (0 : Int) ≤ ((-102 : Int) + (1 * t + 0)) := g0
  refine hv0 (fun g1 => ?_)
  replace g1 : (0 : Int) ≤ ((110 : Int) + ((-1) * t + 0)) := g1
  refine hvC ?_
  refine rqi_40_3 (?_ : q40 t c u )
  intro ho
  unfold only at ho
  omega

theorem tN_40_3_3 : vN rQ 40 hn_40_3_3 := by
  intro R G ps hl
  obtain ⟨t, c, u, rfl⟩ := hl3 hl
  refine hv0 (fun g0 => ?_)
  replace g0 : (0 : Int) ≤ ((-112 : Int) + (1 * t + 0)) := g0
  refine hv0 (fun g1 => ?_)
  replace g1 : (0 : Int) ≤ ((112 : Int) + ((-1) * t + 0)) := g1
  refine hvC ?_
  refine rqi_40_3 (?_ : q40 t c u )
  intro ho
  unfold only at ho
  omega

theorem tN_40_3_4 : vN rQ 40 hn_40_3_4 := by
  intro R G ps hl
  obtain ⟨t, c, u, rfl⟩ := hl3 hl
  refine hv0 (fun g0 => ?_)
  replace g0 : (0 : Int) ≤ ((-114 : Int) + (1 * t + 0)) := g0
  refine hv0 (fun g1 => ?_)
  replace g1 : (0 : Int) ≤ ((115 : Int) + ((-1) * t + 0)) := g1
  refine hvC ?_
  refine rqi_40_3 (?_ : q40 t c u )
  intro ho
  unfold only at ho
  omega

theorem tN_40_3_5 : vN rQ 40 hn_40_3_5 := by
  intro R G ps hl
  obtain ⟨t, c, u, rfl⟩ := hl3 hl
  refine hv0 (fun g0 => ?_)
  replace g0 : (0 : Int) ≤ ((-119 : Int) + (1 * t + 0)) := g0
  refine hv0 (fun g1 => ?_)
  replace g1 : (0 : Int) ≤ ((120 : Int) + ((-1) * t + 0)) := g1
  refine hvC ?_
  refine rqi_40_3 (?_ : q40 t c u )
  intro ho
  unfold only at ho
  omega

theorem tN_40_3_6 : vN rQ 40 hn_40_3_6 := by
  intro R G ps hl
  obtain ⟨t, c, u, rfl⟩ := hl3 hl
  refine hv0 (fun g0 => ?_)
  replace g0 : (0 : Int) ≤ ((-122 : Int) + (1 * t + 0)) := g0
  refine hv0 (fun g1 => ?_)
  replace g1 : (0 : Int) ≤ ((126 : Int) + ((-1) * t + 0)) := g1
  refine hvC ?_
  refine rqi_40_3 (?_ : q40 t c u )
  intro ho
  unfold only at ho
  omega

theorem tN_40_3_7 : vN rQ 40 hn_40_3_7 := by
  intro R G ps hl
  obtain ⟨t, c, u, rfl⟩ := hl3 hl
  refine hv0 (fun g0 => ?_)
  replace g0 : (0 : Int) ≤ ((-128 : Int) + (1 * t + 0)) := g0
  refine hv0 (fun g1 => ?_)
  replace g1 : (0 : Int) ≤ ((129 : Int) + ((-1) * t + 0)) := g1
  refine hvC ?_
  refine rqi_40_3 (?_ : q40 t c u )
  intro ho
  unfold only at ho
  omega

theorem tN_41_3_0 : vN rQ 41 hn_41_3_0 := by
  intro R G ps hl
  obtain ⟨k, n, b, rfl⟩ := hl3 hl
  refine hv4 (hm0 (fun g0 => ?_))
  replace g0 : q10 [] (R 58) := rqo_10_0 g0
  refine hmn ?_
  show hV _ _ _ _ _ [k, n, b]
  refine hv8 (fun q r0 g1 g1a g1b => ?_)
  replace g1 : ((0 : Int) + (1 * b + 0)) = ((39700 : Nat) : Int) * q + r0 := g1
  replace g1b : r0 < ((39700 : Nat) : Int) := g1b
  show hV _ _ _ _ _ [k, n, b, q, r0]
  refine hv13 (fun g2 => ?_)
  replace g2 : ((0 : Int) + (1 * r0 + 0)) = ((0 : Int) + 0) := g2
  refine hv0 (fun g3 => ?_)
  replace g3 : (0 : Int) ≤ ((5 : Int) + ((-1) * q + 0)) := g3
  refine hv0 (fun g4 => ?_)
  replace g4 : (0 : Int) ≤ ((0 : Int) + (1 * q + 0)) := g4
  refine hv2 (fun ic hag5 g5 => ?_)
  replace g5 : R 58 ((5 : Int) + (1 * b + 0)) = ic := g5
  replace hag5 : (0 : Int) ≤ ((5 : Int) + (1 * b + 0)) := hag5
  replace g5 : R 58 (b + 5) = ic := hF (R := R 58) g5 (ad_5 b)
  show hV _ _ _ _ _ [k, n, b, q, r0, ic]
  refine hv6 (fun i f g6 => ?_)
  replace g6 : R 58 (((22692 : Int) + (1 * b + 0)) + ((2 : Nat) : Int) * i) = f := g6
  replace g6 : iK (R 58) b (i) = f := hF (R := R 58) g6 (ad_20 b i)
  show hV _ _ _ _ _ [k, n, b, q, r0, ic, i, f]
  refine hv13 (fun g7 => ?_)
  replace g7 : ((0 : Int) + (1 * f + 0)) = ((0 : Int) + (1 * k + 0)) := g7
  refine hv0 (fun g8 => ?_)
  replace g8 : (0 : Int) ≤ ((0 : Int) + (1 * i + 0)) := g8
  refine hv0 (fun g9 => ?_)
  replace g9 : (0 : Int) ≤ ((-1 : Int) + (1 * ic + ((-1) * i + 0))) := g9
  refine hv2 (fun nn hag10 g10 => ?_)
  replace g10 : R 58 ((22693 : Int) + (1 * b + (2 * i + 0))) = nn := g10
  replace hag10 : (0 : Int) ≤ ((22693 : Int) + (1 * b + (2 * i + 0))) := hag10
  replace g10 : iN (R 58) b (i) = nn := hF (R := R 58) g10 (ad_21 b i)
  show hV _ _ _ _ _ [k, n, b, q, r0, ic, i, f, nn]
  refine hv13 (fun g11 => ?_)
  replace g11 : ((0 : Int) + (1 * nn + 0)) = ((0 : Int) + (1 * n + 0)) := g11
  refine hvC ?_
  refine rqi_41_3 (?_ : q41 k n b (R 58))
  have hC := g0 q (by omega) (by omega) (fun x hx => by cases hx)
  rw [show 39700 * q = b by omega] at hC
  obtain ⟨hD, -⟩ := hC
  have en : iN (R 58) b i = n := by omega
  refine ⟨fun c => ?_, fun c1 c2 => ?_⟩
  · have t := hD.2.2.2.2.2.2.2.2.1 i (by omega) (by omega) (by omega)
    rw [en] at t
    exact Or.inr (Or.inr (Or.inr t.2.2))
  · have t := li11 hD (k := i) (by omega) (by omega) (by omega)
    omega

theorem tN_50_1_0 : vN rQ 50 hn_50_1_0 := by
  intro R G ps hl
  obtain ⟨c, rfl⟩ := hl1 hl
  refine hv0 (fun g0 => ?_)
  replace g0 : (0 : Int) ≤ ((-4000 : Int) + (1 * c + 0)) := g0
  refine hvC ?_
  refine rqi_50_1 (?_ : q50 c (R 64))
  have t : cnt2 (R 64) 4000 ≤ 4000 := cnt2_le _ 4000
  unfold q50
  omega

theorem tN_60_3_0 : vN rQ 60 hn_60_3_0 := by
  intro R G ps hl
  obtain ⟨b, s, k, rfl⟩ := hl3 hl
  refine hv13 (fun g0 => ?_)
  replace g0 : ((0 : Int) + (1 * k + 0)) = ((0 : Int) + 0) := g0
  refine hvC ?_
  refine rqi_60_3 (?_ : q60 b s k (R 58))
  intro i h0 h1
  omega

theorem tN_60_3_1 : vN rQ 60 hn_60_3_1 := by
  intro R G ps hl
  obtain ⟨s, d, k, rfl⟩ := hl3 hl
  refine hv4 (hm3 (fun s2 d2 k2 g0 => ?_))
  replace g0 : q60 s2 d2 k2 (R 58) := rqo_60_3 g0
  refine hmb rfl ?_
  show hmt _ _ _ [s, d, k, s2]
  refine hmb rfl ?_
  show hmt _ _ _ [s, d, k, s2, d2]
  refine hmb rfl ?_
  show hmt _ _ _ [s, d, k, s2, d2, k2]
  refine hmn ?_
  show hV _ _ _ _ _ [s, d, k, s2, d2, k2]
  refine hv13 (fun g1 => ?_)
  replace g1 : ((0 : Int) + (1 * s2 + 0)) = ((0 : Int) + (1 * s + 0)) := g1
  refine hv13 (fun g2 => ?_)
  replace g2 : ((0 : Int) + (1 * d2 + 0)) = ((0 : Int) + (1 * d + 0)) := g2
  refine hv13 (fun g3 => ?_)
  replace g3 : ((0 : Int) + (1 * k2 + 0)) = ((-1 : Int) + (1 * k + 0)) := g3
  refine hv2 (fun a hag4 g4 => ?_)
  replace g4 : R 58 ((-1 : Int) + (1 * s + (1 * k + 0))) = a := g4
  replace hag4 : (0 : Int) ≤ ((-1 : Int) + (1 * s + (1 * k + 0))) := hag4
  replace g4 : R 58 (s + k - 1) = a := hF (R := R 58) g4 (ad_22 s k)
  show hV _ _ _ _ _ [s, d, k, s2, d2, k2, a]
  refine hv2 (fun c hag5 g5 => ?_)
  replace g5 : R 58 ((-1 : Int) + (1 * d + (1 * k + 0))) = c := g5
  replace hag5 : (0 : Int) ≤ ((-1 : Int) + (1 * d + (1 * k + 0))) := hag5
  replace g5 : R 58 (d + k - 1) = c := hF (R := R 58) g5 (ad_23 d k)
  show hV _ _ _ _ _ [s, d, k, s2, d2, k2, a, c]
  refine hv13 (fun g6 => ?_)
  replace g6 : ((0 : Int) + (1 * a + 0)) = ((0 : Int) + (1 * c + 0)) := g6
  refine hvC ?_
  refine rqi_60_3 (?_ : q60 s d k (R 58))
  intro i h0 h1
  rcases (show i < k - 1 ∨ i = k - 1 by omega) with d1 | d1
  · have t := g0 i h0 (by omega)
    rw [show s2 = s by omega, show d2 = d by omega] at t
    exact t
  · rw [show R 58 (d + i) = c from hF (R := R 58) g5 (by omega), show R 58 (s + i) = a from hF (R := R 58) g4 (by omega)]
    omega

theorem tN_61_2_0 : vN rQ 61 hn_61_2_0 := by
  intro R G ps hl
  obtain ⟨b, k, rfl⟩ := hl2 hl
  refine hv13 (fun g0 => ?_)
  replace g0 : ((0 : Int) + (1 * k + 0)) = ((0 : Int) + 0) := g0
  refine hvC ?_
  refine rqi_61_2 (?_ : q61 b k (R 58))
  intro i h0 h1
  omega

theorem tN_61_2_1 : vN rQ 61 hn_61_2_1 := by
  intro R G ps hl
  obtain ⟨b, k, rfl⟩ := hl2 hl
  refine hv4 (hm2 (fun b2 k2 g0 => ?_))
  replace g0 : q61 b2 k2 (R 58) := rqo_61_2 g0
  refine hmb rfl ?_
  show hmt _ _ _ [b, k, b2]
  refine hmb rfl ?_
  show hmt _ _ _ [b, k, b2, k2]
  refine hmn ?_
  show hV _ _ _ _ _ [b, k, b2, k2]
  refine hv13 (fun g1 => ?_)
  replace g1 : ((0 : Int) + (1 * b2 + 0)) = ((0 : Int) + (1 * b + 0)) := g1
  refine hv13 (fun g2 => ?_)
  replace g2 : ((0 : Int) + (1 * k2 + 0)) = ((-1 : Int) + (1 * k + 0)) := g2
  refine hv2 (fun a hag3 g3 => ?_)
  replace g3 : R 58 ((-1 : Int) + (1 * b + (1 * k + 0))) = a := g3
  replace hag3 : (0 : Int) ≤ ((-1 : Int) + (1 * b + (1 * k + 0))) := hag3
  replace g3 : R 58 (b + k - 1) = a := hF (R := R 58) g3 (ad_24 b k)
  show hV _ _ _ _ _ [b, k, b2, k2, a]
  refine hv13 (fun g4 => ?_)
  replace g4 : ((0 : Int) + (1 * a + 0)) = ((0 : Int) + 0) := g4
  refine hvC ?_
  refine rqi_61_2 (?_ : q61 b k (R 58))
  intro i h0 h1
  rcases (show i < k - 1 ∨ i = k - 1 by omega) with d1 | d1
  · have t := g0 i h0 (by omega)
    rw [show b2 = b by omega] at t
    exact t
  · rw [show R 58 (b + i) = a from hF (R := R 58) g3 (by omega)]
    omega

theorem tN_62_1_0 : vN rQ 62 hn_62_1_0 := by
  intro R G ps hl
  obtain ⟨b, rfl⟩ := hl1 hl
  refine hv4 (hm2 (fun b2 k2 g0 => ?_))
  replace g0 : q61 b2 k2 (R 58) := rqo_61_2 g0
  refine hmb rfl ?_
  show hmt _ _ _ [b, b2]
  refine hmb rfl ?_
  show hmt _ _ _ [b, b2, k2]
  refine hmn ?_
  show hV _ _ _ _ _ [b, b2, k2]
  refine hv13 (fun g1 => ?_)
  replace g1 : ((0 : Int) + (1 * b2 + 0)) = ((0 : Int) + (1 * b + 0)) := g1
  refine hv0 (fun g2 => ?_)
  replace g2 : (0 : Int) ≤ ((-39700 : Int) + (1 * k2 + 0)) := g2
  refine hvC ?_
  refine rqi_62_1 (?_ : q62 b (R 58))
  intro i hi
  have t := g0 i (by omega) (by omega)
  rw [show b2 = b by omega] at t
  exact t

theorem tN_71_7_0 : vN rQ 71 hn_71_7_0 := by
  intro R G ps hl
  obtain ⟨b, w, aT, n, eN, k, p, rfl⟩ := hl7 hl
  refine hv13 (fun g0 => ?_)
  replace g0 : ((0 : Int) + (1 * p + 0)) = ((0 : Int) + 0) := g0
  refine hv4 (hm7 (fun b2 w2 at2 n2 end2 k2 p2 g1 => ?_))
  replace g1 : q71 b2 w2 at2 n2 end2 k2 p2 (R 58) := rqo_71_7 g1
  refine hmb rfl ?_
  show hmt _ _ _ [b, w, aT, n, eN, k, p, b2]
  refine hmb rfl ?_
  show hmt _ _ _ [b, w, aT, n, eN, k, p, b2, w2]
  refine hmb rfl ?_
  show hmt _ _ _ [b, w, aT, n, eN, k, p, b2, w2, at2]
  refine hmb rfl ?_
  show hmt _ _ _ [b, w, aT, n, eN, k, p, b2, w2, at2, n2]
  refine hmb rfl ?_
  show hmt _ _ _ [b, w, aT, n, eN, k, p, b2, w2, at2, n2, end2]
  refine hmb rfl ?_
  show hmt _ _ _ [b, w, aT, n, eN, k, p, b2, w2, at2, n2, end2, k2]
  refine hmb rfl ?_
  show hmt _ _ _ [b, w, aT, n, eN, k, p, b2, w2, at2, n2, end2, k2, p2]
  refine hmn ?_
  show hV _ _ _ _ _ [b, w, aT, n, eN, k, p, b2, w2, at2, n2, end2, k2, p2]
  refine hv13 (fun g2 => ?_)
  replace g2 : ((0 : Int) + (1 * b2 + 0)) = ((0 : Int) + (1 * b + 0)) := g2
  refine hv13 (fun g3 => ?_)
  replace g3 : ((0 : Int) + (1 * w2 + 0)) = ((0 : Int) + (1 * w + 0)) := g3
  refine hv13 (fun g4 => ?_)
  replace g4 : ((0 : Int) + (1 * at2 + 0)) = ((0 : Int) + (1 * aT + 0)) := g4
  refine hv13 (fun g5 => ?_)
  replace g5 : ((0 : Int) + (1 * n2 + 0)) = ((0 : Int) + (1 * n + 0)) := g5
  refine hv13 (fun g6 => ?_)
  replace g6 : ((0 : Int) + (1 * end2 + 0)) = ((0 : Int) + (1 * eN + 0)) := g6
  refine hv13 (fun g7 => ?_)
  replace g7 : ((0 : Int) + (1 * k2 + 0)) = ((-1 : Int) + (1 * k + 0)) := g7
  refine hv0 (fun g8 => ?_)
  replace g8 : (0 : Int) ≤ ((0 : Int) + (1 * eN + ((-1) * k + 0))) := g8
  refine hv2 (fun d0 hag9 g9 => ?_)
  replace g9 : R 58 ((22690 : Int) + (1 * b + ((-2) * n + (2 * k + 0)))) = d0 := g9
  replace hag9 : (0 : Int) ≤ ((22690 : Int) + (1 * b + ((-2) * n + (2 * k + 0)))) := hag9
  replace g9 : iK (R 58) b (-n + k - 1) = d0 := hF (R := R 58) g9 (ad_25 b n k)
  show hV _ _ _ _ _ [b, w, aT, n, eN, k, p, b2, w2, at2, n2, end2, k2, p2, d0]
  refine hv2 (fun s0 hag10 g10 => ?_)
  replace g10 : R 58 ((22690 : Int) + (1 * b + (2 * k + 0))) = s0 := g10
  replace hag10 : (0 : Int) ≤ ((22690 : Int) + (1 * b + (2 * k + 0))) := hag10
  replace g10 : iK (R 58) b (k - 1) = s0 := hF (R := R 58) g10 (ad_18 b k)
  show hV _ _ _ _ _ [b, w, aT, n, eN, k, p, b2, w2, at2, n2, end2, k2, p2, d0, s0]
  refine hv13 (fun g11 => ?_)
  replace g11 : ((0 : Int) + (1 * d0 + 0)) = ((0 : Int) + (1 * s0 + 0)) := g11
  refine hv2 (fun d1 hag12 g12 => ?_)
  replace g12 : R 58 ((22691 : Int) + (1 * b + ((-2) * n + (2 * k + 0)))) = d1 := g12
  replace hag12 : (0 : Int) ≤ ((22691 : Int) + (1 * b + ((-2) * n + (2 * k + 0)))) := hag12
  replace g12 : iN (R 58) b (-n + k - 1) = d1 := hF (R := R 58) g12 (ad_26 b n k)
  show hV _ _ _ _ _ [b, w, aT, n, eN, k, p, b2, w2, at2, n2, end2, k2, p2, d0, s0, d1]
  refine hv2 (fun s1 hag13 g13 => ?_)
  replace g13 : R 58 ((22691 : Int) + (1 * b + (2 * k + 0))) = s1 := g13
  replace hag13 : (0 : Int) ≤ ((22691 : Int) + (1 * b + (2 * k + 0))) := hag13
  replace g13 : iN (R 58) b (k - 1) = s1 := hF (R := R 58) g13 (ad_19 b k)
  show hV _ _ _ _ _ [b, w, aT, n, eN, k, p, b2, w2, at2, n2, end2, k2, p2, d0, s0, d1, s1]
  refine hv13 (fun g14 => ?_)
  replace g14 : ((0 : Int) + (1 * d1 + 0)) = ((0 : Int) + (1 * s1 + 0)) := g14
  refine hvC ?_
  refine rqi_71_7 (?_ : q71 b w aT n eN k p (R 58))
  have q_ : p = 0 := by omega
  subst q_
  have q_ : b = b2 := by omega
  subst q_
  have q_ : w = w2 := by omega
  subst q_
  have q_ : aT = at2 := by omega
  subst q_
  have q_ : n = n2 := by omega
  subst q_
  have q_ : eN = end2 := by omega
  subst q_
  have q_ : k2 = k - 1 := by omega
  subst q_
  subst g9
  subst g10
  subst g12
  subst g13
  exact q71_s g1 (by omega) (by rw [show k - 1 - n = -n + k - 1 by omega]; omega) (by rw [show k - 1 - n = -n + k - 1 by omega]; omega)

theorem tN_71_7_1 : vN rQ 71 hn_71_7_1 := by
  intro R G ps hl
  obtain ⟨b, w, aT, n, eN, k, p, rfl⟩ := hl7 hl
  refine hv13 (fun g0 => ?_)
  replace g0 : ((0 : Int) + (1 * p + 0)) = ((0 : Int) + 0) := g0
  refine hv4 (hm0 (fun g1 => ?_))
  replace g1 : q10 [] (R 58) := rqo_10_0 g1
  refine hmn ?_
  show hV _ _ _ _ _ [b, w, aT, n, eN, k, p]
  refine hv13 (fun g2 => ?_)
  replace g2 : ((0 : Int) + (1 * k + 0)) = ((0 : Int) + (1 * aT + (1 * n + 0))) := g2
  refine hv8 (fun bq br g3 g3a g3b => ?_)
  replace g3 : ((0 : Int) + (1 * b + 0)) = ((39700 : Nat) : Int) * bq + br := g3
  replace g3b : br < ((39700 : Nat) : Int) := g3b
  show hV _ _ _ _ _ [b, w, aT, n, eN, k, p, bq, br]
  refine hv13 (fun g4 => ?_)
  replace g4 : ((0 : Int) + (1 * br + 0)) = ((0 : Int) + 0) := g4
  refine hv0 (fun g5 => ?_)
  replace g5 : (0 : Int) ≤ ((5 : Int) + ((-1) * bq + 0)) := g5
  refine hv0 (fun g6 => ?_)
  replace g6 : (0 : Int) ≤ ((0 : Int) + (1 * bq + 0)) := g6
  refine hv7 (fun i g7 => ?_)
  replace g7 : ((40 : Nat) : Int) * i = ((-8292 : Int) + ((-1) * b + (1 * w + 0))) := g7
  show hV _ _ _ _ _ [b, w, aT, n, eN, k, p, bq, br, i]
  refine hv2 (fun many hag8 g8 => ?_)
  replace g8 : R 58 ((4 : Int) + (1 * b + 0)) = many := g8
  replace hag8 : (0 : Int) ≤ ((4 : Int) + (1 * b + 0)) := hag8
  replace g8 : R 58 (b + 4) = many := hF (R := R 58) g8 (ad_4 b)
  show hV _ _ _ _ _ [b, w, aT, n, eN, k, p, bq, br, i, many]
  refine hv2 (fun under hag9 g9 => ?_)
  replace g9 : R 58 ((24 : Int) + (1 * b + 0)) = under := g9
  replace hag9 : (0 : Int) ≤ ((24 : Int) + (1 * b + 0)) := hag9
  replace g9 : R 58 (b + 24) = under := hF (R := R 58) g9 (ad_6 b)
  show hV _ _ _ _ _ [b, w, aT, n, eN, k, p, bq, br, i, many, under]
  refine hv13 (fun g10 => ?_)
  replace g10 : ((0 : Int) + (1 * under + 0)) = ((0 : Int) + 0) := g10
  refine hv2 (fun wk hag11 g11 => ?_)
  replace g11 : R 58 ((8292 : Int) + (1 * b + (40 * i + 0))) = wk := g11
  replace hag11 : (0 : Int) ≤ ((8292 : Int) + (1 * b + (40 * i + 0))) := hag11
  replace g11 : dK (R 58) b (i) = wk := hF (R := R 58) g11 (ad_27 b i)
  show hV _ _ _ _ _ [b, w, aT, n, eN, k, p, bq, br, i, many, under, wk]
  refine hv13 (fun g12 => ?_)
  replace g12 : ((0 : Int) + (1 * wk + 0)) = ((1 : Int) + 0) := g12
  refine hv2 (fun wi hag13 g13 => ?_)
  replace g13 : R 58 ((8305 : Int) + (1 * b + (40 * i + 0))) = wi := g13
  replace hag13 : (0 : Int) ≤ ((8305 : Int) + (1 * b + (40 * i + 0))) := hag13
  replace g13 : dI (R 58) b (i) = wi := hF (R := R 58) g13 (ad_28 b i)
  show hV _ _ _ _ _ [b, w, aT, n, eN, k, p, bq, br, i, many, under, wk, wi]
  refine hv13 (fun g14 => ?_)
  replace g14 : ((0 : Int) + (1 * wi + 0)) = ((0 : Int) + 0) := g14
  refine hv2 (fun wj hag15 g15 => ?_)
  replace g15 : R 58 ((8306 : Int) + (1 * b + (40 * i + 0))) = wj := g15
  replace hag15 : (0 : Int) ≤ ((8306 : Int) + (1 * b + (40 * i + 0))) := hag15
  replace g15 : dJ (R 58) b (i) = wj := hF (R := R 58) g15 (ad_29 b i)
  show hV _ _ _ _ _ [b, w, aT, n, eN, k, p, bq, br, i, many, under, wk, wi, wj]
  refine hv13 (fun g16 => ?_)
  replace g16 : ((0 : Int) + (1 * wj + 0)) = ((0 : Int) + 0) := g16
  refine hv0 (fun g17 => ?_)
  replace g17 : (0 : Int) ≤ ((-1 : Int) + ((-1) * i + (1 * many + 0))) := g17
  refine hv0 (fun g18 => ?_)
  replace g18 : (0 : Int) ≤ ((0 : Int) + (1 * i + 0)) := g18
  refine hv2 (fun V hag19 g19 => ?_)
  replace g19 : R 58 ((8295 : Int) + (1 * b + (40 * i + 0))) = V := g19
  replace hag19 : (0 : Int) ≤ ((8295 : Int) + (1 * b + (40 * i + 0))) := hag19
  replace g19 : dV (R 58) b (i) = V := hF (R := R 58) g19 (ad_8 b i)
  show hV _ _ _ _ _ [b, w, aT, n, eN, k, p, bq, br, i, many, under, wk, wi, wj, V]
  refine hv2 (fun N hag20 g20 => ?_)
  replace g20 : R 58 ((8296 : Int) + (1 * b + (40 * i + 0))) = N := g20
  replace hag20 : (0 : Int) ≤ ((8296 : Int) + (1 * b + (40 * i + 0))) := hag20
  replace g20 : dL (R 58) b (i) = N := hF (R := R 58) g20 (ad_9 b i)
  show hV _ _ _ _ _ [b, w, aT, n, eN, k, p, bq, br, i, many, under, wk, wi, wj, V, N]
  refine hv13 (fun g21 => ?_)
  replace g21 : ((0 : Int) + (1 * V + (1 * N + 0))) = ((0 : Int) + (1 * eN + 0)) := g21
  refine hv0 (fun g22 => ?_)
  replace g22 : (0 : Int) ≤ ((0 : Int) + (1 * aT + ((-1) * V + 0))) := g22
  refine hv0 (fun g23 => ?_)
  replace g23 : (0 : Int) ≤ ((-1 : Int) + ((-1) * aT + ((-1) * n + (1 * eN + 0)))) := g23
  refine hv0 (fun g24 => ?_)
  replace g24 : (0 : Int) ≤ ((-1 : Int) + (1 * n + 0)) := g24
  refine hvC ?_
  refine rqi_71_7 (?_ : q71 b w aT n eN k p (R 58))
  have q_ : p = 0 := by omega
  subst q_
  have hC := g1 bq (by omega) (by omega) (fun x hx => by cases hx)
  rw [show 39700 * bq = b by omega] at hC
  rw [show k = aT + n by omega]
  exact q71_0 (i := i) ⟨⟨bq, by omega, by omega, by omega⟩, by omega, hC, by omega, by omega, by omega, by omega, by omega, by omega, by omega, by omega, by omega, by omega⟩

theorem tN_72_8_0 : vN rQ 72 hn_72_8_0 := by
  intro R G ps hl
  obtain ⟨b, w, aT, n, eN, k, p, old, rfl⟩ := hl8 hl
  refine hv13 (fun g0 => ?_)
  replace g0 : ((0 : Int) + (1 * p + 0)) = ((0 : Int) + 0) := g0
  refine hv4 (hm8 (fun b2 w2 at2 n2 end2 k2 p2 o2 g1 => ?_))
  replace g1 : q72 b2 w2 at2 n2 end2 k2 p2 o2 (R 58) := rqo_72_8 g1
  refine hmb rfl ?_
  show hmt _ _ _ [b, w, aT, n, eN, k, p, old, b2]
  refine hmb rfl ?_
  show hmt _ _ _ [b, w, aT, n, eN, k, p, old, b2, w2]
  refine hmb rfl ?_
  show hmt _ _ _ [b, w, aT, n, eN, k, p, old, b2, w2, at2]
  refine hmb rfl ?_
  show hmt _ _ _ [b, w, aT, n, eN, k, p, old, b2, w2, at2, n2]
  refine hmb rfl ?_
  show hmt _ _ _ [b, w, aT, n, eN, k, p, old, b2, w2, at2, n2, end2]
  refine hmb rfl ?_
  show hmt _ _ _ [b, w, aT, n, eN, k, p, old, b2, w2, at2, n2, end2, k2]
  refine hmb rfl ?_
  show hmt _ _ _ [b, w, aT, n, eN, k, p, old, b2, w2, at2, n2, end2, k2, p2]
  refine hmb rfl ?_
  show hmt _ _ _ [b, w, aT, n, eN, k, p, old, b2, w2, at2, n2, end2, k2, p2, o2]
  refine hmn ?_
  show hV _ _ _ _ _ [b, w, aT, n, eN, k, p, old, b2, w2, at2, n2, end2, k2, p2, o2]
  refine hv13 (fun g2 => ?_)
  replace g2 : ((0 : Int) + (1 * b2 + 0)) = ((0 : Int) + (1 * b + 0)) := g2
  refine hv13 (fun g3 => ?_)
  replace g3 : ((0 : Int) + (1 * w2 + 0)) = ((0 : Int) + (1 * w + 0)) := g3
  refine hv13 (fun g4 => ?_)
  replace g4 : ((0 : Int) + (1 * at2 + 0)) = ((0 : Int) + (1 * aT + 0)) := g4
  refine hv13 (fun g5 => ?_)
  replace g5 : ((0 : Int) + (1 * n2 + 0)) = ((0 : Int) + (1 * n + 0)) := g5
  refine hv13 (fun g6 => ?_)
  replace g6 : ((0 : Int) + (1 * end2 + 0)) = ((0 : Int) + (1 * eN + 0)) := g6
  refine hv13 (fun g7 => ?_)
  replace g7 : ((0 : Int) + (1 * k2 + 0)) = ((-1 : Int) + (1 * k + 0)) := g7
  refine hv0 (fun g8 => ?_)
  replace g8 : (0 : Int) ≤ ((0 : Int) + ((-1) * n + (1 * eN + ((-1) * k + 0)))) := g8
  refine hv13 (fun g9 => ?_)
  replace g9 : ((0 : Int) + (1 * p2 + 0)) = ((0 : Int) + 0) := g9
  refine hv2 (fun kk hag10 g10 => ?_)
  replace g10 : R 58 ((22690 : Int) + (1 * b + (2 * k + 0))) = kk := g10
  replace hag10 : (0 : Int) ≤ ((22690 : Int) + (1 * b + (2 * k + 0))) := hag10
  replace g10 : iK (R 58) b (k - 1) = kk := hF (R := R 58) g10 (ad_18 b k)
  show hV _ _ _ _ _ [b, w, aT, n, eN, k, p, old, b2, w2, at2, n2, end2, k2, p2, o2, kk]
  refine hv5 (fun g11 => ?_)
  replace g11 : ¬ ild ((0 : Int) + (1 * kk + 0)) := rqo_94_1 g11
  simp only [Int.zero_add, Int.one_mul, Int.add_zero] at g11
  refine hvC ?_
  refine rqi_72_8 (?_ : q72 b w aT n eN k p old (R 58))
  have q_ : p = 0 := by omega
  subst q_
  have q_ : b = b2 := by omega
  subst q_
  have q_ : w = w2 := by omega
  subst q_
  have q_ : aT = at2 := by omega
  subst q_
  have q_ : n = n2 := by omega
  subst q_
  have q_ : eN = end2 := by omega
  subst q_
  have q_ : k2 = k - 1 := by omega
  subst q_
  have q_ : p2 = 0 := by omega
  subst q_
  subst g10
  exact q72_s g1 (by omega) (fun s_ o_ h1 h2 h3 h4 => ⟨fun c => absurd c (by rw [← h1]; exact g11), fun _ => h2 rfl⟩)

theorem tN_72_8_1 : vN rQ 72 hn_72_8_1 := by
  intro R G ps hl
  obtain ⟨b, w, aT, n, eN, k, p, old, rfl⟩ := hl8 hl
  refine hv13 (fun g0 => ?_)
  replace g0 : ((0 : Int) + (1 * p + 0)) = ((0 : Int) + 0) := g0
  refine hv4 (hm8 (fun b2 w2 at2 n2 end2 k2 p2 o2 g1 => ?_))
  replace g1 : q72 b2 w2 at2 n2 end2 k2 p2 o2 (R 58) := rqo_72_8 g1
  refine hmb rfl ?_
  show hmt _ _ _ [b, w, aT, n, eN, k, p, old, b2]
  refine hmb rfl ?_
  show hmt _ _ _ [b, w, aT, n, eN, k, p, old, b2, w2]
  refine hmb rfl ?_
  show hmt _ _ _ [b, w, aT, n, eN, k, p, old, b2, w2, at2]
  refine hmb rfl ?_
  show hmt _ _ _ [b, w, aT, n, eN, k, p, old, b2, w2, at2, n2]
  refine hmb rfl ?_
  show hmt _ _ _ [b, w, aT, n, eN, k, p, old, b2, w2, at2, n2, end2]
  refine hmb rfl ?_
  show hmt _ _ _ [b, w, aT, n, eN, k, p, old, b2, w2, at2, n2, end2, k2]
  refine hmb rfl ?_
  show hmt _ _ _ [b, w, aT, n, eN, k, p, old, b2, w2, at2, n2, end2, k2, p2]
  refine hmb rfl ?_
  show hmt _ _ _ [b, w, aT, n, eN, k, p, old, b2, w2, at2, n2, end2, k2, p2, o2]
  refine hmn ?_
  show hV _ _ _ _ _ [b, w, aT, n, eN, k, p, old, b2, w2, at2, n2, end2, k2, p2, o2]
  refine hv13 (fun g2 => ?_)
  replace g2 : ((0 : Int) + (1 * b2 + 0)) = ((0 : Int) + (1 * b + 0)) := g2
  refine hv13 (fun g3 => ?_)
  replace g3 : ((0 : Int) + (1 * w2 + 0)) = ((0 : Int) + (1 * w + 0)) := g3
  refine hv13 (fun g4 => ?_)
  replace g4 : ((0 : Int) + (1 * at2 + 0)) = ((0 : Int) + (1 * aT + 0)) := g4
  refine hv13 (fun g5 => ?_)
  replace g5 : ((0 : Int) + (1 * n2 + 0)) = ((0 : Int) + (1 * n + 0)) := g5
  refine hv13 (fun g6 => ?_)
  replace g6 : ((0 : Int) + (1 * end2 + 0)) = ((0 : Int) + (1 * eN + 0)) := g6
  refine hv13 (fun g7 => ?_)
  replace g7 : ((0 : Int) + (1 * k2 + 0)) = ((-1 : Int) + (1 * k + 0)) := g7
  refine hv0 (fun g8 => ?_)
  replace g8 : (0 : Int) ≤ ((0 : Int) + ((-1) * n + (1 * eN + ((-1) * k + 0)))) := g8
  refine hv13 (fun g9 => ?_)
  replace g9 : ((0 : Int) + (1 * p2 + 0)) = ((0 : Int) + 0) := g9
  refine hv2 (fun nn hag10 g10 => ?_)
  replace g10 : R 58 ((22691 : Int) + (1 * b + (2 * k + 0))) = nn := g10
  replace hag10 : (0 : Int) ≤ ((22691 : Int) + (1 * b + (2 * k + 0))) := hag10
  replace g10 : iN (R 58) b (k - 1) = nn := hF (R := R 58) g10 (ad_19 b k)
  show hV _ _ _ _ _ [b, w, aT, n, eN, k, p, old, b2, w2, at2, n2, end2, k2, p2, o2, nn]
  refine hv0 (fun g11 => ?_)
  replace g11 : (0 : Int) ≤ ((0 : Int) + (1 * aT + ((-1) * nn + 0))) := g11
  refine hvC ?_
  refine rqi_72_8 (?_ : q72 b w aT n eN k p old (R 58))
  have q_ : p = 0 := by omega
  subst q_
  have q_ : b = b2 := by omega
  subst q_
  have q_ : w = w2 := by omega
  subst q_
  have q_ : aT = at2 := by omega
  subst q_
  have q_ : n = n2 := by omega
  subst q_
  have q_ : eN = end2 := by omega
  subst q_
  have q_ : k2 = k - 1 := by omega
  subst q_
  have q_ : p2 = 0 := by omega
  subst q_
  subst g10
  exact q72_s g1 (by omega) (fun s_ o_ h1 h2 h3 h4 => ⟨fun _ => by have h5 := h2 rfl; unfold adjn; rw [if_neg (by omega)]; exact h5, fun _ => h2 rfl⟩)

theorem tN_72_8_2 : vN rQ 72 hn_72_8_2 := by
  intro R G ps hl
  obtain ⟨b, w, aT, n, eN, k, p, old, rfl⟩ := hl8 hl
  refine hv13 (fun g0 => ?_)
  replace g0 : ((0 : Int) + (1 * p + 0)) = ((0 : Int) + 0) := g0
  refine hv4 (hm8 (fun b2 w2 at2 n2 end2 k2 p2 o2 g1 => ?_))
  replace g1 : q72 b2 w2 at2 n2 end2 k2 p2 o2 (R 58) := rqo_72_8 g1
  refine hmb rfl ?_
  show hmt _ _ _ [b, w, aT, n, eN, k, p, old, b2]
  refine hmb rfl ?_
  show hmt _ _ _ [b, w, aT, n, eN, k, p, old, b2, w2]
  refine hmb rfl ?_
  show hmt _ _ _ [b, w, aT, n, eN, k, p, old, b2, w2, at2]
  refine hmb rfl ?_
  show hmt _ _ _ [b, w, aT, n, eN, k, p, old, b2, w2, at2, n2]
  refine hmb rfl ?_
  show hmt _ _ _ [b, w, aT, n, eN, k, p, old, b2, w2, at2, n2, end2]
  refine hmb rfl ?_
  show hmt _ _ _ [b, w, aT, n, eN, k, p, old, b2, w2, at2, n2, end2, k2]
  refine hmb rfl ?_
  show hmt _ _ _ [b, w, aT, n, eN, k, p, old, b2, w2, at2, n2, end2, k2, p2]
  refine hmb rfl ?_
  show hmt _ _ _ [b, w, aT, n, eN, k, p, old, b2, w2, at2, n2, end2, k2, p2, o2]
  refine hmn ?_
  show hV _ _ _ _ _ [b, w, aT, n, eN, k, p, old, b2, w2, at2, n2, end2, k2, p2, o2]
  refine hv13 (fun g2 => ?_)
  replace g2 : ((0 : Int) + (1 * b2 + 0)) = ((0 : Int) + (1 * b + 0)) := g2
  refine hv13 (fun g3 => ?_)
  replace g3 : ((0 : Int) + (1 * w2 + 0)) = ((0 : Int) + (1 * w + 0)) := g3
  refine hv13 (fun g4 => ?_)
  replace g4 : ((0 : Int) + (1 * at2 + 0)) = ((0 : Int) + (1 * aT + 0)) := g4
  refine hv13 (fun g5 => ?_)
  replace g5 : ((0 : Int) + (1 * n2 + 0)) = ((0 : Int) + (1 * n + 0)) := g5
  refine hv13 (fun g6 => ?_)
  replace g6 : ((0 : Int) + (1 * end2 + 0)) = ((0 : Int) + (1 * eN + 0)) := g6
  refine hv13 (fun g7 => ?_)
  replace g7 : ((0 : Int) + (1 * k2 + 0)) = ((-1 : Int) + (1 * k + 0)) := g7
  refine hv0 (fun g8 => ?_)
  replace g8 : (0 : Int) ≤ ((0 : Int) + ((-1) * n + (1 * eN + ((-1) * k + 0)))) := g8
  refine hv13 (fun g9 => ?_)
  replace g9 : ((0 : Int) + (1 * p2 + 0)) = ((1 : Int) + 0) := g9
  refine hv2 (fun kk hag10 g10 => ?_)
  replace g10 : R 58 ((22690 : Int) + (1 * b + (2 * k + 0))) = kk := g10
  replace hag10 : (0 : Int) ≤ ((22690 : Int) + (1 * b + (2 * k + 0))) := hag10
  replace g10 : iK (R 58) b (k - 1) = kk := hF (R := R 58) g10 (ad_18 b k)
  show hV _ _ _ _ _ [b, w, aT, n, eN, k, p, old, b2, w2, at2, n2, end2, k2, p2, o2, kk]
  refine hv5 (fun g11 => ?_)
  replace g11 : ild ((0 : Int) + (1 * kk + 0)) := rqo_93_1 g11
  simp only [Int.zero_add, Int.one_mul, Int.add_zero] at g11
  refine hv2 (fun nn hag12 g12 => ?_)
  replace g12 : R 58 ((22691 : Int) + (1 * b + (2 * k + 0))) = nn := g12
  replace hag12 : (0 : Int) ≤ ((22691 : Int) + (1 * b + (2 * k + 0))) := hag12
  replace g12 : iN (R 58) b (k - 1) = nn := hF (R := R 58) g12 (ad_19 b k)
  show hV _ _ _ _ _ [b, w, aT, n, eN, k, p, old, b2, w2, at2, n2, end2, k2, p2, o2, kk, nn]
  refine hv0 (fun g13 => ?_)
  replace g13 : (0 : Int) ≤ ((0 : Int) + ((-1) * aT + ((-1) * n + (1 * o2 + 0)))) := g13
  refine hv13 (fun g14 => ?_)
  replace g14 : ((0 : Int) + (1 * nn + 0)) = ((0 : Int) + ((-1) * n + (1 * o2 + 0))) := g14
  refine hvC ?_
  refine rqi_72_8 (?_ : q72 b w aT n eN k p old (R 58))
  have q_ : p = 0 := by omega
  subst q_
  have q_ : b = b2 := by omega
  subst q_
  have q_ : w = w2 := by omega
  subst q_
  have q_ : aT = at2 := by omega
  subst q_
  have q_ : n = n2 := by omega
  subst q_
  have q_ : eN = end2 := by omega
  subst q_
  have q_ : k2 = k - 1 := by omega
  subst q_
  have q_ : p2 = 1 := by omega
  subst q_
  subst g10
  subst g12
  exact q72_s g1 (by omega) (fun s_ o_ h1 h2 h3 h4 => ⟨fun _ => by have h5 := h3 rfl; unfold adjn; rw [if_pos (by omega), if_pos (by omega)]; omega, fun c => absurd (by rw [← h1]; exact g11) c⟩)

theorem tN_72_8_3 : vN rQ 72 hn_72_8_3 := by
  intro R G ps hl
  obtain ⟨b, w, aT, n, eN, k, p, old, rfl⟩ := hl8 hl
  refine hv13 (fun g0 => ?_)
  replace g0 : ((0 : Int) + (1 * p + 0)) = ((0 : Int) + 0) := g0
  refine hv4 (hm8 (fun b2 w2 at2 n2 end2 k2 p2 o2 g1 => ?_))
  replace g1 : q72 b2 w2 at2 n2 end2 k2 p2 o2 (R 58) := rqo_72_8 g1
  refine hmb rfl ?_
  show hmt _ _ _ [b, w, aT, n, eN, k, p, old, b2]
  refine hmb rfl ?_
  show hmt _ _ _ [b, w, aT, n, eN, k, p, old, b2, w2]
  refine hmb rfl ?_
  show hmt _ _ _ [b, w, aT, n, eN, k, p, old, b2, w2, at2]
  refine hmb rfl ?_
  show hmt _ _ _ [b, w, aT, n, eN, k, p, old, b2, w2, at2, n2]
  refine hmb rfl ?_
  show hmt _ _ _ [b, w, aT, n, eN, k, p, old, b2, w2, at2, n2, end2]
  refine hmb rfl ?_
  show hmt _ _ _ [b, w, aT, n, eN, k, p, old, b2, w2, at2, n2, end2, k2]
  refine hmb rfl ?_
  show hmt _ _ _ [b, w, aT, n, eN, k, p, old, b2, w2, at2, n2, end2, k2, p2]
  refine hmb rfl ?_
  show hmt _ _ _ [b, w, aT, n, eN, k, p, old, b2, w2, at2, n2, end2, k2, p2, o2]
  refine hmn ?_
  show hV _ _ _ _ _ [b, w, aT, n, eN, k, p, old, b2, w2, at2, n2, end2, k2, p2, o2]
  refine hv13 (fun g2 => ?_)
  replace g2 : ((0 : Int) + (1 * b2 + 0)) = ((0 : Int) + (1 * b + 0)) := g2
  refine hv13 (fun g3 => ?_)
  replace g3 : ((0 : Int) + (1 * w2 + 0)) = ((0 : Int) + (1 * w + 0)) := g3
  refine hv13 (fun g4 => ?_)
  replace g4 : ((0 : Int) + (1 * at2 + 0)) = ((0 : Int) + (1 * aT + 0)) := g4
  refine hv13 (fun g5 => ?_)
  replace g5 : ((0 : Int) + (1 * n2 + 0)) = ((0 : Int) + (1 * n + 0)) := g5
  refine hv13 (fun g6 => ?_)
  replace g6 : ((0 : Int) + (1 * end2 + 0)) = ((0 : Int) + (1 * eN + 0)) := g6
  refine hv13 (fun g7 => ?_)
  replace g7 : ((0 : Int) + (1 * k2 + 0)) = ((-1 : Int) + (1 * k + 0)) := g7
  refine hv0 (fun g8 => ?_)
  replace g8 : (0 : Int) ≤ ((0 : Int) + ((-1) * n + (1 * eN + ((-1) * k + 0)))) := g8
  refine hv13 (fun g9 => ?_)
  replace g9 : ((0 : Int) + (1 * p2 + 0)) = ((1 : Int) + 0) := g9
  refine hv2 (fun kk hag10 g10 => ?_)
  replace g10 : R 58 ((22690 : Int) + (1 * b + (2 * k + 0))) = kk := g10
  replace hag10 : (0 : Int) ≤ ((22690 : Int) + (1 * b + (2 * k + 0))) := hag10
  replace g10 : iK (R 58) b (k - 1) = kk := hF (R := R 58) g10 (ad_18 b k)
  show hV _ _ _ _ _ [b, w, aT, n, eN, k, p, old, b2, w2, at2, n2, end2, k2, p2, o2, kk]
  refine hv5 (fun g11 => ?_)
  replace g11 : ild ((0 : Int) + (1 * kk + 0)) := rqo_93_1 g11
  simp only [Int.zero_add, Int.one_mul, Int.add_zero] at g11
  refine hv2 (fun nn hag12 g12 => ?_)
  replace g12 : R 58 ((22691 : Int) + (1 * b + (2 * k + 0))) = nn := g12
  replace hag12 : (0 : Int) ≤ ((22691 : Int) + (1 * b + (2 * k + 0))) := hag12
  replace g12 : iN (R 58) b (k - 1) = nn := hF (R := R 58) g12 (ad_19 b k)
  show hV _ _ _ _ _ [b, w, aT, n, eN, k, p, old, b2, w2, at2, n2, end2, k2, p2, o2, kk, nn]
  refine hv0 (fun g13 => ?_)
  replace g13 : (0 : Int) ≤ ((-1 : Int) + ((-1) * aT + (1 * o2 + 0))) := g13
  refine hv0 (fun g14 => ?_)
  replace g14 : (0 : Int) ≤ ((-1 : Int) + (1 * aT + (1 * n + ((-1) * o2 + 0)))) := g14
  refine hv13 (fun g15 => ?_)
  replace g15 : ((0 : Int) + (1 * nn + 0)) = ((0 : Int) + (1 * aT + 0)) := g15
  refine hvC ?_
  refine rqi_72_8 (?_ : q72 b w aT n eN k p old (R 58))
  have q_ : p = 0 := by omega
  subst q_
  have q_ : b = b2 := by omega
  subst q_
  have q_ : w = w2 := by omega
  subst q_
  have q_ : aT = at2 := by omega
  subst q_
  have q_ : n = n2 := by omega
  subst q_
  have q_ : eN = end2 := by omega
  subst q_
  have q_ : k2 = k - 1 := by omega
  subst q_
  have q_ : p2 = 1 := by omega
  subst q_
  subst g10
  subst g12
  exact q72_s g1 (by omega) (fun s_ o_ h1 h2 h3 h4 => ⟨fun _ => by have h5 := h3 rfl; unfold adjn; rw [if_pos (by omega), if_neg (by omega)]; omega, fun c => absurd (by rw [← h1]; exact g11) c⟩)

theorem tN_72_8_4 : vN rQ 72 hn_72_8_4 := by
  intro R G ps hl
  obtain ⟨b, w, aT, n, eN, k, p, old, rfl⟩ := hl8 hl
  refine hv13 (fun g0 => ?_)
  replace g0 : ((0 : Int) + (1 * p + 0)) = ((0 : Int) + 0) := g0
  refine hv4 (hm7 (fun b2 w2 at2 n2 end2 k2 p2 g1 => ?_))
  replace g1 : q71 b2 w2 at2 n2 end2 k2 p2 (R 58) := rqo_71_7 g1
  refine hmb rfl ?_
  show hmt _ _ _ [b, w, aT, n, eN, k, p, old, b2]
  refine hmb rfl ?_
  show hmt _ _ _ [b, w, aT, n, eN, k, p, old, b2, w2]
  refine hmb rfl ?_
  show hmt _ _ _ [b, w, aT, n, eN, k, p, old, b2, w2, at2]
  refine hmb rfl ?_
  show hmt _ _ _ [b, w, aT, n, eN, k, p, old, b2, w2, at2, n2]
  refine hmb rfl ?_
  show hmt _ _ _ [b, w, aT, n, eN, k, p, old, b2, w2, at2, n2, end2]
  refine hmb rfl ?_
  show hmt _ _ _ [b, w, aT, n, eN, k, p, old, b2, w2, at2, n2, end2, k2]
  refine hmb rfl ?_
  show hmt _ _ _ [b, w, aT, n, eN, k, p, old, b2, w2, at2, n2, end2, k2, p2]
  refine hmn ?_
  show hV _ _ _ _ _ [b, w, aT, n, eN, k, p, old, b2, w2, at2, n2, end2, k2, p2]
  refine hv13 (fun g2 => ?_)
  replace g2 : ((0 : Int) + (1 * b2 + 0)) = ((0 : Int) + (1 * b + 0)) := g2
  refine hv13 (fun g3 => ?_)
  replace g3 : ((0 : Int) + (1 * w2 + 0)) = ((0 : Int) + (1 * w + 0)) := g3
  refine hv13 (fun g4 => ?_)
  replace g4 : ((0 : Int) + (1 * at2 + 0)) = ((0 : Int) + (1 * aT + 0)) := g4
  refine hv13 (fun g5 => ?_)
  replace g5 : ((0 : Int) + (1 * n2 + 0)) = ((0 : Int) + (1 * n + 0)) := g5
  refine hv13 (fun g6 => ?_)
  replace g6 : ((0 : Int) + (1 * end2 + 0)) = ((0 : Int) + (1 * eN + 0)) := g6
  refine hv13 (fun g7 => ?_)
  replace g7 : ((0 : Int) + (1 * k2 + 0)) = ((0 : Int) + (1 * eN + 0)) := g7
  refine hv13 (fun g8 => ?_)
  replace g8 : ((0 : Int) + (1 * p2 + 0)) = ((0 : Int) + 0) := g8
  refine hv7 (fun i g9 => ?_)
  replace g9 : ((40 : Nat) : Int) * i = ((-8292 : Int) + ((-1) * b + (1 * w + 0))) := g9
  show hV _ _ _ _ _ [b, w, aT, n, eN, k, p, old, b2, w2, at2, n2, end2, k2, p2, i]
  refine hv2 (fun V hag10 g10 => ?_)
  replace g10 : R 58 ((8295 : Int) + (1 * b + (40 * i + 0))) = V := g10
  replace hag10 : (0 : Int) ≤ ((8295 : Int) + (1 * b + (40 * i + 0))) := hag10
  replace g10 : dV (R 58) b (i) = V := hF (R := R 58) g10 (ad_8 b i)
  show hV _ _ _ _ _ [b, w, aT, n, eN, k, p, old, b2, w2, at2, n2, end2, k2, p2, i, V]
  refine hv13 (fun g11 => ?_)
  replace g11 : ((0 : Int) + (1 * k + 0)) = ((0 : Int) + (1 * V + 0)) := g11
  refine hvC ?_
  refine rqi_72_8 (?_ : q72 b w aT n eN k p old (R 58))
  have q_ : p = 0 := by omega
  subst q_
  have q_ : b = b2 := by omega
  subst q_
  have q_ : w = w2 := by omega
  subst q_
  have q_ : aT = at2 := by omega
  subst q_
  have q_ : n = n2 := by omega
  subst q_
  have q_ : eN = end2 := by omega
  subst q_
  have q_ : eN = k2 := by omega
  subst q_
  have q_ : p2 = 0 := by omega
  subst q_
  exact q72_0 (i' := i) g1 (by omega) (by omega)

theorem tN_85_2_0 : vN rQ 85 hn_85_2_0 := by
  intro R G ps hl
  obtain ⟨b, t, rfl⟩ := hl2 hl
  refine hv2 (fun k hag0 g0 => ?_)
  replace g0 : R 58 ((8292 : Int) + (1 * b + (40 * t + 0))) = k := g0
  replace hag0 : (0 : Int) ≤ ((8292 : Int) + (1 * b + (40 * t + 0))) := hag0
  replace g0 : dK (R 58) b (t) = k := hF (R := R 58) g0 (ad_30 b t)
  show hV _ _ _ _ _ [b, t, k]
  refine hv13 (fun g1 => ?_)
  replace g1 : ((0 : Int) + (1 * k + 0)) = ((1 : Int) + 0) := g1
  refine hv4 (hm0 (fun g2 => ?_))
  replace g2 : q10 [] (R 58) := rqo_10_0 g2
  refine hmn ?_
  show hV _ _ _ _ _ [b, t, k]
  refine hv8 (fun bq br g3 g3a g3b => ?_)
  replace g3 : ((0 : Int) + (1 * b + 0)) = ((39700 : Nat) : Int) * bq + br := g3
  replace g3b : br < ((39700 : Nat) : Int) := g3b
  show hV _ _ _ _ _ [b, t, k, bq, br]
  refine hv13 (fun g4 => ?_)
  replace g4 : ((0 : Int) + (1 * br + 0)) = ((0 : Int) + 0) := g4
  refine hv0 (fun g5 => ?_)
  replace g5 : (0 : Int) ≤ ((5 : Int) + ((-1) * bq + 0)) := g5
  refine hv0 (fun g6 => ?_)
  replace g6 : (0 : Int) ≤ ((0 : Int) + (1 * bq + 0)) := g6
  refine hv2 (fun many hag7 g7 => ?_)
  replace g7 : R 58 ((4 : Int) + (1 * b + 0)) = many := g7
  replace hag7 : (0 : Int) ≤ ((4 : Int) + (1 * b + 0)) := hag7
  replace g7 : R 58 (b + 4) = many := hF (R := R 58) g7 (ad_4 b)
  show hV _ _ _ _ _ [b, t, k, bq, br, many]
  refine hv0 (fun g8 => ?_)
  replace g8 : (0 : Int) ≤ ((0 : Int) + (1 * t + 0)) := g8
  refine hv0 (fun g9 => ?_)
  replace g9 : (0 : Int) ≤ ((-1 : Int) + ((-1) * t + (1 * many + 0))) := g9
  refine hv2 (fun h hag10 g10 => ?_)
  replace g10 : R 58 ((8299 : Int) + (1 * b + (40 * t + 0))) = h := g10
  replace hag10 : (0 : Int) ≤ ((8299 : Int) + (1 * b + (40 * t + 0))) := hag10
  replace g10 : dH (R 58) b (t) = h := hF (R := R 58) g10 (ad_31 b t)
  show hV _ _ _ _ _ [b, t, k, bq, br, many, h]
  refine hv13 (fun g11 => ?_)
  replace g11 : ((0 : Int) + (1 * h + 0)) = ((0 : Int) + 0) := g11
  refine hvC ?_
  refine rqi_85_2 (?_ : dDone (R 58) b t)
  subst g0
  subst g7
  subst g10
  have hC := g2 bq (by omega) (by omega) (fun x hx => by cases hx)
  rw [show 39700 * bq = b by omega] at hC
  exact q85_0 hC ⟨bq, by omega, by omega, by omega⟩ (by omega) (by omega) (by omega) (by omega)

theorem tN_85_2_1 : vN rQ 85 hn_85_2_1 := by
  intro R G ps hl
  obtain ⟨b, t, rfl⟩ := hl2 hl
  refine hv4 (hm2 (fun b2 i g0 => ?_))
  replace g0 : q75 b2 i (R 58) := rqo_75_2 g0
  refine hmb rfl ?_
  show hmt _ _ _ [b, t, b2]
  refine hmb rfl ?_
  show hmt _ _ _ [b, t, b2, i]
  refine hmn ?_
  show hV _ _ _ _ _ [b, t, b2, i]
  refine hv13 (fun g1 => ?_)
  replace g1 : ((0 : Int) + (1 * b2 + 0)) = ((0 : Int) + (1 * b + 0)) := g1
  refine hv6 (fun k kk g2 => ?_)
  replace g2 : R 58 (((22692 : Int) + (1 * b + 0)) + ((2 : Nat) : Int) * k) = kk := g2
  replace g2 : iK (R 58) b (k) = kk := hF (R := R 58) g2 (ad_32 b k)
  show hV _ _ _ _ _ [b, t, b2, i, k, kk]
  refine hv13 (fun g3 => ?_)
  replace g3 : ((0 : Int) + (1 * kk + 0)) = ((0 : Int) + 0) := g3
  refine hv2 (fun V hag4 g4 => ?_)
  replace g4 : R 58 ((8295 : Int) + (1 * b + (40 * i + 0))) = V := g4
  replace hag4 : (0 : Int) ≤ ((8295 : Int) + (1 * b + (40 * i + 0))) := hag4
  replace g4 : dV (R 58) b (i) = V := hF (R := R 58) g4 (ad_8 b i)
  show hV _ _ _ _ _ [b, t, b2, i, k, kk, V]
  refine hv2 (fun N hag5 g5 => ?_)
  replace g5 : R 58 ((8296 : Int) + (1 * b + (40 * i + 0))) = N := g5
  replace hag5 : (0 : Int) ≤ ((8296 : Int) + (1 * b + (40 * i + 0))) := hag5
  replace g5 : dL (R 58) b (i) = N := hF (R := R 58) g5 (ad_9 b i)
  show hV _ _ _ _ _ [b, t, b2, i, k, kk, V, N]
  refine hv0 (fun g6 => ?_)
  replace g6 : (0 : Int) ≤ ((0 : Int) + (1 * k + ((-1) * V + 0))) := g6
  refine hv0 (fun g7 => ?_)
  replace g7 : (0 : Int) ≤ ((-1 : Int) + ((-1) * k + (1 * V + (1 * N + 0)))) := g7
  refine hv2 (fun nn hag8 g8 => ?_)
  replace g8 : R 58 ((22693 : Int) + (1 * b + (2 * k + 0))) = nn := g8
  replace hag8 : (0 : Int) ≤ ((22693 : Int) + (1 * b + (2 * k + 0))) := hag8
  replace g8 : iN (R 58) b (k) = nn := hF (R := R 58) g8 (ad_33 b k)
  show hV _ _ _ _ _ [b, t, b2, i, k, kk, V, N, nn]
  refine hv13 (fun g9 => ?_)
  replace g9 : ((0 : Int) + (1 * nn + 0)) = ((0 : Int) + (1 * t + 0)) := g9
  refine hv2 (fun tk hag10 g10 => ?_)
  replace g10 : R 58 ((8292 : Int) + (1 * b + (40 * t + 0))) = tk := g10
  replace hag10 : (0 : Int) ≤ ((8292 : Int) + (1 * b + (40 * t + 0))) := hag10
  replace g10 : dK (R 58) b (t) = tk := hF (R := R 58) g10 (ad_30 b t)
  show hV _ _ _ _ _ [b, t, b2, i, k, kk, V, N, nn, tk]
  refine hv13 (fun g11 => ?_)
  replace g11 : ((0 : Int) + (1 * tk + 0)) = ((1 : Int) + 0) := g11
  refine hvC ?_
  refine rqi_85_2 (?_ : dDone (R 58) b t)
  have q_ : b = b2 := by omega
  subst q_
  subst g2
  subst g4
  subst g5
  subst g8
  subst g10
  exact q85_1 (k := k) g0 (by omega) (by omega) (by omega) (by omega) (by omega)

theorem tN_84_2_0 : vN rQ 84 hn_84_2_0 := by
  intro R G ps hl
  obtain ⟨b, k, rfl⟩ := hl2 hl
  refine hv13 (fun g0 => ?_)
  replace g0 : ((0 : Int) + (1 * k + 0)) = ((0 : Int) + 0) := g0
  refine hvC ?_
  refine rqi_84_2 (?_ : q84 b k (R 58) (R 67))
  intro p_ p0 p1
  omega

theorem tN_84_2_1 : vN rQ 84 hn_84_2_1 := by
  intro R G ps hl
  obtain ⟨b, n, rfl⟩ := hl2 hl
  refine hv2 (fun t hag0 g0 => ?_)
  replace g0 : R 67 ((-1 : Int) + (1 * n + 0)) = t := g0
  replace hag0 : (0 : Int) ≤ ((-1 : Int) + (1 * n + 0)) := hag0
  replace g0 : R 67 (n - 1) = t := hF (R := R 67) g0 (ad_34 n)
  show hV _ _ _ _ _ [b, n, t]
  refine hv4 (hm2 (fun b2 n2 g1 => ?_))
  replace g1 : q84 b2 n2 (R 58) (R 67) := rqo_84_2 g1
  refine hmb rfl ?_
  show hmt _ _ _ [b, n, t, b2]
  refine hmb rfl ?_
  show hmt _ _ _ [b, n, t, b2, n2]
  refine hmn ?_
  show hV _ _ _ _ _ [b, n, t, b2, n2]
  refine hv13 (fun g2 => ?_)
  replace g2 : ((0 : Int) + (1 * b2 + 0)) = ((0 : Int) + (1 * b + 0)) := g2
  refine hv13 (fun g3 => ?_)
  replace g3 : ((0 : Int) + (1 * n2 + 0)) = ((-1 : Int) + (1 * n + 0)) := g3
  refine hv5 (fun g4 => ?_)
  replace g4 : dDone (R 58) ((0 : Int) + (1 * b + 0)) ((0 : Int) + (1 * t + 0)) := rqo_85_2 g4
  simp only [Int.zero_add, Int.one_mul, Int.add_zero] at g4
  refine hvC ?_
  refine rqi_84_2 (?_ : q84 b n (R 58) (R 67))
  have q_ : b = b2 := by omega
  subst q_
  have q_ : n2 = n - 1 := by omega
  subst q_
  subst g0
  exact q84_s g1 g4

theorem tN_75_2_0 : vN rQ 75 hn_75_2_0 := by
  intro R G ps hl
  obtain ⟨b, i, rfl⟩ := hl2 hl
  refine hv4 (hm3 (fun b2 q2 e2 g0 => ?_))
  replace g0 : q82 b2 q2 e2 (R 58) (R 67) (R 68) (R 60) := rqo_82_3 g0
  refine hmb rfl ?_
  show hmt _ _ _ [b, i, b2]
  refine hmb rfl ?_
  show hmt _ _ _ [b, i, b2, q2]
  refine hmb rfl ?_
  show hmt _ _ _ [b, i, b2, q2, e2]
  refine hmn ?_
  show hV _ _ _ _ _ [b, i, b2, q2, e2]
  refine hv13 (fun g1 => ?_)
  replace g1 : ((0 : Int) + (1 * b2 + 0)) = ((0 : Int) + (1 * b + 0)) := g1
  refine hv6 (fun p t g2 => ?_)
  replace g2 : R 67 (((0 : Int) + 0) + ((1 : Nat) : Int) * p) = t := g2
  replace g2 : R 67 (p) = t := hF (R := R 67) g2 (ad_35 p)
  show hV _ _ _ _ _ [b, i, b2, q2, e2, p, t]
  refine hv13 (fun g3 => ?_)
  replace g3 : ((0 : Int) + (1 * t + 0)) = ((0 : Int) + (1 * i + 0)) := g3
  refine hv0 (fun g4 => ?_)
  replace g4 : (0 : Int) ≤ ((0 : Int) + (1 * p + 0)) := g4
  refine hv0 (fun g5 => ?_)
  replace g5 : (0 : Int) ≤ ((-1 : Int) + (1 * q2 + ((-1) * p + 0))) := g5
  refine hvC ?_
  refine rqi_75_2 (?_ : q75 b i (R 58))
  have q_ : b = b2 := by omega
  subst q_
  subst g2
  have t_ := (q82_75 g0 (p := p) (by omega) (by omega)).1
  rw [show R 67 p = i by omega] at t_
  exact t_

theorem tN_75_2_1 : vN rQ 75 hn_75_2_1 := by
  intro R G ps hl
  obtain ⟨b, i, rfl⟩ := hl2 hl
  refine hv4 (hm2 (fun b2 n g0 => ?_))
  replace g0 : q84 b2 n (R 58) (R 67) := rqo_84_2 g0
  refine hmb rfl ?_
  show hmt _ _ _ [b, i, b2]
  refine hmb rfl ?_
  show hmt _ _ _ [b, i, b2, n]
  refine hmn ?_
  show hV _ _ _ _ _ [b, i, b2, n]
  refine hv13 (fun g1 => ?_)
  replace g1 : ((0 : Int) + (1 * b2 + 0)) = ((0 : Int) + (1 * b + 0)) := g1
  refine hv6 (fun p t g2 => ?_)
  replace g2 : R 67 (((0 : Int) + 0) + ((1 : Nat) : Int) * p) = t := g2
  replace g2 : R 67 (p) = t := hF (R := R 67) g2 (ad_35 p)
  show hV _ _ _ _ _ [b, i, b2, n, p, t]
  refine hv13 (fun g3 => ?_)
  replace g3 : ((0 : Int) + (1 * t + 0)) = ((0 : Int) + (1 * i + 0)) := g3
  refine hv0 (fun g4 => ?_)
  replace g4 : (0 : Int) ≤ ((0 : Int) + (1 * p + 0)) := g4
  refine hv0 (fun g5 => ?_)
  replace g5 : (0 : Int) ≤ ((-1 : Int) + (1 * n + ((-1) * p + 0))) := g5
  refine hv2 (fun f13 hag6 g6 => ?_)
  replace g6 : R 58 ((8305 : Int) + (1 * b + (40 * i + 0))) = f13 := g6
  replace hag6 : (0 : Int) ≤ ((8305 : Int) + (1 * b + (40 * i + 0))) := hag6
  replace g6 : dI (R 58) b (i) = f13 := hF (R := R 58) g6 (ad_28 b i)
  show hV _ _ _ _ _ [b, i, b2, n, p, t, f13]
  refine hv13 (fun g7 => ?_)
  replace g7 : ((0 : Int) + (1 * f13 + 0)) = ((0 : Int) + 0) := g7
  refine hv2 (fun f14 hag8 g8 => ?_)
  replace g8 : R 58 ((8306 : Int) + (1 * b + (40 * i + 0))) = f14 := g8
  replace hag8 : (0 : Int) ≤ ((8306 : Int) + (1 * b + (40 * i + 0))) := hag8
  replace g8 : dJ (R 58) b (i) = f14 := hF (R := R 58) g8 (ad_29 b i)
  show hV _ _ _ _ _ [b, i, b2, n, p, t, f13, f14]
  refine hv13 (fun g9 => ?_)
  replace g9 : ((0 : Int) + (1 * f14 + 0)) = ((0 : Int) + 0) := g9
  refine hvC ?_
  refine rqi_75_2 (?_ : q75 b i (R 58))
  have q_ : b = b2 := by omega
  subst q_
  subst g2
  subst g6
  subst g8
  have t_ := g0 p (by omega) (by omega)
  rw [show R 67 p = i by omega] at t_
  exact ⟨t_, by omega, by omega⟩

theorem tN_80_1_0 : vN rQ 80 hn_80_1_0 := by
  intro R G ps hl
  obtain ⟨n, rfl⟩ := hl1 hl
  refine hv13 (fun g0 => ?_)
  replace g0 : ((0 : Int) + (1 * n + 0)) = ((0 : Int) + 0) := g0
  refine hvC ?_
  refine rqi_80_1 (?_ : q80 n (R 67))
  exact ⟨fun p_ q_ p0 p1 q1 => by omega, fun p_ p0 p1 => by omega⟩

theorem tN_80_1_1 : vN rQ 80 hn_80_1_1 := by
  intro R G ps hl
  obtain ⟨n, rfl⟩ := hl1 hl
  refine hv2 (fun t hag0 g0 => ?_)
  replace g0 : R 67 ((-1 : Int) + (1 * n + 0)) = t := g0
  replace hag0 : (0 : Int) ≤ ((-1 : Int) + (1 * n + 0)) := hag0
  replace g0 : R 67 (n - 1) = t := hF (R := R 67) g0 (ad_34 n)
  show hV _ _ _ _ _ [n, t]
  refine hv0 (fun g1 => ?_)
  replace g1 : (0 : Int) ≤ ((0 : Int) + (1 * t + 0)) := g1
  refine hv0 (fun g2 => ?_)
  replace g2 : (0 : Int) ≤ ((359 : Int) + ((-1) * t + 0)) := g2
  refine hv4 (hm1 (fun n2 g3 => ?_))
  replace g3 : q80 n2 (R 67) := rqo_80_1 g3
  refine hmb rfl ?_
  show hmt _ _ _ [n, t, n2]
  refine hmn ?_
  show hV _ _ _ _ _ [n, t, n2]
  refine hv13 (fun g4 => ?_)
  replace g4 : ((0 : Int) + (1 * n2 + 0)) = ((-1 : Int) + (1 * n + 0)) := g4
  refine hv4 (hm2 (fun t2 k2 g5 => ?_))
  replace g5 : q81 t2 k2 (R 67) := rqo_81_2 g5
  refine hmb rfl ?_
  show hmt _ _ _ [n, t, n2, t2]
  refine hmb rfl ?_
  show hmt _ _ _ [n, t, n2, t2, k2]
  refine hmn ?_
  show hV _ _ _ _ _ [n, t, n2, t2, k2]
  refine hv13 (fun g6 => ?_)
  replace g6 : ((0 : Int) + (1 * t2 + 0)) = ((0 : Int) + (1 * t + 0)) := g6
  refine hv13 (fun g7 => ?_)
  replace g7 : ((0 : Int) + (1 * k2 + 0)) = ((-1 : Int) + (1 * n + 0)) := g7
  refine hvC ?_
  refine rqi_80_1 (?_ : q80 n (R 67))
  have q_ : n2 = n - 1 := by omega
  subst q_
  have q_ : t = t2 := by omega
  subst q_
  have q_ : k2 = n - 1 := by omega
  subst q_
  subst g0
  exact q80_s g3 g5 rfl (by omega) (by omega)

theorem tN_81_2_0 : vN rQ 81 hn_81_2_0 := by
  intro R G ps hl
  obtain ⟨b, k, rfl⟩ := hl2 hl
  refine hv13 (fun g0 => ?_)
  replace g0 : ((0 : Int) + (1 * k + 0)) = ((0 : Int) + 0) := g0
  refine hvC ?_
  refine rqi_81_2 (?_ : q81 b k (R 67))
  intro p_ p0 p1
  omega

theorem tN_81_2_1 : vN rQ 81 hn_81_2_1 := by
  intro R G ps hl
  obtain ⟨t, k, rfl⟩ := hl2 hl
  refine hv2 (fun x hag0 g0 => ?_)
  replace g0 : R 67 ((-1 : Int) + (1 * k + 0)) = x := g0
  replace hag0 : (0 : Int) ≤ ((-1 : Int) + (1 * k + 0)) := hag0
  replace g0 : R 67 (k - 1) = x := hF (R := R 67) g0 (ad_36 k)
  show hV _ _ _ _ _ [t, k, x]
  refine hv1 (fun g1 => ?_)
  replace g1 : ((0 : Int) + (1 * x + 0)) ≠ ((0 : Int) + (1 * t + 0)) := g1
  refine hv4 (hm2 (fun t2 k2 g2 => ?_))
  replace g2 : q81 t2 k2 (R 67) := rqo_81_2 g2
  refine hmb rfl ?_
  show hmt _ _ _ [t, k, x, t2]
  refine hmb rfl ?_
  show hmt _ _ _ [t, k, x, t2, k2]
  refine hmn ?_
  show hV _ _ _ _ _ [t, k, x, t2, k2]
  refine hv13 (fun g3 => ?_)
  replace g3 : ((0 : Int) + (1 * t2 + 0)) = ((0 : Int) + (1 * t + 0)) := g3
  refine hv13 (fun g4 => ?_)
  replace g4 : ((0 : Int) + (1 * k2 + 0)) = ((-1 : Int) + (1 * k + 0)) := g4
  refine hvC ?_
  refine rqi_81_2 (?_ : q81 t k (R 67))
  have q_ : t = t2 := by omega
  subst q_
  have q_ : k2 = k - 1 := by omega
  subst q_
  subst g0
  exact q81_s g2 (by omega)

theorem tN_91_2_0 : vN rQ 91 hn_91_2_0 := by
  intro R G ps hl
  obtain ⟨t, n, rfl⟩ := hl2 hl
  refine hv4 (hm3 (fun b q0 n2 g0 => ?_))
  replace g0 : q86 b q0 n2 (R 58) (R 67) := rqo_86_3 g0
  refine hmb rfl ?_
  show hmt _ _ _ [t, n, b]
  refine hmb rfl ?_
  show hmt _ _ _ [t, n, b, q0]
  refine hmb rfl ?_
  show hmt _ _ _ [t, n, b, q0, n2]
  refine hmn ?_
  show hV _ _ _ _ _ [t, n, b, q0, n2]
  refine hv0 (fun g1 => ?_)
  replace g1 : (0 : Int) ≤ ((0 : Int) + (1 * n + ((-1) * n2 + 0))) := g1
  refine hv6 (fun p i g2 => ?_)
  replace g2 : R 67 (((0 : Int) + 0) + ((1 : Nat) : Int) * p) = i := g2
  replace g2 : R 67 (p) = i := hF (R := R 67) g2 (ad_35 p)
  show hV _ _ _ _ _ [t, n, b, q0, n2, p, i]
  refine hv0 (fun g3 => ?_)
  replace g3 : (0 : Int) ≤ ((0 : Int) + (1 * p + 0)) := g3
  refine hv0 (fun g4 => ?_)
  replace g4 : (0 : Int) ≤ ((-1 : Int) + (1 * q0 + ((-1) * p + 0))) := g4
  refine hv6 (fun k w g5 => ?_)
  replace g5 : R 58 (((22693 : Int) + (1 * b + 0)) + ((2 : Nat) : Int) * k) = w := g5
  replace g5 : iN (R 58) b (k) = w := hF (R := R 58) g5 (ad_37 b k)
  show hV _ _ _ _ _ [t, n, b, q0, n2, p, i, k, w]
  refine hv13 (fun g6 => ?_)
  replace g6 : ((0 : Int) + (1 * w + 0)) = ((0 : Int) + (1 * t + 0)) := g6
  refine hv2 (fun V hag7 g7 => ?_)
  replace g7 : R 58 ((8295 : Int) + (1 * b + (40 * i + 0))) = V := g7
  replace hag7 : (0 : Int) ≤ ((8295 : Int) + (1 * b + (40 * i + 0))) := hag7
  replace g7 : dV (R 58) b (i) = V := hF (R := R 58) g7 (ad_8 b i)
  show hV _ _ _ _ _ [t, n, b, q0, n2, p, i, k, w, V]
  refine hv2 (fun N hag8 g8 => ?_)
  replace g8 : R 58 ((8296 : Int) + (1 * b + (40 * i + 0))) = N := g8
  replace hag8 : (0 : Int) ≤ ((8296 : Int) + (1 * b + (40 * i + 0))) := hag8
  replace g8 : dL (R 58) b (i) = N := hF (R := R 58) g8 (ad_9 b i)
  show hV _ _ _ _ _ [t, n, b, q0, n2, p, i, k, w, V, N]
  refine hv0 (fun g9 => ?_)
  replace g9 : (0 : Int) ≤ ((0 : Int) + (1 * k + ((-1) * V + 0))) := g9
  refine hv0 (fun g10 => ?_)
  replace g10 : (0 : Int) ≤ ((-1 : Int) + ((-1) * k + (1 * V + (1 * N + 0)))) := g10
  refine hv2 (fun kk hag11 g11 => ?_)
  replace g11 : R 58 ((22692 : Int) + (1 * b + (2 * k + 0))) = kk := g11
  replace hag11 : (0 : Int) ≤ ((22692 : Int) + (1 * b + (2 * k + 0))) := hag11
  replace g11 : iK (R 58) b (k) = kk := hF (R := R 58) g11 (ad_38 b k)
  show hV _ _ _ _ _ [t, n, b, q0, n2, p, i, k, w, V, N, kk]
  refine hv13 (fun g12 => ?_)
  replace g12 : ((0 : Int) + (1 * kk + 0)) = ((0 : Int) + 0) := g12
  refine hv2 (fun tk hag13 g13 => ?_)
  replace g13 : R 58 ((8292 : Int) + (40 * t + (1 * b + 0))) = tk := g13
  replace hag13 : (0 : Int) ≤ ((8292 : Int) + (40 * t + (1 * b + 0))) := hag13
  replace g13 : dK (R 58) b (t) = tk := hF (R := R 58) g13 (ad_39 t b)
  show hV _ _ _ _ _ [t, n, b, q0, n2, p, i, k, w, V, N, kk, tk]
  refine hv13 (fun g14 => ?_)
  replace g14 : ((0 : Int) + (1 * tk + 0)) = ((1 : Int) + 0) := g14
  refine hvC ?_
  refine rqi_91_2 (?_ : q91 t n (R 67))
  subst g2
  subst g5
  subst g7
  subst g8
  subst g11
  subst g13
  obtain ⟨p_, q1, q2, q3⟩ := g0 p (by omega) (by omega) k (by omega) (by omega) ⟨by omega, by rw [show iN (R 58) b k = t by omega]; omega⟩
  exact ⟨p_, q1, by omega, by omega⟩

theorem tN_83_5_0 : vN rQ 83 hn_83_5_0 := by
  intro R G ps hl
  obtain ⟨b, p, i, k, e, rfl⟩ := hl5 hl
  refine hv2 (fun V hag0 g0 => ?_)
  replace g0 : R 58 ((8295 : Int) + (1 * b + (40 * i + 0))) = V := g0
  replace hag0 : (0 : Int) ≤ ((8295 : Int) + (1 * b + (40 * i + 0))) := hag0
  replace g0 : dV (R 58) b (i) = V := hF (R := R 58) g0 (ad_8 b i)
  show hV _ _ _ _ _ [b, p, i, k, e, V]
  refine hv13 (fun g1 => ?_)
  replace g1 : ((0 : Int) + (1 * k + 0)) = ((0 : Int) + (1 * V + 0)) := g1
  refine hv2 (fun a hag2 g2 => ?_)
  replace g2 : R 68 ((0 : Int) + (1 * p + 0)) = a := g2
  replace hag2 : (0 : Int) ≤ ((0 : Int) + (1 * p + 0)) := hag2
  replace g2 : R 68 (p) = a := hF (R := R 68) g2 (ad_40 p)
  show hV _ _ _ _ _ [b, p, i, k, e, V, a]
  refine hv13 (fun g3 => ?_)
  replace g3 : ((0 : Int) + (1 * a + 0)) = ((0 : Int) + (1 * e + 0)) := g3
  refine hv2 (fun t hag4 g4 => ?_)
  replace g4 : R 67 ((0 : Int) + (1 * p + 0)) = t := g4
  replace hag4 : (0 : Int) ≤ ((0 : Int) + (1 * p + 0)) := hag4
  replace g4 : R 67 (p) = t := hF (R := R 67) g4 (ad_40 p)
  show hV _ _ _ _ _ [b, p, i, k, e, V, a, t]
  refine hv13 (fun g5 => ?_)
  replace g5 : ((0 : Int) + (1 * t + 0)) = ((0 : Int) + (1 * i + 0)) := g5
  refine hv5 (fun g6 => ?_)
  replace g6 : q75 ((0 : Int) + (1 * b + 0)) ((0 : Int) + (1 * i + 0)) (R 58) := rqo_75_2 g6
  simp only [Int.zero_add, Int.one_mul, Int.add_zero] at g6
  refine hvC ?_
  refine rqi_83_5 (?_ : q83 b p i k e (R 58) (R 67) (R 68) (R 60))
  subst g0
  subst g2
  subst g4
  exact q83_0 (by omega) (by omega) g6 (by omega) (by omega)

theorem tN_83_5_1 : vN rQ 83 hn_83_5_1 := by
  intro R G ps hl
  obtain ⟨b, p, i, k, e, rfl⟩ := hl5 hl
  refine hv4 (hm5 (fun b2 p2 i2 k2 e2 g0 => ?_))
  replace g0 : q83 b2 p2 i2 k2 e2 (R 58) (R 67) (R 68) (R 60) := rqo_83_5 g0
  refine hmb rfl ?_
  show hmt _ _ _ [b, p, i, k, e, b2]
  refine hmb rfl ?_
  show hmt _ _ _ [b, p, i, k, e, b2, p2]
  refine hmb rfl ?_
  show hmt _ _ _ [b, p, i, k, e, b2, p2, i2]
  refine hmb rfl ?_
  show hmt _ _ _ [b, p, i, k, e, b2, p2, i2, k2]
  refine hmb rfl ?_
  show hmt _ _ _ [b, p, i, k, e, b2, p2, i2, k2, e2]
  refine hmn ?_
  show hV _ _ _ _ _ [b, p, i, k, e, b2, p2, i2, k2, e2]
  refine hv13 (fun g1 => ?_)
  replace g1 : ((0 : Int) + (1 * b2 + 0)) = ((0 : Int) + (1 * b + 0)) := g1
  refine hv13 (fun g2 => ?_)
  replace g2 : ((0 : Int) + (1 * p2 + 0)) = ((0 : Int) + (1 * p + 0)) := g2
  refine hv13 (fun g3 => ?_)
  replace g3 : ((0 : Int) + (1 * i2 + 0)) = ((0 : Int) + (1 * i + 0)) := g3
  refine hv13 (fun g4 => ?_)
  replace g4 : ((0 : Int) + (1 * k2 + 0)) = ((-1 : Int) + (1 * k + 0)) := g4
  refine hv13 (fun g5 => ?_)
  replace g5 : ((0 : Int) + (1 * e2 + 0)) = ((-2 : Int) + (1 * e + 0)) := g5
  refine hv2 (fun pl hag6 g6 => ?_)
  replace g6 : R 60 ((-1 : Int) + (1 * k + 0)) = pl := g6
  replace hag6 : (0 : Int) ≤ ((-1 : Int) + (1 * k + 0)) := hag6
  replace g6 : R 60 (k - 1) = pl := hF (R := R 60) g6 (ad_36 k)
  show hV _ _ _ _ _ [b, p, i, k, e, b2, p2, i2, k2, e2, pl]
  refine hv13 (fun g7 => ?_)
  replace g7 : ((0 : Int) + (1 * pl + 0)) = ((-2 : Int) + (1 * e + 0)) := g7
  refine hv2 (fun kk hag8 g8 => ?_)
  replace g8 : R 58 ((22690 : Int) + (1 * b + (2 * k + 0))) = kk := g8
  replace hag8 : (0 : Int) ≤ ((22690 : Int) + (1 * b + (2 * k + 0))) := hag8
  replace g8 : iK (R 58) b (k - 1) = kk := hF (R := R 58) g8 (ad_18 b k)
  show hV _ _ _ _ _ [b, p, i, k, e, b2, p2, i2, k2, e2, pl, kk]
  refine hv13 (fun g9 => ?_)
  replace g9 : ((0 : Int) + (1 * kk + 0)) = ((1 : Int) + 0) := g9
  refine hv2 (fun V hag10 g10 => ?_)
  replace g10 : R 58 ((8295 : Int) + (1 * b + (40 * i + 0))) = V := g10
  replace hag10 : (0 : Int) ≤ ((8295 : Int) + (1 * b + (40 * i + 0))) := hag10
  replace g10 : dV (R 58) b (i) = V := hF (R := R 58) g10 (ad_8 b i)
  show hV _ _ _ _ _ [b, p, i, k, e, b2, p2, i2, k2, e2, pl, kk, V]
  refine hv2 (fun N hag11 g11 => ?_)
  replace g11 : R 58 ((8296 : Int) + (1 * b + (40 * i + 0))) = N := g11
  replace hag11 : (0 : Int) ≤ ((8296 : Int) + (1 * b + (40 * i + 0))) := hag11
  replace g11 : dL (R 58) b (i) = N := hF (R := R 58) g11 (ad_9 b i)
  show hV _ _ _ _ _ [b, p, i, k, e, b2, p2, i2, k2, e2, pl, kk, V, N]
  refine hv0 (fun g12 => ?_)
  replace g12 : (0 : Int) ≤ ((-1 : Int) + (1 * k + ((-1) * V + 0))) := g12
  refine hv0 (fun g13 => ?_)
  replace g13 : (0 : Int) ≤ ((0 : Int) + ((-1) * k + (1 * V + (1 * N + 0)))) := g13
  refine hvC ?_
  refine rqi_83_5 (?_ : q83 b p i k e (R 58) (R 67) (R 68) (R 60))
  have q_ : b = b2 := by omega
  subst q_
  have q_ : p = p2 := by omega
  subst q_
  have q_ : i = i2 := by omega
  subst q_
  have q_ : k2 = k - 1 := by omega
  subst q_
  have q_ : e2 = e - 2 := by omega
  subst q_
  subst g6
  subst g8
  subst g10
  subst g11
  exact q83_s (c := 2) g0 (by omega) (chW_lit (by omega)) (by decide) (by omega)

theorem tN_83_5_2 : vN rQ 83 hn_83_5_2 := by
  intro R G ps hl
  obtain ⟨b, p, i, k, e, rfl⟩ := hl5 hl
  refine hv4 (hm5 (fun b2 p2 i2 k2 e2 g0 => ?_))
  replace g0 : q83 b2 p2 i2 k2 e2 (R 58) (R 67) (R 68) (R 60) := rqo_83_5 g0
  refine hmb rfl ?_
  show hmt _ _ _ [b, p, i, k, e, b2]
  refine hmb rfl ?_
  show hmt _ _ _ [b, p, i, k, e, b2, p2]
  refine hmb rfl ?_
  show hmt _ _ _ [b, p, i, k, e, b2, p2, i2]
  refine hmb rfl ?_
  show hmt _ _ _ [b, p, i, k, e, b2, p2, i2, k2]
  refine hmb rfl ?_
  show hmt _ _ _ [b, p, i, k, e, b2, p2, i2, k2, e2]
  refine hmn ?_
  show hV _ _ _ _ _ [b, p, i, k, e, b2, p2, i2, k2, e2]
  refine hv13 (fun g1 => ?_)
  replace g1 : ((0 : Int) + (1 * b2 + 0)) = ((0 : Int) + (1 * b + 0)) := g1
  refine hv13 (fun g2 => ?_)
  replace g2 : ((0 : Int) + (1 * p2 + 0)) = ((0 : Int) + (1 * p + 0)) := g2
  refine hv13 (fun g3 => ?_)
  replace g3 : ((0 : Int) + (1 * i2 + 0)) = ((0 : Int) + (1 * i + 0)) := g3
  refine hv13 (fun g4 => ?_)
  replace g4 : ((0 : Int) + (1 * k2 + 0)) = ((-1 : Int) + (1 * k + 0)) := g4
  refine hv13 (fun g5 => ?_)
  replace g5 : ((0 : Int) + (1 * e2 + 0)) = ((-1 : Int) + (1 * e + 0)) := g5
  refine hv2 (fun pl hag6 g6 => ?_)
  replace g6 : R 60 ((-1 : Int) + (1 * k + 0)) = pl := g6
  replace hag6 : (0 : Int) ≤ ((-1 : Int) + (1 * k + 0)) := hag6
  replace g6 : R 60 (k - 1) = pl := hF (R := R 60) g6 (ad_36 k)
  show hV _ _ _ _ _ [b, p, i, k, e, b2, p2, i2, k2, e2, pl]
  refine hv13 (fun g7 => ?_)
  replace g7 : ((0 : Int) + (1 * pl + 0)) = ((-1 : Int) + (1 * e + 0)) := g7
  refine hv2 (fun kk hag8 g8 => ?_)
  replace g8 : R 58 ((22690 : Int) + (1 * b + (2 * k + 0))) = kk := g8
  replace hag8 : (0 : Int) ≤ ((22690 : Int) + (1 * b + (2 * k + 0))) := hag8
  replace g8 : iK (R 58) b (k - 1) = kk := hF (R := R 58) g8 (ad_18 b k)
  show hV _ _ _ _ _ [b, p, i, k, e, b2, p2, i2, k2, e2, pl, kk]
  refine hv0 (fun g9 => ?_)
  replace g9 : (0 : Int) ≤ ((-2 : Int) + (1 * kk + 0)) := g9
  refine hv0 (fun g10 => ?_)
  replace g10 : (0 : Int) ≤ ((9 : Int) + ((-1) * kk + 0)) := g10
  refine hv2 (fun V hag11 g11 => ?_)
  replace g11 : R 58 ((8295 : Int) + (1 * b + (40 * i + 0))) = V := g11
  replace hag11 : (0 : Int) ≤ ((8295 : Int) + (1 * b + (40 * i + 0))) := hag11
  replace g11 : dV (R 58) b (i) = V := hF (R := R 58) g11 (ad_8 b i)
  show hV _ _ _ _ _ [b, p, i, k, e, b2, p2, i2, k2, e2, pl, kk, V]
  refine hv2 (fun N hag12 g12 => ?_)
  replace g12 : R 58 ((8296 : Int) + (1 * b + (40 * i + 0))) = N := g12
  replace hag12 : (0 : Int) ≤ ((8296 : Int) + (1 * b + (40 * i + 0))) := hag12
  replace g12 : dL (R 58) b (i) = N := hF (R := R 58) g12 (ad_9 b i)
  show hV _ _ _ _ _ [b, p, i, k, e, b2, p2, i2, k2, e2, pl, kk, V, N]
  refine hv0 (fun g13 => ?_)
  replace g13 : (0 : Int) ≤ ((-1 : Int) + (1 * k + ((-1) * V + 0))) := g13
  refine hv0 (fun g14 => ?_)
  replace g14 : (0 : Int) ≤ ((0 : Int) + ((-1) * k + (1 * V + (1 * N + 0)))) := g14
  refine hvC ?_
  refine rqi_83_5 (?_ : q83 b p i k e (R 58) (R 67) (R 68) (R 60))
  have q_ : b = b2 := by omega
  subst q_
  have q_ : p = p2 := by omega
  subst q_
  have q_ : i = i2 := by omega
  subst q_
  have q_ : k2 = k - 1 := by omega
  subst q_
  have q_ : e2 = e - 1 := by omega
  subst q_
  subst g6
  subst g8
  subst g11
  subst g12
  exact q83_s (c := 1) g0 (by omega) (chW_one (by omega)) (by decide) (by omega)

theorem tN_83_5_3 : vN rQ 83 hn_83_5_3 := by
  intro R G ps hl
  obtain ⟨b, p, i, k, e, rfl⟩ := hl5 hl
  refine hv4 (hm5 (fun b2 p2 i2 k2 e2 g0 => ?_))
  replace g0 : q83 b2 p2 i2 k2 e2 (R 58) (R 67) (R 68) (R 60) := rqo_83_5 g0
  refine hmb rfl ?_
  show hmt _ _ _ [b, p, i, k, e, b2]
  refine hmb rfl ?_
  show hmt _ _ _ [b, p, i, k, e, b2, p2]
  refine hmb rfl ?_
  show hmt _ _ _ [b, p, i, k, e, b2, p2, i2]
  refine hmb rfl ?_
  show hmt _ _ _ [b, p, i, k, e, b2, p2, i2, k2]
  refine hmb rfl ?_
  show hmt _ _ _ [b, p, i, k, e, b2, p2, i2, k2, e2]
  refine hmn ?_
  show hV _ _ _ _ _ [b, p, i, k, e, b2, p2, i2, k2, e2]
  refine hv13 (fun g1 => ?_)
  replace g1 : ((0 : Int) + (1 * b2 + 0)) = ((0 : Int) + (1 * b + 0)) := g1
  refine hv13 (fun g2 => ?_)
  replace g2 : ((0 : Int) + (1 * p2 + 0)) = ((0 : Int) + (1 * p + 0)) := g2
  refine hv13 (fun g3 => ?_)
  replace g3 : ((0 : Int) + (1 * i2 + 0)) = ((0 : Int) + (1 * i + 0)) := g3
  refine hv13 (fun g4 => ?_)
  replace g4 : ((0 : Int) + (1 * k2 + 0)) = ((-1 : Int) + (1 * k + 0)) := g4
  refine hv13 (fun g5 => ?_)
  replace g5 : ((0 : Int) + (1 * e2 + 0)) = ((-1 : Int) + (1 * e + 0)) := g5
  refine hv2 (fun pl hag6 g6 => ?_)
  replace g6 : R 60 ((-1 : Int) + (1 * k + 0)) = pl := g6
  replace hag6 : (0 : Int) ≤ ((-1 : Int) + (1 * k + 0)) := hag6
  replace g6 : R 60 (k - 1) = pl := hF (R := R 60) g6 (ad_36 k)
  show hV _ _ _ _ _ [b, p, i, k, e, b2, p2, i2, k2, e2, pl]
  refine hv13 (fun g7 => ?_)
  replace g7 : ((0 : Int) + (1 * pl + 0)) = ((-1 : Int) + (1 * e + 0)) := g7
  refine hv2 (fun kk hag8 g8 => ?_)
  replace g8 : R 58 ((22690 : Int) + (1 * b + (2 * k + 0))) = kk := g8
  replace hag8 : (0 : Int) ≤ ((22690 : Int) + (1 * b + (2 * k + 0))) := hag8
  replace g8 : iK (R 58) b (k - 1) = kk := hF (R := R 58) g8 (ad_18 b k)
  show hV _ _ _ _ _ [b, p, i, k, e, b2, p2, i2, k2, e2, pl, kk]
  refine hv0 (fun g9 => ?_)
  replace g9 : (0 : Int) ≤ ((-11 : Int) + (1 * kk + 0)) := g9
  refine hv0 (fun g10 => ?_)
  replace g10 : (0 : Int) ≤ ((13 : Int) + ((-1) * kk + 0)) := g10
  refine hv2 (fun V hag11 g11 => ?_)
  replace g11 : R 58 ((8295 : Int) + (1 * b + (40 * i + 0))) = V := g11
  replace hag11 : (0 : Int) ≤ ((8295 : Int) + (1 * b + (40 * i + 0))) := hag11
  replace g11 : dV (R 58) b (i) = V := hF (R := R 58) g11 (ad_8 b i)
  show hV _ _ _ _ _ [b, p, i, k, e, b2, p2, i2, k2, e2, pl, kk, V]
  refine hv2 (fun N hag12 g12 => ?_)
  replace g12 : R 58 ((8296 : Int) + (1 * b + (40 * i + 0))) = N := g12
  replace hag12 : (0 : Int) ≤ ((8296 : Int) + (1 * b + (40 * i + 0))) := hag12
  replace g12 : dL (R 58) b (i) = N := hF (R := R 58) g12 (ad_9 b i)
  show hV _ _ _ _ _ [b, p, i, k, e, b2, p2, i2, k2, e2, pl, kk, V, N]
  refine hv0 (fun g13 => ?_)
  replace g13 : (0 : Int) ≤ ((-1 : Int) + (1 * k + ((-1) * V + 0))) := g13
  refine hv0 (fun g14 => ?_)
  replace g14 : (0 : Int) ≤ ((0 : Int) + ((-1) * k + (1 * V + (1 * N + 0)))) := g14
  refine hvC ?_
  refine rqi_83_5 (?_ : q83 b p i k e (R 58) (R 67) (R 68) (R 60))
  have q_ : b = b2 := by omega
  subst q_
  have q_ : p = p2 := by omega
  subst q_
  have q_ : i = i2 := by omega
  subst q_
  have q_ : k2 = k - 1 := by omega
  subst q_
  have q_ : e2 = e - 1 := by omega
  subst q_
  subst g6
  subst g8
  subst g11
  subst g12
  exact q83_s (c := 1) g0 (by omega) (chW_one (by omega)) (by decide) (by omega)

theorem tN_83_5_4 : vN rQ 83 hn_83_5_4 := by
  intro R G ps hl
  obtain ⟨b, p, i, k, e, rfl⟩ := hl5 hl
  refine hv4 (hm5 (fun b2 p2 i2 k2 e2 g0 => ?_))
  replace g0 : q83 b2 p2 i2 k2 e2 (R 58) (R 67) (R 68) (R 60) := rqo_83_5 g0
  refine hmb rfl ?_
  show hmt _ _ _ [b, p, i, k, e, b2]
  refine hmb rfl ?_
  show hmt _ _ _ [b, p, i, k, e, b2, p2]
  refine hmb rfl ?_
  show hmt _ _ _ [b, p, i, k, e, b2, p2, i2]
  refine hmb rfl ?_
  show hmt _ _ _ [b, p, i, k, e, b2, p2, i2, k2]
  refine hmb rfl ?_
  show hmt _ _ _ [b, p, i, k, e, b2, p2, i2, k2, e2]
  refine hmn ?_
  show hV _ _ _ _ _ [b, p, i, k, e, b2, p2, i2, k2, e2]
  refine hv13 (fun g1 => ?_)
  replace g1 : ((0 : Int) + (1 * b2 + 0)) = ((0 : Int) + (1 * b + 0)) := g1
  refine hv13 (fun g2 => ?_)
  replace g2 : ((0 : Int) + (1 * p2 + 0)) = ((0 : Int) + (1 * p + 0)) := g2
  refine hv13 (fun g3 => ?_)
  replace g3 : ((0 : Int) + (1 * i2 + 0)) = ((0 : Int) + (1 * i + 0)) := g3
  refine hv13 (fun g4 => ?_)
  replace g4 : ((0 : Int) + (1 * k2 + 0)) = ((-1 : Int) + (1 * k + 0)) := g4
  refine hv13 (fun g5 => ?_)
  replace g5 : ((0 : Int) + (1 * e2 + 0)) = ((-1 : Int) + (1 * e + 0)) := g5
  refine hv2 (fun pl hag6 g6 => ?_)
  replace g6 : R 60 ((-1 : Int) + (1 * k + 0)) = pl := g6
  replace hag6 : (0 : Int) ≤ ((-1 : Int) + (1 * k + 0)) := hag6
  replace g6 : R 60 (k - 1) = pl := hF (R := R 60) g6 (ad_36 k)
  show hV _ _ _ _ _ [b, p, i, k, e, b2, p2, i2, k2, e2, pl]
  refine hv13 (fun g7 => ?_)
  replace g7 : ((0 : Int) + (1 * pl + 0)) = ((-1 : Int) + (1 * e + 0)) := g7
  refine hv2 (fun kk hag8 g8 => ?_)
  replace g8 : R 58 ((22690 : Int) + (1 * b + (2 * k + 0))) = kk := g8
  replace hag8 : (0 : Int) ≤ ((22690 : Int) + (1 * b + (2 * k + 0))) := hag8
  replace g8 : iK (R 58) b (k - 1) = kk := hF (R := R 58) g8 (ad_18 b k)
  show hV _ _ _ _ _ [b, p, i, k, e, b2, p2, i2, k2, e2, pl, kk]
  refine hv13 (fun g9 => ?_)
  replace g9 : ((0 : Int) + (1 * kk + 0)) = ((0 : Int) + 0) := g9
  refine hv2 (fun nn hag10 g10 => ?_)
  replace g10 : R 58 ((22691 : Int) + (1 * b + (2 * k + 0))) = nn := g10
  replace hag10 : (0 : Int) ≤ ((22691 : Int) + (1 * b + (2 * k + 0))) := hag10
  replace g10 : iN (R 58) b (k - 1) = nn := hF (R := R 58) g10 (ad_19 b k)
  show hV _ _ _ _ _ [b, p, i, k, e, b2, p2, i2, k2, e2, pl, kk, nn]
  refine hv2 (fun wk hag11 g11 => ?_)
  replace g11 : R 58 ((8292 : Int) + (1 * b + (40 * nn + 0))) = wk := g11
  replace hag11 : (0 : Int) ≤ ((8292 : Int) + (1 * b + (40 * nn + 0))) := hag11
  replace g11 : dK (R 58) b (nn) = wk := hF (R := R 58) g11 (ad_41 b nn)
  show hV _ _ _ _ _ [b, p, i, k, e, b2, p2, i2, k2, e2, pl, kk, nn, wk]
  refine hv13 (fun g12 => ?_)
  replace g12 : ((0 : Int) + (1 * wk + 0)) = ((0 : Int) + 0) := g12
  refine hv0 (fun g13 => ?_)
  replace g13 : (0 : Int) ≤ ((69 : Int) + ((-1) * nn + 0)) := g13
  refine hv0 (fun g14 => ?_)
  replace g14 : (0 : Int) ≤ ((0 : Int) + (1 * nn + 0)) := g14
  refine hv2 (fun V hag15 g15 => ?_)
  replace g15 : R 58 ((8295 : Int) + (1 * b + (40 * i + 0))) = V := g15
  replace hag15 : (0 : Int) ≤ ((8295 : Int) + (1 * b + (40 * i + 0))) := hag15
  replace g15 : dV (R 58) b (i) = V := hF (R := R 58) g15 (ad_8 b i)
  show hV _ _ _ _ _ [b, p, i, k, e, b2, p2, i2, k2, e2, pl, kk, nn, wk, V]
  refine hv2 (fun N hag16 g16 => ?_)
  replace g16 : R 58 ((8296 : Int) + (1 * b + (40 * i + 0))) = N := g16
  replace hag16 : (0 : Int) ≤ ((8296 : Int) + (1 * b + (40 * i + 0))) := hag16
  replace g16 : dL (R 58) b (i) = N := hF (R := R 58) g16 (ad_9 b i)
  show hV _ _ _ _ _ [b, p, i, k, e, b2, p2, i2, k2, e2, pl, kk, nn, wk, V, N]
  refine hv0 (fun g17 => ?_)
  replace g17 : (0 : Int) ≤ ((-1 : Int) + (1 * k + ((-1) * V + 0))) := g17
  refine hv0 (fun g18 => ?_)
  replace g18 : (0 : Int) ≤ ((0 : Int) + ((-1) * k + (1 * V + (1 * N + 0)))) := g18
  refine hvC ?_
  refine rqi_83_5 (?_ : q83 b p i k e (R 58) (R 67) (R 68) (R 60))
  have q_ : b = b2 := by omega
  subst q_
  have q_ : p = p2 := by omega
  subst q_
  have q_ : i = i2 := by omega
  subst q_
  have q_ : k2 = k - 1 := by omega
  subst q_
  have q_ : e2 = e - 1 := by omega
  subst q_
  subst g6
  subst g8
  subst g10
  subst g11
  subst g15
  subst g16
  exact q83_s (c := 1) g0 (by omega) (chW_prim (by omega) (by omega) (by omega)) (by decide) (by omega)

theorem tN_83_5_5 : vN rQ 83 hn_83_5_5 := by
  intro R G ps hl
  obtain ⟨b, p, i, k, e, rfl⟩ := hl5 hl
  refine hv4 (hm5 (fun b2 p2 i2 k2 e2 g0 => ?_))
  replace g0 : q83 b2 p2 i2 k2 e2 (R 58) (R 67) (R 68) (R 60) := rqo_83_5 g0
  refine hmb rfl ?_
  show hmt _ _ _ [b, p, i, k, e, b2]
  refine hmb rfl ?_
  show hmt _ _ _ [b, p, i, k, e, b2, p2]
  refine hmb rfl ?_
  show hmt _ _ _ [b, p, i, k, e, b2, p2, i2]
  refine hmb rfl ?_
  show hmt _ _ _ [b, p, i, k, e, b2, p2, i2, k2]
  refine hmb rfl ?_
  show hmt _ _ _ [b, p, i, k, e, b2, p2, i2, k2, e2]
  refine hmn ?_
  show hV _ _ _ _ _ [b, p, i, k, e, b2, p2, i2, k2, e2]
  refine hv13 (fun g1 => ?_)
  replace g1 : ((0 : Int) + (1 * b2 + 0)) = ((0 : Int) + (1 * b + 0)) := g1
  refine hv13 (fun g2 => ?_)
  replace g2 : ((0 : Int) + (1 * p2 + 0)) = ((0 : Int) + (1 * p + 0)) := g2
  refine hv13 (fun g3 => ?_)
  replace g3 : ((0 : Int) + (1 * i2 + 0)) = ((0 : Int) + (1 * i + 0)) := g3
  refine hv13 (fun g4 => ?_)
  replace g4 : ((0 : Int) + (1 * k2 + 0)) = ((-1 : Int) + (1 * k + 0)) := g4
  refine hv13 (fun g5 => ?_)
  replace g5 : ((0 : Int) + (1 * e2 + 0)) = ((-1 : Int) + (1 * e + 0)) := g5
  refine hv2 (fun pl hag6 g6 => ?_)
  replace g6 : R 60 ((-1 : Int) + (1 * k + 0)) = pl := g6
  replace hag6 : (0 : Int) ≤ ((-1 : Int) + (1 * k + 0)) := hag6
  replace g6 : R 60 (k - 1) = pl := hF (R := R 60) g6 (ad_36 k)
  show hV _ _ _ _ _ [b, p, i, k, e, b2, p2, i2, k2, e2, pl]
  refine hv13 (fun g7 => ?_)
  replace g7 : ((0 : Int) + (1 * pl + 0)) = ((-1 : Int) + (1 * e + 0)) := g7
  refine hv2 (fun kk hag8 g8 => ?_)
  replace g8 : R 58 ((22690 : Int) + (1 * b + (2 * k + 0))) = kk := g8
  replace hag8 : (0 : Int) ≤ ((22690 : Int) + (1 * b + (2 * k + 0))) := hag8
  replace g8 : iK (R 58) b (k - 1) = kk := hF (R := R 58) g8 (ad_18 b k)
  show hV _ _ _ _ _ [b, p, i, k, e, b2, p2, i2, k2, e2, pl, kk]
  refine hv13 (fun g9 => ?_)
  replace g9 : ((0 : Int) + (1 * kk + 0)) = ((0 : Int) + 0) := g9
  refine hv2 (fun nn hag10 g10 => ?_)
  replace g10 : R 58 ((22691 : Int) + (1 * b + (2 * k + 0))) = nn := g10
  replace hag10 : (0 : Int) ≤ ((22691 : Int) + (1 * b + (2 * k + 0))) := hag10
  replace g10 : iN (R 58) b (k - 1) = nn := hF (R := R 58) g10 (ad_19 b k)
  show hV _ _ _ _ _ [b, p, i, k, e, b2, p2, i2, k2, e2, pl, kk, nn]
  refine hv2 (fun wk hag11 g11 => ?_)
  replace g11 : R 58 ((8292 : Int) + (1 * b + (40 * nn + 0))) = wk := g11
  replace hag11 : (0 : Int) ≤ ((8292 : Int) + (1 * b + (40 * nn + 0))) := hag11
  replace g11 : dK (R 58) b (nn) = wk := hF (R := R 58) g11 (ad_41 b nn)
  show hV _ _ _ _ _ [b, p, i, k, e, b2, p2, i2, k2, e2, pl, kk, nn, wk]
  refine hv13 (fun g12 => ?_)
  replace g12 : ((0 : Int) + (1 * wk + 0)) = ((0 : Int) + 0) := g12
  refine hv0 (fun g13 => ?_)
  replace g13 : (0 : Int) ≤ ((-75 : Int) + (1 * nn + 0)) := g13
  refine hv0 (fun g14 => ?_)
  replace g14 : (0 : Int) ≤ ((82 : Int) + ((-1) * nn + 0)) := g14
  refine hv2 (fun V hag15 g15 => ?_)
  replace g15 : R 58 ((8295 : Int) + (1 * b + (40 * i + 0))) = V := g15
  replace hag15 : (0 : Int) ≤ ((8295 : Int) + (1 * b + (40 * i + 0))) := hag15
  replace g15 : dV (R 58) b (i) = V := hF (R := R 58) g15 (ad_8 b i)
  show hV _ _ _ _ _ [b, p, i, k, e, b2, p2, i2, k2, e2, pl, kk, nn, wk, V]
  refine hv2 (fun N hag16 g16 => ?_)
  replace g16 : R 58 ((8296 : Int) + (1 * b + (40 * i + 0))) = N := g16
  replace hag16 : (0 : Int) ≤ ((8296 : Int) + (1 * b + (40 * i + 0))) := hag16
  replace g16 : dL (R 58) b (i) = N := hF (R := R 58) g16 (ad_9 b i)
  show hV _ _ _ _ _ [b, p, i, k, e, b2, p2, i2, k2, e2, pl, kk, nn, wk, V, N]
  refine hv0 (fun g17 => ?_)
  replace g17 : (0 : Int) ≤ ((-1 : Int) + (1 * k + ((-1) * V + 0))) := g17
  refine hv0 (fun g18 => ?_)
  replace g18 : (0 : Int) ≤ ((0 : Int) + ((-1) * k + (1 * V + (1 * N + 0)))) := g18
  refine hvC ?_
  refine rqi_83_5 (?_ : q83 b p i k e (R 58) (R 67) (R 68) (R 60))
  have q_ : b = b2 := by omega
  subst q_
  have q_ : p = p2 := by omega
  subst q_
  have q_ : i = i2 := by omega
  subst q_
  have q_ : k2 = k - 1 := by omega
  subst q_
  have q_ : e2 = e - 1 := by omega
  subst q_
  subst g6
  subst g8
  subst g10
  subst g11
  subst g15
  subst g16
  exact q83_s (c := 1) g0 (by omega) (chW_prim (by omega) (by omega) (by omega)) (by decide) (by omega)

theorem tN_83_5_6 : vN rQ 83 hn_83_5_6 := by
  intro R G ps hl
  obtain ⟨b, p, i, k, e, rfl⟩ := hl5 hl
  refine hv4 (hm5 (fun b2 p2 i2 k2 e2 g0 => ?_))
  replace g0 : q83 b2 p2 i2 k2 e2 (R 58) (R 67) (R 68) (R 60) := rqo_83_5 g0
  refine hmb rfl ?_
  show hmt _ _ _ [b, p, i, k, e, b2]
  refine hmb rfl ?_
  show hmt _ _ _ [b, p, i, k, e, b2, p2]
  refine hmb rfl ?_
  show hmt _ _ _ [b, p, i, k, e, b2, p2, i2]
  refine hmb rfl ?_
  show hmt _ _ _ [b, p, i, k, e, b2, p2, i2, k2]
  refine hmb rfl ?_
  show hmt _ _ _ [b, p, i, k, e, b2, p2, i2, k2, e2]
  refine hmn ?_
  show hV _ _ _ _ _ [b, p, i, k, e, b2, p2, i2, k2, e2]
  refine hv13 (fun g1 => ?_)
  replace g1 : ((0 : Int) + (1 * b2 + 0)) = ((0 : Int) + (1 * b + 0)) := g1
  refine hv13 (fun g2 => ?_)
  replace g2 : ((0 : Int) + (1 * p2 + 0)) = ((0 : Int) + (1 * p + 0)) := g2
  refine hv13 (fun g3 => ?_)
  replace g3 : ((0 : Int) + (1 * i2 + 0)) = ((0 : Int) + (1 * i + 0)) := g3
  refine hv13 (fun g4 => ?_)
  replace g4 : ((0 : Int) + (1 * k2 + 0)) = ((-1 : Int) + (1 * k + 0)) := g4
  refine hv13 (fun g5 => ?_)
  replace g5 : ((0 : Int) + (1 * e2 + 0)) = ((-1 : Int) + (1 * e + 0)) := g5
  refine hv2 (fun pl hag6 g6 => ?_)
  replace g6 : R 60 ((-1 : Int) + (1 * k + 0)) = pl := g6
  replace hag6 : (0 : Int) ≤ ((-1 : Int) + (1 * k + 0)) := hag6
  replace g6 : R 60 (k - 1) = pl := hF (R := R 60) g6 (ad_36 k)
  show hV _ _ _ _ _ [b, p, i, k, e, b2, p2, i2, k2, e2, pl]
  refine hv13 (fun g7 => ?_)
  replace g7 : ((0 : Int) + (1 * pl + 0)) = ((-1 : Int) + (1 * e + 0)) := g7
  refine hv2 (fun kk hag8 g8 => ?_)
  replace g8 : R 58 ((22690 : Int) + (1 * b + (2 * k + 0))) = kk := g8
  replace hag8 : (0 : Int) ≤ ((22690 : Int) + (1 * b + (2 * k + 0))) := hag8
  replace g8 : iK (R 58) b (k - 1) = kk := hF (R := R 58) g8 (ad_18 b k)
  show hV _ _ _ _ _ [b, p, i, k, e, b2, p2, i2, k2, e2, pl, kk]
  refine hv13 (fun g9 => ?_)
  replace g9 : ((0 : Int) + (1 * kk + 0)) = ((0 : Int) + 0) := g9
  refine hv2 (fun nn hag10 g10 => ?_)
  replace g10 : R 58 ((22691 : Int) + (1 * b + (2 * k + 0))) = nn := g10
  replace hag10 : (0 : Int) ≤ ((22691 : Int) + (1 * b + (2 * k + 0))) := hag10
  replace g10 : iN (R 58) b (k - 1) = nn := hF (R := R 58) g10 (ad_19 b k)
  show hV _ _ _ _ _ [b, p, i, k, e, b2, p2, i2, k2, e2, pl, kk, nn]
  refine hv2 (fun wk hag11 g11 => ?_)
  replace g11 : R 58 ((8292 : Int) + (1 * b + (40 * nn + 0))) = wk := g11
  replace hag11 : (0 : Int) ≤ ((8292 : Int) + (1 * b + (40 * nn + 0))) := hag11
  replace g11 : dK (R 58) b (nn) = wk := hF (R := R 58) g11 (ad_41 b nn)
  show hV _ _ _ _ _ [b, p, i, k, e, b2, p2, i2, k2, e2, pl, kk, nn, wk]
  refine hv13 (fun g12 => ?_)
  replace g12 : ((0 : Int) + (1 * wk + 0)) = ((0 : Int) + 0) := g12
  refine hv0 (fun g13 => ?_)
  replace g13 : (0 : Int) ≤ ((-147 : Int) + (1 * nn + 0)) := g13
  refine hv0 (fun g14 => ?_)
  replace g14 : (0 : Int) ≤ ((150 : Int) + ((-1) * nn + 0)) := g14
  refine hv2 (fun V hag15 g15 => ?_)
  replace g15 : R 58 ((8295 : Int) + (1 * b + (40 * i + 0))) = V := g15
  replace hag15 : (0 : Int) ≤ ((8295 : Int) + (1 * b + (40 * i + 0))) := hag15
  replace g15 : dV (R 58) b (i) = V := hF (R := R 58) g15 (ad_8 b i)
  show hV _ _ _ _ _ [b, p, i, k, e, b2, p2, i2, k2, e2, pl, kk, nn, wk, V]
  refine hv2 (fun N hag16 g16 => ?_)
  replace g16 : R 58 ((8296 : Int) + (1 * b + (40 * i + 0))) = N := g16
  replace hag16 : (0 : Int) ≤ ((8296 : Int) + (1 * b + (40 * i + 0))) := hag16
  replace g16 : dL (R 58) b (i) = N := hF (R := R 58) g16 (ad_9 b i)
  show hV _ _ _ _ _ [b, p, i, k, e, b2, p2, i2, k2, e2, pl, kk, nn, wk, V, N]
  refine hv0 (fun g17 => ?_)
  replace g17 : (0 : Int) ≤ ((-1 : Int) + (1 * k + ((-1) * V + 0))) := g17
  refine hv0 (fun g18 => ?_)
  replace g18 : (0 : Int) ≤ ((0 : Int) + ((-1) * k + (1 * V + (1 * N + 0)))) := g18
  refine hvC ?_
  refine rqi_83_5 (?_ : q83 b p i k e (R 58) (R 67) (R 68) (R 60))
  have q_ : b = b2 := by omega
  subst q_
  have q_ : p = p2 := by omega
  subst q_
  have q_ : i = i2 := by omega
  subst q_
  have q_ : k2 = k - 1 := by omega
  subst q_
  have q_ : e2 = e - 1 := by omega
  subst q_
  subst g6
  subst g8
  subst g10
  subst g11
  subst g15
  subst g16
  exact q83_s (c := 1) g0 (by omega) (chW_prim (by omega) (by omega) (by omega)) (by decide) (by omega)

theorem tN_83_5_7 : vN rQ 83 hn_83_5_7 := by
  intro R G ps hl
  obtain ⟨b, p, i, k, e, rfl⟩ := hl5 hl
  refine hv4 (hm5 (fun b2 p2 i2 k2 e2 g0 => ?_))
  replace g0 : q83 b2 p2 i2 k2 e2 (R 58) (R 67) (R 68) (R 60) := rqo_83_5 g0
  refine hmb rfl ?_
  show hmt _ _ _ [b, p, i, k, e, b2]
  refine hmb rfl ?_
  show hmt _ _ _ [b, p, i, k, e, b2, p2]
  refine hmb rfl ?_
  show hmt _ _ _ [b, p, i, k, e, b2, p2, i2]
  refine hmb rfl ?_
  show hmt _ _ _ [b, p, i, k, e, b2, p2, i2, k2]
  refine hmb rfl ?_
  show hmt _ _ _ [b, p, i, k, e, b2, p2, i2, k2, e2]
  refine hmn ?_
  show hV _ _ _ _ _ [b, p, i, k, e, b2, p2, i2, k2, e2]
  refine hv13 (fun g1 => ?_)
  replace g1 : ((0 : Int) + (1 * b2 + 0)) = ((0 : Int) + (1 * b + 0)) := g1
  refine hv13 (fun g2 => ?_)
  replace g2 : ((0 : Int) + (1 * p2 + 0)) = ((0 : Int) + (1 * p + 0)) := g2
  refine hv13 (fun g3 => ?_)
  replace g3 : ((0 : Int) + (1 * i2 + 0)) = ((0 : Int) + (1 * i + 0)) := g3
  refine hv13 (fun g4 => ?_)
  replace g4 : ((0 : Int) + (1 * k2 + 0)) = ((-1 : Int) + (1 * k + 0)) := g4
  refine hv13 (fun g5 => ?_)
  replace g5 : ((0 : Int) + (1 * e2 + 0)) = ((-1 : Int) + (1 * e + 0)) := g5
  refine hv2 (fun pl hag6 g6 => ?_)
  replace g6 : R 60 ((-1 : Int) + (1 * k + 0)) = pl := g6
  replace hag6 : (0 : Int) ≤ ((-1 : Int) + (1 * k + 0)) := hag6
  replace g6 : R 60 (k - 1) = pl := hF (R := R 60) g6 (ad_36 k)
  show hV _ _ _ _ _ [b, p, i, k, e, b2, p2, i2, k2, e2, pl]
  refine hv13 (fun g7 => ?_)
  replace g7 : ((0 : Int) + (1 * pl + 0)) = ((-1 : Int) + (1 * e + 0)) := g7
  refine hv2 (fun kk hag8 g8 => ?_)
  replace g8 : R 58 ((22690 : Int) + (1 * b + (2 * k + 0))) = kk := g8
  replace hag8 : (0 : Int) ≤ ((22690 : Int) + (1 * b + (2 * k + 0))) := hag8
  replace g8 : iK (R 58) b (k - 1) = kk := hF (R := R 58) g8 (ad_18 b k)
  show hV _ _ _ _ _ [b, p, i, k, e, b2, p2, i2, k2, e2, pl, kk]
  refine hv13 (fun g9 => ?_)
  replace g9 : ((0 : Int) + (1 * kk + 0)) = ((0 : Int) + 0) := g9
  refine hv2 (fun nn hag10 g10 => ?_)
  replace g10 : R 58 ((22691 : Int) + (1 * b + (2 * k + 0))) = nn := g10
  replace hag10 : (0 : Int) ≤ ((22691 : Int) + (1 * b + (2 * k + 0))) := hag10
  replace g10 : iN (R 58) b (k - 1) = nn := hF (R := R 58) g10 (ad_19 b k)
  show hV _ _ _ _ _ [b, p, i, k, e, b2, p2, i2, k2, e2, pl, kk, nn]
  refine hv2 (fun wk hag11 g11 => ?_)
  replace g11 : R 58 ((8292 : Int) + (1 * b + (40 * nn + 0))) = wk := g11
  replace hag11 : (0 : Int) ≤ ((8292 : Int) + (1 * b + (40 * nn + 0))) := hag11
  replace g11 : dK (R 58) b (nn) = wk := hF (R := R 58) g11 (ad_41 b nn)
  show hV _ _ _ _ _ [b, p, i, k, e, b2, p2, i2, k2, e2, pl, kk, nn, wk]
  refine hv13 (fun g12 => ?_)
  replace g12 : ((0 : Int) + (1 * wk + 0)) = ((1 : Int) + 0) := g12
  refine hv2 (fun V hag13 g13 => ?_)
  replace g13 : R 58 ((8295 : Int) + (1 * b + (40 * i + 0))) = V := g13
  replace hag13 : (0 : Int) ≤ ((8295 : Int) + (1 * b + (40 * i + 0))) := hag13
  replace g13 : dV (R 58) b (i) = V := hF (R := R 58) g13 (ad_8 b i)
  show hV _ _ _ _ _ [b, p, i, k, e, b2, p2, i2, k2, e2, pl, kk, nn, wk, V]
  refine hv2 (fun N hag14 g14 => ?_)
  replace g14 : R 58 ((8296 : Int) + (1 * b + (40 * i + 0))) = N := g14
  replace hag14 : (0 : Int) ≤ ((8296 : Int) + (1 * b + (40 * i + 0))) := hag14
  replace g14 : dL (R 58) b (i) = N := hF (R := R 58) g14 (ad_9 b i)
  show hV _ _ _ _ _ [b, p, i, k, e, b2, p2, i2, k2, e2, pl, kk, nn, wk, V, N]
  refine hv0 (fun g15 => ?_)
  replace g15 : (0 : Int) ≤ ((-1 : Int) + (1 * k + ((-1) * V + 0))) := g15
  refine hv0 (fun g16 => ?_)
  replace g16 : (0 : Int) ≤ ((0 : Int) + ((-1) * k + (1 * V + (1 * N + 0)))) := g16
  refine hvC ?_
  refine rqi_83_5 (?_ : q83 b p i k e (R 58) (R 67) (R 68) (R 60))
  have q_ : b = b2 := by omega
  subst q_
  have q_ : p = p2 := by omega
  subst q_
  have q_ : i = i2 := by omega
  subst q_
  have q_ : k2 = k - 1 := by omega
  subst q_
  have q_ : e2 = e - 1 := by omega
  subst q_
  subst g6
  subst g8
  subst g10
  subst g11
  subst g13
  subst g14
  exact q83_s (c := 1) g0 (by omega) (chW_call (by omega) (by omega)) (by decide) (by omega)

theorem tN_83_5_8 : vN rQ 83 hn_83_5_8 := by
  intro R G ps hl
  obtain ⟨b, p, i, k, e, rfl⟩ := hl5 hl
  refine hv4 (hm5 (fun b2 p2 i2 k2 e2 g0 => ?_))
  replace g0 : q83 b2 p2 i2 k2 e2 (R 58) (R 67) (R 68) (R 60) := rqo_83_5 g0
  refine hmb rfl ?_
  show hmt _ _ _ [b, p, i, k, e, b2]
  refine hmb rfl ?_
  show hmt _ _ _ [b, p, i, k, e, b2, p2]
  refine hmb rfl ?_
  show hmt _ _ _ [b, p, i, k, e, b2, p2, i2]
  refine hmb rfl ?_
  show hmt _ _ _ [b, p, i, k, e, b2, p2, i2, k2]
  refine hmb rfl ?_
  show hmt _ _ _ [b, p, i, k, e, b2, p2, i2, k2, e2]
  refine hmn ?_
  show hV _ _ _ _ _ [b, p, i, k, e, b2, p2, i2, k2, e2]
  refine hv13 (fun g1 => ?_)
  replace g1 : ((0 : Int) + (1 * b2 + 0)) = ((0 : Int) + (1 * b + 0)) := g1
  refine hv13 (fun g2 => ?_)
  replace g2 : ((0 : Int) + (1 * p2 + 0)) = ((0 : Int) + (1 * p + 0)) := g2
  refine hv13 (fun g3 => ?_)
  replace g3 : ((0 : Int) + (1 * i2 + 0)) = ((0 : Int) + (1 * i + 0)) := g3
  refine hv13 (fun g4 => ?_)
  replace g4 : ((0 : Int) + (1 * k2 + 0)) = ((-1 : Int) + (1 * k + 0)) := g4
  refine hv13 (fun g5 => ?_)
  replace g5 : ((0 : Int) + (1 * e2 + 0)) = ((-2 : Int) + (1 * e + 0)) := g5
  refine hv2 (fun pl hag6 g6 => ?_)
  replace g6 : R 60 ((-1 : Int) + (1 * k + 0)) = pl := g6
  replace hag6 : (0 : Int) ≤ ((-1 : Int) + (1 * k + 0)) := hag6
  replace g6 : R 60 (k - 1) = pl := hF (R := R 60) g6 (ad_36 k)
  show hV _ _ _ _ _ [b, p, i, k, e, b2, p2, i2, k2, e2, pl]
  refine hv13 (fun g7 => ?_)
  replace g7 : ((0 : Int) + (1 * pl + 0)) = ((-2 : Int) + (1 * e + 0)) := g7
  refine hv2 (fun kk hag8 g8 => ?_)
  replace g8 : R 58 ((22690 : Int) + (1 * b + (2 * k + 0))) = kk := g8
  replace hag8 : (0 : Int) ≤ ((22690 : Int) + (1 * b + (2 * k + 0))) := hag8
  replace g8 : iK (R 58) b (k - 1) = kk := hF (R := R 58) g8 (ad_18 b k)
  show hV _ _ _ _ _ [b, p, i, k, e, b2, p2, i2, k2, e2, pl, kk]
  refine hv13 (fun g9 => ?_)
  replace g9 : ((0 : Int) + (1 * kk + 0)) = ((0 : Int) + 0) := g9
  refine hv2 (fun nn hag10 g10 => ?_)
  replace g10 : R 58 ((22691 : Int) + (1 * b + (2 * k + 0))) = nn := g10
  replace hag10 : (0 : Int) ≤ ((22691 : Int) + (1 * b + (2 * k + 0))) := hag10
  replace g10 : iN (R 58) b (k - 1) = nn := hF (R := R 58) g10 (ad_19 b k)
  show hV _ _ _ _ _ [b, p, i, k, e, b2, p2, i2, k2, e2, pl, kk, nn]
  refine hv2 (fun wk hag11 g11 => ?_)
  replace g11 : R 58 ((8292 : Int) + (1 * b + (40 * nn + 0))) = wk := g11
  replace hag11 : (0 : Int) ≤ ((8292 : Int) + (1 * b + (40 * nn + 0))) := hag11
  replace g11 : dK (R 58) b (nn) = wk := hF (R := R 58) g11 (ad_41 b nn)
  show hV _ _ _ _ _ [b, p, i, k, e, b2, p2, i2, k2, e2, pl, kk, nn, wk]
  refine hv10 (fun g12 => ?_)
  replace g12 : ((0 : Int) + (1 * wk + 0)) = (2 : Int) ∨ ((0 : Int) + (1 * wk + 0)) = (7 : Int) := g12
  refine hv2 (fun V hag13 g13 => ?_)
  replace g13 : R 58 ((8295 : Int) + (1 * b + (40 * i + 0))) = V := g13
  replace hag13 : (0 : Int) ≤ ((8295 : Int) + (1 * b + (40 * i + 0))) := hag13
  replace g13 : dV (R 58) b (i) = V := hF (R := R 58) g13 (ad_8 b i)
  show hV _ _ _ _ _ [b, p, i, k, e, b2, p2, i2, k2, e2, pl, kk, nn, wk, V]
  refine hv2 (fun N hag14 g14 => ?_)
  replace g14 : R 58 ((8296 : Int) + (1 * b + (40 * i + 0))) = N := g14
  replace hag14 : (0 : Int) ≤ ((8296 : Int) + (1 * b + (40 * i + 0))) := hag14
  replace g14 : dL (R 58) b (i) = N := hF (R := R 58) g14 (ad_9 b i)
  show hV _ _ _ _ _ [b, p, i, k, e, b2, p2, i2, k2, e2, pl, kk, nn, wk, V, N]
  refine hv0 (fun g15 => ?_)
  replace g15 : (0 : Int) ≤ ((-1 : Int) + (1 * k + ((-1) * V + 0))) := g15
  refine hv0 (fun g16 => ?_)
  replace g16 : (0 : Int) ≤ ((0 : Int) + ((-1) * k + (1 * V + (1 * N + 0)))) := g16
  refine hvC ?_
  refine rqi_83_5 (?_ : q83 b p i k e (R 58) (R 67) (R 68) (R 60))
  have q_ : b = b2 := by omega
  subst q_
  have q_ : p = p2 := by omega
  subst q_
  have q_ : i = i2 := by omega
  subst q_
  have q_ : k2 = k - 1 := by omega
  subst q_
  have q_ : e2 = e - 2 := by omega
  subst q_
  subst g6
  subst g8
  subst g10
  subst g11
  subst g13
  subst g14
  exact q83_s (c := 2) g0 (by omega) (chW_con (by omega) (by omega)) (by decide) (by omega)

theorem tN_83_5_9 : vN rQ 83 hn_83_5_9 := by
  intro R G ps hl
  obtain ⟨b, p, i, k, e, rfl⟩ := hl5 hl
  refine hv4 (hm5 (fun b2 p2 i2 k2 e2 g0 => ?_))
  replace g0 : q83 b2 p2 i2 k2 e2 (R 58) (R 67) (R 68) (R 60) := rqo_83_5 g0
  refine hmb rfl ?_
  show hmt _ _ _ [b, p, i, k, e, b2]
  refine hmb rfl ?_
  show hmt _ _ _ [b, p, i, k, e, b2, p2]
  refine hmb rfl ?_
  show hmt _ _ _ [b, p, i, k, e, b2, p2, i2]
  refine hmb rfl ?_
  show hmt _ _ _ [b, p, i, k, e, b2, p2, i2, k2]
  refine hmb rfl ?_
  show hmt _ _ _ [b, p, i, k, e, b2, p2, i2, k2, e2]
  refine hmn ?_
  show hV _ _ _ _ _ [b, p, i, k, e, b2, p2, i2, k2, e2]
  refine hv13 (fun g1 => ?_)
  replace g1 : ((0 : Int) + (1 * b2 + 0)) = ((0 : Int) + (1 * b + 0)) := g1
  refine hv13 (fun g2 => ?_)
  replace g2 : ((0 : Int) + (1 * p2 + 0)) = ((0 : Int) + (1 * p + 0)) := g2
  refine hv13 (fun g3 => ?_)
  replace g3 : ((0 : Int) + (1 * i2 + 0)) = ((0 : Int) + (1 * i + 0)) := g3
  refine hv13 (fun g4 => ?_)
  replace g4 : ((0 : Int) + (1 * k2 + 0)) = ((-1 : Int) + (1 * k + 0)) := g4
  refine hv13 (fun g5 => ?_)
  replace g5 : ((0 : Int) + (1 * e2 + 0)) = ((-2 : Int) + (1 * e + 0)) := g5
  refine hv2 (fun pl hag6 g6 => ?_)
  replace g6 : R 60 ((-1 : Int) + (1 * k + 0)) = pl := g6
  replace hag6 : (0 : Int) ≤ ((-1 : Int) + (1 * k + 0)) := hag6
  replace g6 : R 60 (k - 1) = pl := hF (R := R 60) g6 (ad_36 k)
  show hV _ _ _ _ _ [b, p, i, k, e, b2, p2, i2, k2, e2, pl]
  refine hv13 (fun g7 => ?_)
  replace g7 : ((0 : Int) + (1 * pl + 0)) = ((-2 : Int) + (1 * e + 0)) := g7
  refine hv2 (fun kk hag8 g8 => ?_)
  replace g8 : R 58 ((22690 : Int) + (1 * b + (2 * k + 0))) = kk := g8
  replace hag8 : (0 : Int) ≤ ((22690 : Int) + (1 * b + (2 * k + 0))) := hag8
  replace g8 : iK (R 58) b (k - 1) = kk := hF (R := R 58) g8 (ad_18 b k)
  show hV _ _ _ _ _ [b, p, i, k, e, b2, p2, i2, k2, e2, pl, kk]
  refine hv13 (fun g9 => ?_)
  replace g9 : ((0 : Int) + (1 * kk + 0)) = ((0 : Int) + 0) := g9
  refine hv2 (fun nn hag10 g10 => ?_)
  replace g10 : R 58 ((22691 : Int) + (1 * b + (2 * k + 0))) = nn := g10
  replace hag10 : (0 : Int) ≤ ((22691 : Int) + (1 * b + (2 * k + 0))) := hag10
  replace g10 : iN (R 58) b (k - 1) = nn := hF (R := R 58) g10 (ad_19 b k)
  show hV _ _ _ _ _ [b, p, i, k, e, b2, p2, i2, k2, e2, pl, kk, nn]
  refine hv2 (fun wk hag11 g11 => ?_)
  replace g11 : R 58 ((8292 : Int) + (1 * b + (40 * nn + 0))) = wk := g11
  replace hag11 : (0 : Int) ≤ ((8292 : Int) + (1 * b + (40 * nn + 0))) := hag11
  replace g11 : dK (R 58) b (nn) = wk := hF (R := R 58) g11 (ad_41 b nn)
  show hV _ _ _ _ _ [b, p, i, k, e, b2, p2, i2, k2, e2, pl, kk, nn, wk]
  refine hv13 (fun g12 => ?_)
  replace g12 : ((0 : Int) + (1 * wk + 0)) = ((3 : Int) + 0) := g12
  refine hv2 (fun dO hag13 g13 => ?_)
  replace g13 : R 58 ((8297 : Int) + (1 * b + (40 * nn + 0))) = dO := g13
  replace hag13 : (0 : Int) ≤ ((8297 : Int) + (1 * b + (40 * nn + 0))) := hag13
  replace g13 : dE (R 58) b (nn) = dO := hF (R := R 58) g13 (ad_42 b nn)
  show hV _ _ _ _ _ [b, p, i, k, e, b2, p2, i2, k2, e2, pl, kk, nn, wk, dO]
  refine hv13 (fun g14 => ?_)
  replace g14 : ((0 : Int) + (1 * dO + 0)) = ((-1 : Int) + 0) := g14
  refine hv2 (fun V hag15 g15 => ?_)
  replace g15 : R 58 ((8295 : Int) + (1 * b + (40 * i + 0))) = V := g15
  replace hag15 : (0 : Int) ≤ ((8295 : Int) + (1 * b + (40 * i + 0))) := hag15
  replace g15 : dV (R 58) b (i) = V := hF (R := R 58) g15 (ad_8 b i)
  show hV _ _ _ _ _ [b, p, i, k, e, b2, p2, i2, k2, e2, pl, kk, nn, wk, dO, V]
  refine hv2 (fun N hag16 g16 => ?_)
  replace g16 : R 58 ((8296 : Int) + (1 * b + (40 * i + 0))) = N := g16
  replace hag16 : (0 : Int) ≤ ((8296 : Int) + (1 * b + (40 * i + 0))) := hag16
  replace g16 : dL (R 58) b (i) = N := hF (R := R 58) g16 (ad_9 b i)
  show hV _ _ _ _ _ [b, p, i, k, e, b2, p2, i2, k2, e2, pl, kk, nn, wk, dO, V, N]
  refine hv0 (fun g17 => ?_)
  replace g17 : (0 : Int) ≤ ((-1 : Int) + (1 * k + ((-1) * V + 0))) := g17
  refine hv0 (fun g18 => ?_)
  replace g18 : (0 : Int) ≤ ((0 : Int) + ((-1) * k + (1 * V + (1 * N + 0)))) := g18
  refine hvC ?_
  refine rqi_83_5 (?_ : q83 b p i k e (R 58) (R 67) (R 68) (R 60))
  have q_ : b = b2 := by omega
  subst q_
  have q_ : p = p2 := by omega
  subst q_
  have q_ : i = i2 := by omega
  subst q_
  have q_ : k2 = k - 1 := by omega
  subst q_
  have q_ : e2 = e - 2 := by omega
  subst q_
  subst g6
  subst g8
  subst g10
  subst g11
  subst g13
  subst g15
  subst g16
  exact q83_s (c := 2) g0 (by omega) (chW_does (by omega) (by omega) (by omega)) (by decide) (by omega)

theorem tN_82_3_0 : vN rQ 82 hn_82_3_0 := by
  intro R G ps hl
  obtain ⟨b, q0, e, rfl⟩ := hl3 hl
  refine hv13 (fun g0 => ?_)
  replace g0 : ((0 : Int) + (1 * q0 + 0)) = ((0 : Int) + 0) := g0
  refine hv13 (fun g1 => ?_)
  replace g1 : ((0 : Int) + (1 * e + 0)) = ((0 : Int) + 0) := g1
  refine hvC ?_
  refine rqi_82_3 (?_ : q82 b q0 e (R 58) (R 67) (R 68) (R 60))
  rw [show q0 = 0 by omega, show e = 0 by omega]
  exact q82_0

theorem tN_82_3_1 : vN rQ 82 hn_82_3_1 := by
  intro R G ps hl
  obtain ⟨b, q0, e, rfl⟩ := hl3 hl
  refine hv2 (fun i hag0 g0 => ?_)
  replace g0 : R 67 ((-1 : Int) + (1 * q0 + 0)) = i := g0
  replace hag0 : (0 : Int) ≤ ((-1 : Int) + (1 * q0 + 0)) := hag0
  replace g0 : R 67 (q0 - 1) = i := hF (R := R 67) g0 (ad_43 q0)
  show hV _ _ _ _ _ [b, q0, e, i]
  refine hv2 (fun a hag1 g1 => ?_)
  replace g1 : R 68 ((-1 : Int) + (1 * q0 + 0)) = a := g1
  replace hag1 : (0 : Int) ≤ ((-1 : Int) + (1 * q0 + 0)) := hag1
  replace g1 : R 68 (q0 - 1) = a := hF (R := R 68) g1 (ad_43 q0)
  show hV _ _ _ _ _ [b, q0, e, i, a]
  refine hv2 (fun V hag2 g2 => ?_)
  replace g2 : R 58 ((8295 : Int) + (1 * b + (40 * i + 0))) = V := g2
  replace hag2 : (0 : Int) ≤ ((8295 : Int) + (1 * b + (40 * i + 0))) := hag2
  replace g2 : dV (R 58) b (i) = V := hF (R := R 58) g2 (ad_8 b i)
  show hV _ _ _ _ _ [b, q0, e, i, a, V]
  refine hv2 (fun N hag3 g3 => ?_)
  replace g3 : R 58 ((8296 : Int) + (1 * b + (40 * i + 0))) = N := g3
  replace hag3 : (0 : Int) ≤ ((8296 : Int) + (1 * b + (40 * i + 0))) := hag3
  replace g3 : dL (R 58) b (i) = N := hF (R := R 58) g3 (ad_9 b i)
  show hV _ _ _ _ _ [b, q0, e, i, a, V, N]
  refine hv4 (hm3 (fun b2 q2 e2 g4 => ?_))
  replace g4 : q82 b2 q2 e2 (R 58) (R 67) (R 68) (R 60) := rqo_82_3 g4
  refine hmb rfl ?_
  show hmt _ _ _ [b, q0, e, i, a, V, N, b2]
  refine hmb rfl ?_
  show hmt _ _ _ [b, q0, e, i, a, V, N, b2, q2]
  refine hmb rfl ?_
  show hmt _ _ _ [b, q0, e, i, a, V, N, b2, q2, e2]
  refine hmn ?_
  show hV _ _ _ _ _ [b, q0, e, i, a, V, N, b2, q2, e2]
  refine hv13 (fun g5 => ?_)
  replace g5 : ((0 : Int) + (1 * b2 + 0)) = ((0 : Int) + (1 * b + 0)) := g5
  refine hv13 (fun g6 => ?_)
  replace g6 : ((0 : Int) + (1 * q2 + 0)) = ((-1 : Int) + (1 * q0 + 0)) := g6
  refine hv13 (fun g7 => ?_)
  replace g7 : ((0 : Int) + (1 * e2 + 0)) = ((0 : Int) + (1 * a + 0)) := g7
  refine hv4 (hm5 (fun b3 p3 i3 k3 e3 g8 => ?_))
  replace g8 : q83 b3 p3 i3 k3 e3 (R 58) (R 67) (R 68) (R 60) := rqo_83_5 g8
  refine hmb rfl ?_
  show hmt _ _ _ [b, q0, e, i, a, V, N, b2, q2, e2, b3]
  refine hmb rfl ?_
  show hmt _ _ _ [b, q0, e, i, a, V, N, b2, q2, e2, b3, p3]
  refine hmb rfl ?_
  show hmt _ _ _ [b, q0, e, i, a, V, N, b2, q2, e2, b3, p3, i3]
  refine hmb rfl ?_
  show hmt _ _ _ [b, q0, e, i, a, V, N, b2, q2, e2, b3, p3, i3, k3]
  refine hmb rfl ?_
  show hmt _ _ _ [b, q0, e, i, a, V, N, b2, q2, e2, b3, p3, i3, k3, e3]
  refine hmn ?_
  show hV _ _ _ _ _ [b, q0, e, i, a, V, N, b2, q2, e2, b3, p3, i3, k3, e3]
  refine hv13 (fun g9 => ?_)
  replace g9 : ((0 : Int) + (1 * b3 + 0)) = ((0 : Int) + (1 * b + 0)) := g9
  refine hv13 (fun g10 => ?_)
  replace g10 : ((0 : Int) + (1 * p3 + 0)) = ((-1 : Int) + (1 * q0 + 0)) := g10
  refine hv13 (fun g11 => ?_)
  replace g11 : ((0 : Int) + (1 * i3 + 0)) = ((0 : Int) + (1 * i + 0)) := g11
  refine hv13 (fun g12 => ?_)
  replace g12 : ((0 : Int) + (1 * k3 + 0)) = ((0 : Int) + (1 * V + (1 * N + 0))) := g12
  refine hv13 (fun g13 => ?_)
  replace g13 : ((0 : Int) + (1 * e3 + 0)) = ((0 : Int) + (1 * e + 0)) := g13
  refine hvC ?_
  refine rqi_82_3 (?_ : q82 b q0 e (R 58) (R 67) (R 68) (R 60))
  have q_ : b = b2 := by omega
  subst q_
  have q_ : q2 = q0 - 1 := by omega
  subst q_
  have q_ : a = e2 := by omega
  subst q_
  have q_ : b = b3 := by omega
  subst q_
  have q_ : p3 = q0 - 1 := by omega
  subst q_
  have q_ : i = i3 := by omega
  subst q_
  have q_ : k3 = V + N := by omega
  subst q_
  have q_ : e = e3 := by omega
  subst q_
  subst g0
  subst g1
  subst g2
  subst g3
  exact q82_s g4 g8 rfl (by omega)

theorem tN_88_5_0 : vN rQ 88 hn_88_5_0 := by
  intro R G ps hl
  obtain ⟨b, p, i, k, aT, rfl⟩ := hl5 hl
  refine hv4 (hm3 (fun b2 q2 e2 g0 => ?_))
  replace g0 : q82 b2 q2 e2 (R 58) (R 67) (R 68) (R 60) := rqo_82_3 g0
  refine hmb rfl ?_
  show hmt _ _ _ [b, p, i, k, aT, b2]
  refine hmb rfl ?_
  show hmt _ _ _ [b, p, i, k, aT, b2, q2]
  refine hmb rfl ?_
  show hmt _ _ _ [b, p, i, k, aT, b2, q2, e2]
  refine hmn ?_
  show hV _ _ _ _ _ [b, p, i, k, aT, b2, q2, e2]
  refine hv13 (fun g1 => ?_)
  replace g1 : ((0 : Int) + (1 * b2 + 0)) = ((0 : Int) + (1 * b + 0)) := g1
  refine hv0 (fun g2 => ?_)
  replace g2 : (0 : Int) ≤ ((-1 : Int) + ((-1) * p + (1 * q2 + 0))) := g2
  refine hv2 (fun t hag3 g3 => ?_)
  replace g3 : R 67 ((0 : Int) + (1 * p + 0)) = t := g3
  replace hag3 : (0 : Int) ≤ ((0 : Int) + (1 * p + 0)) := hag3
  replace g3 : R 67 (p) = t := hF (R := R 67) g3 (ad_40 p)
  show hV _ _ _ _ _ [b, p, i, k, aT, b2, q2, e2, t]
  refine hv13 (fun g4 => ?_)
  replace g4 : ((0 : Int) + (1 * t + 0)) = ((0 : Int) + (1 * i + 0)) := g4
  refine hv0 (fun g5 => ?_)
  replace g5 : (0 : Int) ≤ ((0 : Int) + (1 * p + 0)) := g5
  refine hv2 (fun V hag6 g6 => ?_)
  replace g6 : R 58 ((8295 : Int) + (1 * b + (40 * i + 0))) = V := g6
  replace hag6 : (0 : Int) ≤ ((8295 : Int) + (1 * b + (40 * i + 0))) := hag6
  replace g6 : dV (R 58) b (i) = V := hF (R := R 58) g6 (ad_8 b i)
  show hV _ _ _ _ _ [b, p, i, k, aT, b2, q2, e2, t, V]
  refine hv2 (fun a hag7 g7 => ?_)
  replace g7 : R 68 ((0 : Int) + (1 * p + 0)) = a := g7
  replace hag7 : (0 : Int) ≤ ((0 : Int) + (1 * p + 0)) := hag7
  replace g7 : R 68 (p) = a := hF (R := R 68) g7 (ad_40 p)
  show hV _ _ _ _ _ [b, p, i, k, aT, b2, q2, e2, t, V, a]
  refine hv13 (fun g8 => ?_)
  replace g8 : ((0 : Int) + (1 * k + 0)) = ((0 : Int) + (1 * V + 0)) := g8
  refine hv13 (fun g9 => ?_)
  replace g9 : ((0 : Int) + (1 * aT + 0)) = ((0 : Int) + (1 * a + 0)) := g9
  refine hvC ?_
  refine rqi_88_5 (?_ : q88 b p i k aT (R 58) (R 67) (R 68))
  have q_ : b = b2 := by omega
  subst q_
  subst g3
  subst g6
  subst g7
  exact q88_0 g0 (by omega) (by omega) (by omega) (by omega) (by omega)

theorem tN_88_5_1 : vN rQ 88 hn_88_5_1 := by
  intro R G ps hl
  obtain ⟨b, p, i, k, aT, rfl⟩ := hl5 hl
  refine hv4 (hm3 (fun b2 q2 e2 g0 => ?_))
  replace g0 : q82 b2 q2 e2 (R 58) (R 67) (R 68) (R 60) := rqo_82_3 g0
  refine hmb rfl ?_
  show hmt _ _ _ [b, p, i, k, aT, b2]
  refine hmb rfl ?_
  show hmt _ _ _ [b, p, i, k, aT, b2, q2]
  refine hmb rfl ?_
  show hmt _ _ _ [b, p, i, k, aT, b2, q2, e2]
  refine hmn ?_
  show hV _ _ _ _ _ [b, p, i, k, aT, b2, q2, e2]
  refine hv13 (fun g1 => ?_)
  replace g1 : ((0 : Int) + (1 * b2 + 0)) = ((0 : Int) + (1 * b + 0)) := g1
  refine hv0 (fun g2 => ?_)
  replace g2 : (0 : Int) ≤ ((-1 : Int) + ((-1) * p + (1 * q2 + 0))) := g2
  refine hv2 (fun t hag3 g3 => ?_)
  replace g3 : R 67 ((0 : Int) + (1 * p + 0)) = t := g3
  replace hag3 : (0 : Int) ≤ ((0 : Int) + (1 * p + 0)) := hag3
  replace g3 : R 67 (p) = t := hF (R := R 67) g3 (ad_40 p)
  show hV _ _ _ _ _ [b, p, i, k, aT, b2, q2, e2, t]
  refine hv13 (fun g4 => ?_)
  replace g4 : ((0 : Int) + (1 * t + 0)) = ((0 : Int) + (1 * i + 0)) := g4
  refine hv0 (fun g5 => ?_)
  replace g5 : (0 : Int) ≤ ((0 : Int) + (1 * p + 0)) := g5
  refine hv4 (hm5 (fun b8 p8 i8 k8 a8 g6 => ?_))
  replace g6 : q88 b8 p8 i8 k8 a8 (R 58) (R 67) (R 68) := rqo_88_5 g6
  refine hmb rfl ?_
  show hmt _ _ _ [b, p, i, k, aT, b2, q2, e2, t, b8]
  refine hmb rfl ?_
  show hmt _ _ _ [b, p, i, k, aT, b2, q2, e2, t, b8, p8]
  refine hmb rfl ?_
  show hmt _ _ _ [b, p, i, k, aT, b2, q2, e2, t, b8, p8, i8]
  refine hmb rfl ?_
  show hmt _ _ _ [b, p, i, k, aT, b2, q2, e2, t, b8, p8, i8, k8]
  refine hmb rfl ?_
  show hmt _ _ _ [b, p, i, k, aT, b2, q2, e2, t, b8, p8, i8, k8, a8]
  refine hmn ?_
  show hV _ _ _ _ _ [b, p, i, k, aT, b2, q2, e2, t, b8, p8, i8, k8, a8]
  refine hv13 (fun g7 => ?_)
  replace g7 : ((0 : Int) + (1 * b8 + 0)) = ((0 : Int) + (1 * b + 0)) := g7
  refine hv13 (fun g8 => ?_)
  replace g8 : ((0 : Int) + (1 * p8 + 0)) = ((0 : Int) + (1 * p + 0)) := g8
  refine hv13 (fun g9 => ?_)
  replace g9 : ((0 : Int) + (1 * i8 + 0)) = ((0 : Int) + (1 * i + 0)) := g9
  refine hv13 (fun g10 => ?_)
  replace g10 : ((0 : Int) + (1 * k8 + 0)) = ((-1 : Int) + (1 * k + 0)) := g10
  refine hv13 (fun g11 => ?_)
  replace g11 : ((0 : Int) + (1 * a8 + 0)) = ((-2 : Int) + (1 * aT + 0)) := g11
  refine hv2 (fun kk hag12 g12 => ?_)
  replace g12 : R 58 ((22690 : Int) + (1 * b + (2 * k + 0))) = kk := g12
  replace hag12 : (0 : Int) ≤ ((22690 : Int) + (1 * b + (2 * k + 0))) := hag12
  replace g12 : iK (R 58) b (k - 1) = kk := hF (R := R 58) g12 (ad_18 b k)
  show hV _ _ _ _ _ [b, p, i, k, aT, b2, q2, e2, t, b8, p8, i8, k8, a8, kk]
  refine hv13 (fun g13 => ?_)
  replace g13 : ((0 : Int) + (1 * kk + 0)) = ((1 : Int) + 0) := g13
  refine hv2 (fun V hag14 g14 => ?_)
  replace g14 : R 58 ((8295 : Int) + (1 * b + (40 * i + 0))) = V := g14
  replace hag14 : (0 : Int) ≤ ((8295 : Int) + (1 * b + (40 * i + 0))) := hag14
  replace g14 : dV (R 58) b (i) = V := hF (R := R 58) g14 (ad_8 b i)
  show hV _ _ _ _ _ [b, p, i, k, aT, b2, q2, e2, t, b8, p8, i8, k8, a8, kk, V]
  refine hv2 (fun N hag15 g15 => ?_)
  replace g15 : R 58 ((8296 : Int) + (1 * b + (40 * i + 0))) = N := g15
  replace hag15 : (0 : Int) ≤ ((8296 : Int) + (1 * b + (40 * i + 0))) := hag15
  replace g15 : dL (R 58) b (i) = N := hF (R := R 58) g15 (ad_9 b i)
  show hV _ _ _ _ _ [b, p, i, k, aT, b2, q2, e2, t, b8, p8, i8, k8, a8, kk, V, N]
  refine hv0 (fun g16 => ?_)
  replace g16 : (0 : Int) ≤ ((-1 : Int) + (1 * k + ((-1) * V + 0))) := g16
  refine hv0 (fun g17 => ?_)
  replace g17 : (0 : Int) ≤ ((0 : Int) + ((-1) * k + (1 * V + (1 * N + 0)))) := g17
  refine hvC ?_
  refine rqi_88_5 (?_ : q88 b p i k aT (R 58) (R 67) (R 68))
  have q_ : b = b2 := by omega
  subst q_
  have q_ : b = b8 := by omega
  subst q_
  have q_ : p = p8 := by omega
  subst q_
  have q_ : i = i8 := by omega
  subst q_
  have q_ : k8 = k - 1 := by omega
  subst q_
  have q_ : a8 = aT - 2 := by omega
  subst q_
  subst g3
  subst g12
  subst g14
  subst g15
  exact q88_s (c := 2) g6 (chW_lit (by omega)) (by omega)

theorem tN_88_5_2 : vN rQ 88 hn_88_5_2 := by
  intro R G ps hl
  obtain ⟨b, p, i, k, aT, rfl⟩ := hl5 hl
  refine hv4 (hm3 (fun b2 q2 e2 g0 => ?_))
  replace g0 : q82 b2 q2 e2 (R 58) (R 67) (R 68) (R 60) := rqo_82_3 g0
  refine hmb rfl ?_
  show hmt _ _ _ [b, p, i, k, aT, b2]
  refine hmb rfl ?_
  show hmt _ _ _ [b, p, i, k, aT, b2, q2]
  refine hmb rfl ?_
  show hmt _ _ _ [b, p, i, k, aT, b2, q2, e2]
  refine hmn ?_
  show hV _ _ _ _ _ [b, p, i, k, aT, b2, q2, e2]
  refine hv13 (fun g1 => ?_)
  replace g1 : ((0 : Int) + (1 * b2 + 0)) = ((0 : Int) + (1 * b + 0)) := g1
  refine hv0 (fun g2 => ?_)
  replace g2 : (0 : Int) ≤ ((-1 : Int) + ((-1) * p + (1 * q2 + 0))) := g2
  refine hv2 (fun t hag3 g3 => ?_)
  replace g3 : R 67 ((0 : Int) + (1 * p + 0)) = t := g3
  replace hag3 : (0 : Int) ≤ ((0 : Int) + (1 * p + 0)) := hag3
  replace g3 : R 67 (p) = t := hF (R := R 67) g3 (ad_40 p)
  show hV _ _ _ _ _ [b, p, i, k, aT, b2, q2, e2, t]
  refine hv13 (fun g4 => ?_)
  replace g4 : ((0 : Int) + (1 * t + 0)) = ((0 : Int) + (1 * i + 0)) := g4
  refine hv0 (fun g5 => ?_)
  replace g5 : (0 : Int) ≤ ((0 : Int) + (1 * p + 0)) := g5
  refine hv4 (hm5 (fun b8 p8 i8 k8 a8 g6 => ?_))
  replace g6 : q88 b8 p8 i8 k8 a8 (R 58) (R 67) (R 68) := rqo_88_5 g6
  refine hmb rfl ?_
  show hmt _ _ _ [b, p, i, k, aT, b2, q2, e2, t, b8]
  refine hmb rfl ?_
  show hmt _ _ _ [b, p, i, k, aT, b2, q2, e2, t, b8, p8]
  refine hmb rfl ?_
  show hmt _ _ _ [b, p, i, k, aT, b2, q2, e2, t, b8, p8, i8]
  refine hmb rfl ?_
  show hmt _ _ _ [b, p, i, k, aT, b2, q2, e2, t, b8, p8, i8, k8]
  refine hmb rfl ?_
  show hmt _ _ _ [b, p, i, k, aT, b2, q2, e2, t, b8, p8, i8, k8, a8]
  refine hmn ?_
  show hV _ _ _ _ _ [b, p, i, k, aT, b2, q2, e2, t, b8, p8, i8, k8, a8]
  refine hv13 (fun g7 => ?_)
  replace g7 : ((0 : Int) + (1 * b8 + 0)) = ((0 : Int) + (1 * b + 0)) := g7
  refine hv13 (fun g8 => ?_)
  replace g8 : ((0 : Int) + (1 * p8 + 0)) = ((0 : Int) + (1 * p + 0)) := g8
  refine hv13 (fun g9 => ?_)
  replace g9 : ((0 : Int) + (1 * i8 + 0)) = ((0 : Int) + (1 * i + 0)) := g9
  refine hv13 (fun g10 => ?_)
  replace g10 : ((0 : Int) + (1 * k8 + 0)) = ((-1 : Int) + (1 * k + 0)) := g10
  refine hv13 (fun g11 => ?_)
  replace g11 : ((0 : Int) + (1 * a8 + 0)) = ((-1 : Int) + (1 * aT + 0)) := g11
  refine hv2 (fun kk hag12 g12 => ?_)
  replace g12 : R 58 ((22690 : Int) + (1 * b + (2 * k + 0))) = kk := g12
  replace hag12 : (0 : Int) ≤ ((22690 : Int) + (1 * b + (2 * k + 0))) := hag12
  replace g12 : iK (R 58) b (k - 1) = kk := hF (R := R 58) g12 (ad_18 b k)
  show hV _ _ _ _ _ [b, p, i, k, aT, b2, q2, e2, t, b8, p8, i8, k8, a8, kk]
  refine hv0 (fun g13 => ?_)
  replace g13 : (0 : Int) ≤ ((-2 : Int) + (1 * kk + 0)) := g13
  refine hv0 (fun g14 => ?_)
  replace g14 : (0 : Int) ≤ ((9 : Int) + ((-1) * kk + 0)) := g14
  refine hv2 (fun V hag15 g15 => ?_)
  replace g15 : R 58 ((8295 : Int) + (1 * b + (40 * i + 0))) = V := g15
  replace hag15 : (0 : Int) ≤ ((8295 : Int) + (1 * b + (40 * i + 0))) := hag15
  replace g15 : dV (R 58) b (i) = V := hF (R := R 58) g15 (ad_8 b i)
  show hV _ _ _ _ _ [b, p, i, k, aT, b2, q2, e2, t, b8, p8, i8, k8, a8, kk, V]
  refine hv2 (fun N hag16 g16 => ?_)
  replace g16 : R 58 ((8296 : Int) + (1 * b + (40 * i + 0))) = N := g16
  replace hag16 : (0 : Int) ≤ ((8296 : Int) + (1 * b + (40 * i + 0))) := hag16
  replace g16 : dL (R 58) b (i) = N := hF (R := R 58) g16 (ad_9 b i)
  show hV _ _ _ _ _ [b, p, i, k, aT, b2, q2, e2, t, b8, p8, i8, k8, a8, kk, V, N]
  refine hv0 (fun g17 => ?_)
  replace g17 : (0 : Int) ≤ ((-1 : Int) + (1 * k + ((-1) * V + 0))) := g17
  refine hv0 (fun g18 => ?_)
  replace g18 : (0 : Int) ≤ ((0 : Int) + ((-1) * k + (1 * V + (1 * N + 0)))) := g18
  refine hvC ?_
  refine rqi_88_5 (?_ : q88 b p i k aT (R 58) (R 67) (R 68))
  have q_ : b = b2 := by omega
  subst q_
  have q_ : b = b8 := by omega
  subst q_
  have q_ : p = p8 := by omega
  subst q_
  have q_ : i = i8 := by omega
  subst q_
  have q_ : k8 = k - 1 := by omega
  subst q_
  have q_ : a8 = aT - 1 := by omega
  subst q_
  subst g3
  subst g12
  subst g15
  subst g16
  exact q88_s (c := 1) g6 (chW_one (by omega)) (by omega)

theorem tN_88_5_3 : vN rQ 88 hn_88_5_3 := by
  intro R G ps hl
  obtain ⟨b, p, i, k, aT, rfl⟩ := hl5 hl
  refine hv4 (hm3 (fun b2 q2 e2 g0 => ?_))
  replace g0 : q82 b2 q2 e2 (R 58) (R 67) (R 68) (R 60) := rqo_82_3 g0
  refine hmb rfl ?_
  show hmt _ _ _ [b, p, i, k, aT, b2]
  refine hmb rfl ?_
  show hmt _ _ _ [b, p, i, k, aT, b2, q2]
  refine hmb rfl ?_
  show hmt _ _ _ [b, p, i, k, aT, b2, q2, e2]
  refine hmn ?_
  show hV _ _ _ _ _ [b, p, i, k, aT, b2, q2, e2]
  refine hv13 (fun g1 => ?_)
  replace g1 : ((0 : Int) + (1 * b2 + 0)) = ((0 : Int) + (1 * b + 0)) := g1
  refine hv0 (fun g2 => ?_)
  replace g2 : (0 : Int) ≤ ((-1 : Int) + ((-1) * p + (1 * q2 + 0))) := g2
  refine hv2 (fun t hag3 g3 => ?_)
  replace g3 : R 67 ((0 : Int) + (1 * p + 0)) = t := g3
  replace hag3 : (0 : Int) ≤ ((0 : Int) + (1 * p + 0)) := hag3
  replace g3 : R 67 (p) = t := hF (R := R 67) g3 (ad_40 p)
  show hV _ _ _ _ _ [b, p, i, k, aT, b2, q2, e2, t]
  refine hv13 (fun g4 => ?_)
  replace g4 : ((0 : Int) + (1 * t + 0)) = ((0 : Int) + (1 * i + 0)) := g4
  refine hv0 (fun g5 => ?_)
  replace g5 : (0 : Int) ≤ ((0 : Int) + (1 * p + 0)) := g5
  refine hv4 (hm5 (fun b8 p8 i8 k8 a8 g6 => ?_))
  replace g6 : q88 b8 p8 i8 k8 a8 (R 58) (R 67) (R 68) := rqo_88_5 g6
  refine hmb rfl ?_
  show hmt _ _ _ [b, p, i, k, aT, b2, q2, e2, t, b8]
  refine hmb rfl ?_
  show hmt _ _ _ [b, p, i, k, aT, b2, q2, e2, t, b8, p8]
  refine hmb rfl ?_
  show hmt _ _ _ [b, p, i, k, aT, b2, q2, e2, t, b8, p8, i8]
  refine hmb rfl ?_
  show hmt _ _ _ [b, p, i, k, aT, b2, q2, e2, t, b8, p8, i8, k8]
  refine hmb rfl ?_
  show hmt _ _ _ [b, p, i, k, aT, b2, q2, e2, t, b8, p8, i8, k8, a8]
  refine hmn ?_
  show hV _ _ _ _ _ [b, p, i, k, aT, b2, q2, e2, t, b8, p8, i8, k8, a8]
  refine hv13 (fun g7 => ?_)
  replace g7 : ((0 : Int) + (1 * b8 + 0)) = ((0 : Int) + (1 * b + 0)) := g7
  refine hv13 (fun g8 => ?_)
  replace g8 : ((0 : Int) + (1 * p8 + 0)) = ((0 : Int) + (1 * p + 0)) := g8
  refine hv13 (fun g9 => ?_)
  replace g9 : ((0 : Int) + (1 * i8 + 0)) = ((0 : Int) + (1 * i + 0)) := g9
  refine hv13 (fun g10 => ?_)
  replace g10 : ((0 : Int) + (1 * k8 + 0)) = ((-1 : Int) + (1 * k + 0)) := g10
  refine hv13 (fun g11 => ?_)
  replace g11 : ((0 : Int) + (1 * a8 + 0)) = ((-1 : Int) + (1 * aT + 0)) := g11
  refine hv2 (fun kk hag12 g12 => ?_)
  replace g12 : R 58 ((22690 : Int) + (1 * b + (2 * k + 0))) = kk := g12
  replace hag12 : (0 : Int) ≤ ((22690 : Int) + (1 * b + (2 * k + 0))) := hag12
  replace g12 : iK (R 58) b (k - 1) = kk := hF (R := R 58) g12 (ad_18 b k)
  show hV _ _ _ _ _ [b, p, i, k, aT, b2, q2, e2, t, b8, p8, i8, k8, a8, kk]
  refine hv0 (fun g13 => ?_)
  replace g13 : (0 : Int) ≤ ((-11 : Int) + (1 * kk + 0)) := g13
  refine hv0 (fun g14 => ?_)
  replace g14 : (0 : Int) ≤ ((13 : Int) + ((-1) * kk + 0)) := g14
  refine hv2 (fun V hag15 g15 => ?_)
  replace g15 : R 58 ((8295 : Int) + (1 * b + (40 * i + 0))) = V := g15
  replace hag15 : (0 : Int) ≤ ((8295 : Int) + (1 * b + (40 * i + 0))) := hag15
  replace g15 : dV (R 58) b (i) = V := hF (R := R 58) g15 (ad_8 b i)
  show hV _ _ _ _ _ [b, p, i, k, aT, b2, q2, e2, t, b8, p8, i8, k8, a8, kk, V]
  refine hv2 (fun N hag16 g16 => ?_)
  replace g16 : R 58 ((8296 : Int) + (1 * b + (40 * i + 0))) = N := g16
  replace hag16 : (0 : Int) ≤ ((8296 : Int) + (1 * b + (40 * i + 0))) := hag16
  replace g16 : dL (R 58) b (i) = N := hF (R := R 58) g16 (ad_9 b i)
  show hV _ _ _ _ _ [b, p, i, k, aT, b2, q2, e2, t, b8, p8, i8, k8, a8, kk, V, N]
  refine hv0 (fun g17 => ?_)
  replace g17 : (0 : Int) ≤ ((-1 : Int) + (1 * k + ((-1) * V + 0))) := g17
  refine hv0 (fun g18 => ?_)
  replace g18 : (0 : Int) ≤ ((0 : Int) + ((-1) * k + (1 * V + (1 * N + 0)))) := g18
  refine hvC ?_
  refine rqi_88_5 (?_ : q88 b p i k aT (R 58) (R 67) (R 68))
  have q_ : b = b2 := by omega
  subst q_
  have q_ : b = b8 := by omega
  subst q_
  have q_ : p = p8 := by omega
  subst q_
  have q_ : i = i8 := by omega
  subst q_
  have q_ : k8 = k - 1 := by omega
  subst q_
  have q_ : a8 = aT - 1 := by omega
  subst q_
  subst g3
  subst g12
  subst g15
  subst g16
  exact q88_s (c := 1) g6 (chW_one (by omega)) (by omega)

theorem tN_88_5_4 : vN rQ 88 hn_88_5_4 := by
  intro R G ps hl
  obtain ⟨b, p, i, k, aT, rfl⟩ := hl5 hl
  refine hv4 (hm3 (fun b2 q2 e2 g0 => ?_))
  replace g0 : q82 b2 q2 e2 (R 58) (R 67) (R 68) (R 60) := rqo_82_3 g0
  refine hmb rfl ?_
  show hmt _ _ _ [b, p, i, k, aT, b2]
  refine hmb rfl ?_
  show hmt _ _ _ [b, p, i, k, aT, b2, q2]
  refine hmb rfl ?_
  show hmt _ _ _ [b, p, i, k, aT, b2, q2, e2]
  refine hmn ?_
  show hV _ _ _ _ _ [b, p, i, k, aT, b2, q2, e2]
  refine hv13 (fun g1 => ?_)
  replace g1 : ((0 : Int) + (1 * b2 + 0)) = ((0 : Int) + (1 * b + 0)) := g1
  refine hv0 (fun g2 => ?_)
  replace g2 : (0 : Int) ≤ ((-1 : Int) + ((-1) * p + (1 * q2 + 0))) := g2
  refine hv2 (fun t hag3 g3 => ?_)
  replace g3 : R 67 ((0 : Int) + (1 * p + 0)) = t := g3
  replace hag3 : (0 : Int) ≤ ((0 : Int) + (1 * p + 0)) := hag3
  replace g3 : R 67 (p) = t := hF (R := R 67) g3 (ad_40 p)
  show hV _ _ _ _ _ [b, p, i, k, aT, b2, q2, e2, t]
  refine hv13 (fun g4 => ?_)
  replace g4 : ((0 : Int) + (1 * t + 0)) = ((0 : Int) + (1 * i + 0)) := g4
  refine hv0 (fun g5 => ?_)
  replace g5 : (0 : Int) ≤ ((0 : Int) + (1 * p + 0)) := g5
  refine hv4 (hm5 (fun b8 p8 i8 k8 a8 g6 => ?_))
  replace g6 : q88 b8 p8 i8 k8 a8 (R 58) (R 67) (R 68) := rqo_88_5 g6
  refine hmb rfl ?_
  show hmt _ _ _ [b, p, i, k, aT, b2, q2, e2, t, b8]
  refine hmb rfl ?_
  show hmt _ _ _ [b, p, i, k, aT, b2, q2, e2, t, b8, p8]
  refine hmb rfl ?_
  show hmt _ _ _ [b, p, i, k, aT, b2, q2, e2, t, b8, p8, i8]
  refine hmb rfl ?_
  show hmt _ _ _ [b, p, i, k, aT, b2, q2, e2, t, b8, p8, i8, k8]
  refine hmb rfl ?_
  show hmt _ _ _ [b, p, i, k, aT, b2, q2, e2, t, b8, p8, i8, k8, a8]
  refine hmn ?_
  show hV _ _ _ _ _ [b, p, i, k, aT, b2, q2, e2, t, b8, p8, i8, k8, a8]
  refine hv13 (fun g7 => ?_)
  replace g7 : ((0 : Int) + (1 * b8 + 0)) = ((0 : Int) + (1 * b + 0)) := g7
  refine hv13 (fun g8 => ?_)
  replace g8 : ((0 : Int) + (1 * p8 + 0)) = ((0 : Int) + (1 * p + 0)) := g8
  refine hv13 (fun g9 => ?_)
  replace g9 : ((0 : Int) + (1 * i8 + 0)) = ((0 : Int) + (1 * i + 0)) := g9
  refine hv13 (fun g10 => ?_)
  replace g10 : ((0 : Int) + (1 * k8 + 0)) = ((-1 : Int) + (1 * k + 0)) := g10
  refine hv13 (fun g11 => ?_)
  replace g11 : ((0 : Int) + (1 * a8 + 0)) = ((-1 : Int) + (1 * aT + 0)) := g11
  refine hv2 (fun kk hag12 g12 => ?_)
  replace g12 : R 58 ((22690 : Int) + (1 * b + (2 * k + 0))) = kk := g12
  replace hag12 : (0 : Int) ≤ ((22690 : Int) + (1 * b + (2 * k + 0))) := hag12
  replace g12 : iK (R 58) b (k - 1) = kk := hF (R := R 58) g12 (ad_18 b k)
  show hV _ _ _ _ _ [b, p, i, k, aT, b2, q2, e2, t, b8, p8, i8, k8, a8, kk]
  refine hv13 (fun g13 => ?_)
  replace g13 : ((0 : Int) + (1 * kk + 0)) = ((0 : Int) + 0) := g13
  refine hv2 (fun nn hag14 g14 => ?_)
  replace g14 : R 58 ((22691 : Int) + (1 * b + (2 * k + 0))) = nn := g14
  replace hag14 : (0 : Int) ≤ ((22691 : Int) + (1 * b + (2 * k + 0))) := hag14
  replace g14 : iN (R 58) b (k - 1) = nn := hF (R := R 58) g14 (ad_19 b k)
  show hV _ _ _ _ _ [b, p, i, k, aT, b2, q2, e2, t, b8, p8, i8, k8, a8, kk, nn]
  refine hv2 (fun wk hag15 g15 => ?_)
  replace g15 : R 58 ((8292 : Int) + (1 * b + (40 * nn + 0))) = wk := g15
  replace hag15 : (0 : Int) ≤ ((8292 : Int) + (1 * b + (40 * nn + 0))) := hag15
  replace g15 : dK (R 58) b (nn) = wk := hF (R := R 58) g15 (ad_41 b nn)
  show hV _ _ _ _ _ [b, p, i, k, aT, b2, q2, e2, t, b8, p8, i8, k8, a8, kk, nn, wk]
  refine hv13 (fun g16 => ?_)
  replace g16 : ((0 : Int) + (1 * wk + 0)) = ((0 : Int) + 0) := g16
  refine hv0 (fun g17 => ?_)
  replace g17 : (0 : Int) ≤ ((69 : Int) + ((-1) * nn + 0)) := g17
  refine hv0 (fun g18 => ?_)
  replace g18 : (0 : Int) ≤ ((0 : Int) + (1 * nn + 0)) := g18
  refine hv2 (fun V hag19 g19 => ?_)
  replace g19 : R 58 ((8295 : Int) + (1 * b + (40 * i + 0))) = V := g19
  replace hag19 : (0 : Int) ≤ ((8295 : Int) + (1 * b + (40 * i + 0))) := hag19
  replace g19 : dV (R 58) b (i) = V := hF (R := R 58) g19 (ad_8 b i)
  show hV _ _ _ _ _ [b, p, i, k, aT, b2, q2, e2, t, b8, p8, i8, k8, a8, kk, nn, wk, V]
  refine hv2 (fun N hag20 g20 => ?_)
  replace g20 : R 58 ((8296 : Int) + (1 * b + (40 * i + 0))) = N := g20
  replace hag20 : (0 : Int) ≤ ((8296 : Int) + (1 * b + (40 * i + 0))) := hag20
  replace g20 : dL (R 58) b (i) = N := hF (R := R 58) g20 (ad_9 b i)
  show hV _ _ _ _ _ [b, p, i, k, aT, b2, q2, e2, t, b8, p8, i8, k8, a8, kk, nn, wk, V, N]
  refine hv0 (fun g21 => ?_)
  replace g21 : (0 : Int) ≤ ((-1 : Int) + (1 * k + ((-1) * V + 0))) := g21
  refine hv0 (fun g22 => ?_)
  replace g22 : (0 : Int) ≤ ((0 : Int) + ((-1) * k + (1 * V + (1 * N + 0)))) := g22
  refine hvC ?_
  refine rqi_88_5 (?_ : q88 b p i k aT (R 58) (R 67) (R 68))
  have q_ : b = b2 := by omega
  subst q_
  have q_ : b = b8 := by omega
  subst q_
  have q_ : p = p8 := by omega
  subst q_
  have q_ : i = i8 := by omega
  subst q_
  have q_ : k8 = k - 1 := by omega
  subst q_
  have q_ : a8 = aT - 1 := by omega
  subst q_
  subst g3
  subst g12
  subst g14
  subst g15
  subst g19
  subst g20
  exact q88_s (c := 1) g6 (chW_prim (by omega) (by omega) (by omega)) (by omega)

theorem tN_88_5_5 : vN rQ 88 hn_88_5_5 := by
  intro R G ps hl
  obtain ⟨b, p, i, k, aT, rfl⟩ := hl5 hl
  refine hv4 (hm3 (fun b2 q2 e2 g0 => ?_))
  replace g0 : q82 b2 q2 e2 (R 58) (R 67) (R 68) (R 60) := rqo_82_3 g0
  refine hmb rfl ?_
  show hmt _ _ _ [b, p, i, k, aT, b2]
  refine hmb rfl ?_
  show hmt _ _ _ [b, p, i, k, aT, b2, q2]
  refine hmb rfl ?_
  show hmt _ _ _ [b, p, i, k, aT, b2, q2, e2]
  refine hmn ?_
  show hV _ _ _ _ _ [b, p, i, k, aT, b2, q2, e2]
  refine hv13 (fun g1 => ?_)
  replace g1 : ((0 : Int) + (1 * b2 + 0)) = ((0 : Int) + (1 * b + 0)) := g1
  refine hv0 (fun g2 => ?_)
  replace g2 : (0 : Int) ≤ ((-1 : Int) + ((-1) * p + (1 * q2 + 0))) := g2
  refine hv2 (fun t hag3 g3 => ?_)
  replace g3 : R 67 ((0 : Int) + (1 * p + 0)) = t := g3
  replace hag3 : (0 : Int) ≤ ((0 : Int) + (1 * p + 0)) := hag3
  replace g3 : R 67 (p) = t := hF (R := R 67) g3 (ad_40 p)
  show hV _ _ _ _ _ [b, p, i, k, aT, b2, q2, e2, t]
  refine hv13 (fun g4 => ?_)
  replace g4 : ((0 : Int) + (1 * t + 0)) = ((0 : Int) + (1 * i + 0)) := g4
  refine hv0 (fun g5 => ?_)
  replace g5 : (0 : Int) ≤ ((0 : Int) + (1 * p + 0)) := g5
  refine hv4 (hm5 (fun b8 p8 i8 k8 a8 g6 => ?_))
  replace g6 : q88 b8 p8 i8 k8 a8 (R 58) (R 67) (R 68) := rqo_88_5 g6
  refine hmb rfl ?_
  show hmt _ _ _ [b, p, i, k, aT, b2, q2, e2, t, b8]
  refine hmb rfl ?_
  show hmt _ _ _ [b, p, i, k, aT, b2, q2, e2, t, b8, p8]
  refine hmb rfl ?_
  show hmt _ _ _ [b, p, i, k, aT, b2, q2, e2, t, b8, p8, i8]
  refine hmb rfl ?_
  show hmt _ _ _ [b, p, i, k, aT, b2, q2, e2, t, b8, p8, i8, k8]
  refine hmb rfl ?_
  show hmt _ _ _ [b, p, i, k, aT, b2, q2, e2, t, b8, p8, i8, k8, a8]
  refine hmn ?_
  show hV _ _ _ _ _ [b, p, i, k, aT, b2, q2, e2, t, b8, p8, i8, k8, a8]
  refine hv13 (fun g7 => ?_)
  replace g7 : ((0 : Int) + (1 * b8 + 0)) = ((0 : Int) + (1 * b + 0)) := g7
  refine hv13 (fun g8 => ?_)
  replace g8 : ((0 : Int) + (1 * p8 + 0)) = ((0 : Int) + (1 * p + 0)) := g8
  refine hv13 (fun g9 => ?_)
  replace g9 : ((0 : Int) + (1 * i8 + 0)) = ((0 : Int) + (1 * i + 0)) := g9
  refine hv13 (fun g10 => ?_)
  replace g10 : ((0 : Int) + (1 * k8 + 0)) = ((-1 : Int) + (1 * k + 0)) := g10
  refine hv13 (fun g11 => ?_)
  replace g11 : ((0 : Int) + (1 * a8 + 0)) = ((-1 : Int) + (1 * aT + 0)) := g11
  refine hv2 (fun kk hag12 g12 => ?_)
  replace g12 : R 58 ((22690 : Int) + (1 * b + (2 * k + 0))) = kk := g12
  replace hag12 : (0 : Int) ≤ ((22690 : Int) + (1 * b + (2 * k + 0))) := hag12
  replace g12 : iK (R 58) b (k - 1) = kk := hF (R := R 58) g12 (ad_18 b k)
  show hV _ _ _ _ _ [b, p, i, k, aT, b2, q2, e2, t, b8, p8, i8, k8, a8, kk]
  refine hv13 (fun g13 => ?_)
  replace g13 : ((0 : Int) + (1 * kk + 0)) = ((0 : Int) + 0) := g13
  refine hv2 (fun nn hag14 g14 => ?_)
  replace g14 : R 58 ((22691 : Int) + (1 * b + (2 * k + 0))) = nn := g14
  replace hag14 : (0 : Int) ≤ ((22691 : Int) + (1 * b + (2 * k + 0))) := hag14
  replace g14 : iN (R 58) b (k - 1) = nn := hF (R := R 58) g14 (ad_19 b k)
  show hV _ _ _ _ _ [b, p, i, k, aT, b2, q2, e2, t, b8, p8, i8, k8, a8, kk, nn]
  refine hv2 (fun wk hag15 g15 => ?_)
  replace g15 : R 58 ((8292 : Int) + (1 * b + (40 * nn + 0))) = wk := g15
  replace hag15 : (0 : Int) ≤ ((8292 : Int) + (1 * b + (40 * nn + 0))) := hag15
  replace g15 : dK (R 58) b (nn) = wk := hF (R := R 58) g15 (ad_41 b nn)
  show hV _ _ _ _ _ [b, p, i, k, aT, b2, q2, e2, t, b8, p8, i8, k8, a8, kk, nn, wk]
  refine hv13 (fun g16 => ?_)
  replace g16 : ((0 : Int) + (1 * wk + 0)) = ((0 : Int) + 0) := g16
  refine hv0 (fun g17 => ?_)
  replace g17 : (0 : Int) ≤ ((-75 : Int) + (1 * nn + 0)) := g17
  refine hv0 (fun g18 => ?_)
  replace g18 : (0 : Int) ≤ ((82 : Int) + ((-1) * nn + 0)) := g18
  refine hv2 (fun V hag19 g19 => ?_)
  replace g19 : R 58 ((8295 : Int) + (1 * b + (40 * i + 0))) = V := g19
  replace hag19 : (0 : Int) ≤ ((8295 : Int) + (1 * b + (40 * i + 0))) := hag19
  replace g19 : dV (R 58) b (i) = V := hF (R := R 58) g19 (ad_8 b i)
  show hV _ _ _ _ _ [b, p, i, k, aT, b2, q2, e2, t, b8, p8, i8, k8, a8, kk, nn, wk, V]
  refine hv2 (fun N hag20 g20 => ?_)
  replace g20 : R 58 ((8296 : Int) + (1 * b + (40 * i + 0))) = N := g20
  replace hag20 : (0 : Int) ≤ ((8296 : Int) + (1 * b + (40 * i + 0))) := hag20
  replace g20 : dL (R 58) b (i) = N := hF (R := R 58) g20 (ad_9 b i)
  show hV _ _ _ _ _ [b, p, i, k, aT, b2, q2, e2, t, b8, p8, i8, k8, a8, kk, nn, wk, V, N]
  refine hv0 (fun g21 => ?_)
  replace g21 : (0 : Int) ≤ ((-1 : Int) + (1 * k + ((-1) * V + 0))) := g21
  refine hv0 (fun g22 => ?_)
  replace g22 : (0 : Int) ≤ ((0 : Int) + ((-1) * k + (1 * V + (1 * N + 0)))) := g22
  refine hvC ?_
  refine rqi_88_5 (?_ : q88 b p i k aT (R 58) (R 67) (R 68))
  have q_ : b = b2 := by omega
  subst q_
  have q_ : b = b8 := by omega
  subst q_
  have q_ : p = p8 := by omega
  subst q_
  have q_ : i = i8 := by omega
  subst q_
  have q_ : k8 = k - 1 := by omega
  subst q_
  have q_ : a8 = aT - 1 := by omega
  subst q_
  subst g3
  subst g12
  subst g14
  subst g15
  subst g19
  subst g20
  exact q88_s (c := 1) g6 (chW_prim (by omega) (by omega) (by omega)) (by omega)

theorem tN_88_5_6 : vN rQ 88 hn_88_5_6 := by
  intro R G ps hl
  obtain ⟨b, p, i, k, aT, rfl⟩ := hl5 hl
  refine hv4 (hm3 (fun b2 q2 e2 g0 => ?_))
  replace g0 : q82 b2 q2 e2 (R 58) (R 67) (R 68) (R 60) := rqo_82_3 g0
  refine hmb rfl ?_
  show hmt _ _ _ [b, p, i, k, aT, b2]
  refine hmb rfl ?_
  show hmt _ _ _ [b, p, i, k, aT, b2, q2]
  refine hmb rfl ?_
  show hmt _ _ _ [b, p, i, k, aT, b2, q2, e2]
  refine hmn ?_
  show hV _ _ _ _ _ [b, p, i, k, aT, b2, q2, e2]
  refine hv13 (fun g1 => ?_)
  replace g1 : ((0 : Int) + (1 * b2 + 0)) = ((0 : Int) + (1 * b + 0)) := g1
  refine hv0 (fun g2 => ?_)
  replace g2 : (0 : Int) ≤ ((-1 : Int) + ((-1) * p + (1 * q2 + 0))) := g2
  refine hv2 (fun t hag3 g3 => ?_)
  replace g3 : R 67 ((0 : Int) + (1 * p + 0)) = t := g3
  replace hag3 : (0 : Int) ≤ ((0 : Int) + (1 * p + 0)) := hag3
  replace g3 : R 67 (p) = t := hF (R := R 67) g3 (ad_40 p)
  show hV _ _ _ _ _ [b, p, i, k, aT, b2, q2, e2, t]
  refine hv13 (fun g4 => ?_)
  replace g4 : ((0 : Int) + (1 * t + 0)) = ((0 : Int) + (1 * i + 0)) := g4
  refine hv0 (fun g5 => ?_)
  replace g5 : (0 : Int) ≤ ((0 : Int) + (1 * p + 0)) := g5
  refine hv4 (hm5 (fun b8 p8 i8 k8 a8 g6 => ?_))
  replace g6 : q88 b8 p8 i8 k8 a8 (R 58) (R 67) (R 68) := rqo_88_5 g6
  refine hmb rfl ?_
  show hmt _ _ _ [b, p, i, k, aT, b2, q2, e2, t, b8]
  refine hmb rfl ?_
  show hmt _ _ _ [b, p, i, k, aT, b2, q2, e2, t, b8, p8]
  refine hmb rfl ?_
  show hmt _ _ _ [b, p, i, k, aT, b2, q2, e2, t, b8, p8, i8]
  refine hmb rfl ?_
  show hmt _ _ _ [b, p, i, k, aT, b2, q2, e2, t, b8, p8, i8, k8]
  refine hmb rfl ?_
  show hmt _ _ _ [b, p, i, k, aT, b2, q2, e2, t, b8, p8, i8, k8, a8]
  refine hmn ?_
  show hV _ _ _ _ _ [b, p, i, k, aT, b2, q2, e2, t, b8, p8, i8, k8, a8]
  refine hv13 (fun g7 => ?_)
  replace g7 : ((0 : Int) + (1 * b8 + 0)) = ((0 : Int) + (1 * b + 0)) := g7
  refine hv13 (fun g8 => ?_)
  replace g8 : ((0 : Int) + (1 * p8 + 0)) = ((0 : Int) + (1 * p + 0)) := g8
  refine hv13 (fun g9 => ?_)
  replace g9 : ((0 : Int) + (1 * i8 + 0)) = ((0 : Int) + (1 * i + 0)) := g9
  refine hv13 (fun g10 => ?_)
  replace g10 : ((0 : Int) + (1 * k8 + 0)) = ((-1 : Int) + (1 * k + 0)) := g10
  refine hv13 (fun g11 => ?_)
  replace g11 : ((0 : Int) + (1 * a8 + 0)) = ((-1 : Int) + (1 * aT + 0)) := g11
  refine hv2 (fun kk hag12 g12 => ?_)
  replace g12 : R 58 ((22690 : Int) + (1 * b + (2 * k + 0))) = kk := g12
  replace hag12 : (0 : Int) ≤ ((22690 : Int) + (1 * b + (2 * k + 0))) := hag12
  replace g12 : iK (R 58) b (k - 1) = kk := hF (R := R 58) g12 (ad_18 b k)
  show hV _ _ _ _ _ [b, p, i, k, aT, b2, q2, e2, t, b8, p8, i8, k8, a8, kk]
  refine hv13 (fun g13 => ?_)
  replace g13 : ((0 : Int) + (1 * kk + 0)) = ((0 : Int) + 0) := g13
  refine hv2 (fun nn hag14 g14 => ?_)
  replace g14 : R 58 ((22691 : Int) + (1 * b + (2 * k + 0))) = nn := g14
  replace hag14 : (0 : Int) ≤ ((22691 : Int) + (1 * b + (2 * k + 0))) := hag14
  replace g14 : iN (R 58) b (k - 1) = nn := hF (R := R 58) g14 (ad_19 b k)
  show hV _ _ _ _ _ [b, p, i, k, aT, b2, q2, e2, t, b8, p8, i8, k8, a8, kk, nn]
  refine hv2 (fun wk hag15 g15 => ?_)
  replace g15 : R 58 ((8292 : Int) + (1 * b + (40 * nn + 0))) = wk := g15
  replace hag15 : (0 : Int) ≤ ((8292 : Int) + (1 * b + (40 * nn + 0))) := hag15
  replace g15 : dK (R 58) b (nn) = wk := hF (R := R 58) g15 (ad_41 b nn)
  show hV _ _ _ _ _ [b, p, i, k, aT, b2, q2, e2, t, b8, p8, i8, k8, a8, kk, nn, wk]
  refine hv13 (fun g16 => ?_)
  replace g16 : ((0 : Int) + (1 * wk + 0)) = ((0 : Int) + 0) := g16
  refine hv0 (fun g17 => ?_)
  replace g17 : (0 : Int) ≤ ((-147 : Int) + (1 * nn + 0)) := g17
  refine hv0 (fun g18 => ?_)
  replace g18 : (0 : Int) ≤ ((150 : Int) + ((-1) * nn + 0)) := g18
  refine hv2 (fun V hag19 g19 => ?_)
  replace g19 : R 58 ((8295 : Int) + (1 * b + (40 * i + 0))) = V := g19
  replace hag19 : (0 : Int) ≤ ((8295 : Int) + (1 * b + (40 * i + 0))) := hag19
  replace g19 : dV (R 58) b (i) = V := hF (R := R 58) g19 (ad_8 b i)
  show hV _ _ _ _ _ [b, p, i, k, aT, b2, q2, e2, t, b8, p8, i8, k8, a8, kk, nn, wk, V]
  refine hv2 (fun N hag20 g20 => ?_)
  replace g20 : R 58 ((8296 : Int) + (1 * b + (40 * i + 0))) = N := g20
  replace hag20 : (0 : Int) ≤ ((8296 : Int) + (1 * b + (40 * i + 0))) := hag20
  replace g20 : dL (R 58) b (i) = N := hF (R := R 58) g20 (ad_9 b i)
  show hV _ _ _ _ _ [b, p, i, k, aT, b2, q2, e2, t, b8, p8, i8, k8, a8, kk, nn, wk, V, N]
  refine hv0 (fun g21 => ?_)
  replace g21 : (0 : Int) ≤ ((-1 : Int) + (1 * k + ((-1) * V + 0))) := g21
  refine hv0 (fun g22 => ?_)
  replace g22 : (0 : Int) ≤ ((0 : Int) + ((-1) * k + (1 * V + (1 * N + 0)))) := g22
  refine hvC ?_
  refine rqi_88_5 (?_ : q88 b p i k aT (R 58) (R 67) (R 68))
  have q_ : b = b2 := by omega
  subst q_
  have q_ : b = b8 := by omega
  subst q_
  have q_ : p = p8 := by omega
  subst q_
  have q_ : i = i8 := by omega
  subst q_
  have q_ : k8 = k - 1 := by omega
  subst q_
  have q_ : a8 = aT - 1 := by omega
  subst q_
  subst g3
  subst g12
  subst g14
  subst g15
  subst g19
  subst g20
  exact q88_s (c := 1) g6 (chW_prim (by omega) (by omega) (by omega)) (by omega)

theorem tN_88_5_7 : vN rQ 88 hn_88_5_7 := by
  intro R G ps hl
  obtain ⟨b, p, i, k, aT, rfl⟩ := hl5 hl
  refine hv4 (hm3 (fun b2 q2 e2 g0 => ?_))
  replace g0 : q82 b2 q2 e2 (R 58) (R 67) (R 68) (R 60) := rqo_82_3 g0
  refine hmb rfl ?_
  show hmt _ _ _ [b, p, i, k, aT, b2]
  refine hmb rfl ?_
  show hmt _ _ _ [b, p, i, k, aT, b2, q2]
  refine hmb rfl ?_
  show hmt _ _ _ [b, p, i, k, aT, b2, q2, e2]
  refine hmn ?_
  show hV _ _ _ _ _ [b, p, i, k, aT, b2, q2, e2]
  refine hv13 (fun g1 => ?_)
  replace g1 : ((0 : Int) + (1 * b2 + 0)) = ((0 : Int) + (1 * b + 0)) := g1
  refine hv0 (fun g2 => ?_)
  replace g2 : (0 : Int) ≤ ((-1 : Int) + ((-1) * p + (1 * q2 + 0))) := g2
  refine hv2 (fun t hag3 g3 => ?_)
  replace g3 : R 67 ((0 : Int) + (1 * p + 0)) = t := g3
  replace hag3 : (0 : Int) ≤ ((0 : Int) + (1 * p + 0)) := hag3
  replace g3 : R 67 (p) = t := hF (R := R 67) g3 (ad_40 p)
  show hV _ _ _ _ _ [b, p, i, k, aT, b2, q2, e2, t]
  refine hv13 (fun g4 => ?_)
  replace g4 : ((0 : Int) + (1 * t + 0)) = ((0 : Int) + (1 * i + 0)) := g4
  refine hv0 (fun g5 => ?_)
  replace g5 : (0 : Int) ≤ ((0 : Int) + (1 * p + 0)) := g5
  refine hv4 (hm5 (fun b8 p8 i8 k8 a8 g6 => ?_))
  replace g6 : q88 b8 p8 i8 k8 a8 (R 58) (R 67) (R 68) := rqo_88_5 g6
  refine hmb rfl ?_
  show hmt _ _ _ [b, p, i, k, aT, b2, q2, e2, t, b8]
  refine hmb rfl ?_
  show hmt _ _ _ [b, p, i, k, aT, b2, q2, e2, t, b8, p8]
  refine hmb rfl ?_
  show hmt _ _ _ [b, p, i, k, aT, b2, q2, e2, t, b8, p8, i8]
  refine hmb rfl ?_
  show hmt _ _ _ [b, p, i, k, aT, b2, q2, e2, t, b8, p8, i8, k8]
  refine hmb rfl ?_
  show hmt _ _ _ [b, p, i, k, aT, b2, q2, e2, t, b8, p8, i8, k8, a8]
  refine hmn ?_
  show hV _ _ _ _ _ [b, p, i, k, aT, b2, q2, e2, t, b8, p8, i8, k8, a8]
  refine hv13 (fun g7 => ?_)
  replace g7 : ((0 : Int) + (1 * b8 + 0)) = ((0 : Int) + (1 * b + 0)) := g7
  refine hv13 (fun g8 => ?_)
  replace g8 : ((0 : Int) + (1 * p8 + 0)) = ((0 : Int) + (1 * p + 0)) := g8
  refine hv13 (fun g9 => ?_)
  replace g9 : ((0 : Int) + (1 * i8 + 0)) = ((0 : Int) + (1 * i + 0)) := g9
  refine hv13 (fun g10 => ?_)
  replace g10 : ((0 : Int) + (1 * k8 + 0)) = ((-1 : Int) + (1 * k + 0)) := g10
  refine hv13 (fun g11 => ?_)
  replace g11 : ((0 : Int) + (1 * a8 + 0)) = ((-1 : Int) + (1 * aT + 0)) := g11
  refine hv2 (fun kk hag12 g12 => ?_)
  replace g12 : R 58 ((22690 : Int) + (1 * b + (2 * k + 0))) = kk := g12
  replace hag12 : (0 : Int) ≤ ((22690 : Int) + (1 * b + (2 * k + 0))) := hag12
  replace g12 : iK (R 58) b (k - 1) = kk := hF (R := R 58) g12 (ad_18 b k)
  show hV _ _ _ _ _ [b, p, i, k, aT, b2, q2, e2, t, b8, p8, i8, k8, a8, kk]
  refine hv13 (fun g13 => ?_)
  replace g13 : ((0 : Int) + (1 * kk + 0)) = ((0 : Int) + 0) := g13
  refine hv2 (fun nn hag14 g14 => ?_)
  replace g14 : R 58 ((22691 : Int) + (1 * b + (2 * k + 0))) = nn := g14
  replace hag14 : (0 : Int) ≤ ((22691 : Int) + (1 * b + (2 * k + 0))) := hag14
  replace g14 : iN (R 58) b (k - 1) = nn := hF (R := R 58) g14 (ad_19 b k)
  show hV _ _ _ _ _ [b, p, i, k, aT, b2, q2, e2, t, b8, p8, i8, k8, a8, kk, nn]
  refine hv2 (fun wk hag15 g15 => ?_)
  replace g15 : R 58 ((8292 : Int) + (1 * b + (40 * nn + 0))) = wk := g15
  replace hag15 : (0 : Int) ≤ ((8292 : Int) + (1 * b + (40 * nn + 0))) := hag15
  replace g15 : dK (R 58) b (nn) = wk := hF (R := R 58) g15 (ad_41 b nn)
  show hV _ _ _ _ _ [b, p, i, k, aT, b2, q2, e2, t, b8, p8, i8, k8, a8, kk, nn, wk]
  refine hv13 (fun g16 => ?_)
  replace g16 : ((0 : Int) + (1 * wk + 0)) = ((1 : Int) + 0) := g16
  refine hv2 (fun V hag17 g17 => ?_)
  replace g17 : R 58 ((8295 : Int) + (1 * b + (40 * i + 0))) = V := g17
  replace hag17 : (0 : Int) ≤ ((8295 : Int) + (1 * b + (40 * i + 0))) := hag17
  replace g17 : dV (R 58) b (i) = V := hF (R := R 58) g17 (ad_8 b i)
  show hV _ _ _ _ _ [b, p, i, k, aT, b2, q2, e2, t, b8, p8, i8, k8, a8, kk, nn, wk, V]
  refine hv2 (fun N hag18 g18 => ?_)
  replace g18 : R 58 ((8296 : Int) + (1 * b + (40 * i + 0))) = N := g18
  replace hag18 : (0 : Int) ≤ ((8296 : Int) + (1 * b + (40 * i + 0))) := hag18
  replace g18 : dL (R 58) b (i) = N := hF (R := R 58) g18 (ad_9 b i)
  show hV _ _ _ _ _ [b, p, i, k, aT, b2, q2, e2, t, b8, p8, i8, k8, a8, kk, nn, wk, V, N]
  refine hv0 (fun g19 => ?_)
  replace g19 : (0 : Int) ≤ ((-1 : Int) + (1 * k + ((-1) * V + 0))) := g19
  refine hv0 (fun g20 => ?_)
  replace g20 : (0 : Int) ≤ ((0 : Int) + ((-1) * k + (1 * V + (1 * N + 0)))) := g20
  refine hvC ?_
  refine rqi_88_5 (?_ : q88 b p i k aT (R 58) (R 67) (R 68))
  have q_ : b = b2 := by omega
  subst q_
  have q_ : b = b8 := by omega
  subst q_
  have q_ : p = p8 := by omega
  subst q_
  have q_ : i = i8 := by omega
  subst q_
  have q_ : k8 = k - 1 := by omega
  subst q_
  have q_ : a8 = aT - 1 := by omega
  subst q_
  subst g3
  subst g12
  subst g14
  subst g15
  subst g17
  subst g18
  exact q88_s (c := 1) g6 (chW_call (by omega) (by omega)) (by omega)

theorem tN_88_5_8 : vN rQ 88 hn_88_5_8 := by
  intro R G ps hl
  obtain ⟨b, p, i, k, aT, rfl⟩ := hl5 hl
  refine hv4 (hm3 (fun b2 q2 e2 g0 => ?_))
  replace g0 : q82 b2 q2 e2 (R 58) (R 67) (R 68) (R 60) := rqo_82_3 g0
  refine hmb rfl ?_
  show hmt _ _ _ [b, p, i, k, aT, b2]
  refine hmb rfl ?_
  show hmt _ _ _ [b, p, i, k, aT, b2, q2]
  refine hmb rfl ?_
  show hmt _ _ _ [b, p, i, k, aT, b2, q2, e2]
  refine hmn ?_
  show hV _ _ _ _ _ [b, p, i, k, aT, b2, q2, e2]
  refine hv13 (fun g1 => ?_)
  replace g1 : ((0 : Int) + (1 * b2 + 0)) = ((0 : Int) + (1 * b + 0)) := g1
  refine hv0 (fun g2 => ?_)
  replace g2 : (0 : Int) ≤ ((-1 : Int) + ((-1) * p + (1 * q2 + 0))) := g2
  refine hv2 (fun t hag3 g3 => ?_)
  replace g3 : R 67 ((0 : Int) + (1 * p + 0)) = t := g3
  replace hag3 : (0 : Int) ≤ ((0 : Int) + (1 * p + 0)) := hag3
  replace g3 : R 67 (p) = t := hF (R := R 67) g3 (ad_40 p)
  show hV _ _ _ _ _ [b, p, i, k, aT, b2, q2, e2, t]
  refine hv13 (fun g4 => ?_)
  replace g4 : ((0 : Int) + (1 * t + 0)) = ((0 : Int) + (1 * i + 0)) := g4
  refine hv0 (fun g5 => ?_)
  replace g5 : (0 : Int) ≤ ((0 : Int) + (1 * p + 0)) := g5
  refine hv4 (hm5 (fun b8 p8 i8 k8 a8 g6 => ?_))
  replace g6 : q88 b8 p8 i8 k8 a8 (R 58) (R 67) (R 68) := rqo_88_5 g6
  refine hmb rfl ?_
  show hmt _ _ _ [b, p, i, k, aT, b2, q2, e2, t, b8]
  refine hmb rfl ?_
  show hmt _ _ _ [b, p, i, k, aT, b2, q2, e2, t, b8, p8]
  refine hmb rfl ?_
  show hmt _ _ _ [b, p, i, k, aT, b2, q2, e2, t, b8, p8, i8]
  refine hmb rfl ?_
  show hmt _ _ _ [b, p, i, k, aT, b2, q2, e2, t, b8, p8, i8, k8]
  refine hmb rfl ?_
  show hmt _ _ _ [b, p, i, k, aT, b2, q2, e2, t, b8, p8, i8, k8, a8]
  refine hmn ?_
  show hV _ _ _ _ _ [b, p, i, k, aT, b2, q2, e2, t, b8, p8, i8, k8, a8]
  refine hv13 (fun g7 => ?_)
  replace g7 : ((0 : Int) + (1 * b8 + 0)) = ((0 : Int) + (1 * b + 0)) := g7
  refine hv13 (fun g8 => ?_)
  replace g8 : ((0 : Int) + (1 * p8 + 0)) = ((0 : Int) + (1 * p + 0)) := g8
  refine hv13 (fun g9 => ?_)
  replace g9 : ((0 : Int) + (1 * i8 + 0)) = ((0 : Int) + (1 * i + 0)) := g9
  refine hv13 (fun g10 => ?_)
  replace g10 : ((0 : Int) + (1 * k8 + 0)) = ((-1 : Int) + (1 * k + 0)) := g10
  refine hv13 (fun g11 => ?_)
  replace g11 : ((0 : Int) + (1 * a8 + 0)) = ((-2 : Int) + (1 * aT + 0)) := g11
  refine hv2 (fun kk hag12 g12 => ?_)
  replace g12 : R 58 ((22690 : Int) + (1 * b + (2 * k + 0))) = kk := g12
  replace hag12 : (0 : Int) ≤ ((22690 : Int) + (1 * b + (2 * k + 0))) := hag12
  replace g12 : iK (R 58) b (k - 1) = kk := hF (R := R 58) g12 (ad_18 b k)
  show hV _ _ _ _ _ [b, p, i, k, aT, b2, q2, e2, t, b8, p8, i8, k8, a8, kk]
  refine hv13 (fun g13 => ?_)
  replace g13 : ((0 : Int) + (1 * kk + 0)) = ((0 : Int) + 0) := g13
  refine hv2 (fun nn hag14 g14 => ?_)
  replace g14 : R 58 ((22691 : Int) + (1 * b + (2 * k + 0))) = nn := g14
  replace hag14 : (0 : Int) ≤ ((22691 : Int) + (1 * b + (2 * k + 0))) := hag14
  replace g14 : iN (R 58) b (k - 1) = nn := hF (R := R 58) g14 (ad_19 b k)
  show hV _ _ _ _ _ [b, p, i, k, aT, b2, q2, e2, t, b8, p8, i8, k8, a8, kk, nn]
  refine hv2 (fun wk hag15 g15 => ?_)
  replace g15 : R 58 ((8292 : Int) + (1 * b + (40 * nn + 0))) = wk := g15
  replace hag15 : (0 : Int) ≤ ((8292 : Int) + (1 * b + (40 * nn + 0))) := hag15
  replace g15 : dK (R 58) b (nn) = wk := hF (R := R 58) g15 (ad_41 b nn)
  show hV _ _ _ _ _ [b, p, i, k, aT, b2, q2, e2, t, b8, p8, i8, k8, a8, kk, nn, wk]
  refine hv10 (fun g16 => ?_)
  replace g16 : ((0 : Int) + (1 * wk + 0)) = (2 : Int) ∨ ((0 : Int) + (1 * wk + 0)) = (7 : Int) := g16
  refine hv2 (fun V hag17 g17 => ?_)
  replace g17 : R 58 ((8295 : Int) + (1 * b + (40 * i + 0))) = V := g17
  replace hag17 : (0 : Int) ≤ ((8295 : Int) + (1 * b + (40 * i + 0))) := hag17
  replace g17 : dV (R 58) b (i) = V := hF (R := R 58) g17 (ad_8 b i)
  show hV _ _ _ _ _ [b, p, i, k, aT, b2, q2, e2, t, b8, p8, i8, k8, a8, kk, nn, wk, V]
  refine hv2 (fun N hag18 g18 => ?_)
  replace g18 : R 58 ((8296 : Int) + (1 * b + (40 * i + 0))) = N := g18
  replace hag18 : (0 : Int) ≤ ((8296 : Int) + (1 * b + (40 * i + 0))) := hag18
  replace g18 : dL (R 58) b (i) = N := hF (R := R 58) g18 (ad_9 b i)
  show hV _ _ _ _ _ [b, p, i, k, aT, b2, q2, e2, t, b8, p8, i8, k8, a8, kk, nn, wk, V, N]
  refine hv0 (fun g19 => ?_)
  replace g19 : (0 : Int) ≤ ((-1 : Int) + (1 * k + ((-1) * V + 0))) := g19
  refine hv0 (fun g20 => ?_)
  replace g20 : (0 : Int) ≤ ((0 : Int) + ((-1) * k + (1 * V + (1 * N + 0)))) := g20
  refine hvC ?_
  refine rqi_88_5 (?_ : q88 b p i k aT (R 58) (R 67) (R 68))
  have q_ : b = b2 := by omega
  subst q_
  have q_ : b = b8 := by omega
  subst q_
  have q_ : p = p8 := by omega
  subst q_
  have q_ : i = i8 := by omega
  subst q_
  have q_ : k8 = k - 1 := by omega
  subst q_
  have q_ : a8 = aT - 2 := by omega
  subst q_
  subst g3
  subst g12
  subst g14
  subst g15
  subst g17
  subst g18
  exact q88_s (c := 2) g6 (chW_con (by omega) (by omega)) (by omega)

theorem tN_88_5_9 : vN rQ 88 hn_88_5_9 := by
  intro R G ps hl
  obtain ⟨b, p, i, k, aT, rfl⟩ := hl5 hl
  refine hv4 (hm3 (fun b2 q2 e2 g0 => ?_))
  replace g0 : q82 b2 q2 e2 (R 58) (R 67) (R 68) (R 60) := rqo_82_3 g0
  refine hmb rfl ?_
  show hmt _ _ _ [b, p, i, k, aT, b2]
  refine hmb rfl ?_
  show hmt _ _ _ [b, p, i, k, aT, b2, q2]
  refine hmb rfl ?_
  show hmt _ _ _ [b, p, i, k, aT, b2, q2, e2]
  refine hmn ?_
  show hV _ _ _ _ _ [b, p, i, k, aT, b2, q2, e2]
  refine hv13 (fun g1 => ?_)
  replace g1 : ((0 : Int) + (1 * b2 + 0)) = ((0 : Int) + (1 * b + 0)) := g1
  refine hv0 (fun g2 => ?_)
  replace g2 : (0 : Int) ≤ ((-1 : Int) + ((-1) * p + (1 * q2 + 0))) := g2
  refine hv2 (fun t hag3 g3 => ?_)
  replace g3 : R 67 ((0 : Int) + (1 * p + 0)) = t := g3
  replace hag3 : (0 : Int) ≤ ((0 : Int) + (1 * p + 0)) := hag3
  replace g3 : R 67 (p) = t := hF (R := R 67) g3 (ad_40 p)
  show hV _ _ _ _ _ [b, p, i, k, aT, b2, q2, e2, t]
  refine hv13 (fun g4 => ?_)
  replace g4 : ((0 : Int) + (1 * t + 0)) = ((0 : Int) + (1 * i + 0)) := g4
  refine hv0 (fun g5 => ?_)
  replace g5 : (0 : Int) ≤ ((0 : Int) + (1 * p + 0)) := g5
  refine hv4 (hm5 (fun b8 p8 i8 k8 a8 g6 => ?_))
  replace g6 : q88 b8 p8 i8 k8 a8 (R 58) (R 67) (R 68) := rqo_88_5 g6
  refine hmb rfl ?_
  show hmt _ _ _ [b, p, i, k, aT, b2, q2, e2, t, b8]
  refine hmb rfl ?_
  show hmt _ _ _ [b, p, i, k, aT, b2, q2, e2, t, b8, p8]
  refine hmb rfl ?_
  show hmt _ _ _ [b, p, i, k, aT, b2, q2, e2, t, b8, p8, i8]
  refine hmb rfl ?_
  show hmt _ _ _ [b, p, i, k, aT, b2, q2, e2, t, b8, p8, i8, k8]
  refine hmb rfl ?_
  show hmt _ _ _ [b, p, i, k, aT, b2, q2, e2, t, b8, p8, i8, k8, a8]
  refine hmn ?_
  show hV _ _ _ _ _ [b, p, i, k, aT, b2, q2, e2, t, b8, p8, i8, k8, a8]
  refine hv13 (fun g7 => ?_)
  replace g7 : ((0 : Int) + (1 * b8 + 0)) = ((0 : Int) + (1 * b + 0)) := g7
  refine hv13 (fun g8 => ?_)
  replace g8 : ((0 : Int) + (1 * p8 + 0)) = ((0 : Int) + (1 * p + 0)) := g8
  refine hv13 (fun g9 => ?_)
  replace g9 : ((0 : Int) + (1 * i8 + 0)) = ((0 : Int) + (1 * i + 0)) := g9
  refine hv13 (fun g10 => ?_)
  replace g10 : ((0 : Int) + (1 * k8 + 0)) = ((-1 : Int) + (1 * k + 0)) := g10
  refine hv13 (fun g11 => ?_)
  replace g11 : ((0 : Int) + (1 * a8 + 0)) = ((-2 : Int) + (1 * aT + 0)) := g11
  refine hv2 (fun kk hag12 g12 => ?_)
  replace g12 : R 58 ((22690 : Int) + (1 * b + (2 * k + 0))) = kk := g12
  replace hag12 : (0 : Int) ≤ ((22690 : Int) + (1 * b + (2 * k + 0))) := hag12
  replace g12 : iK (R 58) b (k - 1) = kk := hF (R := R 58) g12 (ad_18 b k)
  show hV _ _ _ _ _ [b, p, i, k, aT, b2, q2, e2, t, b8, p8, i8, k8, a8, kk]
  refine hv13 (fun g13 => ?_)
  replace g13 : ((0 : Int) + (1 * kk + 0)) = ((0 : Int) + 0) := g13
  refine hv2 (fun nn hag14 g14 => ?_)
  replace g14 : R 58 ((22691 : Int) + (1 * b + (2 * k + 0))) = nn := g14
  replace hag14 : (0 : Int) ≤ ((22691 : Int) + (1 * b + (2 * k + 0))) := hag14
  replace g14 : iN (R 58) b (k - 1) = nn := hF (R := R 58) g14 (ad_19 b k)
  show hV _ _ _ _ _ [b, p, i, k, aT, b2, q2, e2, t, b8, p8, i8, k8, a8, kk, nn]
  refine hv2 (fun wk hag15 g15 => ?_)
  replace g15 : R 58 ((8292 : Int) + (1 * b + (40 * nn + 0))) = wk := g15
  replace hag15 : (0 : Int) ≤ ((8292 : Int) + (1 * b + (40 * nn + 0))) := hag15
  replace g15 : dK (R 58) b (nn) = wk := hF (R := R 58) g15 (ad_41 b nn)
  show hV _ _ _ _ _ [b, p, i, k, aT, b2, q2, e2, t, b8, p8, i8, k8, a8, kk, nn, wk]
  refine hv13 (fun g16 => ?_)
  replace g16 : ((0 : Int) + (1 * wk + 0)) = ((3 : Int) + 0) := g16
  refine hv2 (fun dO hag17 g17 => ?_)
  replace g17 : R 58 ((8297 : Int) + (1 * b + (40 * nn + 0))) = dO := g17
  replace hag17 : (0 : Int) ≤ ((8297 : Int) + (1 * b + (40 * nn + 0))) := hag17
  replace g17 : dE (R 58) b (nn) = dO := hF (R := R 58) g17 (ad_42 b nn)
  show hV _ _ _ _ _ [b, p, i, k, aT, b2, q2, e2, t, b8, p8, i8, k8, a8, kk, nn, wk, dO]
  refine hv13 (fun g18 => ?_)
  replace g18 : ((0 : Int) + (1 * dO + 0)) = ((-1 : Int) + 0) := g18
  refine hv2 (fun V hag19 g19 => ?_)
  replace g19 : R 58 ((8295 : Int) + (1 * b + (40 * i + 0))) = V := g19
  replace hag19 : (0 : Int) ≤ ((8295 : Int) + (1 * b + (40 * i + 0))) := hag19
  replace g19 : dV (R 58) b (i) = V := hF (R := R 58) g19 (ad_8 b i)
  show hV _ _ _ _ _ [b, p, i, k, aT, b2, q2, e2, t, b8, p8, i8, k8, a8, kk, nn, wk, dO, V]
  refine hv2 (fun N hag20 g20 => ?_)
  replace g20 : R 58 ((8296 : Int) + (1 * b + (40 * i + 0))) = N := g20
  replace hag20 : (0 : Int) ≤ ((8296 : Int) + (1 * b + (40 * i + 0))) := hag20
  replace g20 : dL (R 58) b (i) = N := hF (R := R 58) g20 (ad_9 b i)
  show hV _ _ _ _ _ [b, p, i, k, aT, b2, q2, e2, t, b8, p8, i8, k8, a8, kk, nn, wk, dO, V, N]
  refine hv0 (fun g21 => ?_)
  replace g21 : (0 : Int) ≤ ((-1 : Int) + (1 * k + ((-1) * V + 0))) := g21
  refine hv0 (fun g22 => ?_)
  replace g22 : (0 : Int) ≤ ((0 : Int) + ((-1) * k + (1 * V + (1 * N + 0)))) := g22
  refine hvC ?_
  refine rqi_88_5 (?_ : q88 b p i k aT (R 58) (R 67) (R 68))
  have q_ : b = b2 := by omega
  subst q_
  have q_ : b = b8 := by omega
  subst q_
  have q_ : p = p8 := by omega
  subst q_
  have q_ : i = i8 := by omega
  subst q_
  have q_ : k8 = k - 1 := by omega
  subst q_
  have q_ : a8 = aT - 2 := by omega
  subst q_
  subst g3
  subst g12
  subst g14
  subst g15
  subst g17
  subst g19
  subst g20
  exact q88_s (c := 2) g6 (chW_does (by omega) (by omega) (by omega)) (by omega)

theorem tN_87_4_0 : vN rQ 87 hn_87_4_0 := by
  intro R G ps hl
  obtain ⟨b, i, k, n, rfl⟩ := hl4 hl
  refine hv2 (fun V hag0 g0 => ?_)
  replace g0 : R 58 ((8295 : Int) + (1 * b + (40 * i + 0))) = V := g0
  replace hag0 : (0 : Int) ≤ ((8295 : Int) + (1 * b + (40 * i + 0))) := hag0
  replace g0 : dV (R 58) b (i) = V := hF (R := R 58) g0 (ad_8 b i)
  show hV _ _ _ _ _ [b, i, k, n, V]
  refine hv13 (fun g1 => ?_)
  replace g1 : ((0 : Int) + (1 * k + 0)) = ((0 : Int) + (1 * V + 0)) := g1
  refine hvC ?_
  refine rqi_87_4 (?_ : q87 b i k n (R 58) (R 67))
  subst g0
  intro l_ l0 l1
  omega

theorem tN_87_4_1 : vN rQ 87 hn_87_4_1 := by
  intro R G ps hl
  obtain ⟨b, i, k, n, rfl⟩ := hl4 hl
  refine hv4 (hm4 (fun b2 i2 k2 n2 g0 => ?_))
  replace g0 : q87 b2 i2 k2 n2 (R 58) (R 67) := rqo_87_4 g0
  refine hmb rfl ?_
  show hmt _ _ _ [b, i, k, n, b2]
  refine hmb rfl ?_
  show hmt _ _ _ [b, i, k, n, b2, i2]
  refine hmb rfl ?_
  show hmt _ _ _ [b, i, k, n, b2, i2, k2]
  refine hmb rfl ?_
  show hmt _ _ _ [b, i, k, n, b2, i2, k2, n2]
  refine hmn ?_
  show hV _ _ _ _ _ [b, i, k, n, b2, i2, k2, n2]
  refine hv13 (fun g1 => ?_)
  replace g1 : ((0 : Int) + (1 * b2 + 0)) = ((0 : Int) + (1 * b + 0)) := g1
  refine hv13 (fun g2 => ?_)
  replace g2 : ((0 : Int) + (1 * i2 + 0)) = ((0 : Int) + (1 * i + 0)) := g2
  refine hv13 (fun g3 => ?_)
  replace g3 : ((0 : Int) + (1 * k2 + 0)) = ((-1 : Int) + (1 * k + 0)) := g3
  refine hv0 (fun g4 => ?_)
  replace g4 : (0 : Int) ≤ ((0 : Int) + (1 * n + ((-1) * n2 + 0))) := g4
  refine hv2 (fun kk hag5 g5 => ?_)
  replace g5 : R 58 ((22690 : Int) + (1 * b + (2 * k + 0))) = kk := g5
  replace hag5 : (0 : Int) ≤ ((22690 : Int) + (1 * b + (2 * k + 0))) := hag5
  replace g5 : iK (R 58) b (k - 1) = kk := hF (R := R 58) g5 (ad_18 b k)
  show hV _ _ _ _ _ [b, i, k, n, b2, i2, k2, n2, kk]
  refine hv0 (fun g6 => ?_)
  replace g6 : (0 : Int) ≤ ((-1 : Int) + (1 * kk + 0)) := g6
  refine hvC ?_
  refine rqi_87_4 (?_ : q87 b i k n (R 58) (R 67))
  have q_ : b = b2 := by omega
  subst q_
  have q_ : i = i2 := by omega
  subst q_
  have q_ : k2 = k - 1 := by omega
  subst q_
  subst g5
  exact q87_s g0 (by omega) (fun hc => by have := hc.1; omega)

theorem tN_87_4_2 : vN rQ 87 hn_87_4_2 := by
  intro R G ps hl
  obtain ⟨b, i, k, n, rfl⟩ := hl4 hl
  refine hv4 (hm4 (fun b2 i2 k2 n2 g0 => ?_))
  replace g0 : q87 b2 i2 k2 n2 (R 58) (R 67) := rqo_87_4 g0
  refine hmb rfl ?_
  show hmt _ _ _ [b, i, k, n, b2]
  refine hmb rfl ?_
  show hmt _ _ _ [b, i, k, n, b2, i2]
  refine hmb rfl ?_
  show hmt _ _ _ [b, i, k, n, b2, i2, k2]
  refine hmb rfl ?_
  show hmt _ _ _ [b, i, k, n, b2, i2, k2, n2]
  refine hmn ?_
  show hV _ _ _ _ _ [b, i, k, n, b2, i2, k2, n2]
  refine hv13 (fun g1 => ?_)
  replace g1 : ((0 : Int) + (1 * b2 + 0)) = ((0 : Int) + (1 * b + 0)) := g1
  refine hv13 (fun g2 => ?_)
  replace g2 : ((0 : Int) + (1 * i2 + 0)) = ((0 : Int) + (1 * i + 0)) := g2
  refine hv13 (fun g3 => ?_)
  replace g3 : ((0 : Int) + (1 * k2 + 0)) = ((-1 : Int) + (1 * k + 0)) := g3
  refine hv0 (fun g4 => ?_)
  replace g4 : (0 : Int) ≤ ((0 : Int) + (1 * n + ((-1) * n2 + 0))) := g4
  refine hv2 (fun kk hag5 g5 => ?_)
  replace g5 : R 58 ((22690 : Int) + (1 * b + (2 * k + 0))) = kk := g5
  replace hag5 : (0 : Int) ≤ ((22690 : Int) + (1 * b + (2 * k + 0))) := hag5
  replace g5 : iK (R 58) b (k - 1) = kk := hF (R := R 58) g5 (ad_18 b k)
  show hV _ _ _ _ _ [b, i, k, n, b2, i2, k2, n2, kk]
  refine hv2 (fun nn hag6 g6 => ?_)
  replace g6 : R 58 ((22691 : Int) + (1 * b + (2 * k + 0))) = nn := g6
  replace hag6 : (0 : Int) ≤ ((22691 : Int) + (1 * b + (2 * k + 0))) := hag6
  replace g6 : iN (R 58) b (k - 1) = nn := hF (R := R 58) g6 (ad_19 b k)
  show hV _ _ _ _ _ [b, i, k, n, b2, i2, k2, n2, kk, nn]
  refine hv2 (fun wk hag7 g7 => ?_)
  replace g7 : R 58 ((8292 : Int) + (1 * b + (40 * nn + 0))) = wk := g7
  replace hag7 : (0 : Int) ≤ ((8292 : Int) + (1 * b + (40 * nn + 0))) := hag7
  replace g7 : dK (R 58) b (nn) = wk := hF (R := R 58) g7 (ad_41 b nn)
  show hV _ _ _ _ _ [b, i, k, n, b2, i2, k2, n2, kk, nn, wk]
  refine hv1 (fun g8 => ?_)
  replace g8 : ((0 : Int) + (1 * wk + 0)) ≠ ((1 : Int) + 0) := g8
  refine hvC ?_
  refine rqi_87_4 (?_ : q87 b i k n (R 58) (R 67))
  have q_ : b = b2 := by omega
  subst q_
  have q_ : i = i2 := by omega
  subst q_
  have q_ : k2 = k - 1 := by omega
  subst q_
  subst g5
  subst g6
  subst g7
  exact q87_s g0 (by omega) (fun hc => by have := hc.2; omega)

theorem tN_87_4_3 : vN rQ 87 hn_87_4_3 := by
  intro R G ps hl
  obtain ⟨b, i, k, n, rfl⟩ := hl4 hl
  refine hv4 (hm4 (fun b2 i2 k2 n2 g0 => ?_))
  replace g0 : q87 b2 i2 k2 n2 (R 58) (R 67) := rqo_87_4 g0
  refine hmb rfl ?_
  show hmt _ _ _ [b, i, k, n, b2]
  refine hmb rfl ?_
  show hmt _ _ _ [b, i, k, n, b2, i2]
  refine hmb rfl ?_
  show hmt _ _ _ [b, i, k, n, b2, i2, k2]
  refine hmb rfl ?_
  show hmt _ _ _ [b, i, k, n, b2, i2, k2, n2]
  refine hmn ?_
  show hV _ _ _ _ _ [b, i, k, n, b2, i2, k2, n2]
  refine hv13 (fun g1 => ?_)
  replace g1 : ((0 : Int) + (1 * b2 + 0)) = ((0 : Int) + (1 * b + 0)) := g1
  refine hv13 (fun g2 => ?_)
  replace g2 : ((0 : Int) + (1 * i2 + 0)) = ((0 : Int) + (1 * i + 0)) := g2
  refine hv13 (fun g3 => ?_)
  replace g3 : ((0 : Int) + (1 * k2 + 0)) = ((-1 : Int) + (1 * k + 0)) := g3
  refine hv0 (fun g4 => ?_)
  replace g4 : (0 : Int) ≤ ((0 : Int) + (1 * n + ((-1) * n2 + 0))) := g4
  refine hv2 (fun kk hag5 g5 => ?_)
  replace g5 : R 58 ((22690 : Int) + (1 * b + (2 * k + 0))) = kk := g5
  replace hag5 : (0 : Int) ≤ ((22690 : Int) + (1 * b + (2 * k + 0))) := hag5
  replace g5 : iK (R 58) b (k - 1) = kk := hF (R := R 58) g5 (ad_18 b k)
  show hV _ _ _ _ _ [b, i, k, n, b2, i2, k2, n2, kk]
  refine hv2 (fun nn hag6 g6 => ?_)
  replace g6 : R 58 ((22691 : Int) + (1 * b + (2 * k + 0))) = nn := g6
  replace hag6 : (0 : Int) ≤ ((22691 : Int) + (1 * b + (2 * k + 0))) := hag6
  replace g6 : iN (R 58) b (k - 1) = nn := hF (R := R 58) g6 (ad_19 b k)
  show hV _ _ _ _ _ [b, i, k, n, b2, i2, k2, n2, kk, nn]
  refine hv6 (fun p t g7 => ?_)
  replace g7 : R 67 (((0 : Int) + 0) + ((1 : Nat) : Int) * p) = t := g7
  replace g7 : R 67 (p) = t := hF (R := R 67) g7 (ad_35 p)
  show hV _ _ _ _ _ [b, i, k, n, b2, i2, k2, n2, kk, nn, p, t]
  refine hv13 (fun g8 => ?_)
  replace g8 : ((0 : Int) + (1 * t + 0)) = ((0 : Int) + (1 * nn + 0)) := g8
  refine hv0 (fun g9 => ?_)
  replace g9 : (0 : Int) ≤ ((0 : Int) + (1 * p + 0)) := g9
  refine hv0 (fun g10 => ?_)
  replace g10 : (0 : Int) ≤ ((-1 : Int) + (1 * n + ((-1) * p + 0))) := g10
  refine hvC ?_
  refine rqi_87_4 (?_ : q87 b i k n (R 58) (R 67))
  have q_ : b = b2 := by omega
  subst q_
  have q_ : i = i2 := by omega
  subst q_
  have q_ : k2 = k - 1 := by omega
  subst q_
  subst g5
  subst g6
  subst g7
  exact q87_s g0 (by omega) (fun _ => ⟨p, by omega, by omega, by omega⟩)

theorem tN_86_3_0 : vN rQ 86 hn_86_3_0 := by
  intro R G ps hl
  obtain ⟨b, q0, n, rfl⟩ := hl3 hl
  refine hv13 (fun g0 => ?_)
  replace g0 : ((0 : Int) + (1 * q0 + 0)) = ((0 : Int) + 0) := g0
  refine hvC ?_
  refine rqi_86_3 (?_ : q86 b q0 n (R 58) (R 67))
  intro p_ p0 p1
  omega

theorem tN_86_3_1 : vN rQ 86 hn_86_3_1 := by
  intro R G ps hl
  obtain ⟨b, q0, n, rfl⟩ := hl3 hl
  refine hv4 (hm3 (fun b2 q2 n2 g0 => ?_))
  replace g0 : q86 b2 q2 n2 (R 58) (R 67) := rqo_86_3 g0
  refine hmb rfl ?_
  show hmt _ _ _ [b, q0, n, b2]
  refine hmb rfl ?_
  show hmt _ _ _ [b, q0, n, b2, q2]
  refine hmb rfl ?_
  show hmt _ _ _ [b, q0, n, b2, q2, n2]
  refine hmn ?_
  show hV _ _ _ _ _ [b, q0, n, b2, q2, n2]
  refine hv13 (fun g1 => ?_)
  replace g1 : ((0 : Int) + (1 * b2 + 0)) = ((0 : Int) + (1 * b + 0)) := g1
  refine hv13 (fun g2 => ?_)
  replace g2 : ((0 : Int) + (1 * q2 + 0)) = ((0 : Int) + (1 * q0 + 0)) := g2
  refine hv0 (fun g3 => ?_)
  replace g3 : (0 : Int) ≤ ((0 : Int) + (1 * n + ((-1) * n2 + 0))) := g3
  refine hvC ?_
  refine rqi_86_3 (?_ : q86 b q0 n (R 58) (R 67))
  have q_ : b = b2 := by omega
  subst q_
  have q_ : q0 = q2 := by omega
  subst q_
  exact q86_m g0 (by omega)

theorem tN_86_3_2 : vN rQ 86 hn_86_3_2 := by
  intro R G ps hl
  obtain ⟨b, q0, n, rfl⟩ := hl3 hl
  refine hv2 (fun i hag0 g0 => ?_)
  replace g0 : R 67 ((-1 : Int) + (1 * q0 + 0)) = i := g0
  replace hag0 : (0 : Int) ≤ ((-1 : Int) + (1 * q0 + 0)) := hag0
  replace g0 : R 67 (q0 - 1) = i := hF (R := R 67) g0 (ad_43 q0)
  show hV _ _ _ _ _ [b, q0, n, i]
  refine hv2 (fun V hag1 g1 => ?_)
  replace g1 : R 58 ((8295 : Int) + (1 * b + (40 * i + 0))) = V := g1
  replace hag1 : (0 : Int) ≤ ((8295 : Int) + (1 * b + (40 * i + 0))) := hag1
  replace g1 : dV (R 58) b (i) = V := hF (R := R 58) g1 (ad_8 b i)
  show hV _ _ _ _ _ [b, q0, n, i, V]
  refine hv2 (fun N hag2 g2 => ?_)
  replace g2 : R 58 ((8296 : Int) + (1 * b + (40 * i + 0))) = N := g2
  replace hag2 : (0 : Int) ≤ ((8296 : Int) + (1 * b + (40 * i + 0))) := hag2
  replace g2 : dL (R 58) b (i) = N := hF (R := R 58) g2 (ad_9 b i)
  show hV _ _ _ _ _ [b, q0, n, i, V, N]
  refine hv4 (hm3 (fun b2 q2 n2 g3 => ?_))
  replace g3 : q86 b2 q2 n2 (R 58) (R 67) := rqo_86_3 g3
  refine hmb rfl ?_
  show hmt _ _ _ [b, q0, n, i, V, N, b2]
  refine hmb rfl ?_
  show hmt _ _ _ [b, q0, n, i, V, N, b2, q2]
  refine hmb rfl ?_
  show hmt _ _ _ [b, q0, n, i, V, N, b2, q2, n2]
  refine hmn ?_
  show hV _ _ _ _ _ [b, q0, n, i, V, N, b2, q2, n2]
  refine hv13 (fun g4 => ?_)
  replace g4 : ((0 : Int) + (1 * b2 + 0)) = ((0 : Int) + (1 * b + 0)) := g4
  refine hv13 (fun g5 => ?_)
  replace g5 : ((0 : Int) + (1 * q2 + 0)) = ((-1 : Int) + (1 * q0 + 0)) := g5
  refine hv0 (fun g6 => ?_)
  replace g6 : (0 : Int) ≤ ((0 : Int) + (1 * n + ((-1) * n2 + 0))) := g6
  refine hv4 (hm4 (fun b3 i3 k3 n3 g7 => ?_))
  replace g7 : q87 b3 i3 k3 n3 (R 58) (R 67) := rqo_87_4 g7
  refine hmb rfl ?_
  show hmt _ _ _ [b, q0, n, i, V, N, b2, q2, n2, b3]
  refine hmb rfl ?_
  show hmt _ _ _ [b, q0, n, i, V, N, b2, q2, n2, b3, i3]
  refine hmb rfl ?_
  show hmt _ _ _ [b, q0, n, i, V, N, b2, q2, n2, b3, i3, k3]
  refine hmb rfl ?_
  show hmt _ _ _ [b, q0, n, i, V, N, b2, q2, n2, b3, i3, k3, n3]
  refine hmn ?_
  show hV _ _ _ _ _ [b, q0, n, i, V, N, b2, q2, n2, b3, i3, k3, n3]
  refine hv13 (fun g8 => ?_)
  replace g8 : ((0 : Int) + (1 * b3 + 0)) = ((0 : Int) + (1 * b + 0)) := g8
  refine hv13 (fun g9 => ?_)
  replace g9 : ((0 : Int) + (1 * i3 + 0)) = ((0 : Int) + (1 * i + 0)) := g9
  refine hv13 (fun g10 => ?_)
  replace g10 : ((0 : Int) + (1 * k3 + 0)) = ((0 : Int) + (1 * V + (1 * N + 0))) := g10
  refine hv0 (fun g11 => ?_)
  replace g11 : (0 : Int) ≤ ((0 : Int) + (1 * n + ((-1) * n3 + 0))) := g11
  refine hvC ?_
  refine rqi_86_3 (?_ : q86 b q0 n (R 58) (R 67))
  have q_ : b = b2 := by omega
  subst q_
  have q_ : q2 = q0 - 1 := by omega
  subst q_
  have q_ : b = b3 := by omega
  subst q_
  have q_ : i = i3 := by omega
  subst q_
  have q_ : k3 = V + N := by omega
  subst q_
  subst g0
  subst g1
  subst g2
  exact q86_s (q86_m g3 (by omega)) rfl (q87_m g7 (by omega))

