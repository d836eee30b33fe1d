/-! RULES: theorems (printed by tools/t63.py) -/
theorem tL_40_3_3 : vL rQ 40 hl_40_3_3 := by
  intro R G ps idx hl hq
  obtain ⟨t, c, u, rfl⟩ := hl3 hl
  replace hq : q40 t c u  := rqo_40_3 hq
  refine hv0 (fun g0 => ?_)
  replace g0 : (0 : Int) ≤ ((-116 : Int) + (1 * t + 0)) := g0
  refine hv0 (fun g1 => ?_)
  replace g1 : (0 : Int) ≤ ((118 : Int) + ((-1) * t + 0)) := g1
  refine hvC ?_
  show (0 : Int) ≤ ((-1 : Int) + (1 * c + 0)) ∧ (0 : Int) ≤ ((-1 : Int) + (1 * u + 0)) ∧ True
  have t := hq (by unfold only; omega)
  exact ⟨by omega, by omega, trivial⟩

theorem tL_40_3_4 : vL rQ 40 hl_40_3_4 := by
  intro R G ps idx hl hq
  obtain ⟨t, c, u, rfl⟩ := hl3 hl
  replace hq : q40 t c u  := rqo_40_3 hq
  refine hv0 (fun g0 => ?_)
  replace g0 : (0 : Int) ≤ ((-121 : Int) + (1 * t + 0)) := g0
  refine hv0 (fun g1 => ?_)
  replace g1 : (0 : Int) ≤ ((121 : Int) + ((-1) * t + 0)) := g1
  refine hvC ?_
  show (0 : Int) ≤ ((-1 : Int) + (1 * c + 0)) ∧ (0 : Int) ≤ ((-1 : Int) + (1 * u + 0)) ∧ True
  have t := hq (by unfold only; omega)
  exact ⟨by omega, by omega, trivial⟩

theorem tL_40_3_5 : vL rQ 40 hl_40_3_5 := by
  intro R G ps idx hl hq
  obtain ⟨t, c, u, rfl⟩ := hl3 hl
  replace hq : q40 t c u  := rqo_40_3 hq
  refine hv0 (fun g0 => ?_)
  replace g0 : (0 : Int) ≤ ((-127 : Int) + (1 * t + 0)) := g0
  refine hv0 (fun g1 => ?_)
  replace g1 : (0 : Int) ≤ ((127 : Int) + ((-1) * t + 0)) := g1
  refine hvC ?_
  show (0 : Int) ≤ ((-1 : Int) + (1 * c + 0)) ∧ (0 : Int) ≤ ((-1 : Int) + (1 * u + 0)) ∧ True
  have t := hq (by unfold only; omega)
  exact ⟨by omega, by omega, trivial⟩

theorem tL_40_3_6 : vL rQ 40 hl_40_3_6 := by
  intro R G ps idx hl hq
  obtain ⟨t, c, u, rfl⟩ := hl3 hl
  replace hq : q40 t c u  := rqo_40_3 hq
  refine hv0 (fun g0 => ?_)
  replace g0 : (0 : Int) ≤ ((-130 : Int) + (1 * t + 0)) := g0
  refine hv0 (fun g1 => ?_)
  replace g1 : (0 : Int) ≤ ((146 : Int) + ((-1) * t + 0)) := g1
  refine hvC ?_
  show (0 : Int) ≤ ((-1 : Int) + (1 * c + 0)) ∧ (0 : Int) ≤ ((-1 : Int) + (1 * u + 0)) ∧ True
  have t := hq (by unfold only; omega)
  exact ⟨by omega, by omega, trivial⟩

theorem tL_41_3_0 : vL rQ 41 hl_41_3_0 := by
  intro R G ps idx hl hq
  obtain ⟨k, n, b, rfl⟩ := hl3 hl
  replace hq : q41 k n b (R 58) := rqo_41_3 hq
  refine hv0 (fun g0 => ?_)
  replace g0 : (0 : Int) ≤ ((-11 : Int) + (1 * k + 0)) := g0
  refine hv0 (fun g1 => ?_)
  replace g1 : (0 : Int) ≤ ((13 : Int) + ((-1) * k + 0)) := g1
  refine hvC ?_
  show (0 : Int) ≤ ((0 : Int) + (1 * n + 0)) ∧ True
  have t := hq.2 (by omega) (by omega)
  exact ⟨by omega, trivial⟩

theorem tL_41_3_1 : vL rQ 41 hl_41_3_1 := by
  intro R G ps idx hl hq
  obtain ⟨k, n, b, rfl⟩ := hl3 hl
  replace hq : q41 k n b (R 58) := rqo_41_3 hq
  refine hv13 (fun g0 => ?_)
  replace g0 : ((0 : Int) + (1 * idx + 0)) = ((8292 : Int) + (40 * n + (1 * b + 0))) := g0
  refine hv13 (fun g1 => ?_)
  replace g1 : ((0 : Int) + (1 * k + 0)) = ((14 : Int) + 0) := g1
  refine hv2 (fun many hag2 g2 => ?_)
  replace g2 : R 58 ((4 : Int) + (1 * b + 0)) = many := g2
  replace hag2 : (0 : Int) ≤ ((4 : Int) + (1 * b + 0)) := hag2
  replace g2 : R 58 (b + 4) = many := hF (R := R 58) g2 (ad_4 b)
  show hV _ _ _ _ _ [k, n, b, idx, many]
  refine hv0 (fun g3 => ?_)
  replace g3 : (0 : Int) ≤ ((0 : Int) + (1 * n + 0)) := g3
  refine hv0 (fun g4 => ?_)
  replace g4 : (0 : Int) ≤ ((359 : Int) + ((-1) * n + 0)) := g4
  refine hv0 (fun g5 => ?_)
  replace g5 : (0 : Int) ≤ ((-1 : Int) + ((-1) * n + (1 * many + 0))) := g5
  refine hv2 (fun w hag6 g6 => ?_)
  replace g6 : R 58 ((0 : Int) + (1 * idx + 0)) = w := g6
  replace hag6 : (0 : Int) ≤ ((0 : Int) + (1 * idx + 0)) := hag6
  replace g6 : R 58 (idx) = w := hF (R := R 58) g6 (ad_99 idx)
  show hV _ _ _ _ _ [k, n, b, idx, many, w]
  refine hvC ?_
  show (0 : Int) ≤ ((-4 : Int) + (1 * w + 0)) ∧ (0 : Int) ≤ ((5 : Int) + ((-1) * w + 0)) ∧ True
  have e : dK (R 58) b n = w := hF (R := R 58) g6 (by omega)
  have t := hq.1 (by omega)
  exact ⟨by omega, by omega, trivial⟩

theorem tL_50_1_0 : vL rQ 50 hl_50_1_0 := by
  intro R G ps idx hl hq
  obtain ⟨c, rfl⟩ := hl1 hl
  replace hq : q50 c (R 64) := rqo_50_1 hq
  refine hv6 (fun i f g0 => ?_)
  replace g0 : R 64 (((0 : Int) + 0) + ((1 : Nat) : Int) * i) = f := g0
  replace g0 : R 64 (i) = f := hF (R := R 64) g0 (ad_141 i)
  show hV _ _ _ _ _ [c, i, f]
  refine hv1 (fun g1 => ?_)
  replace g1 : ((0 : Int) + (1 * f + 0)) ≠ ((2 : Int) + 0) := g1
  refine hv0 (fun g2 => ?_)
  replace g2 : (0 : Int) ≤ ((0 : Int) + (1 * i + 0)) := g2
  refine hv0 (fun g3 => ?_)
  replace g3 : (0 : Int) ≤ ((3999 : Int) + ((-1) * i + 0)) := g3
  refine hvC ?_
  show (0 : Int) ≤ ((-1 : Int) + (1 * c + 0)) ∧ True
  subst g0
  have t_ := cnt2_pos (S := R 64) (a := i) (by omega) (by omega) 4000 (by omega)
  unfold q50 at hq
  exact ⟨by omega, trivial⟩

theorem tL_61_2_0 : vL rQ 61 hl_61_2_0 := by
  intro R G ps idx hl hq
  obtain ⟨b, k, rfl⟩ := hl2 hl
  replace hq : q61 b k (R 58) := rqo_61_2 hq
  refine hv8 (fun q r g0 g0a g0b => ?_)
  replace g0 : ((0 : Int) + (1 * idx + 0)) = ((39700 : Nat) : Int) * q + r := g0
  replace g0b : r < ((39700 : Nat) : Int) := g0b
  show hV _ _ _ _ _ [b, k, idx, q, r]
  refine hv13 (fun g1 => ?_)
  replace g1 : ((0 : Int) + (39700 * q + 0)) = ((0 : Int) + (1 * b + 0)) := g1
  refine hv0 (fun g2 => ?_)
  replace g2 : (0 : Int) ≤ ((-1 : Int) + (1 * k + ((-1) * r + 0))) := g2
  refine hv2 (fun w hag3 g3 => ?_)
  replace g3 : R 58 ((0 : Int) + (1 * idx + 0)) = w := g3
  replace hag3 : (0 : Int) ≤ ((0 : Int) + (1 * idx + 0)) := hag3
  replace g3 : R 58 (idx) = w := hF (R := R 58) g3 (ad_99 idx)
  show hV _ _ _ _ _ [b, k, idx, q, r, w]
  refine hvC ?_
  show (0 : Int) ≤ ((0 : Int) + (1 * w + 0)) ∧ (0 : Int) ≤ ((0 : Int) + ((-1) * w + 0)) ∧ True
  have t := hq r (by omega) (by omega)
  rw [show b + r = idx by omega] at t
  exact ⟨by omega, by omega, trivial⟩

theorem tL_75_2_0 : vL rQ 75 hl_75_2_0 := by
  intro R G ps idx hl hq
  obtain ⟨b, i, rfl⟩ := hl2 hl
  replace hq : q75 b i (R 58) := rqo_75_2 hq
  refine hv13 (fun g0 => ?_)
  replace g0 : ((0 : Int) + (1 * idx + 0)) = ((8295 : Int) + (1 * b + (40 * i + 0))) := g0
  refine hv2 (fun N hag1 g1 => ?_)
  replace g1 : R 58 ((8296 : Int) + (1 * b + (40 * i + 0))) = N := g1
  replace hag1 : (0 : Int) ≤ ((8296 : Int) + (1 * b + (40 * i + 0))) := hag1
  replace g1 : dL (R 58) b (i) = N := hF (R := R 58) g1 (ad_9 b i)
  show hV _ _ _ _ _ [b, i, idx, N]
  refine hvC ?_
  show (0 : Int) ≤ ((-1 : Int) + (1 * N + 0)) ∧ True
  subst g1
  have h75 := hq
  obtain ⟨y1, y2, y3, y4, y5⟩ := q75_end h75
  have y6 := y1.1
  exact ⟨by omega, trivial⟩

theorem tL_75_2_1 : vL rQ 75 hl_75_2_1 := by
  intro R G ps idx hl hq
  obtain ⟨b, i, rfl⟩ := hl2 hl
  replace hq : q75 b i (R 58) := rqo_75_2 hq
  refine hv13 (fun g0 => ?_)
  replace g0 : ((0 : Int) + (1 * idx + 0)) = ((8295 : Int) + (1 * b + (40 * i + 0))) := g0
  refine hv2 (fun V hag1 g1 => ?_)
  replace g1 : R 58 ((8295 : Int) + (1 * b + (40 * i + 0))) = V := g1
  replace hag1 : (0 : Int) ≤ ((8295 : Int) + (1 * b + (40 * i + 0))) := hag1
  replace g1 : dV (R 58) b (i) = V := hF (R := R 58) g1 (ad_8 b i)
  show hV _ _ _ _ _ [b, i, idx, V]
  refine hv2 (fun N hag2 g2 => ?_)
  replace g2 : R 58 ((8296 : Int) + (1 * b + (40 * i + 0))) = N := g2
  replace hag2 : (0 : Int) ≤ ((8296 : Int) + (1 * b + (40 * i + 0))) := hag2
  replace g2 : dL (R 58) b (i) = N := hF (R := R 58) g2 (ad_9 b i)
  show hV _ _ _ _ _ [b, i, idx, V, N]
  refine hvC ?_
  show (0 : Int) ≤ ((4000 : Int) + ((-1) * V + ((-1) * N + 0))) ∧ True
  subst g1
  subst g2
  have h75 := hq
  obtain ⟨y1, y2, y3, y4, y5⟩ := q75_end h75
  have y6 := y1.1
  exact ⟨by omega, trivial⟩

theorem tL_75_2_2 : vL rQ 75 hl_75_2_2 := by
  intro R G ps idx hl hq
  obtain ⟨b, i, rfl⟩ := hl2 hl
  replace hq : q75 b i (R 58) := rqo_75_2 hq
  refine hv6 (fun k kk g0 => ?_)
  replace g0 : R 58 (((22692 : Int) + (1 * b + 0)) + ((2 : Nat) : Int) * k) = kk := g0
  replace g0 : iK (R 58) b (k) = kk := hF (R := R 58) g0 (ad_32 b k)
  show hV _ _ _ _ _ [b, i, k, kk]
  refine hv2 (fun V hag1 g1 => ?_)
  replace g1 : R 58 ((8295 : Int) + (1 * b + (40 * i + 0))) = V := g1
  replace hag1 : (0 : Int) ≤ ((8295 : Int) + (1 * b + (40 * i + 0))) := hag1
  replace g1 : dV (R 58) b (i) = V := hF (R := R 58) g1 (ad_8 b i)
  show hV _ _ _ _ _ [b, i, k, kk, V]
  refine hv2 (fun N hag2 g2 => ?_)
  replace g2 : R 58 ((8296 : Int) + (1 * b + (40 * i + 0))) = N := g2
  replace hag2 : (0 : Int) ≤ ((8296 : Int) + (1 * b + (40 * i + 0))) := hag2
  replace g2 : dL (R 58) b (i) = N := hF (R := R 58) g2 (ad_9 b i)
  show hV _ _ _ _ _ [b, i, k, kk, V, N]
  refine hv0 (fun g3 => ?_)
  replace g3 : (0 : Int) ≤ ((0 : Int) + (1 * k + ((-1) * V + 0))) := g3
  refine hv0 (fun g4 => ?_)
  replace g4 : (0 : Int) ≤ ((-1 : Int) + ((-1) * k + (1 * V + (1 * N + 0)))) := g4
  refine hv5 (fun g5 => ?_)
  replace g5 : ild ((0 : Int) + (1 * kk + 0)) := rqo_93_1 g5
  simp only [Int.zero_add, Int.one_mul, Int.add_zero] at g5
  refine hv2 (fun n0 hag6 g6 => ?_)
  replace g6 : R 58 ((22693 : Int) + (1 * b + (2 * k + 0))) = n0 := g6
  replace hag6 : (0 : Int) ≤ ((22693 : Int) + (1 * b + (2 * k + 0))) := hag6
  replace g6 : iN (R 58) b (k) = n0 := hF (R := R 58) g6 (ad_33 b k)
  show hV _ _ _ _ _ [b, i, k, kk, V, N, n0]
  refine hvC ?_
  show (0 : Int) ≤ ((0 : Int) + ((-1) * V + (1 * n0 + 0))) ∧ (0 : Int) ≤ ((-1 : Int) + (1 * V + (1 * N + ((-1) * n0 + 0)))) ∧ True
  subst g0
  subst g1
  subst g2
  subst g6
  have h75 := hq
  obtain ⟨y1, y2, y3⟩ := q75_it h75 (k := k) (by omega) (by omega)
  have y4 := y2 (by exact g5)
  exact ⟨by omega, by omega, trivial⟩

theorem tL_75_2_3 : vL rQ 75 hl_75_2_3 := by
  intro R G ps idx hl hq
  obtain ⟨b, i, rfl⟩ := hl2 hl
  replace hq : q75 b i (R 58) := rqo_75_2 hq
  refine hv6 (fun k kk g0 => ?_)
  replace g0 : R 58 (((22692 : Int) + (1 * b + 0)) + ((2 : Nat) : Int) * k) = kk := g0
  replace g0 : iK (R 58) b (k) = kk := hF (R := R 58) g0 (ad_32 b k)
  show hV _ _ _ _ _ [b, i, k, kk]
  refine hv2 (fun V hag1 g1 => ?_)
  replace g1 : R 58 ((8295 : Int) + (1 * b + (40 * i + 0))) = V := g1
  replace hag1 : (0 : Int) ≤ ((8295 : Int) + (1 * b + (40 * i + 0))) := hag1
  replace g1 : dV (R 58) b (i) = V := hF (R := R 58) g1 (ad_8 b i)
  show hV _ _ _ _ _ [b, i, k, kk, V]
  refine hv2 (fun N hag2 g2 => ?_)
  replace g2 : R 58 ((8296 : Int) + (1 * b + (40 * i + 0))) = N := g2
  replace hag2 : (0 : Int) ≤ ((8296 : Int) + (1 * b + (40 * i + 0))) := hag2
  replace g2 : dL (R 58) b (i) = N := hF (R := R 58) g2 (ad_9 b i)
  show hV _ _ _ _ _ [b, i, k, kk, V, N]
  refine hv0 (fun g3 => ?_)
  replace g3 : (0 : Int) ≤ ((0 : Int) + (1 * k + ((-1) * V + 0))) := g3
  refine hv0 (fun g4 => ?_)
  replace g4 : (0 : Int) ≤ ((-1 : Int) + ((-1) * k + (1 * V + (1 * N + 0)))) := g4
  refine hv13 (fun g5 => ?_)
  replace g5 : ((0 : Int) + (1 * kk + 0)) = ((0 : Int) + 0) := g5
  refine hv2 (fun n0 hag6 g6 => ?_)
  replace g6 : R 58 ((22693 : Int) + (1 * b + (2 * k + 0))) = n0 := g6
  replace hag6 : (0 : Int) ≤ ((22693 : Int) + (1 * b + (2 * k + 0))) := hag6
  replace g6 : iN (R 58) b (k) = n0 := hF (R := R 58) g6 (ad_33 b k)
  show hV _ _ _ _ _ [b, i, k, kk, V, N, n0]
  refine hvC ?_
  show (0 : Int) ≤ ((0 : Int) + (1 * n0 + 0)) ∧ (0 : Int) ≤ ((359 : Int) + ((-1) * n0 + 0)) ∧ True
  subst g0
  subst g1
  subst g2
  subst g6
  have h75 := hq
  obtain ⟨y1, y2, y3⟩ := q75_it h75 (k := k) (by omega) (by omega)
  have y4 := y1 (by omega)
  exact ⟨by omega, by omega, trivial⟩

theorem tL_75_2_4 : vL rQ 75 hl_75_2_4 := by
  intro R G ps idx hl hq
  obtain ⟨b, i, rfl⟩ := hl2 hl
  replace hq : q75 b i (R 58) := rqo_75_2 hq
  refine hv6 (fun k kk g0 => ?_)
  replace g0 : R 58 (((22692 : Int) + (1 * b + 0)) + ((2 : Nat) : Int) * k) = kk := g0
  replace g0 : iK (R 58) b (k) = kk := hF (R := R 58) g0 (ad_32 b k)
  show hV _ _ _ _ _ [b, i, k, kk]
  refine hv2 (fun V hag1 g1 => ?_)
  replace g1 : R 58 ((8295 : Int) + (1 * b + (40 * i + 0))) = V := g1
  replace hag1 : (0 : Int) ≤ ((8295 : Int) + (1 * b + (40 * i + 0))) := hag1
  replace g1 : dV (R 58) b (i) = V := hF (R := R 58) g1 (ad_8 b i)
  show hV _ _ _ _ _ [b, i, k, kk, V]
  refine hv2 (fun N hag2 g2 => ?_)
  replace g2 : R 58 ((8296 : Int) + (1 * b + (40 * i + 0))) = N := g2
  replace hag2 : (0 : Int) ≤ ((8296 : Int) + (1 * b + (40 * i + 0))) := hag2
  replace g2 : dL (R 58) b (i) = N := hF (R := R 58) g2 (ad_9 b i)
  show hV _ _ _ _ _ [b, i, k, kk, V, N]
  refine hv0 (fun g3 => ?_)
  replace g3 : (0 : Int) ≤ ((0 : Int) + (1 * k + ((-1) * V + 0))) := g3
  refine hv0 (fun g4 => ?_)
  replace g4 : (0 : Int) ≤ ((-1 : Int) + ((-1) * k + (1 * V + (1 * N + 0)))) := g4
  refine hv0 (fun g5 => ?_)
  replace g5 : (0 : Int) ≤ ((-11 : Int) + (1 * kk + 0)) := g5
  refine hv0 (fun g6 => ?_)
  replace g6 : (0 : Int) ≤ ((13 : Int) + ((-1) * kk + 0)) := g6
  refine hv2 (fun n0 hag7 g7 => ?_)
  replace g7 : R 58 ((22693 : Int) + (1 * b + (2 * k + 0))) = n0 := g7
  replace hag7 : (0 : Int) ≤ ((22693 : Int) + (1 * b + (2 * k + 0))) := hag7
  replace g7 : iN (R 58) b (k) = n0 := hF (R := R 58) g7 (ad_33 b k)
  show hV _ _ _ _ _ [b, i, k, kk, V, N, n0]
  refine hvC ?_
  show (0 : Int) ≤ ((0 : Int) + (1 * n0 + 0)) ∧ (0 : Int) ≤ ((1048576 : Int) + ((-1) * n0 + 0)) ∧ True
  subst g0
  subst g1
  subst g2
  subst g7
  have h75 := hq
  obtain ⟨y1, y2, y3⟩ := q75_it h75 (k := k) (by omega) (by omega)
  have y4 := y3 (by omega)
  exact ⟨by omega, by omega, trivial⟩

theorem tL_75_2_5 : vL rQ 75 hl_75_2_5 := by
  intro R G ps idx hl hq
  obtain ⟨b, i, rfl⟩ := hl2 hl
  replace hq : q75 b i (R 58) := rqo_75_2 hq
  refine hv6 (fun k kk g0 => ?_)
  replace g0 : R 58 (((22692 : Int) + (1 * b + 0)) + ((2 : Nat) : Int) * k) = kk := g0
  replace g0 : iK (R 58) b (k) = kk := hF (R := R 58) g0 (ad_32 b k)
  show hV _ _ _ _ _ [b, i, k, kk]
  refine hv2 (fun V hag1 g1 => ?_)
  replace g1 : R 58 ((8295 : Int) + (1 * b + (40 * i + 0))) = V := g1
  replace hag1 : (0 : Int) ≤ ((8295 : Int) + (1 * b + (40 * i + 0))) := hag1
  replace g1 : dV (R 58) b (i) = V := hF (R := R 58) g1 (ad_8 b i)
  show hV _ _ _ _ _ [b, i, k, kk, V]
  refine hv2 (fun N hag2 g2 => ?_)
  replace g2 : R 58 ((8296 : Int) + (1 * b + (40 * i + 0))) = N := g2
  replace hag2 : (0 : Int) ≤ ((8296 : Int) + (1 * b + (40 * i + 0))) := hag2
  replace g2 : dL (R 58) b (i) = N := hF (R := R 58) g2 (ad_9 b i)
  show hV _ _ _ _ _ [b, i, k, kk, V, N]
  refine hv0 (fun g3 => ?_)
  replace g3 : (0 : Int) ≤ ((0 : Int) + (1 * k + ((-1) * V + 0))) := g3
  refine hv0 (fun g4 => ?_)
  replace g4 : (0 : Int) ≤ ((-1 : Int) + ((-1) * k + (1 * V + (1 * N + 0)))) := g4
  refine hv13 (fun g5 => ?_)
  replace g5 : ((0 : Int) + (1 * kk + 0)) = ((4 : Int) + 0) := g5
  refine hv2 (fun n0 hag6 g6 => ?_)
  replace g6 : R 58 ((22693 : Int) + (1 * b + (2 * k + 0))) = n0 := g6
  replace hag6 : (0 : Int) ≤ ((22693 : Int) + (1 * b + (2 * k + 0))) := hag6
  replace g6 : iN (R 58) b (k) = n0 := hF (R := R 58) g6 (ad_33 b k)
  show hV _ _ _ _ _ [b, i, k, kk, V, N, n0]
  refine hvC ?_
  show (0 : Int) ≤ ((0 : Int) + (1 * n0 + 0)) ∧ (0 : Int) ≤ ((1048576 : Int) + ((-1) * n0 + 0)) ∧ True
  subst g0
  subst g1
  subst g2
  subst g6
  have h75 := hq
  obtain ⟨y1, y2, y3⟩ := q75_it h75 (k := k) (by omega) (by omega)
  have y4 := y3 (by omega)
  exact ⟨by omega, by omega, trivial⟩

theorem tL_84_2_0 : vL rQ 84 hl_84_2_0 := by
  intro R G ps idx hl hq
  obtain ⟨b, n, rfl⟩ := hl2 hl
  replace hq : q84 b n (R 58) (R 67) := rqo_84_2 hq
  refine hv8 (fun q r g0 g0a g0b => ?_)
  replace g0 : ((0 : Int) + (1 * idx + 0)) = ((39700 : Nat) : Int) * q + r := g0
  replace g0b : r < ((39700 : Nat) : Int) := g0b
  show hV _ _ _ _ _ [b, n, idx, q, r]
  refine hv13 (fun g1 => ?_)
  replace g1 : ((0 : Int) + (39700 * q + 0)) = ((0 : Int) + (1 * b + 0)) := g1
  refine hv7 (fun i g2 => ?_)
  replace g2 : ((40 : Nat) : Int) * i = ((-8295 : Int) + (1 * r + 0)) := g2
  show hV _ _ _ _ _ [b, n, idx, q, r, i]
  refine hv6 (fun pp tt g3 => ?_)
  replace g3 : R 67 (((0 : Int) + 0) + ((1 : Nat) : Int) * pp) = tt := g3
  replace g3 : R 67 (pp) = tt := hF (R := R 67) g3 (ad_142 pp)
  show hV _ _ _ _ _ [b, n, idx, q, r, i, pp, tt]
  refine hv13 (fun g4 => ?_)
  replace g4 : ((0 : Int) + (1 * tt + 0)) = ((0 : Int) + (1 * i + 0)) := g4
  refine hv0 (fun g5 => ?_)
  replace g5 : (0 : Int) ≤ ((0 : Int) + (1 * pp + 0)) := g5
  refine hv0 (fun g6 => ?_)
  replace g6 : (0 : Int) ≤ ((-1 : Int) + (1 * n + ((-1) * pp + 0))) := g6
  refine hv2 (fun f13 hag7 g7 => ?_)
  replace g7 : R 58 ((8305 : Int) + (1 * b + (40 * i + 0))) = f13 := g7
  replace hag7 : (0 : Int) ≤ ((8305 : Int) + (1 * b + (40 * i + 0))) := hag7
  replace g7 : dI (R 58) b (i) = f13 := hF (R := R 58) g7 (ad_28 b i)
  show hV _ _ _ _ _ [b, n, idx, q, r, i, pp, tt, f13]
  refine hv13 (fun g8 => ?_)
  replace g8 : ((0 : Int) + (1 * f13 + 0)) = ((0 : Int) + 0) := g8
  refine hv2 (fun f14 hag9 g9 => ?_)
  replace g9 : R 58 ((8306 : Int) + (1 * b + (40 * i + 0))) = f14 := g9
  replace hag9 : (0 : Int) ≤ ((8306 : Int) + (1 * b + (40 * i + 0))) := hag9
  replace g9 : dJ (R 58) b (i) = f14 := hF (R := R 58) g9 (ad_29 b i)
  show hV _ _ _ _ _ [b, n, idx, q, r, i, pp, tt, f13, f14]
  refine hv13 (fun g10 => ?_)
  replace g10 : ((0 : Int) + (1 * f14 + 0)) = ((0 : Int) + 0) := g10
  refine hv2 (fun V hag11 g11 => ?_)
  replace g11 : R 58 ((8295 : Int) + (1 * b + (40 * i + 0))) = V := g11
  replace hag11 : (0 : Int) ≤ ((8295 : Int) + (1 * b + (40 * i + 0))) := hag11
  replace g11 : dV (R 58) b (i) = V := hF (R := R 58) g11 (ad_8 b i)
  show hV _ _ _ _ _ [b, n, idx, q, r, i, pp, tt, f13, f14, V]
  refine hvC ?_
  show (0 : Int) ≤ ((0 : Int) + (1 * V + 0)) ∧ (0 : Int) ≤ ((3999 : Int) + ((-1) * V + 0)) ∧ True
  subst g3
  subst g7
  subst g9
  subst g11
  have h85 := hq pp (by omega) (by omega)
  rw [show R 67 pp = i by omega] at h85
  have h75 : q75 b i (R 58) := ⟨h85, by omega, by omega⟩
  obtain ⟨y1, y2, y3, y4, y5⟩ := q75_end h75
  have y6 := y1.1
  exact ⟨by omega, by omega, trivial⟩

theorem tL_84_2_1 : vL rQ 84 hl_84_2_1 := by
  intro R G ps idx hl hq
  obtain ⟨b, n, rfl⟩ := hl2 hl
  replace hq : q84 b n (R 58) (R 67) := rqo_84_2 hq
  refine hv8 (fun q r g0 g0a g0b => ?_)
  replace g0 : ((0 : Int) + (1 * idx + 0)) = ((39700 : Nat) : Int) * q + r := g0
  replace g0b : r < ((39700 : Nat) : Int) := g0b
  show hV _ _ _ _ _ [b, n, idx, q, r]
  refine hv13 (fun g1 => ?_)
  replace g1 : ((0 : Int) + (39700 * q + 0)) = ((0 : Int) + (1 * b + 0)) := g1
  refine hv7 (fun i g2 => ?_)
  replace g2 : ((40 : Nat) : Int) * i = ((-8296 : Int) + (1 * r + 0)) := g2
  show hV _ _ _ _ _ [b, n, idx, q, r, i]
  refine hv6 (fun pp tt g3 => ?_)
  replace g3 : R 67 (((0 : Int) + 0) + ((1 : Nat) : Int) * pp) = tt := g3
  replace g3 : R 67 (pp) = tt := hF (R := R 67) g3 (ad_142 pp)
  show hV _ _ _ _ _ [b, n, idx, q, r, i, pp, tt]
  refine hv13 (fun g4 => ?_)
  replace g4 : ((0 : Int) + (1 * tt + 0)) = ((0 : Int) + (1 * i + 0)) := g4
  refine hv0 (fun g5 => ?_)
  replace g5 : (0 : Int) ≤ ((0 : Int) + (1 * pp + 0)) := g5
  refine hv0 (fun g6 => ?_)
  replace g6 : (0 : Int) ≤ ((-1 : Int) + (1 * n + ((-1) * pp + 0))) := g6
  refine hv2 (fun f13 hag7 g7 => ?_)
  replace g7 : R 58 ((8305 : Int) + (1 * b + (40 * i + 0))) = f13 := g7
  replace hag7 : (0 : Int) ≤ ((8305 : Int) + (1 * b + (40 * i + 0))) := hag7
  replace g7 : dI (R 58) b (i) = f13 := hF (R := R 58) g7 (ad_28 b i)
  show hV _ _ _ _ _ [b, n, idx, q, r, i, pp, tt, f13]
  refine hv13 (fun g8 => ?_)
  replace g8 : ((0 : Int) + (1 * f13 + 0)) = ((0 : Int) + 0) := g8
  refine hv2 (fun f14 hag9 g9 => ?_)
  replace g9 : R 58 ((8306 : Int) + (1 * b + (40 * i + 0))) = f14 := g9
  replace hag9 : (0 : Int) ≤ ((8306 : Int) + (1 * b + (40 * i + 0))) := hag9
  replace g9 : dJ (R 58) b (i) = f14 := hF (R := R 58) g9 (ad_29 b i)
  show hV _ _ _ _ _ [b, n, idx, q, r, i, pp, tt, f13, f14]
  refine hv13 (fun g10 => ?_)
  replace g10 : ((0 : Int) + (1 * f14 + 0)) = ((0 : Int) + 0) := g10
  refine hv2 (fun N hag11 g11 => ?_)
  replace g11 : R 58 ((8296 : Int) + (1 * b + (40 * i + 0))) = N := g11
  replace hag11 : (0 : Int) ≤ ((8296 : Int) + (1 * b + (40 * i + 0))) := hag11
  replace g11 : dL (R 58) b (i) = N := hF (R := R 58) g11 (ad_9 b i)
  show hV _ _ _ _ _ [b, n, idx, q, r, i, pp, tt, f13, f14, N]
  refine hvC ?_
  show (0 : Int) ≤ ((-1 : Int) + (1 * N + 0)) ∧ True
  subst g3
  subst g7
  subst g9
  subst g11
  have h85 := hq pp (by omega) (by omega)
  rw [show R 67 pp = i by omega] at h85
  have h75 : q75 b i (R 58) := ⟨h85, by omega, by omega⟩
  obtain ⟨y1, y2, y3, y4, y5⟩ := q75_end h75
  have y6 := y1.1
  exact ⟨by omega, trivial⟩

theorem tL_84_2_2 : vL rQ 84 hl_84_2_2 := by
  intro R G ps idx hl hq
  obtain ⟨b, n, rfl⟩ := hl2 hl
  replace hq : q84 b n (R 58) (R 67) := rqo_84_2 hq
  refine hv8 (fun q r g0 g0a g0b => ?_)
  replace g0 : ((0 : Int) + (1 * idx + 0)) = ((39700 : Nat) : Int) * q + r := g0
  replace g0b : r < ((39700 : Nat) : Int) := g0b
  show hV _ _ _ _ _ [b, n, idx, q, r]
  refine hv13 (fun g1 => ?_)
  replace g1 : ((0 : Int) + (39700 * q + 0)) = ((0 : Int) + (1 * b + 0)) := g1
  refine hv7 (fun i g2 => ?_)
  replace g2 : ((40 : Nat) : Int) * i = ((-8296 : Int) + (1 * r + 0)) := g2
  show hV _ _ _ _ _ [b, n, idx, q, r, i]
  refine hv6 (fun pp tt g3 => ?_)
  replace g3 : R 67 (((0 : Int) + 0) + ((1 : Nat) : Int) * pp) = tt := g3
  replace g3 : R 67 (pp) = tt := hF (R := R 67) g3 (ad_142 pp)
  show hV _ _ _ _ _ [b, n, idx, q, r, i, pp, tt]
  refine hv13 (fun g4 => ?_)
  replace g4 : ((0 : Int) + (1 * tt + 0)) = ((0 : Int) + (1 * i + 0)) := g4
  refine hv0 (fun g5 => ?_)
  replace g5 : (0 : Int) ≤ ((0 : Int) + (1 * pp + 0)) := g5
  refine hv0 (fun g6 => ?_)
  replace g6 : (0 : Int) ≤ ((-1 : Int) + (1 * n + ((-1) * pp + 0))) := g6
  refine hv2 (fun f13 hag7 g7 => ?_)
  replace g7 : R 58 ((8305 : Int) + (1 * b + (40 * i + 0))) = f13 := g7
  replace hag7 : (0 : Int) ≤ ((8305 : Int) + (1 * b + (40 * i + 0))) := hag7
  replace g7 : dI (R 58) b (i) = f13 := hF (R := R 58) g7 (ad_28 b i)
  show hV _ _ _ _ _ [b, n, idx, q, r, i, pp, tt, f13]
  refine hv13 (fun g8 => ?_)
  replace g8 : ((0 : Int) + (1 * f13 + 0)) = ((0 : Int) + 0) := g8
  refine hv2 (fun f14 hag9 g9 => ?_)
  replace g9 : R 58 ((8306 : Int) + (1 * b + (40 * i + 0))) = f14 := g9
  replace hag9 : (0 : Int) ≤ ((8306 : Int) + (1 * b + (40 * i + 0))) := hag9
  replace g9 : dJ (R 58) b (i) = f14 := hF (R := R 58) g9 (ad_29 b i)
  show hV _ _ _ _ _ [b, n, idx, q, r, i, pp, tt, f13, f14]
  refine hv13 (fun g10 => ?_)
  replace g10 : ((0 : Int) + (1 * f14 + 0)) = ((0 : Int) + 0) := g10
  refine hv2 (fun V hag11 g11 => ?_)
  replace g11 : R 58 ((8295 : Int) + (1 * b + (40 * i + 0))) = V := g11
  replace hag11 : (0 : Int) ≤ ((8295 : Int) + (1 * b + (40 * i + 0))) := hag11
  replace g11 : dV (R 58) b (i) = V := hF (R := R 58) g11 (ad_8 b i)
  show hV _ _ _ _ _ [b, n, idx, q, r, i, pp, tt, f13, f14, V]
  refine hv2 (fun N hag12 g12 => ?_)
  replace g12 : R 58 ((8296 : Int) + (1 * b + (40 * i + 0))) = N := g12
  replace hag12 : (0 : Int) ≤ ((8296 : Int) + (1 * b + (40 * i + 0))) := hag12
  replace g12 : dL (R 58) b (i) = N := hF (R := R 58) g12 (ad_9 b i)
  show hV _ _ _ _ _ [b, n, idx, q, r, i, pp, tt, f13, f14, V, N]
  refine hvC ?_
  show (0 : Int) ≤ ((4000 : Int) + ((-1) * V + ((-1) * N + 0))) ∧ True
  subst g3
  subst g7
  subst g9
  subst g11
  subst g12
  have h85 := hq pp (by omega) (by omega)
  rw [show R 67 pp = i by omega] at h85
  have h75 : q75 b i (R 58) := ⟨h85, by omega, by omega⟩
  obtain ⟨y1, y2, y3, y4, y5⟩ := q75_end h75
  have y6 := y1.1
  exact ⟨by omega, trivial⟩

theorem tL_82_3_0 : vL rQ 82 hl_82_3_0 := by
  intro R G ps idx hl hq
  obtain ⟨b, q0, e, rfl⟩ := hl3 hl
  replace hq : q82 b q0 e (R 58) (R 67) (R 68) (R 60) := rqo_82_3 hq
  refine hv8 (fun q r g0 g0a g0b => ?_)
  replace g0 : ((0 : Int) + (1 * idx + 0)) = ((39700 : Nat) : Int) * q + r := g0
  replace g0b : r < ((39700 : Nat) : Int) := g0b
  show hV _ _ _ _ _ [b, q0, e, idx, q, r]
  refine hv13 (fun g1 => ?_)
  replace g1 : ((0 : Int) + (39700 * q + 0)) = ((0 : Int) + (1 * b + 0)) := g1
  refine hv7 (fun i g2 => ?_)
  replace g2 : ((40 : Nat) : Int) * i = ((-8295 : Int) + (1 * r + 0)) := g2
  show hV _ _ _ _ _ [b, q0, e, idx, q, r, i]
  refine hv6 (fun pp tt g3 => ?_)
  replace g3 : R 67 (((0 : Int) + 0) + ((1 : Nat) : Int) * pp) = tt := g3
  replace g3 : R 67 (pp) = tt := hF (R := R 67) g3 (ad_142 pp)
  show hV _ _ _ _ _ [b, q0, e, idx, q, r, i, pp, tt]
  refine hv13 (fun g4 => ?_)
  replace g4 : ((0 : Int) + (1 * tt + 0)) = ((0 : Int) + (1 * i + 0)) := g4
  refine hv0 (fun g5 => ?_)
  replace g5 : (0 : Int) ≤ ((0 : Int) + (1 * pp + 0)) := g5
  refine hv0 (fun g6 => ?_)
  replace g6 : (0 : Int) ≤ ((-1 : Int) + (1 * q0 + ((-1) * pp + 0))) := g6
  refine hv2 (fun V hag7 g7 => ?_)
  replace g7 : R 58 ((8295 : Int) + (1 * b + (40 * i + 0))) = V := g7
  replace hag7 : (0 : Int) ≤ ((8295 : Int) + (1 * b + (40 * i + 0))) := hag7
  replace g7 : dV (R 58) b (i) = V := hF (R := R 58) g7 (ad_8 b i)
  show hV _ _ _ _ _ [b, q0, e, idx, q, r, i, pp, tt, V]
  refine hvC ?_
  show (0 : Int) ≤ ((0 : Int) + (1 * V + 0)) ∧ (0 : Int) ≤ ((3999 : Int) + ((-1) * V + 0)) ∧ True
  subst g3
  subst g7
  have h75 := (q82_75 hq (p := pp) (by omega) (by omega)).1
  rw [show R 67 pp = i by omega] at h75
  obtain ⟨y1, y2, y3, y4, y5⟩ := q75_end h75
  have y6 := y1.1
  exact ⟨by omega, by omega, trivial⟩

theorem tL_82_3_1 : vL rQ 82 hl_82_3_1 := by
  intro R G ps idx hl hq
  obtain ⟨b, q0, e, rfl⟩ := hl3 hl
  replace hq : q82 b q0 e (R 58) (R 67) (R 68) (R 60) := rqo_82_3 hq
  refine hv8 (fun q r g0 g0a g0b => ?_)
  replace g0 : ((0 : Int) + (1 * idx + 0)) = ((39700 : Nat) : Int) * q + r := g0
  replace g0b : r < ((39700 : Nat) : Int) := g0b
  show hV _ _ _ _ _ [b, q0, e, idx, q, r]
  refine hv13 (fun g1 => ?_)
  replace g1 : ((0 : Int) + (39700 * q + 0)) = ((0 : Int) + (1 * b + 0)) := g1
  refine hv7 (fun i g2 => ?_)
  replace g2 : ((40 : Nat) : Int) * i = ((-8296 : Int) + (1 * r + 0)) := g2
  show hV _ _ _ _ _ [b, q0, e, idx, q, r, i]
  refine hv6 (fun pp tt g3 => ?_)
  replace g3 : R 67 (((0 : Int) + 0) + ((1 : Nat) : Int) * pp) = tt := g3
  replace g3 : R 67 (pp) = tt := hF (R := R 67) g3 (ad_142 pp)
  show hV _ _ _ _ _ [b, q0, e, idx, q, r, i, pp, tt]
  refine hv13 (fun g4 => ?_)
  replace g4 : ((0 : Int) + (1 * tt + 0)) = ((0 : Int) + (1 * i + 0)) := g4
  refine hv0 (fun g5 => ?_)
  replace g5 : (0 : Int) ≤ ((0 : Int) + (1 * pp + 0)) := g5
  refine hv0 (fun g6 => ?_)
  replace g6 : (0 : Int) ≤ ((-1 : Int) + (1 * q0 + ((-1) * pp + 0))) := g6
  refine hv2 (fun N hag7 g7 => ?_)
  replace g7 : R 58 ((8296 : Int) + (1 * b + (40 * i + 0))) = N := g7
  replace hag7 : (0 : Int) ≤ ((8296 : Int) + (1 * b + (40 * i + 0))) := hag7
  replace g7 : dL (R 58) b (i) = N := hF (R := R 58) g7 (ad_9 b i)
  show hV _ _ _ _ _ [b, q0, e, idx, q, r, i, pp, tt, N]
  refine hvC ?_
  show (0 : Int) ≤ ((-1 : Int) + (1 * N + 0)) ∧ True
  subst g3
  subst g7
  have h75 := (q82_75 hq (p := pp) (by omega) (by omega)).1
  rw [show R 67 pp = i by omega] at h75
  obtain ⟨y1, y2, y3, y4, y5⟩ := q75_end h75
  have y6 := y1.1
  exact ⟨by omega, trivial⟩

theorem tL_82_3_2 : vL rQ 82 hl_82_3_2 := by
  intro R G ps idx hl hq
  obtain ⟨b, q0, e, rfl⟩ := hl3 hl
  replace hq : q82 b q0 e (R 58) (R 67) (R 68) (R 60) := rqo_82_3 hq
  refine hv8 (fun q r g0 g0a g0b => ?_)
  replace g0 : ((0 : Int) + (1 * idx + 0)) = ((39700 : Nat) : Int) * q + r := g0
  replace g0b : r < ((39700 : Nat) : Int) := g0b
  show hV _ _ _ _ _ [b, q0, e, idx, q, r]
  refine hv13 (fun g1 => ?_)
  replace g1 : ((0 : Int) + (39700 * q + 0)) = ((0 : Int) + (1 * b + 0)) := g1
  refine hv7 (fun i g2 => ?_)
  replace g2 : ((40 : Nat) : Int) * i = ((-8296 : Int) + (1 * r + 0)) := g2
  show hV _ _ _ _ _ [b, q0, e, idx, q, r, i]
  refine hv6 (fun pp tt g3 => ?_)
  replace g3 : R 67 (((0 : Int) + 0) + ((1 : Nat) : Int) * pp) = tt := g3
  replace g3 : R 67 (pp) = tt := hF (R := R 67) g3 (ad_142 pp)
  show hV _ _ _ _ _ [b, q0, e, idx, q, r, i, pp, tt]
  refine hv13 (fun g4 => ?_)
  replace g4 : ((0 : Int) + (1 * tt + 0)) = ((0 : Int) + (1 * i + 0)) := g4
  refine hv0 (fun g5 => ?_)
  replace g5 : (0 : Int) ≤ ((0 : Int) + (1 * pp + 0)) := g5
  refine hv0 (fun g6 => ?_)
  replace g6 : (0 : Int) ≤ ((-1 : Int) + (1 * q0 + ((-1) * pp + 0))) := g6
  refine hv2 (fun V hag7 g7 => ?_)
  replace g7 : R 58 ((8295 : Int) + (1 * b + (40 * i + 0))) = V := g7
  replace hag7 : (0 : Int) ≤ ((8295 : Int) + (1 * b + (40 * i + 0))) := hag7
  replace g7 : dV (R 58) b (i) = V := hF (R := R 58) g7 (ad_8 b i)
  show hV _ _ _ _ _ [b, q0, e, idx, q, r, i, pp, tt, V]
  refine hv2 (fun N hag8 g8 => ?_)
  replace g8 : R 58 ((8296 : Int) + (1 * b + (40 * i + 0))) = N := g8
  replace hag8 : (0 : Int) ≤ ((8296 : Int) + (1 * b + (40 * i + 0))) := hag8
  replace g8 : dL (R 58) b (i) = N := hF (R := R 58) g8 (ad_9 b i)
  show hV _ _ _ _ _ [b, q0, e, idx, q, r, i, pp, tt, V, N]
  refine hvC ?_
  show (0 : Int) ≤ ((4000 : Int) + ((-1) * V + ((-1) * N + 0))) ∧ True
  subst g3
  subst g7
  subst g8
  have h75 := (q82_75 hq (p := pp) (by omega) (by omega)).1
  rw [show R 67 pp = i by omega] at h75
  obtain ⟨y1, y2, y3, y4, y5⟩ := q75_end h75
  have y6 := y1.1
  exact ⟨by omega, trivial⟩

theorem tL_82_3_3 : vL rQ 82 hl_82_3_3 := by
  intro R G ps idx hl hq
  obtain ⟨b, q0, e, rfl⟩ := hl3 hl
  replace hq : q82 b q0 e (R 58) (R 67) (R 68) (R 60) := rqo_82_3 hq
  refine hv6 (fun pp tt g0 => ?_)
  replace g0 : R 67 (((0 : Int) + 0) + ((1 : Nat) : Int) * pp) = tt := g0
  replace g0 : R 67 (pp) = tt := hF (R := R 67) g0 (ad_142 pp)
  show hV _ _ _ _ _ [b, q0, e, idx, pp, tt]
  refine hv13 (fun g1 => ?_)
  replace g1 : ((0 : Int) + (1 * tt + 0)) = ((0 : Int) + (1 * tt + 0)) := g1
  refine hv0 (fun g2 => ?_)
  replace g2 : (0 : Int) ≤ ((0 : Int) + (1 * pp + 0)) := g2
  refine hv0 (fun g3 => ?_)
  replace g3 : (0 : Int) ≤ ((-1 : Int) + (1 * q0 + ((-1) * pp + 0))) := g3
  refine hv2 (fun V hag4 g4 => ?_)
  replace g4 : R 58 ((8295 : Int) + (1 * b + (40 * tt + 0))) = V := g4
  replace hag4 : (0 : Int) ≤ ((8295 : Int) + (1 * b + (40 * tt + 0))) := hag4
  replace g4 : dV (R 58) b (tt) = V := hF (R := R 58) g4 (ad_143 b tt)
  show hV _ _ _ _ _ [b, q0, e, idx, pp, tt, V]
  refine hv2 (fun N hag5 g5 => ?_)
  replace g5 : R 58 ((8296 : Int) + (1 * b + (40 * tt + 0))) = N := g5
  replace hag5 : (0 : Int) ≤ ((8296 : Int) + (1 * b + (40 * tt + 0))) := hag5
  replace g5 : dL (R 58) b (tt) = N := hF (R := R 58) g5 (ad_144 b tt)
  show hV _ _ _ _ _ [b, q0, e, idx, pp, tt, V, N]
  refine hv0 (fun g6 => ?_)
  replace g6 : (0 : Int) ≤ ((0 : Int) + (1 * idx + ((-1) * V + 0))) := g6
  refine hv0 (fun g7 => ?_)
  replace g7 : (0 : Int) ≤ ((-1 : Int) + ((-1) * idx + (1 * V + (1 * N + 0)))) := g7
  refine hv2 (fun w hag8 g8 => ?_)
  replace g8 : R 60 ((0 : Int) + (1 * idx + 0)) = w := g8
  replace hag8 : (0 : Int) ≤ ((0 : Int) + (1 * idx + 0)) := hag8
  replace g8 : R 60 (idx) = w := hF (R := R 60) g8 (ad_99 idx)
  show hV _ _ _ _ _ [b, q0, e, idx, pp, tt, V, N, w]
  refine hvC ?_
  show (0 : Int) ≤ ((0 : Int) + (1 * w + 0)) ∧ (0 : Int) ≤ ((-1 : Int) + (1 * e + ((-1) * w + 0))) ∧ True
  subst g0
  subst g4
  subst g5
  subst g8
  have h75 := (q82_75 hq (p := pp) (by omega) (by omega)).1
  obtain ⟨y1, y2, y3, y4, y5, y6⟩ := q82_it hq (p := pp) (k := idx) (by omega) (by omega) rfl (by omega) (by omega)
  exact ⟨by omega, by omega, trivial⟩

theorem tL_82_3_4 : vL rQ 82 hl_82_3_4 := by
  intro R G ps idx hl hq
  obtain ⟨b, q0, e, rfl⟩ := hl3 hl
  replace hq : q82 b q0 e (R 58) (R 67) (R 68) (R 60) := rqo_82_3 hq
  refine hv6 (fun k w g0 => ?_)
  replace g0 : R 60 (((0 : Int) + 0) + ((1 : Nat) : Int) * k) = w := g0
  replace g0 : R 60 (k) = w := hF (R := R 60) g0 (ad_145 k)
  show hV _ _ _ _ _ [b, q0, e, k, w]
  refine hv2 (fun kk hag1 g1 => ?_)
  replace g1 : R 58 ((22692 : Int) + (1 * b + (2 * k + 0))) = kk := g1
  replace hag1 : (0 : Int) ≤ ((22692 : Int) + (1 * b + (2 * k + 0))) := hag1
  replace g1 : iK (R 58) b (k) = kk := hF (R := R 58) g1 (ad_38 b k)
  show hV _ _ _ _ _ [b, q0, e, k, w, kk]
  refine hv13 (fun g2 => ?_)
  replace g2 : ((0 : Int) + (1 * kk + 0)) = ((1 : Int) + 0) := g2
  refine hv6 (fun pp tt g3 => ?_)
  replace g3 : R 67 (((0 : Int) + 0) + ((1 : Nat) : Int) * pp) = tt := g3
  replace g3 : R 67 (pp) = tt := hF (R := R 67) g3 (ad_142 pp)
  show hV _ _ _ _ _ [b, q0, e, k, w, kk, pp, tt]
  refine hv0 (fun g4 => ?_)
  replace g4 : (0 : Int) ≤ ((0 : Int) + (1 * pp + 0)) := g4
  refine hv0 (fun g5 => ?_)
  replace g5 : (0 : Int) ≤ ((-1 : Int) + (1 * q0 + ((-1) * pp + 0))) := g5
  refine hv2 (fun V hag6 g6 => ?_)
  replace g6 : R 58 ((8295 : Int) + (1 * b + (40 * tt + 0))) = V := g6
  replace hag6 : (0 : Int) ≤ ((8295 : Int) + (1 * b + (40 * tt + 0))) := hag6
  replace g6 : dV (R 58) b (tt) = V := hF (R := R 58) g6 (ad_143 b tt)
  show hV _ _ _ _ _ [b, q0, e, k, w, kk, pp, tt, V]
  refine hv2 (fun N hag7 g7 => ?_)
  replace g7 : R 58 ((8296 : Int) + (1 * b + (40 * tt + 0))) = N := g7
  replace hag7 : (0 : Int) ≤ ((8296 : Int) + (1 * b + (40 * tt + 0))) := hag7
  replace g7 : dL (R 58) b (tt) = N := hF (R := R 58) g7 (ad_144 b tt)
  show hV _ _ _ _ _ [b, q0, e, k, w, kk, pp, tt, V, N]
  refine hv0 (fun g8 => ?_)
  replace g8 : (0 : Int) ≤ ((0 : Int) + (1 * k + ((-1) * V + 0))) := g8
  refine hv0 (fun g9 => ?_)
  replace g9 : (0 : Int) ≤ ((-1 : Int) + ((-1) * k + (1 * V + (1 * N + 0)))) := g9
  refine hvC ?_
  show (0 : Int) ≤ ((-2 : Int) + (1 * e + ((-1) * w + 0))) ∧ True
  subst g0
  subst g1
  subst g3
  subst g6
  subst g7
  have h75 := (q82_75 hq (p := pp) (by omega) (by omega)).1
  obtain ⟨y1, y2, y3, y4, y5, y6⟩ := q82_it hq (p := pp) (k := k) (by omega) (by omega) rfl (by omega) (by omega)
  rw [chW_lit (by omega)] at y6
  exact ⟨by omega, trivial⟩

theorem tL_82_3_5 : vL rQ 82 hl_82_3_5 := by
  intro R G ps idx hl hq
  obtain ⟨b, q0, e, rfl⟩ := hl3 hl
  replace hq : q82 b q0 e (R 58) (R 67) (R 68) (R 60) := rqo_82_3 hq
  refine hv6 (fun k w g0 => ?_)
  replace g0 : R 60 (((0 : Int) + 0) + ((1 : Nat) : Int) * k) = w := g0
  replace g0 : R 60 (k) = w := hF (R := R 60) g0 (ad_145 k)
  show hV _ _ _ _ _ [b, q0, e, k, w]
  refine hv2 (fun kk hag1 g1 => ?_)
  replace g1 : R 58 ((22692 : Int) + (1 * b + (2 * k + 0))) = kk := g1
  replace hag1 : (0 : Int) ≤ ((22692 : Int) + (1 * b + (2 * k + 0))) := hag1
  replace g1 : iK (R 58) b (k) = kk := hF (R := R 58) g1 (ad_38 b k)
  show hV _ _ _ _ _ [b, q0, e, k, w, kk]
  refine hv13 (fun g2 => ?_)
  replace g2 : ((0 : Int) + (1 * kk + 0)) = ((0 : Int) + 0) := g2
  refine hv2 (fun nn hag3 g3 => ?_)
  replace g3 : R 58 ((22693 : Int) + (1 * b + (2 * k + 0))) = nn := g3
  replace hag3 : (0 : Int) ≤ ((22693 : Int) + (1 * b + (2 * k + 0))) := hag3
  replace g3 : iN (R 58) b (k) = nn := hF (R := R 58) g3 (ad_33 b k)
  show hV _ _ _ _ _ [b, q0, e, k, w, kk, nn]
  refine hv2 (fun wk hag4 g4 => ?_)
  replace g4 : R 58 ((8292 : Int) + (1 * b + (40 * nn + 0))) = wk := g4
  replace hag4 : (0 : Int) ≤ ((8292 : Int) + (1 * b + (40 * nn + 0))) := hag4
  replace g4 : dK (R 58) b (nn) = wk := hF (R := R 58) g4 (ad_41 b nn)
  show hV _ _ _ _ _ [b, q0, e, k, w, kk, nn, wk]
  refine hv0 (fun g5 => ?_)
  replace g5 : (0 : Int) ≤ ((-2 : Int) + (1 * wk + 0)) := g5
  refine hv6 (fun pp tt g6 => ?_)
  replace g6 : R 67 (((0 : Int) + 0) + ((1 : Nat) : Int) * pp) = tt := g6
  replace g6 : R 67 (pp) = tt := hF (R := R 67) g6 (ad_142 pp)
  show hV _ _ _ _ _ [b, q0, e, k, w, kk, nn, wk, pp, tt]
  refine hv0 (fun g7 => ?_)
  replace g7 : (0 : Int) ≤ ((0 : Int) + (1 * pp + 0)) := g7
  refine hv0 (fun g8 => ?_)
  replace g8 : (0 : Int) ≤ ((-1 : Int) + (1 * q0 + ((-1) * pp + 0))) := g8
  refine hv2 (fun V hag9 g9 => ?_)
  replace g9 : R 58 ((8295 : Int) + (1 * b + (40 * tt + 0))) = V := g9
  replace hag9 : (0 : Int) ≤ ((8295 : Int) + (1 * b + (40 * tt + 0))) := hag9
  replace g9 : dV (R 58) b (tt) = V := hF (R := R 58) g9 (ad_143 b tt)
  show hV _ _ _ _ _ [b, q0, e, k, w, kk, nn, wk, pp, tt, V]
  refine hv2 (fun N hag10 g10 => ?_)
  replace g10 : R 58 ((8296 : Int) + (1 * b + (40 * tt + 0))) = N := g10
  replace hag10 : (0 : Int) ≤ ((8296 : Int) + (1 * b + (40 * tt + 0))) := hag10
  replace g10 : dL (R 58) b (tt) = N := hF (R := R 58) g10 (ad_144 b tt)
  show hV _ _ _ _ _ [b, q0, e, k, w, kk, nn, wk, pp, tt, V, N]
  refine hv0 (fun g11 => ?_)
  replace g11 : (0 : Int) ≤ ((0 : Int) + (1 * k + ((-1) * V + 0))) := g11
  refine hv0 (fun g12 => ?_)
  replace g12 : (0 : Int) ≤ ((-1 : Int) + ((-1) * k + (1 * V + (1 * N + 0)))) := g12
  refine hvC ?_
  show (0 : Int) ≤ ((-2 : Int) + (1 * e + ((-1) * w + 0))) ∧ True
  subst g0
  subst g1
  subst g3
  subst g4
  subst g6
  subst g9
  subst g10
  have h75 := (q82_75 hq (p := pp) (by omega) (by omega)).1
  obtain ⟨y1, y2, y3, y4, y5, y6⟩ := q82_it hq (p := pp) (k := k) (by omega) (by omega) rfl (by omega) (by omega)
  obtain ⟨v1, v2, v3⟩ := chW_pos y1
  have v4 := v3 (by omega)
  exact ⟨by omega, trivial⟩

theorem tL_82_3_6 : vL rQ 82 hl_82_3_6 := by
  intro R G ps idx hl hq
  obtain ⟨b, q0, e, rfl⟩ := hl3 hl
  replace hq : q82 b q0 e (R 58) (R 67) (R 68) (R 60) := rqo_82_3 hq
  refine hv6 (fun pp tt g0 => ?_)
  replace g0 : R 67 (((0 : Int) + 0) + ((1 : Nat) : Int) * pp) = tt := g0
  replace g0 : R 67 (pp) = tt := hF (R := R 67) g0 (ad_142 pp)
  show hV _ _ _ _ _ [b, q0, e, pp, tt]
  refine hv0 (fun g1 => ?_)
  replace g1 : (0 : Int) ≤ ((0 : Int) + (1 * pp + 0)) := g1
  refine hv0 (fun g2 => ?_)
  replace g2 : (0 : Int) ≤ ((-1 : Int) + (1 * q0 + ((-1) * pp + 0))) := g2
  refine hv6 (fun k kk g3 => ?_)
  replace g3 : R 58 (((22692 : Int) + (1 * b + 0)) + ((2 : Nat) : Int) * k) = kk := g3
  replace g3 : iK (R 58) b (k) = kk := hF (R := R 58) g3 (ad_32 b k)
  show hV _ _ _ _ _ [b, q0, e, pp, tt, k, kk]
  refine hv2 (fun V hag4 g4 => ?_)
  replace g4 : R 58 ((8295 : Int) + (1 * b + (40 * tt + 0))) = V := g4
  replace hag4 : (0 : Int) ≤ ((8295 : Int) + (1 * b + (40 * tt + 0))) := hag4
  replace g4 : dV (R 58) b (tt) = V := hF (R := R 58) g4 (ad_143 b tt)
  show hV _ _ _ _ _ [b, q0, e, pp, tt, k, kk, V]
  refine hv2 (fun N hag5 g5 => ?_)
  replace g5 : R 58 ((8296 : Int) + (1 * b + (40 * tt + 0))) = N := g5
  replace hag5 : (0 : Int) ≤ ((8296 : Int) + (1 * b + (40 * tt + 0))) := hag5
  replace g5 : dL (R 58) b (tt) = N := hF (R := R 58) g5 (ad_144 b tt)
  show hV _ _ _ _ _ [b, q0, e, pp, tt, k, kk, V, N]
  refine hv0 (fun g6 => ?_)
  replace g6 : (0 : Int) ≤ ((0 : Int) + (1 * k + ((-1) * V + 0))) := g6
  refine hv0 (fun g7 => ?_)
  replace g7 : (0 : Int) ≤ ((-1 : Int) + ((-1) * k + (1 * V + (1 * N + 0)))) := g7
  refine hv13 (fun g8 => ?_)
  replace g8 : ((0 : Int) + (1 * kk + 0)) = ((10 : Int) + 0) := g8
  refine hvC ?_
  show (0 : Int) ≤ ((-1 : Int) + 0) ∧ True
  subst g0
  subst g3
  subst g4
  subst g5
  have h75 := (q82_75 hq (p := pp) (by omega) (by omega)).1
  obtain ⟨y1, y2, y3, y4, y5, y6⟩ := q82_it hq (p := pp) (k := k) (by omega) (by omega) rfl (by omega) (by omega)
  obtain ⟨v1, v2, v3⟩ := chW_pos y1
  exact ⟨by omega, trivial⟩

theorem tL_82_3_7 : vL rQ 82 hl_82_3_7 := by
  intro R G ps idx hl hq
  obtain ⟨b, q0, e, rfl⟩ := hl3 hl
  replace hq : q82 b q0 e (R 58) (R 67) (R 68) (R 60) := rqo_82_3 hq
  refine hv6 (fun pp tt g0 => ?_)
  replace g0 : R 67 (((0 : Int) + 0) + ((1 : Nat) : Int) * pp) = tt := g0
  replace g0 : R 67 (pp) = tt := hF (R := R 67) g0 (ad_142 pp)
  show hV _ _ _ _ _ [b, q0, e, pp, tt]
  refine hv0 (fun g1 => ?_)
  replace g1 : (0 : Int) ≤ ((0 : Int) + (1 * pp + 0)) := g1
  refine hv0 (fun g2 => ?_)
  replace g2 : (0 : Int) ≤ ((-1 : Int) + (1 * q0 + ((-1) * pp + 0))) := g2
  refine hv6 (fun k kk g3 => ?_)
  replace g3 : R 58 (((22692 : Int) + (1 * b + 0)) + ((2 : Nat) : Int) * k) = kk := g3
  replace g3 : iK (R 58) b (k) = kk := hF (R := R 58) g3 (ad_32 b k)
  show hV _ _ _ _ _ [b, q0, e, pp, tt, k, kk]
  refine hv2 (fun V hag4 g4 => ?_)
  replace g4 : R 58 ((8295 : Int) + (1 * b + (40 * tt + 0))) = V := g4
  replace hag4 : (0 : Int) ≤ ((8295 : Int) + (1 * b + (40 * tt + 0))) := hag4
  replace g4 : dV (R 58) b (tt) = V := hF (R := R 58) g4 (ad_143 b tt)
  show hV _ _ _ _ _ [b, q0, e, pp, tt, k, kk, V]
  refine hv2 (fun N hag5 g5 => ?_)
  replace g5 : R 58 ((8296 : Int) + (1 * b + (40 * tt + 0))) = N := g5
  replace hag5 : (0 : Int) ≤ ((8296 : Int) + (1 * b + (40 * tt + 0))) := hag5
  replace g5 : dL (R 58) b (tt) = N := hF (R := R 58) g5 (ad_144 b tt)
  show hV _ _ _ _ _ [b, q0, e, pp, tt, k, kk, V, N]
  refine hv0 (fun g6 => ?_)
  replace g6 : (0 : Int) ≤ ((0 : Int) + (1 * k + ((-1) * V + 0))) := g6
  refine hv0 (fun g7 => ?_)
  replace g7 : (0 : Int) ≤ ((-1 : Int) + ((-1) * k + (1 * V + (1 * N + 0)))) := g7
  refine hv0 (fun g8 => ?_)
  replace g8 : (0 : Int) ≤ ((-10 : Int) + (1 * kk + 0)) := g8
  refine hvC ?_
  show (0 : Int) ≤ ((-11 : Int) + (1 * kk + 0)) ∧ (0 : Int) ≤ ((13 : Int) + ((-1) * kk + 0)) ∧ True
  subst g0
  subst g3
  subst g4
  subst g5
  have h75 := (q82_75 hq (p := pp) (by omega) (by omega)).1
  obtain ⟨y1, y2, y3, y4, y5, y6⟩ := q82_it hq (p := pp) (k := k) (by omega) (by omega) rfl (by omega) (by omega)
  obtain ⟨v1, v2, v3⟩ := chW_pos y1
  exact ⟨by omega, by omega, trivial⟩

theorem tL_82_3_8 : vL rQ 82 hl_82_3_8 := by
  intro R G ps idx hl hq
  obtain ⟨b, q0, e, rfl⟩ := hl3 hl
  replace hq : q82 b q0 e (R 58) (R 67) (R 68) (R 60) := rqo_82_3 hq
  refine hv6 (fun pp tt g0 => ?_)
  replace g0 : R 67 (((0 : Int) + 0) + ((1 : Nat) : Int) * pp) = tt := g0
  replace g0 : R 67 (pp) = tt := hF (R := R 67) g0 (ad_142 pp)
  show hV _ _ _ _ _ [b, q0, e, pp, tt]
  refine hv0 (fun g1 => ?_)
  replace g1 : (0 : Int) ≤ ((0 : Int) + (1 * pp + 0)) := g1
  refine hv0 (fun g2 => ?_)
  replace g2 : (0 : Int) ≤ ((-1 : Int) + (1 * q0 + ((-1) * pp + 0))) := g2
  refine hv6 (fun k kk g3 => ?_)
  replace g3 : R 58 (((22692 : Int) + (1 * b + 0)) + ((2 : Nat) : Int) * k) = kk := g3
  replace g3 : iK (R 58) b (k) = kk := hF (R := R 58) g3 (ad_32 b k)
  show hV _ _ _ _ _ [b, q0, e, pp, tt, k, kk]
  refine hv2 (fun V hag4 g4 => ?_)
  replace g4 : R 58 ((8295 : Int) + (1 * b + (40 * tt + 0))) = V := g4
  replace hag4 : (0 : Int) ≤ ((8295 : Int) + (1 * b + (40 * tt + 0))) := hag4
  replace g4 : dV (R 58) b (tt) = V := hF (R := R 58) g4 (ad_143 b tt)
  show hV _ _ _ _ _ [b, q0, e, pp, tt, k, kk, V]
  refine hv2 (fun N hag5 g5 => ?_)
  replace g5 : R 58 ((8296 : Int) + (1 * b + (40 * tt + 0))) = N := g5
  replace hag5 : (0 : Int) ≤ ((8296 : Int) + (1 * b + (40 * tt + 0))) := hag5
  replace g5 : dL (R 58) b (tt) = N := hF (R := R 58) g5 (ad_144 b tt)
  show hV _ _ _ _ _ [b, q0, e, pp, tt, k, kk, V, N]
  refine hv0 (fun g6 => ?_)
  replace g6 : (0 : Int) ≤ ((0 : Int) + (1 * k + ((-1) * V + 0))) := g6
  refine hv0 (fun g7 => ?_)
  replace g7 : (0 : Int) ≤ ((-1 : Int) + ((-1) * k + (1 * V + (1 * N + 0)))) := g7
  refine hv13 (fun g8 => ?_)
  replace g8 : ((0 : Int) + (1 * kk + 0)) = ((0 : Int) + 0) := g8
  refine hv2 (fun nn hag9 g9 => ?_)
  replace g9 : R 58 ((22693 : Int) + (1 * b + (2 * k + 0))) = nn := g9
  replace hag9 : (0 : Int) ≤ ((22693 : Int) + (1 * b + (2 * k + 0))) := hag9
  replace g9 : iN (R 58) b (k) = nn := hF (R := R 58) g9 (ad_33 b k)
  show hV _ _ _ _ _ [b, q0, e, pp, tt, k, kk, V, N, nn]
  refine hv2 (fun wk hag10 g10 => ?_)
  replace g10 : R 58 ((8292 : Int) + (1 * b + (40 * nn + 0))) = wk := g10
  replace hag10 : (0 : Int) ≤ ((8292 : Int) + (1 * b + (40 * nn + 0))) := hag10
  replace g10 : dK (R 58) b (nn) = wk := hF (R := R 58) g10 (ad_41 b nn)
  show hV _ _ _ _ _ [b, q0, e, pp, tt, k, kk, V, N, nn, wk]
  refine hv0 (fun g11 => ?_)
  replace g11 : (0 : Int) ≤ ((-4 : Int) + (1 * wk + 0)) := g11
  refine hv0 (fun g12 => ?_)
  replace g12 : (0 : Int) ≤ ((6 : Int) + ((-1) * wk + 0)) := g12
  refine hvC ?_
  show (0 : Int) ≤ ((-1 : Int) + 0) ∧ True
  subst g0
  subst g3
  subst g4
  subst g5
  subst g9
  subst g10
  have h75 := (q82_75 hq (p := pp) (by omega) (by omega)).1
  obtain ⟨y1, y2, y3, y4, y5, y6⟩ := q82_it hq (p := pp) (k := k) (by omega) (by omega) rfl (by omega) (by omega)
  obtain ⟨v1, v2, v3⟩ := chW_pos y1
  have v4 := v3 (by omega)
  exact ⟨by omega, trivial⟩

theorem tL_82_3_9 : vL rQ 82 hl_82_3_9 := by
  intro R G ps idx hl hq
  obtain ⟨b, q0, e, rfl⟩ := hl3 hl
  replace hq : q82 b q0 e (R 58) (R 67) (R 68) (R 60) := rqo_82_3 hq
  refine hv6 (fun pp tt g0 => ?_)
  replace g0 : R 67 (((0 : Int) + 0) + ((1 : Nat) : Int) * pp) = tt := g0
  replace g0 : R 67 (pp) = tt := hF (R := R 67) g0 (ad_142 pp)
  show hV _ _ _ _ _ [b, q0, e, pp, tt]
  refine hv0 (fun g1 => ?_)
  replace g1 : (0 : Int) ≤ ((0 : Int) + (1 * pp + 0)) := g1
  refine hv0 (fun g2 => ?_)
  replace g2 : (0 : Int) ≤ ((-1 : Int) + (1 * q0 + ((-1) * pp + 0))) := g2
  refine hv6 (fun k kk g3 => ?_)
  replace g3 : R 58 (((22692 : Int) + (1 * b + 0)) + ((2 : Nat) : Int) * k) = kk := g3
  replace g3 : iK (R 58) b (k) = kk := hF (R := R 58) g3 (ad_32 b k)
  show hV _ _ _ _ _ [b, q0, e, pp, tt, k, kk]
  refine hv2 (fun V hag4 g4 => ?_)
  replace g4 : R 58 ((8295 : Int) + (1 * b + (40 * tt + 0))) = V := g4
  replace hag4 : (0 : Int) ≤ ((8295 : Int) + (1 * b + (40 * tt + 0))) := hag4
  replace g4 : dV (R 58) b (tt) = V := hF (R := R 58) g4 (ad_143 b tt)
  show hV _ _ _ _ _ [b, q0, e, pp, tt, k, kk, V]
  refine hv2 (fun N hag5 g5 => ?_)
  replace g5 : R 58 ((8296 : Int) + (1 * b + (40 * tt + 0))) = N := g5
  replace hag5 : (0 : Int) ≤ ((8296 : Int) + (1 * b + (40 * tt + 0))) := hag5
  replace g5 : dL (R 58) b (tt) = N := hF (R := R 58) g5 (ad_144 b tt)
  show hV _ _ _ _ _ [b, q0, e, pp, tt, k, kk, V, N]
  refine hv0 (fun g6 => ?_)
  replace g6 : (0 : Int) ≤ ((0 : Int) + (1 * k + ((-1) * V + 0))) := g6
  refine hv0 (fun g7 => ?_)
  replace g7 : (0 : Int) ≤ ((-1 : Int) + ((-1) * k + (1 * V + (1 * N + 0)))) := g7
  refine hv13 (fun g8 => ?_)
  replace g8 : ((0 : Int) + (1 * kk + 0)) = ((0 : Int) + 0) := g8
  refine hv2 (fun nn hag9 g9 => ?_)
  replace g9 : R 58 ((22693 : Int) + (1 * b + (2 * k + 0))) = nn := g9
  replace hag9 : (0 : Int) ≤ ((22693 : Int) + (1 * b + (2 * k + 0))) := hag9
  replace g9 : iN (R 58) b (k) = nn := hF (R := R 58) g9 (ad_33 b k)
  show hV _ _ _ _ _ [b, q0, e, pp, tt, k, kk, V, N, nn]
  refine hv2 (fun wk hag10 g10 => ?_)
  replace g10 : R 58 ((8292 : Int) + (1 * b + (40 * nn + 0))) = wk := g10
  replace hag10 : (0 : Int) ≤ ((8292 : Int) + (1 * b + (40 * nn + 0))) := hag10
  replace g10 : dK (R 58) b (nn) = wk := hF (R := R 58) g10 (ad_41 b nn)
  show hV _ _ _ _ _ [b, q0, e, pp, tt, k, kk, V, N, nn, wk]
  refine hv13 (fun g11 => ?_)
  replace g11 : ((0 : Int) + (1 * wk + 0)) = ((3 : Int) + 0) := g11
  refine hv2 (fun dO hag12 g12 => ?_)
  replace g12 : R 58 ((8297 : Int) + (1 * b + (40 * nn + 0))) = dO := g12
  replace hag12 : (0 : Int) ≤ ((8297 : Int) + (1 * b + (40 * nn + 0))) := hag12
  replace g12 : dE (R 58) b (nn) = dO := hF (R := R 58) g12 (ad_42 b nn)
  show hV _ _ _ _ _ [b, q0, e, pp, tt, k, kk, V, N, nn, wk, dO]
  refine hv1 (fun g13 => ?_)
  replace g13 : ((0 : Int) + (1 * dO + 0)) ≠ ((-1 : Int) + 0) := g13
  refine hvC ?_
  show (0 : Int) ≤ ((-1 : Int) + 0) ∧ True
  subst g0
  subst g3
  subst g4
  subst g5
  subst g9
  subst g10
  subst g12
  have h75 := (q82_75 hq (p := pp) (by omega) (by omega)).1
  obtain ⟨y1, y2, y3, y4, y5, y6⟩ := q82_it hq (p := pp) (k := k) (by omega) (by omega) rfl (by omega) (by omega)
  obtain ⟨v1, v2, v3⟩ := chW_pos y1
  have v4 := v3 (by omega)
  exact ⟨by omega, trivial⟩

theorem tL_82_3_10 : vL rQ 82 hl_82_3_10 := by
  intro R G ps idx hl hq
  obtain ⟨b, q0, e, rfl⟩ := hl3 hl
  replace hq : q82 b q0 e (R 58) (R 67) (R 68) (R 60) := rqo_82_3 hq
  refine hv6 (fun pp tt g0 => ?_)
  replace g0 : R 67 (((0 : Int) + 0) + ((1 : Nat) : Int) * pp) = tt := g0
  replace g0 : R 67 (pp) = tt := hF (R := R 67) g0 (ad_142 pp)
  show hV _ _ _ _ _ [b, q0, e, pp, tt]
  refine hv0 (fun g1 => ?_)
  replace g1 : (0 : Int) ≤ ((0 : Int) + (1 * pp + 0)) := g1
  refine hv0 (fun g2 => ?_)
  replace g2 : (0 : Int) ≤ ((-1 : Int) + (1 * q0 + ((-1) * pp + 0))) := g2
  refine hv6 (fun k kk g3 => ?_)
  replace g3 : R 58 (((22692 : Int) + (1 * b + 0)) + ((2 : Nat) : Int) * k) = kk := g3
  replace g3 : iK (R 58) b (k) = kk := hF (R := R 58) g3 (ad_32 b k)
  show hV _ _ _ _ _ [b, q0, e, pp, tt, k, kk]
  refine hv2 (fun V hag4 g4 => ?_)
  replace g4 : R 58 ((8295 : Int) + (1 * b + (40 * tt + 0))) = V := g4
  replace hag4 : (0 : Int) ≤ ((8295 : Int) + (1 * b + (40 * tt + 0))) := hag4
  replace g4 : dV (R 58) b (tt) = V := hF (R := R 58) g4 (ad_143 b tt)
  show hV _ _ _ _ _ [b, q0, e, pp, tt, k, kk, V]
  refine hv2 (fun N hag5 g5 => ?_)
  replace g5 : R 58 ((8296 : Int) + (1 * b + (40 * tt + 0))) = N := g5
  replace hag5 : (0 : Int) ≤ ((8296 : Int) + (1 * b + (40 * tt + 0))) := hag5
  replace g5 : dL (R 58) b (tt) = N := hF (R := R 58) g5 (ad_144 b tt)
  show hV _ _ _ _ _ [b, q0, e, pp, tt, k, kk, V, N]
  refine hv0 (fun g6 => ?_)
  replace g6 : (0 : Int) ≤ ((0 : Int) + (1 * k + ((-1) * V + 0))) := g6
  refine hv0 (fun g7 => ?_)
  replace g7 : (0 : Int) ≤ ((-1 : Int) + ((-1) * k + (1 * V + (1 * N + 0)))) := g7
  refine hv13 (fun g8 => ?_)
  replace g8 : ((0 : Int) + (1 * kk + 0)) = ((0 : Int) + 0) := g8
  refine hv2 (fun nn hag9 g9 => ?_)
  replace g9 : R 58 ((22693 : Int) + (1 * b + (2 * k + 0))) = nn := g9
  replace hag9 : (0 : Int) ≤ ((22693 : Int) + (1 * b + (2 * k + 0))) := hag9
  replace g9 : iN (R 58) b (k) = nn := hF (R := R 58) g9 (ad_33 b k)
  show hV _ _ _ _ _ [b, q0, e, pp, tt, k, kk, V, N, nn]
  refine hv2 (fun wk hag10 g10 => ?_)
  replace g10 : R 58 ((8292 : Int) + (1 * b + (40 * nn + 0))) = wk := g10
  replace hag10 : (0 : Int) ≤ ((8292 : Int) + (1 * b + (40 * nn + 0))) := hag10
  replace g10 : dK (R 58) b (nn) = wk := hF (R := R 58) g10 (ad_41 b nn)
  show hV _ _ _ _ _ [b, q0, e, pp, tt, k, kk, V, N, nn, wk]
  refine hv13 (fun g11 => ?_)
  replace g11 : ((0 : Int) + (1 * wk + 0)) = ((0 : Int) + 0) := g11
  refine hv0 (fun g12 => ?_)
  replace g12 : (0 : Int) ≤ ((-70 : Int) + (1 * nn + 0)) := g12
  refine hv0 (fun g13 => ?_)
  replace g13 : (0 : Int) ≤ ((74 : Int) + ((-1) * nn + 0)) := g13
  refine hvC ?_
  show (0 : Int) ≤ ((-1 : Int) + 0) ∧ True
  subst g0
  subst g3
  subst g4
  subst g5
  subst g9
  subst g10
  have h75 := (q82_75 hq (p := pp) (by omega) (by omega)).1
  obtain ⟨y1, y2, y3, y4, y5, y6⟩ := q82_it hq (p := pp) (k := k) (by omega) (by omega) rfl (by omega) (by omega)
  obtain ⟨v1, v2, v3⟩ := chW_pos y1
  have v4 := v3 (by omega)
  exact ⟨by omega, trivial⟩

theorem tL_82_3_11 : vL rQ 82 hl_82_3_11 := by
  intro R G ps idx hl hq
  obtain ⟨b, q0, e, rfl⟩ := hl3 hl
  replace hq : q82 b q0 e (R 58) (R 67) (R 68) (R 60) := rqo_82_3 hq
  refine hv6 (fun pp tt g0 => ?_)
  replace g0 : R 67 (((0 : Int) + 0) + ((1 : Nat) : Int) * pp) = tt := g0
  replace g0 : R 67 (pp) = tt := hF (R := R 67) g0 (ad_142 pp)
  show hV _ _ _ _ _ [b, q0, e, pp, tt]
  refine hv0 (fun g1 => ?_)
  replace g1 : (0 : Int) ≤ ((0 : Int) + (1 * pp + 0)) := g1
  refine hv0 (fun g2 => ?_)
  replace g2 : (0 : Int) ≤ ((-1 : Int) + (1 * q0 + ((-1) * pp + 0))) := g2
  refine hv6 (fun k kk g3 => ?_)
  replace g3 : R 58 (((22692 : Int) + (1 * b + 0)) + ((2 : Nat) : Int) * k) = kk := g3
  replace g3 : iK (R 58) b (k) = kk := hF (R := R 58) g3 (ad_32 b k)
  show hV _ _ _ _ _ [b, q0, e, pp, tt, k, kk]
  refine hv2 (fun V hag4 g4 => ?_)
  replace g4 : R 58 ((8295 : Int) + (1 * b + (40 * tt + 0))) = V := g4
  replace hag4 : (0 : Int) ≤ ((8295 : Int) + (1 * b + (40 * tt + 0))) := hag4
  replace g4 : dV (R 58) b (tt) = V := hF (R := R 58) g4 (ad_143 b tt)
  show hV _ _ _ _ _ [b, q0, e, pp, tt, k, kk, V]
  refine hv2 (fun N hag5 g5 => ?_)
  replace g5 : R 58 ((8296 : Int) + (1 * b + (40 * tt + 0))) = N := g5
  replace hag5 : (0 : Int) ≤ ((8296 : Int) + (1 * b + (40 * tt + 0))) := hag5
  replace g5 : dL (R 58) b (tt) = N := hF (R := R 58) g5 (ad_144 b tt)
  show hV _ _ _ _ _ [b, q0, e, pp, tt, k, kk, V, N]
  refine hv0 (fun g6 => ?_)
  replace g6 : (0 : Int) ≤ ((0 : Int) + (1 * k + ((-1) * V + 0))) := g6
  refine hv0 (fun g7 => ?_)
  replace g7 : (0 : Int) ≤ ((-1 : Int) + ((-1) * k + (1 * V + (1 * N + 0)))) := g7
  refine hv13 (fun g8 => ?_)
  replace g8 : ((0 : Int) + (1 * kk + 0)) = ((0 : Int) + 0) := g8
  refine hv2 (fun nn hag9 g9 => ?_)
  replace g9 : R 58 ((22693 : Int) + (1 * b + (2 * k + 0))) = nn := g9
  replace hag9 : (0 : Int) ≤ ((22693 : Int) + (1 * b + (2 * k + 0))) := hag9
  replace g9 : iN (R 58) b (k) = nn := hF (R := R 58) g9 (ad_33 b k)
  show hV _ _ _ _ _ [b, q0, e, pp, tt, k, kk, V, N, nn]
  refine hv2 (fun wk hag10 g10 => ?_)
  replace g10 : R 58 ((8292 : Int) + (1 * b + (40 * nn + 0))) = wk := g10
  replace hag10 : (0 : Int) ≤ ((8292 : Int) + (1 * b + (40 * nn + 0))) := hag10
  replace g10 : dK (R 58) b (nn) = wk := hF (R := R 58) g10 (ad_41 b nn)
  show hV _ _ _ _ _ [b, q0, e, pp, tt, k, kk, V, N, nn, wk]
  refine hv13 (fun g11 => ?_)
  replace g11 : ((0 : Int) + (1 * wk + 0)) = ((0 : Int) + 0) := g11
  refine hv0 (fun g12 => ?_)
  replace g12 : (0 : Int) ≤ ((-83 : Int) + (1 * nn + 0)) := g12
  refine hv0 (fun g13 => ?_)
  replace g13 : (0 : Int) ≤ ((146 : Int) + ((-1) * nn + 0)) := g13
  refine hvC ?_
  show (0 : Int) ≤ ((-1 : Int) + 0) ∧ True
  subst g0
  subst g3
  subst g4
  subst g5
  subst g9
  subst g10
  have h75 := (q82_75 hq (p := pp) (by omega) (by omega)).1
  obtain ⟨y1, y2, y3, y4, y5, y6⟩ := q82_it hq (p := pp) (k := k) (by omega) (by omega) rfl (by omega) (by omega)
  obtain ⟨v1, v2, v3⟩ := chW_pos y1
  have v4 := v3 (by omega)
  exact ⟨by omega, trivial⟩

theorem tL_82_3_12 : vL rQ 82 hl_82_3_12 := by
  intro R G ps idx hl hq
  obtain ⟨b, q0, e, rfl⟩ := hl3 hl
  replace hq : q82 b q0 e (R 58) (R 67) (R 68) (R 60) := rqo_82_3 hq
  refine hv6 (fun pp tt g0 => ?_)
  replace g0 : R 67 (((0 : Int) + 0) + ((1 : Nat) : Int) * pp) = tt := g0
  replace g0 : R 67 (pp) = tt := hF (R := R 67) g0 (ad_142 pp)
  show hV _ _ _ _ _ [b, q0, e, pp, tt]
  refine hv0 (fun g1 => ?_)
  replace g1 : (0 : Int) ≤ ((0 : Int) + (1 * pp + 0)) := g1
  refine hv0 (fun g2 => ?_)
  replace g2 : (0 : Int) ≤ ((-1 : Int) + (1 * q0 + ((-1) * pp + 0))) := g2
  refine hv6 (fun k kk g3 => ?_)
  replace g3 : R 58 (((22692 : Int) + (1 * b + 0)) + ((2 : Nat) : Int) * k) = kk := g3
  replace g3 : iK (R 58) b (k) = kk := hF (R := R 58) g3 (ad_32 b k)
  show hV _ _ _ _ _ [b, q0, e, pp, tt, k, kk]
  refine hv2 (fun V hag4 g4 => ?_)
  replace g4 : R 58 ((8295 : Int) + (1 * b + (40 * tt + 0))) = V := g4
  replace hag4 : (0 : Int) ≤ ((8295 : Int) + (1 * b + (40 * tt + 0))) := hag4
  replace g4 : dV (R 58) b (tt) = V := hF (R := R 58) g4 (ad_143 b tt)
  show hV _ _ _ _ _ [b, q0, e, pp, tt, k, kk, V]
  refine hv2 (fun N hag5 g5 => ?_)
  replace g5 : R 58 ((8296 : Int) + (1 * b + (40 * tt + 0))) = N := g5
  replace hag5 : (0 : Int) ≤ ((8296 : Int) + (1 * b + (40 * tt + 0))) := hag5
  replace g5 : dL (R 58) b (tt) = N := hF (R := R 58) g5 (ad_144 b tt)
  show hV _ _ _ _ _ [b, q0, e, pp, tt, k, kk, V, N]
  refine hv0 (fun g6 => ?_)
  replace g6 : (0 : Int) ≤ ((0 : Int) + (1 * k + ((-1) * V + 0))) := g6
  refine hv0 (fun g7 => ?_)
  replace g7 : (0 : Int) ≤ ((-1 : Int) + ((-1) * k + (1 * V + (1 * N + 0)))) := g7
  refine hv13 (fun g8 => ?_)
  replace g8 : ((0 : Int) + (1 * kk + 0)) = ((0 : Int) + 0) := g8
  refine hv2 (fun nn hag9 g9 => ?_)
  replace g9 : R 58 ((22693 : Int) + (1 * b + (2 * k + 0))) = nn := g9
  replace hag9 : (0 : Int) ≤ ((22693 : Int) + (1 * b + (2 * k + 0))) := hag9
  replace g9 : iN (R 58) b (k) = nn := hF (R := R 58) g9 (ad_33 b k)
  show hV _ _ _ _ _ [b, q0, e, pp, tt, k, kk, V, N, nn]
  refine hv2 (fun wk hag10 g10 => ?_)
  replace g10 : R 58 ((8292 : Int) + (1 * b + (40 * nn + 0))) = wk := g10
  replace hag10 : (0 : Int) ≤ ((8292 : Int) + (1 * b + (40 * nn + 0))) := hag10
  replace g10 : dK (R 58) b (nn) = wk := hF (R := R 58) g10 (ad_41 b nn)
  show hV _ _ _ _ _ [b, q0, e, pp, tt, k, kk, V, N, nn, wk]
  refine hv13 (fun g11 => ?_)
  replace g11 : ((0 : Int) + (1 * wk + 0)) = ((0 : Int) + 0) := g11
  refine hv0 (fun g12 => ?_)
  replace g12 : (0 : Int) ≤ ((-151 : Int) + (1 * nn + 0)) := g12
  refine hv0 (fun g13 => ?_)
  replace g13 : (0 : Int) ≤ ((1000000000 : Int) + ((-1) * nn + 0)) := g13
  refine hvC ?_
  show (0 : Int) ≤ ((-1 : Int) + 0) ∧ True
  subst g0
  subst g3
  subst g4
  subst g5
  subst g9
  subst g10
  have h75 := (q82_75 hq (p := pp) (by omega) (by omega)).1
  obtain ⟨y1, y2, y3, y4, y5, y6⟩ := q82_it hq (p := pp) (k := k) (by omega) (by omega) rfl (by omega) (by omega)
  obtain ⟨v1, v2, v3⟩ := chW_pos y1
  have v4 := v3 (by omega)
  exact ⟨by omega, trivial⟩

theorem tL_80_1_0 : vL rQ 80 hl_80_1_0 := by
  intro R G ps idx hl hq
  obtain ⟨n, rfl⟩ := hl1 hl
  replace hq : q80 n (R 67) := rqo_80_1 hq
  refine hv4 (hm2 (fun t k g0 => ?_))
  replace g0 : q81 t k (R 67) := rqo_81_2 g0
  refine hmb rfl ?_
  show hmt _ _ _ [n, t]
  refine hmb rfl ?_
  show hmt _ _ _ [n, t, k]
  refine hmn ?_
  show hV _ _ _ _ _ [n, t, k]
  refine hv13 (fun g1 => ?_)
  replace g1 : ((0 : Int) + (1 * k + 0)) = ((0 : Int) + (1 * n + 0)) := g1
  refine hv0 (fun g2 => ?_)
  replace g2 : (0 : Int) ≤ ((0 : Int) + (1 * t + 0)) := g2
  refine hv0 (fun g3 => ?_)
  replace g3 : (0 : Int) ≤ ((359 : Int) + ((-1) * t + 0)) := g3
  refine hvC ?_
  show (0 : Int) ≤ ((359 : Int) + ((-1) * n + 0)) ∧ True
  have q_ : n = k := by omega
  subst q_
  have t_ := q80_lt hq g0 (by omega) (by omega)
  exact ⟨by omega, trivial⟩

theorem tL_91_2_0 : vL rQ 91 hl_91_2_0 := by
  intro R G ps idx hl hq
  obtain ⟨t, n, rfl⟩ := hl2 hl
  replace hq : q91 t n (R 67) := rqo_91_2 hq
  refine hv4 (hm2 (fun t2 k g0 => ?_))
  replace g0 : q81 t2 k (R 67) := rqo_81_2 g0
  refine hmb rfl ?_
  show hmt _ _ _ [t, n, t2]
  refine hmb rfl ?_
  show hmt _ _ _ [t, n, t2, k]
  refine hmn ?_
  show hV _ _ _ _ _ [t, n, t2, k]
  refine hv13 (fun g1 => ?_)
  replace g1 : ((0 : Int) + (1 * t2 + 0)) = ((0 : Int) + (1 * t + 0)) := g1
  refine hv0 (fun g2 => ?_)
  replace g2 : (0 : Int) ≤ ((0 : Int) + ((-1) * n + (1 * k + 0))) := g2
  refine hvC ?_
  show (0 : Int) ≤ ((-1 : Int) + 0) ∧ True
  have q_ : t = t2 := by omega
  subst q_
  obtain ⟨p_, p0, p1, p2⟩ := hq
  exact absurd p2 (g0 p_ p0 (by omega))

theorem tL_88_5_0 : vL rQ 88 hl_88_5_0 := by
  intro R G ps idx hl hq
  obtain ⟨b, p, i, k, aT, rfl⟩ := hl5 hl
  replace hq : q88 b p i k aT (R 58) (R 67) (R 68) := rqo_88_5 hq
  refine hv2 (fun V hag0 g0 => ?_)
  replace g0 : R 58 ((8295 : Int) + (1 * b + (40 * i + 0))) = V := g0
  replace hag0 : (0 : Int) ≤ ((8295 : Int) + (1 * b + (40 * i + 0))) := hag0
  replace g0 : dV (R 58) b (i) = V := hF (R := R 58) g0 (ad_8 b i)
  show hV _ _ _ _ _ [b, p, i, k, aT, V]
  refine hv2 (fun N hag1 g1 => ?_)
  replace g1 : R 58 ((8296 : Int) + (1 * b + (40 * i + 0))) = N := g1
  replace hag1 : (0 : Int) ≤ ((8296 : Int) + (1 * b + (40 * i + 0))) := hag1
  replace g1 : dL (R 58) b (i) = N := hF (R := R 58) g1 (ad_9 b i)
  show hV _ _ _ _ _ [b, p, i, k, aT, V, N]
  refine hv0 (fun g2 => ?_)
  replace g2 : (0 : Int) ≤ ((0 : Int) + (1 * k + ((-1) * V + 0))) := g2
  refine hv0 (fun g3 => ?_)
  replace g3 : (0 : Int) ≤ ((-1 : Int) + ((-1) * k + (1 * V + (1 * N + 0)))) := g3
  refine hv4 (hm3 (fun b2 q2 e2 g4 => ?_))
  replace g4 : q82 b2 q2 e2 (R 58) (R 67) (R 68) (R 60) := rqo_82_3 g4
  refine hmb rfl ?_
  show hmt _ _ _ [b, p, i, k, aT, V, N, b2]
  refine hmb rfl ?_
  show hmt _ _ _ [b, p, i, k, aT, V, N, b2, q2]
  refine hmb rfl ?_
  show hmt _ _ _ [b, p, i, k, aT, V, N, b2, q2, e2]
  refine hmn ?_
  show hV _ _ _ _ _ [b, p, i, k, aT, V, N, b2, q2, e2]
  refine hv13 (fun g5 => ?_)
  replace g5 : ((0 : Int) + (1 * b2 + 0)) = ((0 : Int) + (1 * b + 0)) := g5
  refine hv0 (fun g6 => ?_)
  replace g6 : (0 : Int) ≤ ((-1 : Int) + ((-1) * p + (1 * q2 + 0))) := g6
  refine hvC ?_
  show (0 : Int) ≤ ((-1 : Int) + ((-1) * aT + (1 * e2 + 0))) ∧ (0 : Int) ≤ ((0 : Int) + (1 * aT + 0)) ∧ True
  have q_ : b = b2 := by omega
  subst q_
  subst g0
  subst g1
  obtain ⟨y1, y2, y3⟩ := q88_pl hq g4 (by omega) (by omega)
  have y4 := (q82_it g4 (p := p) (k := k) hq.1 (by omega) hq.2.1 (by omega) (by omega)).1
  exact ⟨by omega, by omega, trivial⟩

theorem tL_21_1_0 : vL rQ 21 hl_21_1_0 := by
  intro R G ps idx hl hq
  obtain ⟨e, rfl⟩ := hl1 hl
  replace hq : q21 e (R 66) := rqo_21_1 hq
  refine hv4 (hm1 (fun cs g0 => ?_))
  replace g0 : q20 cs (R 66) := rqo_20_1 g0
  refine hmb rfl ?_
  show hmt _ _ _ [e, cs]
  refine hmn ?_
  show hV _ _ _ _ _ [e, cs]
  refine hvC ?_
  show (0 : Int) ≤ ((0 : Int) + (1 * e + 0)) ∧ (0 : Int) ≤ ((-1 : Int) + ((-1) * e + (1 * cs + 0))) ∧ True
  obtain ⟨S, s1, s2⟩ := g0
  obtain ⟨t1, t2, -⟩ := s2 _ (hq S s1)
  exact ⟨by omega, by omega, trivial⟩

theorem tL_21_1_1 : vL rQ 21 hl_21_1_1 := by
  intro R G ps idx hl hq
  obtain ⟨e, rfl⟩ := hl1 hl
  replace hq : q21 e (R 66) := rqo_21_1 hq
  refine hv4 (hm1 (fun cs g0 => ?_))
  replace g0 : q20 cs (R 66) := rqo_20_1 g0
  refine hmb rfl ?_
  show hmt _ _ _ [e, cs]
  refine hmn ?_
  show hV _ _ _ _ _ [e, cs]
  refine hv2 (fun w hag1 g1 => ?_)
  replace g1 : R 66 ((0 : Int) + (1 * e + 0)) = w := g1
  replace hag1 : (0 : Int) ≤ ((0 : Int) + (1 * e + 0)) := hag1
  replace g1 : R 66 (e) = w := hF (R := R 66) g1 (ad_146 e)
  show hV _ _ _ _ _ [e, cs, w]
  refine hv9 (fun t3_0 t3_1 k g2 => ?_)
  replace g2 : hopS 3 t3_0 t3_1 k := g2
  refine hmc rfl (fun e3_0 => ?_)
  replace e3_0 : ((0 : Int) + (1 * w + 0)) = t3_0 := e3_0
  refine hmc rfl (fun e3_1 => ?_)
  replace e3_1 : ((24 : Int) + 0) = t3_1 := e3_1
  refine hmn ?_
  show hV _ _ _ _ _ [e, cs, w, k]
  refine hvC ?_
  show (0 : Int) ≤ ((0 : Int) + (1 * k + 0)) ∧ (0 : Int) ≤ ((17 : Int) + ((-1) * k + 0)) ∧ True
  have q_ : w = t3_0 := by omega
  subst q_
  have q_ : t3_1 = 24 := by omega
  subst q_
  subst g1
  have o1 := hop_ishr g2
  obtain ⟨y1, y2, y3, y4, y5, y6⟩ := gd g0 hq
  exact ⟨by omega, by omega, trivial⟩

theorem tL_21_1_2 : vL rQ 21 hl_21_1_2 := by
  intro R G ps idx hl hq
  obtain ⟨e, rfl⟩ := hl1 hl
  replace hq : q21 e (R 66) := rqo_21_1 hq
  refine hv4 (hm1 (fun cs g0 => ?_))
  replace g0 : q20 cs (R 66) := rqo_20_1 g0
  refine hmb rfl ?_
  show hmt _ _ _ [e, cs]
  refine hmn ?_
  show hV _ _ _ _ _ [e, cs]
  refine hv2 (fun w hag1 g1 => ?_)
  replace g1 : R 66 ((0 : Int) + (1 * e + 0)) = w := g1
  replace hag1 : (0 : Int) ≤ ((0 : Int) + (1 * e + 0)) := hag1
  replace g1 : R 66 (e) = w := hF (R := R 66) g1 (ad_146 e)
  show hV _ _ _ _ _ [e, cs, w]
  refine hv9 (fun t3_0 t3_1 k g2 => ?_)
  replace g2 : hopS 3 t3_0 t3_1 k := g2
  refine hmc rfl (fun e3_0 => ?_)
  replace e3_0 : ((0 : Int) + (1 * w + 0)) = t3_0 := e3_0
  refine hmc rfl (fun e3_1 => ?_)
  replace e3_1 : ((24 : Int) + 0) = t3_1 := e3_1
  refine hmn ?_
  show hV _ _ _ _ _ [e, cs, w, k]
  refine hv0 (fun g3 => ?_)
  replace g3 : (0 : Int) ≤ ((16 : Int) + ((-1) * k + 0)) := g3
  refine hvC ?_
  show (0 : Int) ≤ ((13 : Int) + ((-1) * k + 0)) ∧ True
  have q_ : w = t3_0 := by omega
  subst q_
  have q_ : t3_1 = 24 := by omega
  subst q_
  subst g1
  have o1 := hop_ishr g2
  obtain ⟨y1, y2, y3, y4, y5, y6⟩ := gd g0 hq
  exact ⟨by omega, trivial⟩

theorem tL_21_1_3 : vL rQ 21 hl_21_1_3 := by
  intro R G ps idx hl hq
  obtain ⟨e, rfl⟩ := hl1 hl
  replace hq : q21 e (R 66) := rqo_21_1 hq
  refine hv4 (hm1 (fun cs g0 => ?_))
  replace g0 : q20 cs (R 66) := rqo_20_1 g0
  refine hmb rfl ?_
  show hmt _ _ _ [e, cs]
  refine hmn ?_
  show hV _ _ _ _ _ [e, cs]
  refine hv2 (fun w hag1 g1 => ?_)
  replace g1 : R 66 ((0 : Int) + (1 * e + 0)) = w := g1
  replace hag1 : (0 : Int) ≤ ((0 : Int) + (1 * e + 0)) := hag1
  replace g1 : R 66 (e) = w := hF (R := R 66) g1 (ad_146 e)
  show hV _ _ _ _ _ [e, cs, w]
  refine hv9 (fun t3_0 t3_1 k g2 => ?_)
  replace g2 : hopS 3 t3_0 t3_1 k := g2
  refine hmc rfl (fun e3_0 => ?_)
  replace e3_0 : ((0 : Int) + (1 * w + 0)) = t3_0 := e3_0
  refine hmc rfl (fun e3_1 => ?_)
  replace e3_1 : ((24 : Int) + 0) = t3_1 := e3_1
  refine hmn ?_
  show hV _ _ _ _ _ [e, cs, w, k]
  refine hv13 (fun g3 => ?_)
  replace g3 : ((0 : Int) + (1 * k + 0)) = ((1 : Int) + 0) := g3
  refine hvC ?_
  show (0 : Int) ≤ ((-2 : Int) + ((-1) * e + (1 * cs + 0))) ∧ True
  have q_ : w = t3_0 := by omega
  subst q_
  have q_ : t3_1 = 24 := by omega
  subst q_
  have q_ : k = 1 := by omega
  subst q_
  subst g1
  have o1 := hop_ishr g2
  obtain ⟨y1, y2, y3, y4, y5, y6⟩ := gd g0 hq
  exact ⟨by omega, trivial⟩

theorem tL_21_1_4 : vL rQ 21 hl_21_1_4 := by
  intro R G ps idx hl hq
  obtain ⟨e, rfl⟩ := hl1 hl
  replace hq : q21 e (R 66) := rqo_21_1 hq
  refine hv4 (hm1 (fun cs g0 => ?_))
  replace g0 : q20 cs (R 66) := rqo_20_1 g0
  refine hmb rfl ?_
  show hmt _ _ _ [e, cs]
  refine hmn ?_
  show hV _ _ _ _ _ [e, cs]
  refine hv2 (fun w hag1 g1 => ?_)
  replace g1 : R 66 ((0 : Int) + (1 * e + 0)) = w := g1
  replace hag1 : (0 : Int) ≤ ((0 : Int) + (1 * e + 0)) := hag1
  replace g1 : R 66 (e) = w := hF (R := R 66) g1 (ad_146 e)
  show hV _ _ _ _ _ [e, cs, w]
  refine hv9 (fun t3_0 t3_1 k g2 => ?_)
  replace g2 : hopS 3 t3_0 t3_1 k := g2
  refine hmc rfl (fun e3_0 => ?_)
  replace e3_0 : ((0 : Int) + (1 * w + 0)) = t3_0 := e3_0
  refine hmc rfl (fun e3_1 => ?_)
  replace e3_1 : ((24 : Int) + 0) = t3_1 := e3_1
  refine hmn ?_
  show hV _ _ _ _ _ [e, cs, w, k]
  refine hv9 (fun t4_0 t4_1 n g3 => ?_)
  replace g3 : hopS 0 t4_0 t4_1 n := g3
  refine hmc rfl (fun e4_0 => ?_)
  replace e4_0 : ((0 : Int) + (1 * w + 0)) = t4_0 := e4_0
  refine hmc rfl (fun e4_1 => ?_)
  replace e4_1 : ((16777215 : Int) + 0) = t4_1 := e4_1
  refine hmn ?_
  show hV _ _ _ _ _ [e, cs, w, k, n]
  refine hv13 (fun g4 => ?_)
  replace g4 : ((0 : Int) + (1 * k + 0)) = ((0 : Int) + 0) := g4
  refine hvC ?_
  show (0 : Int) ≤ ((150 : Int) + ((-1) * n + 0)) ∧ True
  have q_ : w = t3_0 := by omega
  subst q_
  have q_ : t3_1 = 24 := by omega
  subst q_
  have q_ : w = t4_0 := by omega
  subst q_
  have q_ : t4_1 = 16777215 := by omega
  subst q_
  have q_ : k = 0 := by omega
  subst q_
  subst g1
  have o1 := hop_ishr g2
  have o2 := hop_iand g3
  obtain ⟨y1, y2, y3, y4, y5, y6⟩ := gd g0 hq
  exact ⟨by omega, trivial⟩

theorem tL_21_1_5 : vL rQ 21 hl_21_1_5 := by
  intro R G ps idx hl hq
  obtain ⟨e, rfl⟩ := hl1 hl
  replace hq : q21 e (R 66) := rqo_21_1 hq
  refine hv4 (hm1 (fun cs g0 => ?_))
  replace g0 : q20 cs (R 66) := rqo_20_1 g0
  refine hmb rfl ?_
  show hmt _ _ _ [e, cs]
  refine hmn ?_
  show hV _ _ _ _ _ [e, cs]
  refine hv2 (fun w hag1 g1 => ?_)
  replace g1 : R 66 ((0 : Int) + (1 * e + 0)) = w := g1
  replace hag1 : (0 : Int) ≤ ((0 : Int) + (1 * e + 0)) := hag1
  replace g1 : R 66 (e) = w := hF (R := R 66) g1 (ad_146 e)
  show hV _ _ _ _ _ [e, cs, w]
  refine hv9 (fun t3_0 t3_1 k g2 => ?_)
  replace g2 : hopS 3 t3_0 t3_1 k := g2
  refine hmc rfl (fun e3_0 => ?_)
  replace e3_0 : ((0 : Int) + (1 * w + 0)) = t3_0 := e3_0
  refine hmc rfl (fun e3_1 => ?_)
  replace e3_1 : ((24 : Int) + 0) = t3_1 := e3_1
  refine hmn ?_
  show hV _ _ _ _ _ [e, cs, w, k]
  refine hv9 (fun t4_0 t4_1 n g3 => ?_)
  replace g3 : hopS 0 t4_0 t4_1 n := g3
  refine hmc rfl (fun e4_0 => ?_)
  replace e4_0 : ((0 : Int) + (1 * w + 0)) = t4_0 := e4_0
  refine hmc rfl (fun e4_1 => ?_)
  replace e4_1 : ((16777215 : Int) + 0) = t4_1 := e4_1
  refine hmn ?_
  show hV _ _ _ _ _ [e, cs, w, k, n]
  refine hv13 (fun g4 => ?_)
  replace g4 : ((0 : Int) + (1 * k + 0)) = ((0 : Int) + 0) := g4
  refine hv0 (fun g5 => ?_)
  replace g5 : (0 : Int) ≤ ((-83 : Int) + (1 * n + 0)) := g5
  refine hvC ?_
  show (0 : Int) ≤ ((-147 : Int) + (1 * n + 0)) ∧ True
  have q_ : w = t3_0 := by omega
  subst q_
  have q_ : t3_1 = 24 := by omega
  subst q_
  have q_ : w = t4_0 := by omega
  subst q_
  have q_ : t4_1 = 16777215 := by omega
  subst q_
  have q_ : k = 0 := by omega
  subst q_
  subst g1
  have o1 := hop_ishr g2
  have o2 := hop_iand g3
  obtain ⟨y1, y2, y3, y4, y5, y6⟩ := gd g0 hq
  exact ⟨by omega, trivial⟩

theorem tL_21_1_6 : vL rQ 21 hl_21_1_6 := by
  intro R G ps idx hl hq
  obtain ⟨e, rfl⟩ := hl1 hl
  replace hq : q21 e (R 66) := rqo_21_1 hq
  refine hv4 (hm1 (fun cs g0 => ?_))
  replace g0 : q20 cs (R 66) := rqo_20_1 g0
  refine hmb rfl ?_
  show hmt _ _ _ [e, cs]
  refine hmn ?_
  show hV _ _ _ _ _ [e, cs]
  refine hv2 (fun w hag1 g1 => ?_)
  replace g1 : R 66 ((0 : Int) + (1 * e + 0)) = w := g1
  replace hag1 : (0 : Int) ≤ ((0 : Int) + (1 * e + 0)) := hag1
  replace g1 : R 66 (e) = w := hF (R := R 66) g1 (ad_146 e)
  show hV _ _ _ _ _ [e, cs, w]
  refine hv9 (fun t3_0 t3_1 k g2 => ?_)
  replace g2 : hopS 3 t3_0 t3_1 k := g2
  refine hmc rfl (fun e3_0 => ?_)
  replace e3_0 : ((0 : Int) + (1 * w + 0)) = t3_0 := e3_0
  refine hmc rfl (fun e3_1 => ?_)
  replace e3_1 : ((24 : Int) + 0) = t3_1 := e3_1
  refine hmn ?_
  show hV _ _ _ _ _ [e, cs, w, k]
  refine hv9 (fun t4_0 t4_1 n g3 => ?_)
  replace g3 : hopS 0 t4_0 t4_1 n := g3
  refine hmc rfl (fun e4_0 => ?_)
  replace e4_0 : ((0 : Int) + (1 * w + 0)) = t4_0 := e4_0
  refine hmc rfl (fun e4_1 => ?_)
  replace e4_1 : ((16777215 : Int) + 0) = t4_1 := e4_1
  refine hmn ?_
  show hV _ _ _ _ _ [e, cs, w, k, n]
  refine hv13 (fun g4 => ?_)
  replace g4 : ((0 : Int) + (1 * k + 0)) = ((17 : Int) + 0) := g4
  refine hvC ?_
  show (0 : Int) ≤ ((-1 : Int) + (1 * cs + ((-1) * n + 0))) ∧ True
  have q_ : w = t3_0 := by omega
  subst q_
  have q_ : t3_1 = 24 := by omega
  subst q_
  have q_ : w = t4_0 := by omega
  subst q_
  have q_ : t4_1 = 16777215 := by omega
  subst q_
  have q_ : k = 17 := by omega
  subst q_
  subst g1
  have o1 := hop_ishr g2
  have o2 := hop_iand g3
  obtain ⟨y1, y2, -⟩ := gd g0 (q21_j hq (Or.inr (by omega)))
  exact ⟨by omega, trivial⟩

theorem tL_21_1_7 : vL rQ 21 hl_21_1_7 := by
  intro R G ps idx hl hq
  obtain ⟨e, rfl⟩ := hl1 hl
  replace hq : q21 e (R 66) := rqo_21_1 hq
  refine hv4 (hm1 (fun cs g0 => ?_))
  replace g0 : q20 cs (R 66) := rqo_20_1 g0
  refine hmb rfl ?_
  show hmt _ _ _ [e, cs]
  refine hmn ?_
  show hV _ _ _ _ _ [e, cs]
  refine hv2 (fun w hag1 g1 => ?_)
  replace g1 : R 66 ((0 : Int) + (1 * e + 0)) = w := g1
  replace hag1 : (0 : Int) ≤ ((0 : Int) + (1 * e + 0)) := hag1
  replace g1 : R 66 (e) = w := hF (R := R 66) g1 (ad_146 e)
  show hV _ _ _ _ _ [e, cs, w]
  refine hv9 (fun t3_0 t3_1 k g2 => ?_)
  replace g2 : hopS 3 t3_0 t3_1 k := g2
  refine hmc rfl (fun e3_0 => ?_)
  replace e3_0 : ((0 : Int) + (1 * w + 0)) = t3_0 := e3_0
  refine hmc rfl (fun e3_1 => ?_)
  replace e3_1 : ((24 : Int) + 0) = t3_1 := e3_1
  refine hmn ?_
  show hV _ _ _ _ _ [e, cs, w, k]
  refine hv9 (fun t4_0 t4_1 n g3 => ?_)
  replace g3 : hopS 0 t4_0 t4_1 n := g3
  refine hmc rfl (fun e4_0 => ?_)
  replace e4_0 : ((0 : Int) + (1 * w + 0)) = t4_0 := e4_0
  refine hmc rfl (fun e4_1 => ?_)
  replace e4_1 : ((16777215 : Int) + 0) = t4_1 := e4_1
  refine hmn ?_
  show hV _ _ _ _ _ [e, cs, w, k, n]
  refine hv5 (fun g4 => ?_)
  replace g4 : ild ((0 : Int) + (1 * k + 0)) := rqo_93_1 g4
  simp only [Int.zero_add, Int.one_mul, Int.add_zero] at g4
  refine hvC ?_
  show (0 : Int) ≤ ((-1 : Int) + (1 * cs + ((-1) * n + 0))) ∧ True
  have q_ : w = t3_0 := by omega
  subst q_
  have q_ : t3_1 = 24 := by omega
  subst q_
  have q_ : w = t4_0 := by omega
  subst q_
  have q_ : t4_1 = 16777215 := by omega
  subst q_
  subst g1
  have o1 := hop_ishr g2
  have o2 := hop_iand g3
  obtain ⟨y1, y2, -⟩ := gd g0 (q21_j hq (Or.inl (by rw [o1]; exact g4)))
  exact ⟨by omega, trivial⟩

theorem tL_24_0_0 : vL rQ 24 hl_24_0_0 := by
  intro R G ps idx hl hq
  obtain rfl := hl0 hl
  replace hq : G 27 ≤ 0 ∨ 2 ≤ R 58 198501 := rqo_24_0 hq
  refine hv13 (fun g0 => ?_)
  replace g0 : ((0 : Int) + (1 * idx + 0)) = ((198501 : Int) + 0) := g0
  refine hv3 (fun cs g1 => ?_)
  replace g1 : G 27 = cs := g1
  show hV _ _ _ _ _ [idx, cs]
  refine hv0 (fun g2 => ?_)
  replace g2 : (0 : Int) ≤ ((-1 : Int) + (1 * cs + 0)) := g2
  refine hv2 (fun w hag3 g3 => ?_)
  replace g3 : R 58 ((0 : Int) + (1 * idx + 0)) = w := g3
  replace hag3 : (0 : Int) ≤ ((0 : Int) + (1 * idx + 0)) := hag3
  replace g3 : R 58 (idx) = w := hF (R := R 58) g3 (ad_99 idx)
  show hV _ _ _ _ _ [idx, cs, w]
  refine hvC ?_
  show (0 : Int) ≤ ((-2 : Int) + (1 * w + 0)) ∧ True
  have e : R 58 idx = w := by assumption
  rw [show idx = 198501 by omega] at e
  exact ⟨by omega, trivial⟩

theorem tL_22_1_0 : vL rQ 22 hl_22_1_0 := by
  intro R G ps idx hl hq
  obtain ⟨f, rfl⟩ := hl1 hl
  replace hq : q22 f (R 66) (R 58) := rqo_22_1 hq
  refine hv4 (hm1 (fun cs g0 => ?_))
  replace g0 : q20 cs (R 66) := rqo_20_1 g0
  refine hmb rfl ?_
  show hmt _ _ _ [f, idx, cs]
  refine hmn ?_
  show hV _ _ _ _ _ [f, idx, cs]
  refine hv7 (fun j g1 => ?_)
  replace g1 : ((10 : Nat) : Int) * j = ((-229441 : Int) + (1 * idx + 0)) := g1
  show hV _ _ _ _ _ [f, idx, cs, j]
  refine hv0 (fun g2 => ?_)
  replace g2 : (0 : Int) ≤ ((0 : Int) + (1 * j + 0)) := g2
  refine hv0 (fun g3 => ?_)
  replace g3 : (0 : Int) ≤ ((-1 : Int) + (1 * f + ((-1) * j + 0))) := g3
  refine hv2 (fun w hag4 g4 => ?_)
  replace g4 : R 58 ((0 : Int) + (1 * idx + 0)) = w := g4
  replace hag4 : (0 : Int) ≤ ((0 : Int) + (1 * idx + 0)) := hag4
  replace g4 : R 58 (idx) = w := hF (R := R 58) g4 (ad_99 idx)
  show hV _ _ _ _ _ [f, idx, cs, j, w]
  refine hvC ?_
  show (0 : Int) ≤ ((0 : Int) + (1 * w + 0)) ∧ (0 : Int) ≤ ((-1 : Int) + (1 * cs + ((-1) * w + 0))) ∧ True
  obtain ⟨S, s1, s2⟩ := g0
  have e := hq j (by omega) (by omega)
  rw [show 229441 + 10 * j = idx by omega] at e
  obtain ⟨t1, t2, -⟩ := s2 _ (e S s1)
  have e2 : R 58 idx = w := by assumption
  exact ⟨by omega, by omega, trivial⟩

theorem tL_23_0_0 : vL rQ 23 hl_23_0_0 := by
  intro R G ps idx hl hq
  obtain rfl := hl0 hl
  replace hq : q23 (G 27) (G 28) (R 66) (R 58) := rqo_23_0 hq
  refine hv3 (fun cs g0 => ?_)
  replace g0 : G 27 = cs := g0
  show hV _ _ _ _ _ [cs]
  refine hvC ?_
  show (0 : Int) ≤ ((2000 : Int) + ((-1) * cs + 0)) ∧ True
  obtain ⟨k1, k2⟩ := hq
  exact ⟨by omega, trivial⟩

theorem tL_23_0_1 : vL rQ 23 hl_23_0_1 := by
  intro R G ps idx hl hq
  obtain rfl := hl0 hl
  replace hq : q23 (G 27) (G 28) (R 66) (R 58) := rqo_23_0 hq
  refine hv3 (fun cs g0 => ?_)
  replace g0 : G 27 = cs := g0
  show hV _ _ _ _ _ [cs]
  refine hv3 (fun aT g1 => ?_)
  replace g1 : G 28 = aT := g1
  show hV _ _ _ _ _ [cs, aT]
  refine hv0 (fun g2 => ?_)
  replace g2 : (0 : Int) ≤ ((-1 : Int) + (1 * cs + 0)) := g2
  refine hvC ?_
  show (0 : Int) ≤ ((0 : Int) + (1 * aT + 0)) ∧ (0 : Int) ≤ ((-1 : Int) + (1 * cs + ((-1) * aT + 0))) ∧ True
  obtain ⟨k1, k2⟩ := hq
  rcases k2 with k2 | ⟨⟨S, s1, s2⟩, h2, -⟩
  · exfalso
    omega
  · obtain ⟨t1, t2, -⟩ := s2 _ (h2 S s1)
    exact ⟨by omega, by omega, trivial⟩

theorem tL_92_1_0 : vL rQ 92 hl_92_1_0 := by
  intro R G ps idx hl hq
  obtain ⟨k, rfl⟩ := hl1 hl
  replace hq : k ≠ 10 := rqo_92_1 hq
  refine hv13 (fun g0 => ?_)
  replace g0 : ((0 : Int) + (1 * k + 0)) = ((10 : Int) + 0) := g0
  refine hvC ?_
  show (0 : Int) ≤ ((-1 : Int) + 0) ∧ True
  exact absurd (by omega) hq

theorem tG_0 : ∀ R G, hV (hqq rQ R G) R G (fun e => hge e hg_0.2) hg_0.1 [] := by
  intro R G
  refine hv9 (fun a b p g0 => ?_)
  replace g0 : hopS 7 a b p := g0
  refine hmb rfl ?_
  show hmt _ _ _ [a]
  refine hmb rfl ?_
  show hmt _ _ _ [a, b]
  refine hmn ?_
  show hV _ _ _ _ _ [a, b, p]
  refine hv0 (fun g1 => ?_)
  replace g1 : (0 : Int) ≤ ((-1 : Int) + (1 * a + 0)) := g1
  refine hv0 (fun g2 => ?_)
  replace g2 : (0 : Int) ≤ ((-2 : Int) + (1 * b + 0)) := g2
  refine hv12 (fun g3a g3b g3 => ?_)
  replace g3a : (0 : Int) ≤ ((0 : Int) + (1 * a + 0)) := g3a
  replace g3b : (0 : Int) ≤ ((0 : Int) + (1 * b + 0)) := g3b
  replace g3 : ((0 : Int) + (1 * a + 0)) * ((0 : Int) + (1 * b + 0)) ≤ 9223372036854775807 := g3
  refine hvC ?_
  show (0 : Int) ≤ ((0 : Int) + ((-2) * a + (1 * p + 0))) ∧ True
  have t_ := g_mul g0 (by omega) (by omega) (by simpa using g3)
  exact ⟨by omega, trivial⟩

theorem tG_1 : ∀ R G, hV (hqq rQ R G) R G (fun e => hge e hg_1.2) hg_1.1 [] := by
  intro R G
  refine hv9 (fun a b x g0 => ?_)
  replace g0 : hopS 8 a b x := g0
  refine hmb rfl ?_
  show hmt _ _ _ [a]
  refine hmb rfl ?_
  show hmt _ _ _ [a, b]
  refine hmn ?_
  show hV _ _ _ _ _ [a, b, x]
  refine hv0 (fun g1 => ?_)
  replace g1 : (0 : Int) ≤ ((0 : Int) + (1 * a + 0)) := g1
  refine hv0 (fun g2 => ?_)
  replace g2 : (0 : Int) ≤ ((9223372036854775807 : Int) + ((-1) * a + 0)) := g2
  refine hv0 (fun g3 => ?_)
  replace g3 : (0 : Int) ≤ ((9223372036854775807 : Int) + ((-1) * b + 0)) := g3
  refine hv0 (fun g4 => ?_)
  replace g4 : (0 : Int) ≤ ((-1 : Int) + (1 * b + 0)) := g4
  refine hv0 (fun g5 => ?_)
  replace g5 : (0 : Int) ≤ ((-1 : Int) + (1 * x + 0)) := g5
  refine hvC ?_
  show (0 : Int) ≤ ((0 : Int) + (1 * a + ((-1) * b + 0))) ∧ True
  have t_ := g_div g0 (by omega) (by omega) (by omega) (by omega)
  obtain ⟨y1, y2, y3, y4⟩ := g_div_le (a := a) (b := b) (by omega) (by omega)
  rw [← t_] at y1 y2 y3 y4
  exact ⟨by omega, trivial⟩

theorem tG_2 : ∀ R G, hV (hqq rQ R G) R G (fun e => hge e hg_2.2) hg_2.1 [] := by
  intro R G
  refine hv9 (fun a b x g0 => ?_)
  replace g0 : hopS 8 a b x := g0
  refine hmb rfl ?_
  show hmt _ _ _ [a]
  refine hmb rfl ?_
  show hmt _ _ _ [a, b]
  refine hmn ?_
  show hV _ _ _ _ _ [a, b, x]
  refine hv0 (fun g1 => ?_)
  replace g1 : (0 : Int) ≤ ((0 : Int) + (1 * a + 0)) := g1
  refine hv0 (fun g2 => ?_)
  replace g2 : (0 : Int) ≤ ((9223372036854775807 : Int) + ((-1) * a + 0)) := g2
  refine hv0 (fun g3 => ?_)
  replace g3 : (0 : Int) ≤ ((9223372036854775807 : Int) + ((-1) * b + 0)) := g3
  refine hv0 (fun g4 => ?_)
  replace g4 : (0 : Int) ≤ ((-2 : Int) + (1 * b + 0)) := g4
  refine hvC ?_
  show (0 : Int) ≤ ((0 : Int) + (1 * x + 0)) ∧ (0 : Int) ≤ ((0 : Int) + (1 * a + ((-2) * x + 0))) ∧ True
  have t_ := g_div g0 (by omega) (by omega) (by omega) (by omega)
  obtain ⟨y1, y2, y3, y4⟩ := g_div_le (a := a) (b := b) (by omega) (by omega)
  rw [← t_] at y1 y2 y3 y4
  exact ⟨by omega, by omega, trivial⟩

theorem tG_3 : ∀ R G, hV (hqq rQ R G) R G (fun e => hge e hg_3.2) hg_3.1 [] := by
  intro R G
  refine hv9 (fun a b x g0 => ?_)
  replace g0 : hopS 8 a b x := g0
  refine hmb rfl ?_
  show hmt _ _ _ [a]
  refine hmb rfl ?_
  show hmt _ _ _ [a, b]
  refine hmn ?_
  show hV _ _ _ _ _ [a, b, x]
  refine hv0 (fun g1 => ?_)
  replace g1 : (0 : Int) ≤ ((0 : Int) + (1 * a + 0)) := g1
  refine hv0 (fun g2 => ?_)
  replace g2 : (0 : Int) ≤ ((9223372036854775807 : Int) + ((-1) * a + 0)) := g2
  refine hv0 (fun g3 => ?_)
  replace g3 : (0 : Int) ≤ ((9223372036854775807 : Int) + ((-1) * b + 0)) := g3
  refine hv0 (fun g4 => ?_)
  replace g4 : (0 : Int) ≤ ((-1 : Int) + (1 * b + 0)) := g4
  refine hvC ?_
  show (0 : Int) ≤ ((0 : Int) + (1 * x + 0)) ∧ (0 : Int) ≤ ((0 : Int) + (1 * a + ((-1) * x + 0))) ∧ True
  have t_ := g_div g0 (by omega) (by omega) (by omega) (by omega)
  obtain ⟨y1, y2, y3, y4⟩ := g_div_le (a := a) (b := b) (by omega) (by omega)
  rw [← t_] at y1 y2 y3 y4
  exact ⟨by omega, by omega, trivial⟩

