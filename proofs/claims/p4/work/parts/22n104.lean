/-! RULES: theorems (printed by tools/t63.py) -/
theorem tS_71_7_0 : vS rQ 71 hs_71_7_0 := by
  refine ⟨fun _ => ?_, fun h => absurd h (by decide)⟩
  intro R G ps idx val hl i0 i1 hq
  replace i1 : idx < 238220 := i1
  obtain ⟨b, w, aT, n, eN, k, p, rfl⟩ := hl7 hl
  replace hq : q71 b w aT n eN k p (R 58) := rqo_71_7 hq
  refine hv13 (fun g0 => ?_)
  replace g0 : ((0 : Int) + (1 * idx + 0)) = ((4 : Int) + (1 * w + 0)) := g0
  refine hv7 (fun i g1 => ?_)
  replace g1 : ((40 : Nat) : Int) * i = ((-8292 : Int) + ((-1) * b + (1 * w + 0))) := g1
  show hV _ _ _ _ _ [b, w, aT, n, eN, k, p, idx, val, i]
  refine hv0 (fun g2 => ?_)
  replace g2 : (0 : Int) ≤ ((0 : Int) + (1 * i + 0)) := g2
  refine hv0 (fun g3 => ?_)
  replace g3 : (0 : Int) ≤ ((359 : Int) + ((-1) * i + 0)) := g3
  refine hv8 (fun bq br g4 g4a g4b => ?_)
  replace g4 : ((0 : Int) + (1 * b + 0)) = ((39700 : Nat) : Int) * bq + br := g4
  replace g4b : br < ((39700 : Nat) : Int) := g4b
  show hV _ _ _ _ _ [b, w, aT, n, eN, k, p, idx, val, i, bq, br]
  refine hv13 (fun g5 => ?_)
  replace g5 : ((0 : Int) + (1 * br + 0)) = ((0 : Int) + 0) := g5
  refine hvC ?_
  refine ⟨rqi_71_7 (?_ : q71 ((0 : Int) + (1 * b + 0)) ((0 : Int) + (1 * w + 0)) ((0 : Int) + (1 * aT + 0)) ((0 : Int) + (1 * n + 0)) ((0 : Int) + (1 * eN + 0)) ((0 : Int) + (1 * k + 0)) ((0 : Int) + (1 * p + 0)) ((hupR R 58 idx val) 58)), trivial⟩
  try simp only [Int.zero_add, Int.one_mul, Int.add_zero]
  exact q71_len hq (fun x hx => hup_n (by omega))

theorem tS_71_7_1 : vS rQ 71 hs_71_7_1 := by
  refine ⟨fun _ => ?_, fun h => absurd h (by decide)⟩
  intro R G ps idx val hl i0 i1 hq
  replace i1 : idx < 238220 := i1
  obtain ⟨b, w, aT, n, eN, k, p, rfl⟩ := hl7 hl
  replace hq : q71 b w aT n eN k p (R 58) := rqo_71_7 hq
  refine hv8 (fun q r g0 g0a g0b => ?_)
  replace g0 : ((0 : Int) + (1 * idx + 0)) = ((39700 : Nat) : Int) * q + r := g0
  replace g0b : r < ((39700 : Nat) : Int) := g0b
  show hV _ _ _ _ _ [b, w, aT, n, eN, k, p, idx, val, q, r]
  refine hv13 (fun g1 => ?_)
  replace g1 : ((0 : Int) + (39700 * q + 0)) = ((0 : Int) + (1 * b + 0)) := g1
  refine hv7 (fun j g2 => ?_)
  replace g2 : ((2 : Nat) : Int) * j = ((-22692 : Int) + (1 * r + 0)) := g2
  show hV _ _ _ _ _ [b, w, aT, n, eN, k, p, idx, val, q, r, j]
  refine hv13 (fun g3 => ?_)
  replace g3 : ((0 : Int) + (1 * j + 0)) = ((0 : Int) + ((-1) * n + (1 * k + 0))) := g3
  refine hv8 (fun bq br g4 g4a g4b => ?_)
  replace g4 : ((0 : Int) + (1 * b + 0)) = ((39700 : Nat) : Int) * bq + br := g4
  replace g4b : br < ((39700 : Nat) : Int) := g4b
  show hV _ _ _ _ _ [b, w, aT, n, eN, k, p, idx, val, q, r, j, bq, br]
  refine hv13 (fun g5 => ?_)
  replace g5 : ((0 : Int) + (1 * br + 0)) = ((0 : Int) + 0) := g5
  refine hvC ?_
  refine ⟨rqi_71_7 (?_ : q71 ((0 : Int) + (1 * b + 0)) ((0 : Int) + (1 * w + 0)) ((0 : Int) + (1 * aT + 0)) ((0 : Int) + (1 * n + 0)) ((0 : Int) + (1 * eN + 0)) ((0 : Int) + (1 * k + 0)) ((1 : Int) + 0) ((hupR R 58 idx val) 58)), trivial⟩
  try simp only [Int.zero_add, Int.one_mul, Int.add_zero]
  exact q71_st (c := idx) hq (by omega) (fun x hx => hup_n hx)

theorem tS_71_7_2 : vS rQ 71 hs_71_7_2 := by
  refine ⟨fun _ => ?_, fun h => absurd h (by decide)⟩
  intro R G ps idx val hl i0 i1 hq
  replace i1 : idx < 238220 := i1
  obtain ⟨b, w, aT, n, eN, k, p, rfl⟩ := hl7 hl
  replace hq : q71 b w aT n eN k p (R 58) := rqo_71_7 hq
  refine hv8 (fun q r g0 g0a g0b => ?_)
  replace g0 : ((0 : Int) + (1 * idx + 0)) = ((39700 : Nat) : Int) * q + r := g0
  replace g0b : r < ((39700 : Nat) : Int) := g0b
  show hV _ _ _ _ _ [b, w, aT, n, eN, k, p, idx, val, q, r]
  refine hv13 (fun g1 => ?_)
  replace g1 : ((0 : Int) + (39700 * q + 0)) = ((0 : Int) + (1 * b + 0)) := g1
  refine hv7 (fun j g2 => ?_)
  replace g2 : ((2 : Nat) : Int) * j = ((-22693 : Int) + (1 * r + 0)) := g2
  show hV _ _ _ _ _ [b, w, aT, n, eN, k, p, idx, val, q, r, j]
  refine hv13 (fun g3 => ?_)
  replace g3 : ((0 : Int) + (1 * j + 0)) = ((0 : Int) + ((-1) * n + (1 * k + 0))) := g3
  refine hv8 (fun bq br g4 g4a g4b => ?_)
  replace g4 : ((0 : Int) + (1 * b + 0)) = ((39700 : Nat) : Int) * bq + br := g4
  replace g4b : br < ((39700 : Nat) : Int) := g4b
  show hV _ _ _ _ _ [b, w, aT, n, eN, k, p, idx, val, q, r, j, bq, br]
  refine hv13 (fun g5 => ?_)
  replace g5 : ((0 : Int) + (1 * br + 0)) = ((0 : Int) + 0) := g5
  refine hvC ?_
  refine ⟨rqi_71_7 (?_ : q71 ((0 : Int) + (1 * b + 0)) ((0 : Int) + (1 * w + 0)) ((0 : Int) + (1 * aT + 0)) ((0 : Int) + (1 * n + 0)) ((0 : Int) + (1 * eN + 0)) ((0 : Int) + (1 * k + 0)) ((1 : Int) + 0) ((hupR R 58 idx val) 58)), trivial⟩
  try simp only [Int.zero_add, Int.one_mul, Int.add_zero]
  exact q71_st (c := idx) hq (by omega) (fun x hx => hup_n hx)

theorem tS_72_8_0 : vS rQ 72 hs_72_8_0 := by
  refine ⟨fun _ => ?_, fun h => absurd h (by decide)⟩
  intro R G ps idx val hl i0 i1 hq
  replace i1 : idx < 238220 := i1
  obtain ⟨b, w, aT, n, eN, k, p, old, rfl⟩ := hl8 hl
  replace hq : q72 b w aT n eN k p old (R 58) := rqo_72_8 hq
  refine hv8 (fun q r g0 g0a g0b => ?_)
  replace g0 : ((0 : Int) + (1 * idx + 0)) = ((39700 : Nat) : Int) * q + r := g0
  replace g0b : r < ((39700 : Nat) : Int) := g0b
  show hV _ _ _ _ _ [b, w, aT, n, eN, k, p, old, idx, val, q, r]
  refine hv13 (fun g1 => ?_)
  replace g1 : ((0 : Int) + (39700 * q + 0)) = ((0 : Int) + (1 * b + 0)) := g1
  refine hv7 (fun j g2 => ?_)
  replace g2 : ((2 : Nat) : Int) * j = ((-22693 : Int) + (1 * r + 0)) := g2
  show hV _ _ _ _ _ [b, w, aT, n, eN, k, p, old, idx, val, q, r, j]
  refine hv13 (fun g3 => ?_)
  replace g3 : ((0 : Int) + (1 * j + 0)) = ((0 : Int) + (1 * k + 0)) := g3
  refine hv0 (fun g4 => ?_)
  replace g4 : (0 : Int) ≤ ((-1 : Int) + ((-1) * n + (1 * eN + ((-1) * k + 0)))) := g4
  refine hv13 (fun g5 => ?_)
  replace g5 : ((0 : Int) + (1 * p + 0)) = ((0 : Int) + 0) := g5
  refine hv2 (fun o hag6 g6 => ?_)
  replace g6 : R 58 ((0 : Int) + (1 * idx + 0)) = o := g6
  replace hag6 : (0 : Int) ≤ ((0 : Int) + (1 * idx + 0)) := hag6
  replace g6 : R 58 (idx) = o := hF (R := R 58) g6 (ad_99 idx)
  show hV _ _ _ _ _ [b, w, aT, n, eN, k, p, old, idx, val, q, r, j, o]
  refine hv8 (fun bq br g7 g7a g7b => ?_)
  replace g7 : ((0 : Int) + (1 * b + 0)) = ((39700 : Nat) : Int) * bq + br := g7
  replace g7b : br < ((39700 : Nat) : Int) := g7b
  show hV _ _ _ _ _ [b, w, aT, n, eN, k, p, old, idx, val, q, r, j, o, bq, br]
  refine hv13 (fun g8 => ?_)
  replace g8 : ((0 : Int) + (1 * br + 0)) = ((0 : Int) + 0) := g8
  refine hvC ?_
  refine ⟨rqi_72_8 (?_ : q72 ((0 : Int) + (1 * b + 0)) ((0 : Int) + (1 * w + 0)) ((0 : Int) + (1 * aT + 0)) ((0 : Int) + (1 * n + 0)) ((0 : Int) + (1 * eN + 0)) ((0 : Int) + (1 * k + 0)) ((1 : Int) + 0) ((0 : Int) + (1 * o + 0)) ((hupR R 58 idx val) 58)), trivial⟩
  try simp only [Int.zero_add, Int.one_mul, Int.add_zero]
  have q_ : p = 0 := by omega
  subst q_
  rw [show o = R 58 idx by omega]
  exact q72_st (c := idx) hq (by omega) (by omega) (fun x hx => hup_n hx)

theorem tS_83_5_0 : vS rQ 83 hs_83_5_0 := by
  refine ⟨fun _ => ?_, fun h => absurd h (by decide)⟩
  intro R G ps idx val hl i0 i1 hq
  replace i1 : idx < 4000 := i1
  obtain ⟨b, p, i, k, e, rfl⟩ := hl5 hl
  replace hq : q83 b p i k e (R 58) (R 67) (R 68) (R 60) := rqo_83_5 hq
  refine hv13 (fun g0 => ?_)
  replace g0 : ((0 : Int) + (1 * k + 0)) = ((0 : Int) + (1 * idx + 0)) := g0
  refine hv2 (fun V hag1 g1 => ?_)
  replace g1 : R 58 ((8295 : Int) + (1 * b + (40 * i + 0))) = V := g1
  replace hag1 : (0 : Int) ≤ ((8295 : Int) + (1 * b + (40 * i + 0))) := hag1
  replace g1 : dV (R 58) b (i) = V := hF (R := R 58) g1 (ad_8 b i)
  show hV _ _ _ _ _ [b, p, i, k, e, idx, val, V]
  refine hv2 (fun N hag2 g2 => ?_)
  replace g2 : R 58 ((8296 : Int) + (1 * b + (40 * i + 0))) = N := g2
  replace hag2 : (0 : Int) ≤ ((8296 : Int) + (1 * b + (40 * i + 0))) := hag2
  replace g2 : dL (R 58) b (i) = N := hF (R := R 58) g2 (ad_9 b i)
  show hV _ _ _ _ _ [b, p, i, k, e, idx, val, V, N]
  refine hv0 (fun g3 => ?_)
  replace g3 : (0 : Int) ≤ ((0 : Int) + (1 * idx + ((-1) * V + 0))) := g3
  refine hv0 (fun g4 => ?_)
  replace g4 : (0 : Int) ≤ ((-1 : Int) + ((-1) * idx + (1 * V + (1 * N + 0)))) := g4
  refine hvC ?_
  refine ⟨rqi_83_5 (?_ : q83 ((0 : Int) + (1 * b + 0)) ((0 : Int) + (1 * p + 0)) ((0 : Int) + (1 * i + 0)) ((0 : Int) + (1 * k + 0)) ((0 : Int) + (1 * e + 0)) ((hupR R 60 idx val) 58) ((hupR R 60 idx val) 67) ((hupR R 60 idx val) 68) ((hupR R 60 idx val) 60)), trivial⟩
  try simp only [Int.zero_add, Int.one_mul, Int.add_zero]
  rw [hupR_o (R := R) (r := 60) (r' := 58) (a := idx) (v := val) (by decide), hupR_o (R := R) (r := 60) (r' := 67) (a := idx) (v := val) (by decide), hupR_o (R := R) (r := 60) (r' := 68) (a := idx) (v := val) (by decide)]
  have q_ : idx = k := by omega
  subst q_
  exact q83_PL hq (fun x hx => hup_n hx)

theorem tS_82_3_0 : vS rQ 82 hs_82_3_0 := by
  refine ⟨fun _ => ?_, fun h => absurd h (by decide)⟩
  intro R G ps idx val hl i0 i1 hq
  replace i1 : idx < 4000 := i1
  obtain ⟨b, q0, e, rfl⟩ := hl3 hl
  replace hq : q82 b q0 e (R 58) (R 67) (R 68) (R 60) := rqo_82_3 hq
  refine hv4 (hm5 (fun b2 p2 i2 k2 e2 g0 => ?_))
  replace g0 : q83 b2 p2 i2 k2 e2 (R 58) (R 67) (R 68) (R 60) := rqo_83_5 g0
  refine hmb rfl ?_
  show hmt _ _ _ [b, q0, e, idx, val, b2]
  refine hmb rfl ?_
  show hmt _ _ _ [b, q0, e, idx, val, b2, p2]
  refine hmb rfl ?_
  show hmt _ _ _ [b, q0, e, idx, val, b2, p2, i2]
  refine hmb rfl ?_
  show hmt _ _ _ [b, q0, e, idx, val, b2, p2, i2, k2]
  refine hmb rfl ?_
  show hmt _ _ _ [b, q0, e, idx, val, b2, p2, i2, k2, e2]
  refine hmn ?_
  show hV _ _ _ _ _ [b, q0, e, idx, val, b2, p2, i2, k2, e2]
  refine hv13 (fun g1 => ?_)
  replace g1 : ((0 : Int) + (1 * b2 + 0)) = ((0 : Int) + (1 * b + 0)) := g1
  refine hv13 (fun g2 => ?_)
  replace g2 : ((0 : Int) + (1 * p2 + 0)) = ((0 : Int) + (1 * q0 + 0)) := g2
  refine hv13 (fun g3 => ?_)
  replace g3 : ((0 : Int) + (1 * k2 + 0)) = ((0 : Int) + (1 * idx + 0)) := g3
  refine hv2 (fun V hag4 g4 => ?_)
  replace g4 : R 58 ((8295 : Int) + (1 * b + (40 * i2 + 0))) = V := g4
  replace hag4 : (0 : Int) ≤ ((8295 : Int) + (1 * b + (40 * i2 + 0))) := hag4
  replace g4 : dV (R 58) b (i2) = V := hF (R := R 58) g4 (ad_100 b i2)
  show hV _ _ _ _ _ [b, q0, e, idx, val, b2, p2, i2, k2, e2, V]
  refine hv2 (fun N hag5 g5 => ?_)
  replace g5 : R 58 ((8296 : Int) + (1 * b + (40 * i2 + 0))) = N := g5
  replace hag5 : (0 : Int) ≤ ((8296 : Int) + (1 * b + (40 * i2 + 0))) := hag5
  replace g5 : dL (R 58) b (i2) = N := hF (R := R 58) g5 (ad_101 b i2)
  show hV _ _ _ _ _ [b, q0, e, idx, val, b2, p2, i2, k2, e2, V, N]
  refine hv0 (fun g6 => ?_)
  replace g6 : (0 : Int) ≤ ((0 : Int) + (1 * idx + ((-1) * V + 0))) := g6
  refine hv0 (fun g7 => ?_)
  replace g7 : (0 : Int) ≤ ((-1 : Int) + ((-1) * idx + (1 * V + (1 * N + 0)))) := g7
  refine hv4 (hm1 (fun n8 g8 => ?_))
  replace g8 : q80 n8 (R 67) := rqo_80_1 g8
  refine hmb rfl ?_
  show hmt _ _ _ [b, q0, e, idx, val, b2, p2, i2, k2, e2, V, N, n8]
  refine hmn ?_
  show hV _ _ _ _ _ [b, q0, e, idx, val, b2, p2, i2, k2, e2, V, N, n8]
  refine hv0 (fun g9 => ?_)
  replace g9 : (0 : Int) ≤ ((-1 : Int) + ((-1) * q0 + (1 * n8 + 0))) := g9
  refine hvC ?_
  refine ⟨rqi_82_3 (?_ : q82 ((0 : Int) + (1 * b + 0)) ((0 : Int) + (1 * q0 + 0)) ((0 : Int) + (1 * e + 0)) ((hupR R 60 idx val) 58) ((hupR R 60 idx val) 67) ((hupR R 60 idx val) 68) ((hupR R 60 idx val) 60)), trivial⟩
  try simp only [Int.zero_add, Int.one_mul, Int.add_zero]
  have q_ : b = b2 := by omega
  subst q_
  have q_ : q0 = p2 := by omega
  subst q_
  have q_ : idx = k2 := by omega
  subst q_
  subst g4
  subst g5
  rw [hupR_o (R := R) (r := 60) (r' := 58) (a := idx) (v := val) (by decide), hupR_o (R := R) (r := 60) (r' := 67) (a := idx) (v := val) (by decide), hupR_o (R := R) (r := 60) (r' := 68) (a := idx) (v := val) (by decide)]
  exact q82_PL hq g0 g8 (by omega) (by omega) (fun x hx => hup_n hx)

theorem tS_82_3_1 : vS rQ 82 hs_82_3_1 := by
  refine ⟨fun _ => ?_, fun h => absurd h (by decide)⟩
  intro R G ps idx val hl i0 i1 hq
  replace i1 : idx < 4000 := i1
  obtain ⟨b, q0, e, rfl⟩ := hl3 hl
  replace hq : q82 b q0 e (R 58) (R 67) (R 68) (R 60) := rqo_82_3 hq
  refine hv4 (hm5 (fun b8 p8 i8 k8 a8 g0 => ?_))
  replace g0 : q88 b8 p8 i8 k8 a8 (R 58) (R 67) (R 68) := rqo_88_5 g0
  refine hmb rfl ?_
  show hmt _ _ _ [b, q0, e, idx, val, b8]
  refine hmb rfl ?_
  show hmt _ _ _ [b, q0, e, idx, val, b8, p8]
  refine hmb rfl ?_
  show hmt _ _ _ [b, q0, e, idx, val, b8, p8, i8]
  refine hmb rfl ?_
  show hmt _ _ _ [b, q0, e, idx, val, b8, p8, i8, k8]
  refine hmb rfl ?_
  show hmt _ _ _ [b, q0, e, idx, val, b8, p8, i8, k8, a8]
  refine hmn ?_
  show hV _ _ _ _ _ [b, q0, e, idx, val, b8, p8, i8, k8, a8]
  refine hv13 (fun g1 => ?_)
  replace g1 : ((0 : Int) + (1 * k8 + 0)) = ((0 : Int) + (1 * idx + 0)) := g1
  refine hv13 (fun g2 => ?_)
  replace g2 : ((0 : Int) + (1 * a8 + 0)) = ((0 : Int) + (1 * val + 0)) := g2
  refine hv2 (fun V hag3 g3 => ?_)
  replace g3 : R 58 ((8295 : Int) + (1 * b8 + (40 * i8 + 0))) = V := g3
  replace hag3 : (0 : Int) ≤ ((8295 : Int) + (1 * b8 + (40 * i8 + 0))) := hag3
  replace g3 : dV (R 58) b8 (i8) = V := hF (R := R 58) g3 (ad_102 b8 i8)
  show hV _ _ _ _ _ [b, q0, e, idx, val, b8, p8, i8, k8, a8, V]
  refine hv2 (fun N hag4 g4 => ?_)
  replace g4 : R 58 ((8296 : Int) + (1 * b8 + (40 * i8 + 0))) = N := g4
  replace hag4 : (0 : Int) ≤ ((8296 : Int) + (1 * b8 + (40 * i8 + 0))) := hag4
  replace g4 : dL (R 58) b8 (i8) = N := hF (R := R 58) g4 (ad_103 b8 i8)
  show hV _ _ _ _ _ [b, q0, e, idx, val, b8, p8, i8, k8, a8, V, N]
  refine hv0 (fun g5 => ?_)
  replace g5 : (0 : Int) ≤ ((0 : Int) + (1 * idx + ((-1) * V + 0))) := g5
  refine hv0 (fun g6 => ?_)
  replace g6 : (0 : Int) ≤ ((-1 : Int) + ((-1) * idx + (1 * V + (1 * N + 0)))) := g6
  refine hv4 (hm3 (fun b9 q9 e9 g7 => ?_))
  replace g7 : q82 b9 q9 e9 (R 58) (R 67) (R 68) (R 60) := rqo_82_3 g7
  refine hmb rfl ?_
  show hmt _ _ _ [b, q0, e, idx, val, b8, p8, i8, k8, a8, V, N, b9]
  refine hmb rfl ?_
  show hmt _ _ _ [b, q0, e, idx, val, b8, p8, i8, k8, a8, V, N, b9, q9]
  refine hmb rfl ?_
  show hmt _ _ _ [b, q0, e, idx, val, b8, p8, i8, k8, a8, V, N, b9, q9, e9]
  refine hmn ?_
  show hV _ _ _ _ _ [b, q0, e, idx, val, b8, p8, i8, k8, a8, V, N, b9, q9, e9]
  refine hv13 (fun g8 => ?_)
  replace g8 : ((0 : Int) + (1 * b9 + 0)) = ((0 : Int) + (1 * b8 + 0)) := g8
  refine hv0 (fun g9 => ?_)
  replace g9 : (0 : Int) ≤ ((-1 : Int) + ((-1) * p8 + (1 * q9 + 0))) := g9
  refine hvC ?_
  refine ⟨rqi_82_3 (?_ : q82 ((0 : Int) + (1 * b + 0)) ((0 : Int) + (1 * q0 + 0)) ((0 : Int) + (1 * e + 0)) ((hupR R 60 idx val) 58) ((hupR R 60 idx val) 67) ((hupR R 60 idx val) 68) ((hupR R 60 idx val) 60)), trivial⟩
  try simp only [Int.zero_add, Int.one_mul, Int.add_zero]
  have q_ : b8 = b9 := by omega
  subst q_
  subst g3
  subst g4
  have e_ := (q88_pl g0 g7 (by omega) (by omega)).1
  have e2_ : hupR R 60 idx val 60 = R 60 := by
    funext z_
    rw [hup58]
    split
    · rw [show z_ = k8 by omega]
      omega
    · rfl
  rw [hupR_o (R := R) (r := 60) (r' := 58) (a := idx) (v := val) (by decide), hupR_o (R := R) (r := 60) (r' := 67) (a := idx) (v := val) (by decide), hupR_o (R := R) (r := 60) (r' := 68) (a := idx) (v := val) (by decide)]
  rw [e2_]
  exact hq

theorem tS_88_5_0 : vS rQ 88 hs_88_5_0 := by
  refine ⟨fun _ => ?_, fun h => absurd h (by decide)⟩
  intro R G ps idx val hl i0 i1 hq
  replace i1 : idx < 4000 := i1
  obtain ⟨b, p, i, k, e, rfl⟩ := hl5 hl
  replace hq : q88 b p i k e (R 58) (R 67) (R 68) := rqo_88_5 hq
  refine hv4 (hm5 (fun b8 p8 i8 k8 a8 g0 => ?_))
  replace g0 : q88 b8 p8 i8 k8 a8 (R 58) (R 67) (R 68) := rqo_88_5 g0
  refine hmb rfl ?_
  show hmt _ _ _ [b, p, i, k, e, idx, val, b8]
  refine hmb rfl ?_
  show hmt _ _ _ [b, p, i, k, e, idx, val, b8, p8]
  refine hmb rfl ?_
  show hmt _ _ _ [b, p, i, k, e, idx, val, b8, p8, i8]
  refine hmb rfl ?_
  show hmt _ _ _ [b, p, i, k, e, idx, val, b8, p8, i8, k8]
  refine hmb rfl ?_
  show hmt _ _ _ [b, p, i, k, e, idx, val, b8, p8, i8, k8, a8]
  refine hmn ?_
  show hV _ _ _ _ _ [b, p, i, k, e, idx, val, b8, p8, i8, k8, a8]
  refine hv13 (fun g1 => ?_)
  replace g1 : ((0 : Int) + (1 * k8 + 0)) = ((0 : Int) + (1 * idx + 0)) := g1
  refine hv13 (fun g2 => ?_)
  replace g2 : ((0 : Int) + (1 * a8 + 0)) = ((0 : Int) + (1 * val + 0)) := g2
  refine hv2 (fun V hag3 g3 => ?_)
  replace g3 : R 58 ((8295 : Int) + (1 * b8 + (40 * i8 + 0))) = V := g3
  replace hag3 : (0 : Int) ≤ ((8295 : Int) + (1 * b8 + (40 * i8 + 0))) := hag3
  replace g3 : dV (R 58) b8 (i8) = V := hF (R := R 58) g3 (ad_102 b8 i8)
  show hV _ _ _ _ _ [b, p, i, k, e, idx, val, b8, p8, i8, k8, a8, V]
  refine hv2 (fun N hag4 g4 => ?_)
  replace g4 : R 58 ((8296 : Int) + (1 * b8 + (40 * i8 + 0))) = N := g4
  replace hag4 : (0 : Int) ≤ ((8296 : Int) + (1 * b8 + (40 * i8 + 0))) := hag4
  replace g4 : dL (R 58) b8 (i8) = N := hF (R := R 58) g4 (ad_103 b8 i8)
  show hV _ _ _ _ _ [b, p, i, k, e, idx, val, b8, p8, i8, k8, a8, V, N]
  refine hv0 (fun g5 => ?_)
  replace g5 : (0 : Int) ≤ ((0 : Int) + (1 * idx + ((-1) * V + 0))) := g5
  refine hv0 (fun g6 => ?_)
  replace g6 : (0 : Int) ≤ ((-1 : Int) + ((-1) * idx + (1 * V + (1 * N + 0)))) := g6
  refine hv4 (hm3 (fun b9 q9 e9 g7 => ?_))
  replace g7 : q82 b9 q9 e9 (R 58) (R 67) (R 68) (R 60) := rqo_82_3 g7
  refine hmb rfl ?_
  show hmt _ _ _ [b, p, i, k, e, idx, val, b8, p8, i8, k8, a8, V, N, b9]
  refine hmb rfl ?_
  show hmt _ _ _ [b, p, i, k, e, idx, val, b8, p8, i8, k8, a8, V, N, b9, q9]
  refine hmb rfl ?_
  show hmt _ _ _ [b, p, i, k, e, idx, val, b8, p8, i8, k8, a8, V, N, b9, q9, e9]
  refine hmn ?_
  show hV _ _ _ _ _ [b, p, i, k, e, idx, val, b8, p8, i8, k8, a8, V, N, b9, q9, e9]
  refine hv13 (fun g8 => ?_)
  replace g8 : ((0 : Int) + (1 * b9 + 0)) = ((0 : Int) + (1 * b8 + 0)) := g8
  refine hv0 (fun g9 => ?_)
  replace g9 : (0 : Int) ≤ ((-1 : Int) + ((-1) * p8 + (1 * q9 + 0))) := g9
  refine hvC ?_
  refine ⟨rqi_88_5 (?_ : q88 ((0 : Int) + (1 * b + 0)) ((0 : Int) + (1 * p + 0)) ((0 : Int) + (1 * i + 0)) ((0 : Int) + (1 * k + 0)) ((0 : Int) + (1 * e + 0)) ((hupR R 60 idx val) 58) ((hupR R 60 idx val) 67) ((hupR R 60 idx val) 68)), trivial⟩
  try simp only [Int.zero_add, Int.one_mul, Int.add_zero]
  have q_ : b8 = b9 := by omega
  subst q_
  subst g3
  subst g4
  have e_ := (q88_pl g0 g7 (by omega) (by omega)).1
  have e2_ : hupR R 60 idx val 60 = R 60 := by
    funext z_
    rw [hup58]
    split
    · rw [show z_ = k8 by omega]
      omega
    · rfl
  rw [hupR_o (R := R) (r := 60) (r' := 58) (a := idx) (v := val) (by decide), hupR_o (R := R) (r := 60) (r' := 67) (a := idx) (v := val) (by decide), hupR_o (R := R) (r := 60) (r' := 68) (a := idx) (v := val) (by decide)]
  exact hq

theorem tS_89_4_0 : vS rQ 89 hs_89_4_0 := by
  refine ⟨fun _ => ?_, fun h => absurd h (by decide)⟩
  intro R G ps idx val hl i0 i1 hq
  replace i1 : idx < 2002 := i1
  obtain ⟨b, p, i, k, rfl⟩ := hl4 hl
  replace hq : q89 b i k (R 58) (R 67) (R 68) (R 60) (R 66) := rqo_89_4 hq
  refine hv4 (hm4 (fun b8 p8 i8 k8 g0 => ?_))
  replace g0 : q89 b8 i8 k8 (R 58) (R 67) (R 68) (R 60) (R 66) := rqo_89_4 g0
  refine hmb rfl ?_
  show hmt _ _ _ [b, p, i, k, idx, val, b8]
  refine hmb rfl ?_
  show hmt _ _ _ [b, p, i, k, idx, val, b8, p8]
  refine hmb rfl ?_
  show hmt _ _ _ [b, p, i, k, idx, val, b8, p8, i8]
  refine hmb rfl ?_
  show hmt _ _ _ [b, p, i, k, idx, val, b8, p8, i8, k8]
  refine hmn ?_
  show hV _ _ _ _ _ [b, p, i, k, idx, val, b8, p8, i8, k8]
  refine hv13 (fun g1 => ?_)
  replace g1 : ((0 : Int) + (1 * b8 + 0)) = ((0 : Int) + (1 * b + 0)) := g1
  refine hv13 (fun g2 => ?_)
  replace g2 : ((0 : Int) + (1 * p8 + 0)) = ((0 : Int) + (1 * p + 0)) := g2
  refine hv13 (fun g3 => ?_)
  replace g3 : ((0 : Int) + (1 * i8 + 0)) = ((0 : Int) + (1 * i + 0)) := g3
  refine hv13 (fun g4 => ?_)
  replace g4 : ((0 : Int) + (1 * k8 + 0)) = ((0 : Int) + (1 * k + 0)) := g4
  refine hv2 (fun to hag5 g5 => ?_)
  replace g5 : R 60 ((0 : Int) + (1 * k8 + 0)) = to := g5
  replace hag5 : (0 : Int) ≤ ((0 : Int) + (1 * k8 + 0)) := hag5
  replace g5 : R 60 (k8) = to := hF (R := R 60) g5 (ad_104 k8)
  show hV _ _ _ _ _ [b, p, i, k, idx, val, b8, p8, i8, k8, to]
  refine hv2 (fun V hag6 g6 => ?_)
  replace g6 : R 58 ((8295 : Int) + (1 * b + (40 * i8 + 0))) = V := g6
  replace hag6 : (0 : Int) ≤ ((8295 : Int) + (1 * b + (40 * i8 + 0))) := hag6
  replace g6 : dV (R 58) b (i8) = V := hF (R := R 58) g6 (ad_105 b i8)
  show hV _ _ _ _ _ [b, p, i, k, idx, val, b8, p8, i8, k8, to, V]
  refine hv2 (fun N hag7 g7 => ?_)
  replace g7 : R 58 ((8296 : Int) + (1 * b + (40 * i8 + 0))) = N := g7
  replace hag7 : (0 : Int) ≤ ((8296 : Int) + (1 * b + (40 * i8 + 0))) := hag7
  replace g7 : dL (R 58) b (i8) = N := hF (R := R 58) g7 (ad_106 b i8)
  show hV _ _ _ _ _ [b, p, i, k, idx, val, b8, p8, i8, k8, to, V, N]
  refine hv0 (fun g8 => ?_)
  replace g8 : (0 : Int) ≤ ((0 : Int) + (1 * k8 + ((-1) * V + 0))) := g8
  refine hv0 (fun g9 => ?_)
  replace g9 : (0 : Int) ≤ ((-1 : Int) + ((-1) * k8 + (1 * V + (1 * N + 0)))) := g9
  refine hv2 (fun t8 hag10 g10 => ?_)
  replace g10 : R 67 ((0 : Int) + (1 * p8 + 0)) = t8 := g10
  replace hag10 : (0 : Int) ≤ ((0 : Int) + (1 * p8 + 0)) := hag10
  replace g10 : R 67 (p8) = t8 := hF (R := R 67) g10 (ad_107 p8)
  show hV _ _ _ _ _ [b, p, i, k, idx, val, b8, p8, i8, k8, to, V, N, t8]
  refine hv13 (fun g11 => ?_)
  replace g11 : ((0 : Int) + (1 * t8 + 0)) = ((0 : Int) + (1 * i8 + 0)) := g11
  refine hv4 (hm3 (fun b9 q9 e9 g12 => ?_))
  replace g12 : q82 b9 q9 e9 (R 58) (R 67) (R 68) (R 60) := rqo_82_3 g12
  refine hmb rfl ?_
  show hmt _ _ _ [b, p, i, k, idx, val, b8, p8, i8, k8, to, V, N, t8, b9]
  refine hmb rfl ?_
  show hmt _ _ _ [b, p, i, k, idx, val, b8, p8, i8, k8, to, V, N, t8, b9, q9]
  refine hmb rfl ?_
  show hmt _ _ _ [b, p, i, k, idx, val, b8, p8, i8, k8, to, V, N, t8, b9, q9, e9]
  refine hmn ?_
  show hV _ _ _ _ _ [b, p, i, k, idx, val, b8, p8, i8, k8, to, V, N, t8, b9, q9, e9]
  refine hv13 (fun g13 => ?_)
  replace g13 : ((0 : Int) + (1 * b9 + 0)) = ((0 : Int) + (1 * b + 0)) := g13
  refine hv0 (fun g14 => ?_)
  replace g14 : (0 : Int) ≤ ((-1 : Int) + ((-1) * p8 + (1 * q9 + 0))) := g14
  refine hv4 (hm1 (fun n8 g15 => ?_))
  replace g15 : q80 n8 (R 67) := rqo_80_1 g15
  refine hmb rfl ?_
  show hmt _ _ _ [b, p, i, k, idx, val, b8, p8, i8, k8, to, V, N, t8, b9, q9, e9, n8]
  refine hmn ?_
  show hV _ _ _ _ _ [b, p, i, k, idx, val, b8, p8, i8, k8, to, V, N, t8, b9, q9, e9, n8]
  refine hv0 (fun g16 => ?_)
  replace g16 : (0 : Int) ≤ ((0 : Int) + ((-1) * q9 + (1 * n8 + 0))) := g16
  refine hv13 (fun g17 => ?_)
  replace g17 : ((0 : Int) + (1 * idx + 0)) = ((0 : Int) + (1 * to + 0)) := g17
  refine hvC ?_
  refine ⟨rqi_89_4 (?_ : q89 ((0 : Int) + (1 * b + 0)) ((0 : Int) + (1 * i + 0)) ((0 : Int) + (1 * k + 0)) ((hupR R 66 idx val) 58) ((hupR R 66 idx val) 67) ((hupR R 66 idx val) 68) ((hupR R 66 idx val) 60) ((hupR R 66 idx val) 66)), trivial⟩
  try simp only [Int.zero_add, Int.one_mul, Int.add_zero]
  have q_ : b = b8 := by omega
  subst q_
  have q_ : p = p8 := by omega
  subst q_
  have q_ : i = i8 := by omega
  subst q_
  have q_ : k = k8 := by omega
  subst q_
  have q_ : b = b9 := by omega
  subst q_
  subst g5
  subst g6
  subst g7
  subst g10
  rw [hupR_o (R := R) (r := 66) (r' := 58) (a := idx) (v := val) (by decide), hupR_o (R := R) (r := 66) (r' := 67) (a := idx) (v := val) (by decide), hupR_o (R := R) (r := 66) (r' := 68) (a := idx) (v := val) (by decide), hupR_o (R := R) (r := 66) (r' := 60) (a := idx) (v := val) (by decide)]
  exact q89_CH (p := p) (c := idx) hq g12 (by omega) (by omega) (by omega) (by omega) (by omega) (fun x hx => hup_n hx)

theorem tS_89_4_1 : vS rQ 89 hs_89_4_1 := by
  refine ⟨fun _ => ?_, fun h => absurd h (by decide)⟩
  intro R G ps idx val hl i0 i1 hq
  replace i1 : idx < 2002 := i1
  obtain ⟨b, p, i, k, rfl⟩ := hl4 hl
  replace hq : q89 b i k (R 58) (R 67) (R 68) (R 60) (R 66) := rqo_89_4 hq
  refine hv4 (hm4 (fun b8 p8 i8 k8 g0 => ?_))
  replace g0 : q89 b8 i8 k8 (R 58) (R 67) (R 68) (R 60) (R 66) := rqo_89_4 g0
  refine hmb rfl ?_
  show hmt _ _ _ [b, p, i, k, idx, val, b8]
  refine hmb rfl ?_
  show hmt _ _ _ [b, p, i, k, idx, val, b8, p8]
  refine hmb rfl ?_
  show hmt _ _ _ [b, p, i, k, idx, val, b8, p8, i8]
  refine hmb rfl ?_
  show hmt _ _ _ [b, p, i, k, idx, val, b8, p8, i8, k8]
  refine hmn ?_
  show hV _ _ _ _ _ [b, p, i, k, idx, val, b8, p8, i8, k8]
  refine hv13 (fun g1 => ?_)
  replace g1 : ((0 : Int) + (1 * b8 + 0)) = ((0 : Int) + (1 * b + 0)) := g1
  refine hv13 (fun g2 => ?_)
  replace g2 : ((0 : Int) + (1 * p8 + 0)) = ((0 : Int) + (1 * p + 0)) := g2
  refine hv13 (fun g3 => ?_)
  replace g3 : ((0 : Int) + (1 * i8 + 0)) = ((0 : Int) + (1 * i + 0)) := g3
  refine hv13 (fun g4 => ?_)
  replace g4 : ((0 : Int) + (1 * k8 + 0)) = ((0 : Int) + (1 * k + 0)) := g4
  refine hv2 (fun to hag5 g5 => ?_)
  replace g5 : R 60 ((0 : Int) + (1 * k8 + 0)) = to := g5
  replace hag5 : (0 : Int) ≤ ((0 : Int) + (1 * k8 + 0)) := hag5
  replace g5 : R 60 (k8) = to := hF (R := R 60) g5 (ad_104 k8)
  show hV _ _ _ _ _ [b, p, i, k, idx, val, b8, p8, i8, k8, to]
  refine hv2 (fun V hag6 g6 => ?_)
  replace g6 : R 58 ((8295 : Int) + (1 * b + (40 * i8 + 0))) = V := g6
  replace hag6 : (0 : Int) ≤ ((8295 : Int) + (1 * b + (40 * i8 + 0))) := hag6
  replace g6 : dV (R 58) b (i8) = V := hF (R := R 58) g6 (ad_105 b i8)
  show hV _ _ _ _ _ [b, p, i, k, idx, val, b8, p8, i8, k8, to, V]
  refine hv2 (fun N hag7 g7 => ?_)
  replace g7 : R 58 ((8296 : Int) + (1 * b + (40 * i8 + 0))) = N := g7
  replace hag7 : (0 : Int) ≤ ((8296 : Int) + (1 * b + (40 * i8 + 0))) := hag7
  replace g7 : dL (R 58) b (i8) = N := hF (R := R 58) g7 (ad_106 b i8)
  show hV _ _ _ _ _ [b, p, i, k, idx, val, b8, p8, i8, k8, to, V, N]
  refine hv0 (fun g8 => ?_)
  replace g8 : (0 : Int) ≤ ((0 : Int) + (1 * k8 + ((-1) * V + 0))) := g8
  refine hv0 (fun g9 => ?_)
  replace g9 : (0 : Int) ≤ ((-1 : Int) + ((-1) * k8 + (1 * V + (1 * N + 0)))) := g9
  refine hv2 (fun t8 hag10 g10 => ?_)
  replace g10 : R 67 ((0 : Int) + (1 * p8 + 0)) = t8 := g10
  replace hag10 : (0 : Int) ≤ ((0 : Int) + (1 * p8 + 0)) := hag10
  replace g10 : R 67 (p8) = t8 := hF (R := R 67) g10 (ad_107 p8)
  show hV _ _ _ _ _ [b, p, i, k, idx, val, b8, p8, i8, k8, to, V, N, t8]
  refine hv13 (fun g11 => ?_)
  replace g11 : ((0 : Int) + (1 * t8 + 0)) = ((0 : Int) + (1 * i8 + 0)) := g11
  refine hv4 (hm3 (fun b9 q9 e9 g12 => ?_))
  replace g12 : q82 b9 q9 e9 (R 58) (R 67) (R 68) (R 60) := rqo_82_3 g12
  refine hmb rfl ?_
  show hmt _ _ _ [b, p, i, k, idx, val, b8, p8, i8, k8, to, V, N, t8, b9]
  refine hmb rfl ?_
  show hmt _ _ _ [b, p, i, k, idx, val, b8, p8, i8, k8, to, V, N, t8, b9, q9]
  refine hmb rfl ?_
  show hmt _ _ _ [b, p, i, k, idx, val, b8, p8, i8, k8, to, V, N, t8, b9, q9, e9]
  refine hmn ?_
  show hV _ _ _ _ _ [b, p, i, k, idx, val, b8, p8, i8, k8, to, V, N, t8, b9, q9, e9]
  refine hv13 (fun g13 => ?_)
  replace g13 : ((0 : Int) + (1 * b9 + 0)) = ((0 : Int) + (1 * b + 0)) := g13
  refine hv0 (fun g14 => ?_)
  replace g14 : (0 : Int) ≤ ((-1 : Int) + ((-1) * p8 + (1 * q9 + 0))) := g14
  refine hv4 (hm1 (fun n8 g15 => ?_))
  replace g15 : q80 n8 (R 67) := rqo_80_1 g15
  refine hmb rfl ?_
  show hmt _ _ _ [b, p, i, k, idx, val, b8, p8, i8, k8, to, V, N, t8, b9, q9, e9, n8]
  refine hmn ?_
  show hV _ _ _ _ _ [b, p, i, k, idx, val, b8, p8, i8, k8, to, V, N, t8, b9, q9, e9, n8]
  refine hv0 (fun g16 => ?_)
  replace g16 : (0 : Int) ≤ ((0 : Int) + ((-1) * q9 + (1 * n8 + 0))) := g16
  refine hv13 (fun g17 => ?_)
  replace g17 : ((0 : Int) + (1 * idx + 0)) = ((1 : Int) + (1 * to + 0)) := g17
  refine hv2 (fun kk hag18 g18 => ?_)
  replace g18 : R 58 ((22692 : Int) + (1 * b + (2 * k8 + 0))) = kk := g18
  replace hag18 : (0 : Int) ≤ ((22692 : Int) + (1 * b + (2 * k8 + 0))) := hag18
  replace g18 : iK (R 58) b (k8) = kk := hF (R := R 58) g18 (ad_108 b k8)
  show hV _ _ _ _ _ [b, p, i, k, idx, val, b8, p8, i8, k8, to, V, N, t8, b9, q9, e9, n8, kk]
  refine hv13 (fun g19 => ?_)
  replace g19 : ((0 : Int) + (1 * kk + 0)) = ((1 : Int) + 0) := g19
  refine hvC ?_
  refine ⟨rqi_89_4 (?_ : q89 ((0 : Int) + (1 * b + 0)) ((0 : Int) + (1 * i + 0)) ((0 : Int) + (1 * k + 0)) ((hupR R 66 idx val) 58) ((hupR R 66 idx val) 67) ((hupR R 66 idx val) 68) ((hupR R 66 idx val) 60) ((hupR R 66 idx val) 66)), trivial⟩
  try simp only [Int.zero_add, Int.one_mul, Int.add_zero]
  have q_ : b = b8 := by omega
  subst q_
  have q_ : p = p8 := by omega
  subst q_
  have q_ : i = i8 := by omega
  subst q_
  have q_ : k = k8 := by omega
  subst q_
  have q_ : b = b9 := by omega
  subst q_
  subst g5
  subst g6
  subst g7
  subst g10
  subst g18
  rw [hupR_o (R := R) (r := 66) (r' := 58) (a := idx) (v := val) (by decide), hupR_o (R := R) (r := 66) (r' := 67) (a := idx) (v := val) (by decide), hupR_o (R := R) (r := 66) (r' := 68) (a := idx) (v := val) (by decide), hupR_o (R := R) (r := 66) (r' := 60) (a := idx) (v := val) (by decide)]
  exact q89_CH (p := p) (c := idx) hq g12 (by omega) (by omega) (by omega) (by omega) (by omega) (fun x hx => hup_n hx)

theorem tS_89_4_2 : vS rQ 89 hs_89_4_2 := by
  refine ⟨fun _ => ?_, fun h => absurd h (by decide)⟩
  intro R G ps idx val hl i0 i1 hq
  replace i1 : idx < 2002 := i1
  obtain ⟨b, p, i, k, rfl⟩ := hl4 hl
  replace hq : q89 b i k (R 58) (R 67) (R 68) (R 60) (R 66) := rqo_89_4 hq
  refine hv4 (hm4 (fun b8 p8 i8 k8 g0 => ?_))
  replace g0 : q89 b8 i8 k8 (R 58) (R 67) (R 68) (R 60) (R 66) := rqo_89_4 g0
  refine hmb rfl ?_
  show hmt _ _ _ [b, p, i, k, idx, val, b8]
  refine hmb rfl ?_
  show hmt _ _ _ [b, p, i, k, idx, val, b8, p8]
  refine hmb rfl ?_
  show hmt _ _ _ [b, p, i, k, idx, val, b8, p8, i8]
  refine hmb rfl ?_
  show hmt _ _ _ [b, p, i, k, idx, val, b8, p8, i8, k8]
  refine hmn ?_
  show hV _ _ _ _ _ [b, p, i, k, idx, val, b8, p8, i8, k8]
  refine hv13 (fun g1 => ?_)
  replace g1 : ((0 : Int) + (1 * b8 + 0)) = ((0 : Int) + (1 * b + 0)) := g1
  refine hv13 (fun g2 => ?_)
  replace g2 : ((0 : Int) + (1 * p8 + 0)) = ((0 : Int) + (1 * p + 0)) := g2
  refine hv13 (fun g3 => ?_)
  replace g3 : ((0 : Int) + (1 * i8 + 0)) = ((0 : Int) + (1 * i + 0)) := g3
  refine hv13 (fun g4 => ?_)
  replace g4 : ((0 : Int) + (1 * k8 + 0)) = ((0 : Int) + (1 * k + 0)) := g4
  refine hv2 (fun to hag5 g5 => ?_)
  replace g5 : R 60 ((0 : Int) + (1 * k8 + 0)) = to := g5
  replace hag5 : (0 : Int) ≤ ((0 : Int) + (1 * k8 + 0)) := hag5
  replace g5 : R 60 (k8) = to := hF (R := R 60) g5 (ad_104 k8)
  show hV _ _ _ _ _ [b, p, i, k, idx, val, b8, p8, i8, k8, to]
  refine hv2 (fun V hag6 g6 => ?_)
  replace g6 : R 58 ((8295 : Int) + (1 * b + (40 * i8 + 0))) = V := g6
  replace hag6 : (0 : Int) ≤ ((8295 : Int) + (1 * b + (40 * i8 + 0))) := hag6
  replace g6 : dV (R 58) b (i8) = V := hF (R := R 58) g6 (ad_105 b i8)
  show hV _ _ _ _ _ [b, p, i, k, idx, val, b8, p8, i8, k8, to, V]
  refine hv2 (fun N hag7 g7 => ?_)
  replace g7 : R 58 ((8296 : Int) + (1 * b + (40 * i8 + 0))) = N := g7
  replace hag7 : (0 : Int) ≤ ((8296 : Int) + (1 * b + (40 * i8 + 0))) := hag7
  replace g7 : dL (R 58) b (i8) = N := hF (R := R 58) g7 (ad_106 b i8)
  show hV _ _ _ _ _ [b, p, i, k, idx, val, b8, p8, i8, k8, to, V, N]
  refine hv0 (fun g8 => ?_)
  replace g8 : (0 : Int) ≤ ((0 : Int) + (1 * k8 + ((-1) * V + 0))) := g8
  refine hv0 (fun g9 => ?_)
  replace g9 : (0 : Int) ≤ ((-1 : Int) + ((-1) * k8 + (1 * V + (1 * N + 0)))) := g9
  refine hv2 (fun t8 hag10 g10 => ?_)
  replace g10 : R 67 ((0 : Int) + (1 * p8 + 0)) = t8 := g10
  replace hag10 : (0 : Int) ≤ ((0 : Int) + (1 * p8 + 0)) := hag10
  replace g10 : R 67 (p8) = t8 := hF (R := R 67) g10 (ad_107 p8)
  show hV _ _ _ _ _ [b, p, i, k, idx, val, b8, p8, i8, k8, to, V, N, t8]
  refine hv13 (fun g11 => ?_)
  replace g11 : ((0 : Int) + (1 * t8 + 0)) = ((0 : Int) + (1 * i8 + 0)) := g11
  refine hv4 (hm3 (fun b9 q9 e9 g12 => ?_))
  replace g12 : q82 b9 q9 e9 (R 58) (R 67) (R 68) (R 60) := rqo_82_3 g12
  refine hmb rfl ?_
  show hmt _ _ _ [b, p, i, k, idx, val, b8, p8, i8, k8, to, V, N, t8, b9]
  refine hmb rfl ?_
  show hmt _ _ _ [b, p, i, k, idx, val, b8, p8, i8, k8, to, V, N, t8, b9, q9]
  refine hmb rfl ?_
  show hmt _ _ _ [b, p, i, k, idx, val, b8, p8, i8, k8, to, V, N, t8, b9, q9, e9]
  refine hmn ?_
  show hV _ _ _ _ _ [b, p, i, k, idx, val, b8, p8, i8, k8, to, V, N, t8, b9, q9, e9]
  refine hv13 (fun g13 => ?_)
  replace g13 : ((0 : Int) + (1 * b9 + 0)) = ((0 : Int) + (1 * b + 0)) := g13
  refine hv0 (fun g14 => ?_)
  replace g14 : (0 : Int) ≤ ((-1 : Int) + ((-1) * p8 + (1 * q9 + 0))) := g14
  refine hv4 (hm1 (fun n8 g15 => ?_))
  replace g15 : q80 n8 (R 67) := rqo_80_1 g15
  refine hmb rfl ?_
  show hmt _ _ _ [b, p, i, k, idx, val, b8, p8, i8, k8, to, V, N, t8, b9, q9, e9, n8]
  refine hmn ?_
  show hV _ _ _ _ _ [b, p, i, k, idx, val, b8, p8, i8, k8, to, V, N, t8, b9, q9, e9, n8]
  refine hv0 (fun g16 => ?_)
  replace g16 : (0 : Int) ≤ ((0 : Int) + ((-1) * q9 + (1 * n8 + 0))) := g16
  refine hv13 (fun g17 => ?_)
  replace g17 : ((0 : Int) + (1 * idx + 0)) = ((1 : Int) + (1 * to + 0)) := g17
  refine hv2 (fun kk hag18 g18 => ?_)
  replace g18 : R 58 ((22692 : Int) + (1 * b + (2 * k8 + 0))) = kk := g18
  replace hag18 : (0 : Int) ≤ ((22692 : Int) + (1 * b + (2 * k8 + 0))) := hag18
  replace g18 : iK (R 58) b (k8) = kk := hF (R := R 58) g18 (ad_108 b k8)
  show hV _ _ _ _ _ [b, p, i, k, idx, val, b8, p8, i8, k8, to, V, N, t8, b9, q9, e9, n8, kk]
  refine hv13 (fun g19 => ?_)
  replace g19 : ((0 : Int) + (1 * kk + 0)) = ((0 : Int) + 0) := g19
  refine hv2 (fun nn hag20 g20 => ?_)
  replace g20 : R 58 ((22693 : Int) + (1 * b + (2 * k8 + 0))) = nn := g20
  replace hag20 : (0 : Int) ≤ ((22693 : Int) + (1 * b + (2 * k8 + 0))) := hag20
  replace g20 : iN (R 58) b (k8) = nn := hF (R := R 58) g20 (ad_109 b k8)
  show hV _ _ _ _ _ [b, p, i, k, idx, val, b8, p8, i8, k8, to, V, N, t8, b9, q9, e9, n8, kk, nn]
  refine hv2 (fun wk hag21 g21 => ?_)
  replace g21 : R 58 ((8292 : Int) + (1 * b + (40 * nn + 0))) = wk := g21
  replace hag21 : (0 : Int) ≤ ((8292 : Int) + (1 * b + (40 * nn + 0))) := hag21
  replace g21 : dK (R 58) b (nn) = wk := hF (R := R 58) g21 (ad_41 b nn)
  show hV _ _ _ _ _ [b, p, i, k, idx, val, b8, p8, i8, k8, to, V, N, t8, b9, q9, e9, n8, kk, nn, wk]
  refine hv0 (fun g22 => ?_)
  replace g22 : (0 : Int) ≤ ((-2 : Int) + (1 * wk + 0)) := g22
  refine hvC ?_
  refine ⟨rqi_89_4 (?_ : q89 ((0 : Int) + (1 * b + 0)) ((0 : Int) + (1 * i + 0)) ((0 : Int) + (1 * k + 0)) ((hupR R 66 idx val) 58) ((hupR R 66 idx val) 67) ((hupR R 66 idx val) 68) ((hupR R 66 idx val) 60) ((hupR R 66 idx val) 66)), trivial⟩
  try simp only [Int.zero_add, Int.one_mul, Int.add_zero]
  have q_ : b = b8 := by omega
  subst q_
  have q_ : p = p8 := by omega
  subst q_
  have q_ : i = i8 := by omega
  subst q_
  have q_ : k = k8 := by omega
  subst q_
  have q_ : b = b9 := by omega
  subst q_
  subst g5
  subst g6
  subst g7
  subst g10
  subst g18
  subst g20
  subst g21
  rw [hupR_o (R := R) (r := 66) (r' := 58) (a := idx) (v := val) (by decide), hupR_o (R := R) (r := 66) (r' := 67) (a := idx) (v := val) (by decide), hupR_o (R := R) (r := 66) (r' := 68) (a := idx) (v := val) (by decide), hupR_o (R := R) (r := 66) (r' := 60) (a := idx) (v := val) (by decide)]
  exact q89_CH (p := p) (c := idx) hq g12 (by omega) (by omega) (by omega) (by omega) (by omega) (fun x hx => hup_n hx)

theorem tS_90_2_0 : vS rQ 90 hs_90_2_0 := by
  refine ⟨fun _ => ?_, fun h => absurd h (by decide)⟩
  intro R G ps idx val hl i0 i1 hq
  replace i1 : idx < 4000 := i1
  obtain ⟨b, p, rfl⟩ := hl2 hl
  replace hq : q90 b p (R 58) (R 67) (R 68) (R 60) (R 66) := rqo_90_2 hq
  refine hv4 (hm5 (fun b8 p8 i8 k8 a8 g0 => ?_))
  replace g0 : q88 b8 p8 i8 k8 a8 (R 58) (R 67) (R 68) := rqo_88_5 g0
  refine hmb rfl ?_
  show hmt _ _ _ [b, p, idx, val, b8]
  refine hmb rfl ?_
  show hmt _ _ _ [b, p, idx, val, b8, p8]
  refine hmb rfl ?_
  show hmt _ _ _ [b, p, idx, val, b8, p8, i8]
  refine hmb rfl ?_
  show hmt _ _ _ [b, p, idx, val, b8, p8, i8, k8]
  refine hmb rfl ?_
  show hmt _ _ _ [b, p, idx, val, b8, p8, i8, k8, a8]
  refine hmn ?_
  show hV _ _ _ _ _ [b, p, idx, val, b8, p8, i8, k8, a8]
  refine hv13 (fun g1 => ?_)
  replace g1 : ((0 : Int) + (1 * k8 + 0)) = ((0 : Int) + (1 * idx + 0)) := g1
  refine hv13 (fun g2 => ?_)
  replace g2 : ((0 : Int) + (1 * a8 + 0)) = ((0 : Int) + (1 * val + 0)) := g2
  refine hv2 (fun V hag3 g3 => ?_)
  replace g3 : R 58 ((8295 : Int) + (1 * b8 + (40 * i8 + 0))) = V := g3
  replace hag3 : (0 : Int) ≤ ((8295 : Int) + (1 * b8 + (40 * i8 + 0))) := hag3
  replace g3 : dV (R 58) b8 (i8) = V := hF (R := R 58) g3 (ad_102 b8 i8)
  show hV _ _ _ _ _ [b, p, idx, val, b8, p8, i8, k8, a8, V]
  refine hv2 (fun N hag4 g4 => ?_)
  replace g4 : R 58 ((8296 : Int) + (1 * b8 + (40 * i8 + 0))) = N := g4
  replace hag4 : (0 : Int) ≤ ((8296 : Int) + (1 * b8 + (40 * i8 + 0))) := hag4
  replace g4 : dL (R 58) b8 (i8) = N := hF (R := R 58) g4 (ad_103 b8 i8)
  show hV _ _ _ _ _ [b, p, idx, val, b8, p8, i8, k8, a8, V, N]
  refine hv0 (fun g5 => ?_)
  replace g5 : (0 : Int) ≤ ((0 : Int) + (1 * idx + ((-1) * V + 0))) := g5
  refine hv0 (fun g6 => ?_)
  replace g6 : (0 : Int) ≤ ((-1 : Int) + ((-1) * idx + (1 * V + (1 * N + 0)))) := g6
  refine hv4 (hm3 (fun b9 q9 e9 g7 => ?_))
  replace g7 : q82 b9 q9 e9 (R 58) (R 67) (R 68) (R 60) := rqo_82_3 g7
  refine hmb rfl ?_
  show hmt _ _ _ [b, p, idx, val, b8, p8, i8, k8, a8, V, N, b9]
  refine hmb rfl ?_
  show hmt _ _ _ [b, p, idx, val, b8, p8, i8, k8, a8, V, N, b9, q9]
  refine hmb rfl ?_
  show hmt _ _ _ [b, p, idx, val, b8, p8, i8, k8, a8, V, N, b9, q9, e9]
  refine hmn ?_
  show hV _ _ _ _ _ [b, p, idx, val, b8, p8, i8, k8, a8, V, N, b9, q9, e9]
  refine hv13 (fun g8 => ?_)
  replace g8 : ((0 : Int) + (1 * b9 + 0)) = ((0 : Int) + (1 * b8 + 0)) := g8
  refine hv0 (fun g9 => ?_)
  replace g9 : (0 : Int) ≤ ((-1 : Int) + ((-1) * p8 + (1 * q9 + 0))) := g9
  refine hvC ?_
  refine ⟨rqi_90_2 (?_ : q90 ((0 : Int) + (1 * b + 0)) ((0 : Int) + (1 * p + 0)) ((hupR R 60 idx val) 58) ((hupR R 60 idx val) 67) ((hupR R 60 idx val) 68) ((hupR R 60 idx val) 60) ((hupR R 60 idx val) 66)), trivial⟩
  try simp only [Int.zero_add, Int.one_mul, Int.add_zero]
  have q_ : b8 = b9 := by omega
  subst q_
  subst g3
  subst g4
  have e_ := (q88_pl g0 g7 (by omega) (by omega)).1
  have e2_ : hupR R 60 idx val 60 = R 60 := by
    funext z_
    rw [hup58]
    split
    · rw [show z_ = k8 by omega]
      omega
    · rfl
  rw [hupR_o (R := R) (r := 60) (r' := 58) (a := idx) (v := val) (by decide), hupR_o (R := R) (r := 60) (r' := 67) (a := idx) (v := val) (by decide), hupR_o (R := R) (r := 60) (r' := 68) (a := idx) (v := val) (by decide), hupR_o (R := R) (r := 60) (r' := 66) (a := idx) (v := val) (by decide)]
  rw [e2_]
  exact hq

theorem tS_90_2_1 : vS rQ 90 hs_90_2_1 := by
  refine ⟨fun _ => ?_, fun h => absurd h (by decide)⟩
  intro R G ps idx val hl i0 i1 hq
  replace i1 : idx < 2002 := i1
  obtain ⟨b, p, rfl⟩ := hl2 hl
  replace hq : q90 b p (R 58) (R 67) (R 68) (R 60) (R 66) := rqo_90_2 hq
  refine hv4 (hm4 (fun b8 p8 i8 k8 g0 => ?_))
  replace g0 : q89 b8 i8 k8 (R 58) (R 67) (R 68) (R 60) (R 66) := rqo_89_4 g0
  refine hmb rfl ?_
  show hmt _ _ _ [b, p, idx, val, b8]
  refine hmb rfl ?_
  show hmt _ _ _ [b, p, idx, val, b8, p8]
  refine hmb rfl ?_
  show hmt _ _ _ [b, p, idx, val, b8, p8, i8]
  refine hmb rfl ?_
  show hmt _ _ _ [b, p, idx, val, b8, p8, i8, k8]
  refine hmn ?_
  show hV _ _ _ _ _ [b, p, idx, val, b8, p8, i8, k8]
  refine hv13 (fun g1 => ?_)
  replace g1 : ((0 : Int) + (1 * b8 + 0)) = ((0 : Int) + (1 * b + 0)) := g1
  refine hv13 (fun g2 => ?_)
  replace g2 : ((0 : Int) + (1 * p8 + 0)) = ((0 : Int) + (1 * p + 0)) := g2
  refine hv2 (fun to hag3 g3 => ?_)
  replace g3 : R 60 ((0 : Int) + (1 * k8 + 0)) = to := g3
  replace hag3 : (0 : Int) ≤ ((0 : Int) + (1 * k8 + 0)) := hag3
  replace g3 : R 60 (k8) = to := hF (R := R 60) g3 (ad_104 k8)
  show hV _ _ _ _ _ [b, p, idx, val, b8, p8, i8, k8, to]
  refine hv2 (fun V hag4 g4 => ?_)
  replace g4 : R 58 ((8295 : Int) + (1 * b + (40 * i8 + 0))) = V := g4
  replace hag4 : (0 : Int) ≤ ((8295 : Int) + (1 * b + (40 * i8 + 0))) := hag4
  replace g4 : dV (R 58) b (i8) = V := hF (R := R 58) g4 (ad_105 b i8)
  show hV _ _ _ _ _ [b, p, idx, val, b8, p8, i8, k8, to, V]
  refine hv2 (fun N hag5 g5 => ?_)
  replace g5 : R 58 ((8296 : Int) + (1 * b + (40 * i8 + 0))) = N := g5
  replace hag5 : (0 : Int) ≤ ((8296 : Int) + (1 * b + (40 * i8 + 0))) := hag5
  replace g5 : dL (R 58) b (i8) = N := hF (R := R 58) g5 (ad_106 b i8)
  show hV _ _ _ _ _ [b, p, idx, val, b8, p8, i8, k8, to, V, N]
  refine hv0 (fun g6 => ?_)
  replace g6 : (0 : Int) ≤ ((0 : Int) + (1 * k8 + ((-1) * V + 0))) := g6
  refine hv0 (fun g7 => ?_)
  replace g7 : (0 : Int) ≤ ((-1 : Int) + ((-1) * k8 + (1 * V + (1 * N + 0)))) := g7
  refine hv2 (fun t8 hag8 g8 => ?_)
  replace g8 : R 67 ((0 : Int) + (1 * p8 + 0)) = t8 := g8
  replace hag8 : (0 : Int) ≤ ((0 : Int) + (1 * p8 + 0)) := hag8
  replace g8 : R 67 (p8) = t8 := hF (R := R 67) g8 (ad_107 p8)
  show hV _ _ _ _ _ [b, p, idx, val, b8, p8, i8, k8, to, V, N, t8]
  refine hv13 (fun g9 => ?_)
  replace g9 : ((0 : Int) + (1 * t8 + 0)) = ((0 : Int) + (1 * i8 + 0)) := g9
  refine hv4 (hm3 (fun b9 q9 e9 g10 => ?_))
  replace g10 : q82 b9 q9 e9 (R 58) (R 67) (R 68) (R 60) := rqo_82_3 g10
  refine hmb rfl ?_
  show hmt _ _ _ [b, p, idx, val, b8, p8, i8, k8, to, V, N, t8, b9]
  refine hmb rfl ?_
  show hmt _ _ _ [b, p, idx, val, b8, p8, i8, k8, to, V, N, t8, b9, q9]
  refine hmb rfl ?_
  show hmt _ _ _ [b, p, idx, val, b8, p8, i8, k8, to, V, N, t8, b9, q9, e9]
  refine hmn ?_
  show hV _ _ _ _ _ [b, p, idx, val, b8, p8, i8, k8, to, V, N, t8, b9, q9, e9]
  refine hv13 (fun g11 => ?_)
  replace g11 : ((0 : Int) + (1 * b9 + 0)) = ((0 : Int) + (1 * b + 0)) := g11
  refine hv0 (fun g12 => ?_)
  replace g12 : (0 : Int) ≤ ((-1 : Int) + ((-1) * p8 + (1 * q9 + 0))) := g12
  refine hv4 (hm1 (fun n8 g13 => ?_))
  replace g13 : q80 n8 (R 67) := rqo_80_1 g13
  refine hmb rfl ?_
  show hmt _ _ _ [b, p, idx, val, b8, p8, i8, k8, to, V, N, t8, b9, q9, e9, n8]
  refine hmn ?_
  show hV _ _ _ _ _ [b, p, idx, val, b8, p8, i8, k8, to, V, N, t8, b9, q9, e9, n8]
  refine hv0 (fun g14 => ?_)
  replace g14 : (0 : Int) ≤ ((0 : Int) + ((-1) * q9 + (1 * n8 + 0))) := g14
  refine hv13 (fun g15 => ?_)
  replace g15 : ((0 : Int) + (1 * idx + 0)) = ((0 : Int) + (1 * to + 0)) := g15
  refine hvC ?_
  refine ⟨rqi_90_2 (?_ : q90 ((0 : Int) + (1 * b + 0)) ((0 : Int) + (1 * p + 0)) ((hupR R 66 idx val) 58) ((hupR R 66 idx val) 67) ((hupR R 66 idx val) 68) ((hupR R 66 idx val) 60) ((hupR R 66 idx val) 66)), trivial⟩
  try simp only [Int.zero_add, Int.one_mul, Int.add_zero]
  have q_ : b = b8 := by omega
  subst q_
  have q_ : p = p8 := by omega
  subst q_
  have q_ : b = b9 := by omega
  subst q_
  subst g3
  subst g4
  subst g5
  subst g8
  rw [hupR_o (R := R) (r := 66) (r' := 58) (a := idx) (v := val) (by decide), hupR_o (R := R) (r := 66) (r' := 67) (a := idx) (v := val) (by decide), hupR_o (R := R) (r := 66) (r' := 68) (a := idx) (v := val) (by decide), hupR_o (R := R) (r := 66) (r' := 60) (a := idx) (v := val) (by decide)]
  exact q90_CH (i := i8) (k := k8) (c := idx) hq g10 (by omega) (by omega) (by omega) (by omega) (by omega) (fun x hx => hup_n hx)

theorem tS_90_2_2 : vS rQ 90 hs_90_2_2 := by
  refine ⟨fun _ => ?_, fun h => absurd h (by decide)⟩
  intro R G ps idx val hl i0 i1 hq
  replace i1 : idx < 2002 := i1
  obtain ⟨b, p, rfl⟩ := hl2 hl
  replace hq : q90 b p (R 58) (R 67) (R 68) (R 60) (R 66) := rqo_90_2 hq
  refine hv4 (hm4 (fun b8 p8 i8 k8 g0 => ?_))
  replace g0 : q89 b8 i8 k8 (R 58) (R 67) (R 68) (R 60) (R 66) := rqo_89_4 g0
  refine hmb rfl ?_
  show hmt _ _ _ [b, p, idx, val, b8]
  refine hmb rfl ?_
  show hmt _ _ _ [b, p, idx, val, b8, p8]
  refine hmb rfl ?_
  show hmt _ _ _ [b, p, idx, val, b8, p8, i8]
  refine hmb rfl ?_
  show hmt _ _ _ [b, p, idx, val, b8, p8, i8, k8]
  refine hmn ?_
  show hV _ _ _ _ _ [b, p, idx, val, b8, p8, i8, k8]
  refine hv13 (fun g1 => ?_)
  replace g1 : ((0 : Int) + (1 * b8 + 0)) = ((0 : Int) + (1 * b + 0)) := g1
  refine hv13 (fun g2 => ?_)
  replace g2 : ((0 : Int) + (1 * p8 + 0)) = ((0 : Int) + (1 * p + 0)) := g2
  refine hv2 (fun to hag3 g3 => ?_)
  replace g3 : R 60 ((0 : Int) + (1 * k8 + 0)) = to := g3
  replace hag3 : (0 : Int) ≤ ((0 : Int) + (1 * k8 + 0)) := hag3
  replace g3 : R 60 (k8) = to := hF (R := R 60) g3 (ad_104 k8)
  show hV _ _ _ _ _ [b, p, idx, val, b8, p8, i8, k8, to]
  refine hv2 (fun V hag4 g4 => ?_)
  replace g4 : R 58 ((8295 : Int) + (1 * b + (40 * i8 + 0))) = V := g4
  replace hag4 : (0 : Int) ≤ ((8295 : Int) + (1 * b + (40 * i8 + 0))) := hag4
  replace g4 : dV (R 58) b (i8) = V := hF (R := R 58) g4 (ad_105 b i8)
  show hV _ _ _ _ _ [b, p, idx, val, b8, p8, i8, k8, to, V]
  refine hv2 (fun N hag5 g5 => ?_)
  replace g5 : R 58 ((8296 : Int) + (1 * b + (40 * i8 + 0))) = N := g5
  replace hag5 : (0 : Int) ≤ ((8296 : Int) + (1 * b + (40 * i8 + 0))) := hag5
  replace g5 : dL (R 58) b (i8) = N := hF (R := R 58) g5 (ad_106 b i8)
  show hV _ _ _ _ _ [b, p, idx, val, b8, p8, i8, k8, to, V, N]
  refine hv0 (fun g6 => ?_)
  replace g6 : (0 : Int) ≤ ((0 : Int) + (1 * k8 + ((-1) * V + 0))) := g6
  refine hv0 (fun g7 => ?_)
  replace g7 : (0 : Int) ≤ ((-1 : Int) + ((-1) * k8 + (1 * V + (1 * N + 0)))) := g7
  refine hv2 (fun t8 hag8 g8 => ?_)
  replace g8 : R 67 ((0 : Int) + (1 * p8 + 0)) = t8 := g8
  replace hag8 : (0 : Int) ≤ ((0 : Int) + (1 * p8 + 0)) := hag8
  replace g8 : R 67 (p8) = t8 := hF (R := R 67) g8 (ad_107 p8)
  show hV _ _ _ _ _ [b, p, idx, val, b8, p8, i8, k8, to, V, N, t8]
  refine hv13 (fun g9 => ?_)
  replace g9 : ((0 : Int) + (1 * t8 + 0)) = ((0 : Int) + (1 * i8 + 0)) := g9
  refine hv4 (hm3 (fun b9 q9 e9 g10 => ?_))
  replace g10 : q82 b9 q9 e9 (R 58) (R 67) (R 68) (R 60) := rqo_82_3 g10
  refine hmb rfl ?_
  show hmt _ _ _ [b, p, idx, val, b8, p8, i8, k8, to, V, N, t8, b9]
  refine hmb rfl ?_
  show hmt _ _ _ [b, p, idx, val, b8, p8, i8, k8, to, V, N, t8, b9, q9]
  refine hmb rfl ?_
  show hmt _ _ _ [b, p, idx, val, b8, p8, i8, k8, to, V, N, t8, b9, q9, e9]
  refine hmn ?_
  show hV _ _ _ _ _ [b, p, idx, val, b8, p8, i8, k8, to, V, N, t8, b9, q9, e9]
  refine hv13 (fun g11 => ?_)
  replace g11 : ((0 : Int) + (1 * b9 + 0)) = ((0 : Int) + (1 * b + 0)) := g11
  refine hv0 (fun g12 => ?_)
  replace g12 : (0 : Int) ≤ ((-1 : Int) + ((-1) * p8 + (1 * q9 + 0))) := g12
  refine hv4 (hm1 (fun n8 g13 => ?_))
  replace g13 : q80 n8 (R 67) := rqo_80_1 g13
  refine hmb rfl ?_
  show hmt _ _ _ [b, p, idx, val, b8, p8, i8, k8, to, V, N, t8, b9, q9, e9, n8]
  refine hmn ?_
  show hV _ _ _ _ _ [b, p, idx, val, b8, p8, i8, k8, to, V, N, t8, b9, q9, e9, n8]
  refine hv0 (fun g14 => ?_)
  replace g14 : (0 : Int) ≤ ((0 : Int) + ((-1) * q9 + (1 * n8 + 0))) := g14
  refine hv13 (fun g15 => ?_)
  replace g15 : ((0 : Int) + (1 * idx + 0)) = ((1 : Int) + (1 * to + 0)) := g15
  refine hv2 (fun kk hag16 g16 => ?_)
  replace g16 : R 58 ((22692 : Int) + (1 * b + (2 * k8 + 0))) = kk := g16
  replace hag16 : (0 : Int) ≤ ((22692 : Int) + (1 * b + (2 * k8 + 0))) := hag16
  replace g16 : iK (R 58) b (k8) = kk := hF (R := R 58) g16 (ad_108 b k8)
  show hV _ _ _ _ _ [b, p, idx, val, b8, p8, i8, k8, to, V, N, t8, b9, q9, e9, n8, kk]
  refine hv13 (fun g17 => ?_)
  replace g17 : ((0 : Int) + (1 * kk + 0)) = ((1 : Int) + 0) := g17
  refine hvC ?_
  refine ⟨rqi_90_2 (?_ : q90 ((0 : Int) + (1 * b + 0)) ((0 : Int) + (1 * p + 0)) ((hupR R 66 idx val) 58) ((hupR R 66 idx val) 67) ((hupR R 66 idx val) 68) ((hupR R 66 idx val) 60) ((hupR R 66 idx val) 66)), trivial⟩
  try simp only [Int.zero_add, Int.one_mul, Int.add_zero]
  have q_ : b = b8 := by omega
  subst q_
  have q_ : p = p8 := by omega
  subst q_
  have q_ : b = b9 := by omega
  subst q_
  subst g3
  subst g4
  subst g5
  subst g8
  subst g16
  rw [hupR_o (R := R) (r := 66) (r' := 58) (a := idx) (v := val) (by decide), hupR_o (R := R) (r := 66) (r' := 67) (a := idx) (v := val) (by decide), hupR_o (R := R) (r := 66) (r' := 68) (a := idx) (v := val) (by decide), hupR_o (R := R) (r := 66) (r' := 60) (a := idx) (v := val) (by decide)]
  exact q90_CH (i := i8) (k := k8) (c := idx) hq g10 (by omega) (by omega) (by omega) (by omega) (by omega) (fun x hx => hup_n hx)

theorem tS_90_2_3 : vS rQ 90 hs_90_2_3 := by
  refine ⟨fun _ => ?_, fun h => absurd h (by decide)⟩
  intro R G ps idx val hl i0 i1 hq
  replace i1 : idx < 2002 := i1
  obtain ⟨b, p, rfl⟩ := hl2 hl
  replace hq : q90 b p (R 58) (R 67) (R 68) (R 60) (R 66) := rqo_90_2 hq
  refine hv4 (hm4 (fun b8 p8 i8 k8 g0 => ?_))
  replace g0 : q89 b8 i8 k8 (R 58) (R 67) (R 68) (R 60) (R 66) := rqo_89_4 g0
  refine hmb rfl ?_
  show hmt _ _ _ [b, p, idx, val, b8]
  refine hmb rfl ?_
  show hmt _ _ _ [b, p, idx, val, b8, p8]
  refine hmb rfl ?_
  show hmt _ _ _ [b, p, idx, val, b8, p8, i8]
  refine hmb rfl ?_
  show hmt _ _ _ [b, p, idx, val, b8, p8, i8, k8]
  refine hmn ?_
  show hV _ _ _ _ _ [b, p, idx, val, b8, p8, i8, k8]
  refine hv13 (fun g1 => ?_)
  replace g1 : ((0 : Int) + (1 * b8 + 0)) = ((0 : Int) + (1 * b + 0)) := g1
  refine hv13 (fun g2 => ?_)
  replace g2 : ((0 : Int) + (1 * p8 + 0)) = ((0 : Int) + (1 * p + 0)) := g2
  refine hv2 (fun to hag3 g3 => ?_)
  replace g3 : R 60 ((0 : Int) + (1 * k8 + 0)) = to := g3
  replace hag3 : (0 : Int) ≤ ((0 : Int) + (1 * k8 + 0)) := hag3
  replace g3 : R 60 (k8) = to := hF (R := R 60) g3 (ad_104 k8)
  show hV _ _ _ _ _ [b, p, idx, val, b8, p8, i8, k8, to]
  refine hv2 (fun V hag4 g4 => ?_)
  replace g4 : R 58 ((8295 : Int) + (1 * b + (40 * i8 + 0))) = V := g4
  replace hag4 : (0 : Int) ≤ ((8295 : Int) + (1 * b + (40 * i8 + 0))) := hag4
  replace g4 : dV (R 58) b (i8) = V := hF (R := R 58) g4 (ad_105 b i8)
  show hV _ _ _ _ _ [b, p, idx, val, b8, p8, i8, k8, to, V]
  refine hv2 (fun N hag5 g5 => ?_)
  replace g5 : R 58 ((8296 : Int) + (1 * b + (40 * i8 + 0))) = N := g5
  replace hag5 : (0 : Int) ≤ ((8296 : Int) + (1 * b + (40 * i8 + 0))) := hag5
  replace g5 : dL (R 58) b (i8) = N := hF (R := R 58) g5 (ad_106 b i8)
  show hV _ _ _ _ _ [b, p, idx, val, b8, p8, i8, k8, to, V, N]
  refine hv0 (fun g6 => ?_)
  replace g6 : (0 : Int) ≤ ((0 : Int) + (1 * k8 + ((-1) * V + 0))) := g6
  refine hv0 (fun g7 => ?_)
  replace g7 : (0 : Int) ≤ ((-1 : Int) + ((-1) * k8 + (1 * V + (1 * N + 0)))) := g7
  refine hv2 (fun t8 hag8 g8 => ?_)
  replace g8 : R 67 ((0 : Int) + (1 * p8 + 0)) = t8 := g8
  replace hag8 : (0 : Int) ≤ ((0 : Int) + (1 * p8 + 0)) := hag8
  replace g8 : R 67 (p8) = t8 := hF (R := R 67) g8 (ad_107 p8)
  show hV _ _ _ _ _ [b, p, idx, val, b8, p8, i8, k8, to, V, N, t8]
  refine hv13 (fun g9 => ?_)
  replace g9 : ((0 : Int) + (1 * t8 + 0)) = ((0 : Int) + (1 * i8 + 0)) := g9
  refine hv4 (hm3 (fun b9 q9 e9 g10 => ?_))
  replace g10 : q82 b9 q9 e9 (R 58) (R 67) (R 68) (R 60) := rqo_82_3 g10
  refine hmb rfl ?_
  show hmt _ _ _ [b, p, idx, val, b8, p8, i8, k8, to, V, N, t8, b9]
  refine hmb rfl ?_
  show hmt _ _ _ [b, p, idx, val, b8, p8, i8, k8, to, V, N, t8, b9, q9]
  refine hmb rfl ?_
  show hmt _ _ _ [b, p, idx, val, b8, p8, i8, k8, to, V, N, t8, b9, q9, e9]
  refine hmn ?_
  show hV _ _ _ _ _ [b, p, idx, val, b8, p8, i8, k8, to, V, N, t8, b9, q9, e9]
  refine hv13 (fun g11 => ?_)
  replace g11 : ((0 : Int) + (1 * b9 + 0)) = ((0 : Int) + (1 * b + 0)) := g11
  refine hv0 (fun g12 => ?_)
  replace g12 : (0 : Int) ≤ ((-1 : Int) + ((-1) * p8 + (1 * q9 + 0))) := g12
  refine hv4 (hm1 (fun n8 g13 => ?_))
  replace g13 : q80 n8 (R 67) := rqo_80_1 g13
  refine hmb rfl ?_
  show hmt _ _ _ [b, p, idx, val, b8, p8, i8, k8, to, V, N, t8, b9, q9, e9, n8]
  refine hmn ?_
  show hV _ _ _ _ _ [b, p, idx, val, b8, p8, i8, k8, to, V, N, t8, b9, q9, e9, n8]
  refine hv0 (fun g14 => ?_)
  replace g14 : (0 : Int) ≤ ((0 : Int) + ((-1) * q9 + (1 * n8 + 0))) := g14
  refine hv13 (fun g15 => ?_)
  replace g15 : ((0 : Int) + (1 * idx + 0)) = ((1 : Int) + (1 * to + 0)) := g15
  refine hv2 (fun kk hag16 g16 => ?_)
  replace g16 : R 58 ((22692 : Int) + (1 * b + (2 * k8 + 0))) = kk := g16
  replace hag16 : (0 : Int) ≤ ((22692 : Int) + (1 * b + (2 * k8 + 0))) := hag16
  replace g16 : iK (R 58) b (k8) = kk := hF (R := R 58) g16 (ad_108 b k8)
  show hV _ _ _ _ _ [b, p, idx, val, b8, p8, i8, k8, to, V, N, t8, b9, q9, e9, n8, kk]
  refine hv13 (fun g17 => ?_)
  replace g17 : ((0 : Int) + (1 * kk + 0)) = ((0 : Int) + 0) := g17
  refine hv2 (fun nn hag18 g18 => ?_)
  replace g18 : R 58 ((22693 : Int) + (1 * b + (2 * k8 + 0))) = nn := g18
  replace hag18 : (0 : Int) ≤ ((22693 : Int) + (1 * b + (2 * k8 + 0))) := hag18
  replace g18 : iN (R 58) b (k8) = nn := hF (R := R 58) g18 (ad_109 b k8)
  show hV _ _ _ _ _ [b, p, idx, val, b8, p8, i8, k8, to, V, N, t8, b9, q9, e9, n8, kk, nn]
  refine hv2 (fun wk hag19 g19 => ?_)
  replace g19 : R 58 ((8292 : Int) + (1 * b + (40 * nn + 0))) = wk := g19
  replace hag19 : (0 : Int) ≤ ((8292 : Int) + (1 * b + (40 * nn + 0))) := hag19
  replace g19 : dK (R 58) b (nn) = wk := hF (R := R 58) g19 (ad_41 b nn)
  show hV _ _ _ _ _ [b, p, idx, val, b8, p8, i8, k8, to, V, N, t8, b9, q9, e9, n8, kk, nn, wk]
  refine hv0 (fun g20 => ?_)
  replace g20 : (0 : Int) ≤ ((-2 : Int) + (1 * wk + 0)) := g20
  refine hvC ?_
  refine ⟨rqi_90_2 (?_ : q90 ((0 : Int) + (1 * b + 0)) ((0 : Int) + (1 * p + 0)) ((hupR R 66 idx val) 58) ((hupR R 66 idx val) 67) ((hupR R 66 idx val) 68) ((hupR R 66 idx val) 60) ((hupR R 66 idx val) 66)), trivial⟩
  try simp only [Int.zero_add, Int.one_mul, Int.add_zero]
  have q_ : b = b8 := by omega
  subst q_
  have q_ : p = p8 := by omega
  subst q_
  have q_ : b = b9 := by omega
  subst q_
  subst g3
  subst g4
  subst g5
  subst g8
  subst g16
  subst g18
  subst g19
  rw [hupR_o (R := R) (r := 66) (r' := 58) (a := idx) (v := val) (by decide), hupR_o (R := R) (r := 66) (r' := 67) (a := idx) (v := val) (by decide), hupR_o (R := R) (r := 66) (r' := 68) (a := idx) (v := val) (by decide), hupR_o (R := R) (r := 66) (r' := 60) (a := idx) (v := val) (by decide)]
  exact q90_CH (i := i8) (k := k8) (c := idx) hq g10 (by omega) (by omega) (by omega) (by omega) (by omega) (fun x hx => hup_n hx)

theorem tS_24_0_0 : vS rQ 24 hs_24_0_0 := by
  refine ⟨fun h => absurd h (by decide), fun _ => ?_⟩
  intro R G ps b k hl hq
  obtain rfl := hl0 hl
  replace hq : G 27 ≤ 0 ∨ 2 ≤ R 58 198501 := rqo_24_0 hq
  refine hv13 (fun g0 => ?_)
  replace g0 : ((0 : Int) + (1 * k + 0)) = ((0 : Int) + 0) := g0
  refine hvC ?_
  refine ⟨rqi_24_0 (?_ : (hupG G 27 k) 27 ≤ 0 ∨ 2 ≤ R 58 198501), trivial⟩
  try simp only [Int.zero_add, Int.one_mul, Int.add_zero]
  have e : hupG G 27 k 27 = k := by unfold hupG; rw [if_pos rfl]
  omega

theorem tS_23_0_0 : vS rQ 23 hs_23_0_0 := by
  refine ⟨fun h => absurd h (by decide), fun _ => ?_⟩
  intro R G ps b k hl hq
  obtain rfl := hl0 hl
  replace hq : q23 (G 27) (G 28) (R 66) (R 58) := rqo_23_0 hq
  refine hv13 (fun g0 => ?_)
  replace g0 : ((0 : Int) + (1 * k + 0)) = ((0 : Int) + 0) := g0
  refine hvC ?_
  refine ⟨rqi_23_0 (?_ : q23 ((hupG G 27 k) 27) ((hupG G 27 k) 28) (R 66) (R 58)), trivial⟩
  try simp only [Int.zero_add, Int.one_mul, Int.add_zero]
  have e : hupG G 27 k 27 = k := by unfold hupG; rw [if_pos rfl]
  exact ⟨by omega, Or.inl (by omega)⟩

theorem tK_1_0_0 : vK rQ 1 hk_1_0_0 := by
  intro R R' G ps lo hi hl r1 r2 hq
  obtain rfl := hl0 hl
  replace hq : qT bs0 c1 [] (R 58) := rqo_1_0 hq
  replace r2 : ∀ i, i < lo ∨ hi < i → R' 58 i = R 58 i := r2
  refine hv0 (fun g0 => ?_)
  replace g0 : (0 : Int) ≤ ((-238200 : Int) + (1 * lo + 0)) := g0
  refine hvC ?_
  refine rqi_1_0 (?_ : qT bs0 c1 [] (R' 58))
  intro z E hb hx
  have hh := hq z E hb hx
  unfold bs0 at hb
  obtain ⟨z0, z1, ze⟩ := hb
  unfold c1 at *
  have w0 : R' 58 (E + 35) = R 58 (E + 35) := r2 _ (by omega)
  have w1 : R' 58 (E + 1) = R 58 (E + 1) := r2 _ (by omega)
  rw [w0, w1]
  exact hh

theorem tK_1_0_1 : vK rQ 1 hk_1_0_1 := by
  intro R R' G ps lo hi hl r1 r2 hq
  obtain rfl := hl0 hl
  replace hq : qT bs0 c1 [] (R 58) := rqo_1_0 hq
  replace r2 : ∀ i, i < lo ∨ hi < i → R' 58 i = R 58 i := r2
  refine hv8 (fun q r g0 g0a g0b => ?_)
  replace g0 : ((0 : Int) + (1 * lo + 0)) = ((39700 : Nat) : Int) * q + r := g0
  replace g0b : r < ((39700 : Nat) : Int) := g0b
  show hV _ _ _ _ _ [lo, hi, q, r]
  refine hv8 (fun q1 r1 g1 g1a g1b => ?_)
  replace g1 : ((0 : Int) + (1 * hi + 0)) = ((39700 : Nat) : Int) * q1 + r1 := g1
  replace g1b : r1 < ((39700 : Nat) : Int) := g1b
  show hV _ _ _ _ _ [lo, hi, q, r, q1, r1]
  refine hv13 (fun g2 => ?_)
  replace g2 : ((0 : Int) + (1 * q + 0)) = ((0 : Int) + (1 * q1 + 0)) := g2
  refine hv11 (fun g3 => ?_)
  obtain ⟨f0, f1, -⟩ := g3
  replace f0 : ∀ i j : Int, 0 ≤ i → i < ((1 : Int) + 0) → 0 ≤ j → j < 1 → ((35 : Int) + 0) + 1 * i + 1 * j < ((0 : Int) + (1 * r + 0)) ∨ ((0 : Int) + (1 * r1 + 0)) < ((35 : Int) + 0) + 1 * i + 1 * j := f0
  replace f1 : ∀ i j : Int, 0 ≤ i → i < ((1 : Int) + 0) → 0 ≤ j → j < 1 → ((1 : Int) + 0) + 1 * i + 1 * j < ((0 : Int) + (1 * r + 0)) ∨ ((0 : Int) + (1 * r1 + 0)) < ((1 : Int) + 0) + 1 * i + 1 * j := f1
  refine hvC ?_
  refine rqi_1_0 (?_ : qT bs0 c1 [] (R' 58))
  intro z E hb hx
  have hh := hq z E hb hx
  unfold bs0 at hb
  obtain ⟨z0, z1, ze⟩ := hb
  unfold c1 at *
  have w0 : R' 58 (E + 35) = R 58 (E + 35) := r2 _ (by rcases (show z = q ∨ z ≠ q by omega) with c | c; (have t := f0 0 0 (by omega) (by omega) (by omega) (by omega); omega); omega)
  have w1 : R' 58 (E + 1) = R 58 (E + 1) := r2 _ (by rcases (show z = q ∨ z ≠ q by omega) with c | c; (have t := f1 0 0 (by omega) (by omega) (by omega) (by omega); omega); omega)
  rw [w0, w1]
  exact hh

theorem tK_1_1_0 : vK rQ 1 hk_1_1_0 := by
  intro R R' G ps lo hi hl r1 r2 hq
  obtain ⟨x0, rfl⟩ := hl1 hl
  replace hq : qT bs0 c1 [x0] (R 58) := rqo_1_1 hq
  replace r2 : ∀ i, i < lo ∨ hi < i → R' 58 i = R 58 i := r2
  refine hv8 (fun q r g0 g0a g0b => ?_)
  replace g0 : ((0 : Int) + (1 * lo + 0)) = ((39700 : Nat) : Int) * q + r := g0
  replace g0b : r < ((39700 : Nat) : Int) := g0b
  show hV _ _ _ _ _ [x0, lo, hi, q, r]
  refine hv8 (fun q1 r1 g1 g1a g1b => ?_)
  replace g1 : ((0 : Int) + (1 * hi + 0)) = ((39700 : Nat) : Int) * q1 + r1 := g1
  replace g1b : r1 < ((39700 : Nat) : Int) := g1b
  show hV _ _ _ _ _ [x0, lo, hi, q, r, q1, r1]
  refine hv13 (fun g2 => ?_)
  replace g2 : ((0 : Int) + (1 * q + 0)) = ((0 : Int) + (1 * q1 + 0)) := g2
  refine hv13 (fun g3 => ?_)
  replace g3 : ((0 : Int) + (39700 * q + 0)) = ((0 : Int) + (1 * x0 + 0)) := g3
  refine hvC ?_
  refine rqi_1_1 (?_ : qT bs0 c1 [x0] (R' 58))
  intro z E hb hx
  have hh := hq z E hb hx
  unfold bs0 at hb
  obtain ⟨z0, z1, ze⟩ := hb
  unfold c1 at *
  have hne := hx x0 (by simp)
  have w0 : R' 58 (E + 35) = R 58 (E + 35) := r2 _ (by omega)
  have w1 : R' 58 (E + 1) = R 58 (E + 1) := r2 _ (by omega)
  rw [w0, w1]
  exact hh

theorem tK_2_0_0 : vK rQ 2 hk_2_0_0 := by
  intro R R' G ps lo hi hl r1 r2 hq
  obtain rfl := hl0 hl
  replace hq : qT bs0 c2 [] (R 58) := rqo_2_0 hq
  replace r2 : ∀ i, i < lo ∨ hi < i → R' 58 i = R 58 i := r2
  refine hv0 (fun g0 => ?_)
  replace g0 : (0 : Int) ≤ ((-238200 : Int) + (1 * lo + 0)) := g0
  refine hvC ?_
  refine rqi_2_0 (?_ : qT bs0 c2 [] (R' 58))
  intro z E hb hx
  have hh := hq z E hb hx
  unfold bs0 at hb
  obtain ⟨z0, z1, ze⟩ := hb
  unfold c2 at *
  have w0 : R' 58 (E + 8) = R 58 (E + 8) := r2 _ (by omega)
  have w1 : R' 58 (E + 24) = R 58 (E + 24) := r2 _ (by omega)
  rw [w0, w1]
  exact hh

theorem tK_2_0_1 : vK rQ 2 hk_2_0_1 := by
  intro R R' G ps lo hi hl r1 r2 hq
  obtain rfl := hl0 hl
  replace hq : qT bs0 c2 [] (R 58) := rqo_2_0 hq
  replace r2 : ∀ i, i < lo ∨ hi < i → R' 58 i = R 58 i := r2
  refine hv8 (fun q r g0 g0a g0b => ?_)
  replace g0 : ((0 : Int) + (1 * lo + 0)) = ((39700 : Nat) : Int) * q + r := g0
  replace g0b : r < ((39700 : Nat) : Int) := g0b
  show hV _ _ _ _ _ [lo, hi, q, r]
  refine hv8 (fun q1 r1 g1 g1a g1b => ?_)
  replace g1 : ((0 : Int) + (1 * hi + 0)) = ((39700 : Nat) : Int) * q1 + r1 := g1
  replace g1b : r1 < ((39700 : Nat) : Int) := g1b
  show hV _ _ _ _ _ [lo, hi, q, r, q1, r1]
  refine hv13 (fun g2 => ?_)
  replace g2 : ((0 : Int) + (1 * q + 0)) = ((0 : Int) + (1 * q1 + 0)) := g2
  refine hv11 (fun g3 => ?_)
  obtain ⟨f0, f1, -⟩ := g3
  replace f0 : ∀ i j : Int, 0 ≤ i → i < ((1 : Int) + 0) → 0 ≤ j → j < 1 → ((8 : Int) + 0) + 1 * i + 1 * j < ((0 : Int) + (1 * r + 0)) ∨ ((0 : Int) + (1 * r1 + 0)) < ((8 : Int) + 0) + 1 * i + 1 * j := f0
  replace f1 : ∀ i j : Int, 0 ≤ i → i < ((1 : Int) + 0) → 0 ≤ j → j < 1 → ((24 : Int) + 0) + 1 * i + 1 * j < ((0 : Int) + (1 * r + 0)) ∨ ((0 : Int) + (1 * r1 + 0)) < ((24 : Int) + 0) + 1 * i + 1 * j := f1
  refine hvC ?_
  refine rqi_2_0 (?_ : qT bs0 c2 [] (R' 58))
  intro z E hb hx
  have hh := hq z E hb hx
  unfold bs0 at hb
  obtain ⟨z0, z1, ze⟩ := hb
  unfold c2 at *
  have w0 : R' 58 (E + 8) = R 58 (E + 8) := r2 _ (by rcases (show z = q ∨ z ≠ q by omega) with c | c; (have t := f0 0 0 (by omega) (by omega) (by omega) (by omega); omega); omega)
  have w1 : R' 58 (E + 24) = R 58 (E + 24) := r2 _ (by rcases (show z = q ∨ z ≠ q by omega) with c | c; (have t := f1 0 0 (by omega) (by omega) (by omega) (by omega); omega); omega)
  rw [w0, w1]
  exact hh

theorem tK_2_1_0 : vK rQ 2 hk_2_1_0 := by
  intro R R' G ps lo hi hl r1 r2 hq
  obtain ⟨x0, rfl⟩ := hl1 hl
  replace hq : qT bs0 c2 [x0] (R 58) := rqo_2_1 hq
  replace r2 : ∀ i, i < lo ∨ hi < i → R' 58 i = R 58 i := r2
  refine hv8 (fun q r g0 g0a g0b => ?_)
  replace g0 : ((0 : Int) + (1 * lo + 0)) = ((39700 : Nat) : Int) * q + r := g0
  replace g0b : r < ((39700 : Nat) : Int) := g0b
  show hV _ _ _ _ _ [x0, lo, hi, q, r]
  refine hv8 (fun q1 r1 g1 g1a g1b => ?_)
  replace g1 : ((0 : Int) + (1 * hi + 0)) = ((39700 : Nat) : Int) * q1 + r1 := g1
  replace g1b : r1 < ((39700 : Nat) : Int) := g1b
  show hV _ _ _ _ _ [x0, lo, hi, q, r, q1, r1]
  refine hv13 (fun g2 => ?_)
  replace g2 : ((0 : Int) + (1 * q + 0)) = ((0 : Int) + (1 * q1 + 0)) := g2
  refine hv11 (fun g3 => ?_)
  obtain ⟨f0, f1, -⟩ := g3
  replace f0 : ∀ i j : Int, 0 ≤ i → i < ((1 : Int) + 0) → 0 ≤ j → j < 1 → ((8 : Int) + 0) + 1 * i + 1 * j < ((0 : Int) + (1 * r + 0)) ∨ ((0 : Int) + (1 * r1 + 0)) < ((8 : Int) + 0) + 1 * i + 1 * j := f0
  replace f1 : ∀ i j : Int, 0 ≤ i → i < ((1 : Int) + 0) → 0 ≤ j → j < 1 → ((24 : Int) + 0) + 1 * i + 1 * j < ((0 : Int) + (1 * r + 0)) ∨ ((0 : Int) + (1 * r1 + 0)) < ((24 : Int) + 0) + 1 * i + 1 * j := f1
  refine hvC ?_
  refine rqi_2_1 (?_ : qT bs0 c2 [x0] (R' 58))
  intro z E hb hx
  have hh := hq z E hb hx
  unfold bs0 at hb
  obtain ⟨z0, z1, ze⟩ := hb
  unfold c2 at *
  have w0 : R' 58 (E + 8) = R 58 (E + 8) := r2 _ (by rcases (show z = q ∨ z ≠ q by omega) with c | c; (have t := f0 0 0 (by omega) (by omega) (by omega) (by omega); omega); omega)
  have w1 : R' 58 (E + 24) = R 58 (E + 24) := r2 _ (by rcases (show z = q ∨ z ≠ q by omega) with c | c; (have t := f1 0 0 (by omega) (by omega) (by omega) (by omega); omega); omega)
  rw [w0, w1]
  exact hh

theorem tK_2_1_1 : vK rQ 2 hk_2_1_1 := by
  intro R R' G ps lo hi hl r1 r2 hq
  obtain ⟨x0, rfl⟩ := hl1 hl
  replace hq : qT bs0 c2 [x0] (R 58) := rqo_2_1 hq
  replace r2 : ∀ i, i < lo ∨ hi < i → R' 58 i = R 58 i := r2
  refine hv8 (fun q r g0 g0a g0b => ?_)
  replace g0 : ((0 : Int) + (1 * lo + 0)) = ((39700 : Nat) : Int) * q + r := g0
  replace g0b : r < ((39700 : Nat) : Int) := g0b
  show hV _ _ _ _ _ [x0, lo, hi, q, r]
  refine hv8 (fun q1 r1 g1 g1a g1b => ?_)
  replace g1 : ((0 : Int) + (1 * hi + 0)) = ((39700 : Nat) : Int) * q1 + r1 := g1
  replace g1b : r1 < ((39700 : Nat) : Int) := g1b
  show hV _ _ _ _ _ [x0, lo, hi, q, r, q1, r1]
  refine hv13 (fun g2 => ?_)
  replace g2 : ((0 : Int) + (1 * q + 0)) = ((0 : Int) + (1 * q1 + 0)) := g2
  refine hv13 (fun g3 => ?_)
  replace g3 : ((0 : Int) + (39700 * q + 0)) = ((0 : Int) + (1 * x0 + 0)) := g3
  refine hvC ?_
  refine rqi_2_1 (?_ : qT bs0 c2 [x0] (R' 58))
  intro z E hb hx
  have hh := hq z E hb hx
  unfold bs0 at hb
  obtain ⟨z0, z1, ze⟩ := hb
  unfold c2 at *
  have hne := hx x0 (by simp)
  have w0 : R' 58 (E + 8) = R 58 (E + 8) := r2 _ (by omega)
  have w1 : R' 58 (E + 24) = R 58 (E + 24) := r2 _ (by omega)
  rw [w0, w1]
  exact hh

theorem tK_8_0_0 : vK rQ 8 hk_8_0_0 := by
  intro R R' G ps lo hi hl r1 r2 hq
  obtain rfl := hl0 hl
  replace hq : qT bs0 c8 [] (R 58) := rqo_8_0 hq
  replace r2 : ∀ i, i < lo ∨ hi < i → R' 58 i = R 58 i := r2
  refine hv0 (fun g0 => ?_)
  replace g0 : (0 : Int) ≤ ((-238200 : Int) + (1 * lo + 0)) := g0
  refine hvC ?_
  refine rqi_8_0 (?_ : qT bs0 c8 [] (R' 58))
  intro z E hb hx
  have hh := hq z E hb hx
  unfold bs0 at hb
  obtain ⟨z0, z1, ze⟩ := hb
  unfold c8 at *
  have w0 : R' 58 (E + 35) = R 58 (E + 35) := r2 _ (by omega)
  have w1 : R' 58 (E + 33) = R 58 (E + 33) := r2 _ (by omega)
  rw [w0, w1]
  exact hh

theorem tK_8_0_1 : vK rQ 8 hk_8_0_1 := by
  intro R R' G ps lo hi hl r1 r2 hq
  obtain rfl := hl0 hl
  replace hq : qT bs0 c8 [] (R 58) := rqo_8_0 hq
  replace r2 : ∀ i, i < lo ∨ hi < i → R' 58 i = R 58 i := r2
  refine hv8 (fun q r g0 g0a g0b => ?_)
  replace g0 : ((0 : Int) + (1 * lo + 0)) = ((39700 : Nat) : Int) * q + r := g0
  replace g0b : r < ((39700 : Nat) : Int) := g0b
  show hV _ _ _ _ _ [lo, hi, q, r]
  refine hv8 (fun q1 r1 g1 g1a g1b => ?_)
  replace g1 : ((0 : Int) + (1 * hi + 0)) = ((39700 : Nat) : Int) * q1 + r1 := g1
  replace g1b : r1 < ((39700 : Nat) : Int) := g1b
  show hV _ _ _ _ _ [lo, hi, q, r, q1, r1]
  refine hv13 (fun g2 => ?_)
  replace g2 : ((0 : Int) + (1 * q + 0)) = ((0 : Int) + (1 * q1 + 0)) := g2
  refine hv11 (fun g3 => ?_)
  obtain ⟨f0, f1, -⟩ := g3
  replace f0 : ∀ i j : Int, 0 ≤ i → i < ((1 : Int) + 0) → 0 ≤ j → j < 1 → ((35 : Int) + 0) + 1 * i + 1 * j < ((0 : Int) + (1 * r + 0)) ∨ ((0 : Int) + (1 * r1 + 0)) < ((35 : Int) + 0) + 1 * i + 1 * j := f0
  replace f1 : ∀ i j : Int, 0 ≤ i → i < ((1 : Int) + 0) → 0 ≤ j → j < 1 → ((33 : Int) + 0) + 1 * i + 1 * j < ((0 : Int) + (1 * r + 0)) ∨ ((0 : Int) + (1 * r1 + 0)) < ((33 : Int) + 0) + 1 * i + 1 * j := f1
  refine hvC ?_
  refine rqi_8_0 (?_ : qT bs0 c8 [] (R' 58))
  intro z E hb hx
  have hh := hq z E hb hx
  unfold bs0 at hb
  obtain ⟨z0, z1, ze⟩ := hb
  unfold c8 at *
  have w0 : R' 58 (E + 35) = R 58 (E + 35) := r2 _ (by rcases (show z = q ∨ z ≠ q by omega) with c | c; (have t := f0 0 0 (by omega) (by omega) (by omega) (by omega); omega); omega)
  have w1 : R' 58 (E + 33) = R 58 (E + 33) := r2 _ (by rcases (show z = q ∨ z ≠ q by omega) with c | c; (have t := f1 0 0 (by omega) (by omega) (by omega) (by omega); omega); omega)
  rw [w0, w1]
  exact hh

theorem tK_8_1_0 : vK rQ 8 hk_8_1_0 := by
  intro R R' G ps lo hi hl r1 r2 hq
  obtain ⟨x0, rfl⟩ := hl1 hl
  replace hq : qT bs0 c8 [x0] (R 58) := rqo_8_1 hq
  replace r2 : ∀ i, i < lo ∨ hi < i → R' 58 i = R 58 i := r2
  refine hv8 (fun q r g0 g0a g0b => ?_)
  replace g0 : ((0 : Int) + (1 * lo + 0)) = ((39700 : Nat) : Int) * q + r := g0
  replace g0b : r < ((39700 : Nat) : Int) := g0b
  show hV _ _ _ _ _ [x0, lo, hi, q, r]
  refine hv8 (fun q1 r1 g1 g1a g1b => ?_)
  replace g1 : ((0 : Int) + (1 * hi + 0)) = ((39700 : Nat) : Int) * q1 + r1 := g1
  replace g1b : r1 < ((39700 : Nat) : Int) := g1b
  show hV _ _ _ _ _ [x0, lo, hi, q, r, q1, r1]
  refine hv13 (fun g2 => ?_)
  replace g2 : ((0 : Int) + (1 * q + 0)) = ((0 : Int) + (1 * q1 + 0)) := g2
  refine hv11 (fun g3 => ?_)
  obtain ⟨f0, f1, -⟩ := g3
  replace f0 : ∀ i j : Int, 0 ≤ i → i < ((1 : Int) + 0) → 0 ≤ j → j < 1 → ((35 : Int) + 0) + 1 * i + 1 * j < ((0 : Int) + (1 * r + 0)) ∨ ((0 : Int) + (1 * r1 + 0)) < ((35 : Int) + 0) + 1 * i + 1 * j := f0
  replace f1 : ∀ i j : Int, 0 ≤ i → i < ((1 : Int) + 0) → 0 ≤ j → j < 1 → ((33 : Int) + 0) + 1 * i + 1 * j < ((0 : Int) + (1 * r + 0)) ∨ ((0 : Int) + (1 * r1 + 0)) < ((33 : Int) + 0) + 1 * i + 1 * j := f1
  refine hvC ?_
  refine rqi_8_1 (?_ : qT bs0 c8 [x0] (R' 58))
  intro z E hb hx
  have hh := hq z E hb hx
  unfold bs0 at hb
  obtain ⟨z0, z1, ze⟩ := hb
  unfold c8 at *
  have w0 : R' 58 (E + 35) = R 58 (E + 35) := r2 _ (by rcases (show z = q ∨ z ≠ q by omega) with c | c; (have t := f0 0 0 (by omega) (by omega) (by omega) (by omega); omega); omega)
  have w1 : R' 58 (E + 33) = R 58 (E + 33) := r2 _ (by rcases (show z = q ∨ z ≠ q by omega) with c | c; (have t := f1 0 0 (by omega) (by omega) (by omega) (by omega); omega); omega)
  rw [w0, w1]
  exact hh

theorem tK_8_1_1 : vK rQ 8 hk_8_1_1 := by
  intro R R' G ps lo hi hl r1 r2 hq
  obtain ⟨x0, rfl⟩ := hl1 hl
  replace hq : qT bs0 c8 [x0] (R 58) := rqo_8_1 hq
  replace r2 : ∀ i, i < lo ∨ hi < i → R' 58 i = R 58 i := r2
  refine hv8 (fun q r g0 g0a g0b => ?_)
  replace g0 : ((0 : Int) + (1 * lo + 0)) = ((39700 : Nat) : Int) * q + r := g0
  replace g0b : r < ((39700 : Nat) : Int) := g0b
  show hV _ _ _ _ _ [x0, lo, hi, q, r]
  refine hv8 (fun q1 r1 g1 g1a g1b => ?_)
  replace g1 : ((0 : Int) + (1 * hi + 0)) = ((39700 : Nat) : Int) * q1 + r1 := g1
  replace g1b : r1 < ((39700 : Nat) : Int) := g1b
  show hV _ _ _ _ _ [x0, lo, hi, q, r, q1, r1]
  refine hv13 (fun g2 => ?_)
  replace g2 : ((0 : Int) + (1 * q + 0)) = ((0 : Int) + (1 * q1 + 0)) := g2
  refine hv13 (fun g3 => ?_)
  replace g3 : ((0 : Int) + (39700 * q + 0)) = ((0 : Int) + (1 * x0 + 0)) := g3
  refine hvC ?_
  refine rqi_8_1 (?_ : qT bs0 c8 [x0] (R' 58))
  intro z E hb hx
  have hh := hq z E hb hx
  unfold bs0 at hb
  obtain ⟨z0, z1, ze⟩ := hb
  unfold c8 at *
  have hne := hx x0 (by simp)
  have w0 : R' 58 (E + 35) = R 58 (E + 35) := r2 _ (by omega)
  have w1 : R' 58 (E + 33) = R 58 (E + 33) := r2 _ (by omega)
  rw [w0, w1]
  exact hh

theorem tK_7_0_0 : vK rQ 7 hk_7_0_0 := by
  intro R R' G ps lo hi hl r1 r2 hq
  obtain rfl := hl0 hl
  replace hq : qT bs0 c7 [] (R 58) := rqo_7_0 hq
  replace r2 : ∀ i, i < lo ∨ hi < i → R' 58 i = R 58 i := r2
  refine hv0 (fun g0 => ?_)
  replace g0 : (0 : Int) ≤ ((-238200 : Int) + (1 * lo + 0)) := g0
  refine hvC ?_
  refine rqi_7_0 (?_ : qT bs0 c7 [] (R' 58))
  intro z E hb hx
  have hh := hq z E hb hx
  unfold bs0 at hb
  obtain ⟨z0, z1, ze⟩ := hb
  unfold c7 at *
  have w0 : R' 58 (E + 35) = R 58 (E + 35) := r2 _ (by omega)
  have w1 : R' 58 (E + 4) = R 58 (E + 4) := r2 _ (by omega)
  rw [w0, w1]
  exact hh

theorem tK_7_0_1 : vK rQ 7 hk_7_0_1 := by
  intro R R' G ps lo hi hl r1 r2 hq
  obtain rfl := hl0 hl
  replace hq : qT bs0 c7 [] (R 58) := rqo_7_0 hq
  replace r2 : ∀ i, i < lo ∨ hi < i → R' 58 i = R 58 i := r2
  refine hv8 (fun q r g0 g0a g0b => ?_)
  replace g0 : ((0 : Int) + (1 * lo + 0)) = ((39700 : Nat) : Int) * q + r := g0
  replace g0b : r < ((39700 : Nat) : Int) := g0b
  show hV _ _ _ _ _ [lo, hi, q, r]
  refine hv8 (fun q1 r1 g1 g1a g1b => ?_)
  replace g1 : ((0 : Int) + (1 * hi + 0)) = ((39700 : Nat) : Int) * q1 + r1 := g1
  replace g1b : r1 < ((39700 : Nat) : Int) := g1b
  show hV _ _ _ _ _ [lo, hi, q, r, q1, r1]
  refine hv13 (fun g2 => ?_)
  replace g2 : ((0 : Int) + (1 * q + 0)) = ((0 : Int) + (1 * q1 + 0)) := g2
  refine hv11 (fun g3 => ?_)
  obtain ⟨f0, f1, -⟩ := g3
  replace f0 : ∀ i j : Int, 0 ≤ i → i < ((1 : Int) + 0) → 0 ≤ j → j < 1 → ((35 : Int) + 0) + 1 * i + 1 * j < ((0 : Int) + (1 * r + 0)) ∨ ((0 : Int) + (1 * r1 + 0)) < ((35 : Int) + 0) + 1 * i + 1 * j := f0
  replace f1 : ∀ i j : Int, 0 ≤ i → i < ((1 : Int) + 0) → 0 ≤ j → j < 1 → ((4 : Int) + 0) + 1 * i + 1 * j < ((0 : Int) + (1 * r + 0)) ∨ ((0 : Int) + (1 * r1 + 0)) < ((4 : Int) + 0) + 1 * i + 1 * j := f1
  refine hvC ?_
  refine rqi_7_0 (?_ : qT bs0 c7 [] (R' 58))
  intro z E hb hx
  have hh := hq z E hb hx
  unfold bs0 at hb
  obtain ⟨z0, z1, ze⟩ := hb
  unfold c7 at *
  have w0 : R' 58 (E + 35) = R 58 (E + 35) := r2 _ (by rcases (show z = q ∨ z ≠ q by omega) with c | c; (have t := f0 0 0 (by omega) (by omega) (by omega) (by omega); omega); omega)
  have w1 : R' 58 (E + 4) = R 58 (E + 4) := r2 _ (by rcases (show z = q ∨ z ≠ q by omega) with c | c; (have t := f1 0 0 (by omega) (by omega) (by omega) (by omega); omega); omega)
  rw [w0, w1]
  exact hh

theorem tK_7_1_0 : vK rQ 7 hk_7_1_0 := by
  intro R R' G ps lo hi hl r1 r2 hq
  obtain ⟨x0, rfl⟩ := hl1 hl
  replace hq : qT bs0 c7 [x0] (R 58) := rqo_7_1 hq
  replace r2 : ∀ i, i < lo ∨ hi < i → R' 58 i = R 58 i := r2
  refine hv8 (fun q r g0 g0a g0b => ?_)
  replace g0 : ((0 : Int) + (1 * lo + 0)) = ((39700 : Nat) : Int) * q + r := g0
  replace g0b : r < ((39700 : Nat) : Int) := g0b
  show hV _ _ _ _ _ [x0, lo, hi, q, r]
  refine hv8 (fun q1 r1 g1 g1a g1b => ?_)
  replace g1 : ((0 : Int) + (1 * hi + 0)) = ((39700 : Nat) : Int) * q1 + r1 := g1
  replace g1b : r1 < ((39700 : Nat) : Int) := g1b
  show hV _ _ _ _ _ [x0, lo, hi, q, r, q1, r1]
  refine hv13 (fun g2 => ?_)
  replace g2 : ((0 : Int) + (1 * q + 0)) = ((0 : Int) + (1 * q1 + 0)) := g2
  refine hv11 (fun g3 => ?_)
  obtain ⟨f0, f1, -⟩ := g3
  replace f0 : ∀ i j : Int, 0 ≤ i → i < ((1 : Int) + 0) → 0 ≤ j → j < 1 → ((35 : Int) + 0) + 1 * i + 1 * j < ((0 : Int) + (1 * r + 0)) ∨ ((0 : Int) + (1 * r1 + 0)) < ((35 : Int) + 0) + 1 * i + 1 * j := f0
  replace f1 : ∀ i j : Int, 0 ≤ i → i < ((1 : Int) + 0) → 0 ≤ j → j < 1 → ((4 : Int) + 0) + 1 * i + 1 * j < ((0 : Int) + (1 * r + 0)) ∨ ((0 : Int) + (1 * r1 + 0)) < ((4 : Int) + 0) + 1 * i + 1 * j := f1
  refine hvC ?_
  refine rqi_7_1 (?_ : qT bs0 c7 [x0] (R' 58))
  intro z E hb hx
  have hh := hq z E hb hx
  unfold bs0 at hb
  obtain ⟨z0, z1, ze⟩ := hb
  unfold c7 at *
  have w0 : R' 58 (E + 35) = R 58 (E + 35) := r2 _ (by rcases (show z = q ∨ z ≠ q by omega) with c | c; (have t := f0 0 0 (by omega) (by omega) (by omega) (by omega); omega); omega)
  have w1 : R' 58 (E + 4) = R 58 (E + 4) := r2 _ (by rcases (show z = q ∨ z ≠ q by omega) with c | c; (have t := f1 0 0 (by omega) (by omega) (by omega) (by omega); omega); omega)
  rw [w0, w1]
  exact hh

theorem tK_7_1_1 : vK rQ 7 hk_7_1_1 := by
  intro R R' G ps lo hi hl r1 r2 hq
  obtain ⟨x0, rfl⟩ := hl1 hl
  replace hq : qT bs0 c7 [x0] (R 58) := rqo_7_1 hq
  replace r2 : ∀ i, i < lo ∨ hi < i → R' 58 i = R 58 i := r2
  refine hv8 (fun q r g0 g0a g0b => ?_)
  replace g0 : ((0 : Int) + (1 * lo + 0)) = ((39700 : Nat) : Int) * q + r := g0
  replace g0b : r < ((39700 : Nat) : Int) := g0b
  show hV _ _ _ _ _ [x0, lo, hi, q, r]
  refine hv8 (fun q1 r1 g1 g1a g1b => ?_)
  replace g1 : ((0 : Int) + (1 * hi + 0)) = ((39700 : Nat) : Int) * q1 + r1 := g1
  replace g1b : r1 < ((39700 : Nat) : Int) := g1b
  show hV _ _ _ _ _ [x0, lo, hi, q, r, q1, r1]
  refine hv13 (fun g2 => ?_)
  replace g2 : ((0 : Int) + (1 * q + 0)) = ((0 : Int) + (1 * q1 + 0)) := g2
  refine hv13 (fun g3 => ?_)
  replace g3 : ((0 : Int) + (39700 * q + 0)) = ((0 : Int) + (1 * x0 + 0)) := g3
  refine hvC ?_
  refine rqi_7_1 (?_ : qT bs0 c7 [x0] (R' 58))
  intro z E hb hx
  have hh := hq z E hb hx
  unfold bs0 at hb
  obtain ⟨z0, z1, ze⟩ := hb
  unfold c7 at *
  have hne := hx x0 (by simp)
  have w0 : R' 58 (E + 35) = R 58 (E + 35) := r2 _ (by omega)
  have w1 : R' 58 (E + 4) = R 58 (E + 4) := r2 _ (by omega)
  rw [w0, w1]
  exact hh

theorem tK_3_0_0 : vK rQ 3 hk_3_0_0 := by
  intro R R' G ps lo hi hl r1 r2 hq
  obtain rfl := hl0 hl
  replace hq : qT bs3 c3 [] (R 58) := rqo_3_0 hq
  replace r2 : ∀ i, i < lo ∨ hi < i → R' 58 i = R 58 i := r2
  refine hv0 (fun g0 => ?_)
  replace g0 : (0 : Int) ≤ ((-238200 : Int) + (1 * lo + 0)) := g0
  refine hvC ?_
  refine rqi_3_0 (?_ : qT bs3 c3 [] (R' 58))
  intro z E hb hx
  have hh := hq z E hb hx
  unfold bs3 at hb
  obtain ⟨z0, z1, u, w, u0, u1, w0, w1, ze⟩ := hb
  unfold c3 at *
  have w0 : R' 58 (E + 5) = R 58 (E + 5) := r2 _ (by omega)
  have w1 : R' 58 (E + 6) = R 58 (E + 6) := r2 _ (by omega)
  rw [w0, w1]
  exact hh

theorem tK_3_0_1 : vK rQ 3 hk_3_0_1 := by
  intro R R' G ps lo hi hl r1 r2 hq
  obtain rfl := hl0 hl
  replace hq : qT bs3 c3 [] (R 58) := rqo_3_0 hq
  replace r2 : ∀ i, i < lo ∨ hi < i → R' 58 i = R 58 i := r2
  refine hv8 (fun q r g0 g0a g0b => ?_)
  replace g0 : ((0 : Int) + (1 * lo + 0)) = ((39700 : Nat) : Int) * q + r := g0
  replace g0b : r < ((39700 : Nat) : Int) := g0b
  show hV _ _ _ _ _ [lo, hi, q, r]
  refine hv8 (fun q1 r1 g1 g1a g1b => ?_)
  replace g1 : ((0 : Int) + (1 * hi + 0)) = ((39700 : Nat) : Int) * q1 + r1 := g1
  replace g1b : r1 < ((39700 : Nat) : Int) := g1b
  show hV _ _ _ _ _ [lo, hi, q, r, q1, r1]
  refine hv13 (fun g2 => ?_)
  replace g2 : ((0 : Int) + (1 * q + 0)) = ((0 : Int) + (1 * q1 + 0)) := g2
  refine hv11 (fun g3 => ?_)
  obtain ⟨f0, f1, -⟩ := g3
  replace f0 : ∀ i j : Int, 0 ≤ i → i < ((4 : Int) + 0) → 0 ≤ j → j < 40 → ((30945 : Int) + 0) + 660 * i + 10 * j < ((0 : Int) + (1 * r + 0)) ∨ ((0 : Int) + (1 * r1 + 0)) < ((30945 : Int) + 0) + 660 * i + 10 * j := f0
  replace f1 : ∀ i j : Int, 0 ≤ i → i < ((4 : Int) + 0) → 0 ≤ j → j < 40 → ((30946 : Int) + 0) + 660 * i + 10 * j < ((0 : Int) + (1 * r + 0)) ∨ ((0 : Int) + (1 * r1 + 0)) < ((30946 : Int) + 0) + 660 * i + 10 * j := f1
  refine hvC ?_
  refine rqi_3_0 (?_ : qT bs3 c3 [] (R' 58))
  intro z E hb hx
  have hh := hq z E hb hx
  unfold bs3 at hb
  obtain ⟨z0, z1, u, w, u0, u1, w0, w1, ze⟩ := hb
  unfold c3 at *
  have w0 : R' 58 (E + 5) = R 58 (E + 5) := r2 _ (by rcases (show z = q ∨ z ≠ q by omega) with c | c; (have t := f0 u w (by omega) (by omega) (by omega) (by omega); omega); omega)
  have w1 : R' 58 (E + 6) = R 58 (E + 6) := r2 _ (by rcases (show z = q ∨ z ≠ q by omega) with c | c; (have t := f1 u w (by omega) (by omega) (by omega) (by omega); omega); omega)
  rw [w0, w1]
  exact hh

theorem tK_4_0_0 : vK rQ 4 hk_4_0_0 := by
  intro R R' G ps lo hi hl r1 r2 hq
  obtain rfl := hl0 hl
  replace hq : qT bs3 c4 [] (R 58) := rqo_4_0 hq
  replace r2 : ∀ i, i < lo ∨ hi < i → R' 58 i = R 58 i := r2
  refine hv0 (fun g0 => ?_)
  replace g0 : (0 : Int) ≤ ((-238200 : Int) + (1 * lo + 0)) := g0
  refine hvC ?_
  refine rqi_4_0 (?_ : qT bs3 c4 [] (R' 58))
  intro z E hb hx
  have hh := hq z E hb hx
  unfold bs3 at hb
  obtain ⟨z0, z1, u, w, u0, u1, w0, w1, ze⟩ := hb
  unfold c4 at *
  have w0 : R' 58 E = R 58 E := r2 _ (by omega)
  have w1 : R' 58 (E + 9) = R 58 (E + 9) := r2 _ (by omega)
  rw [w0, w1]
  exact hh

theorem tK_4_0_1 : vK rQ 4 hk_4_0_1 := by
  intro R R' G ps lo hi hl r1 r2 hq
  obtain rfl := hl0 hl
  replace hq : qT bs3 c4 [] (R 58) := rqo_4_0 hq
  replace r2 : ∀ i, i < lo ∨ hi < i → R' 58 i = R 58 i := r2
  refine hv8 (fun q r g0 g0a g0b => ?_)
  replace g0 : ((0 : Int) + (1 * lo + 0)) = ((39700 : Nat) : Int) * q + r := g0
  replace g0b : r < ((39700 : Nat) : Int) := g0b
  show hV _ _ _ _ _ [lo, hi, q, r]
  refine hv8 (fun q1 r1 g1 g1a g1b => ?_)
  replace g1 : ((0 : Int) + (1 * hi + 0)) = ((39700 : Nat) : Int) * q1 + r1 := g1
  replace g1b : r1 < ((39700 : Nat) : Int) := g1b
  show hV _ _ _ _ _ [lo, hi, q, r, q1, r1]
  refine hv13 (fun g2 => ?_)
  replace g2 : ((0 : Int) + (1 * q + 0)) = ((0 : Int) + (1 * q1 + 0)) := g2
  refine hv11 (fun g3 => ?_)
  obtain ⟨f0, f1, -⟩ := g3
  replace f0 : ∀ i j : Int, 0 ≤ i → i < ((4 : Int) + 0) → 0 ≤ j → j < 40 → ((30940 : Int) + 0) + 660 * i + 10 * j < ((0 : Int) + (1 * r + 0)) ∨ ((0 : Int) + (1 * r1 + 0)) < ((30940 : Int) + 0) + 660 * i + 10 * j := f0
  replace f1 : ∀ i j : Int, 0 ≤ i → i < ((4 : Int) + 0) → 0 ≤ j → j < 40 → ((30949 : Int) + 0) + 660 * i + 10 * j < ((0 : Int) + (1 * r + 0)) ∨ ((0 : Int) + (1 * r1 + 0)) < ((30949 : Int) + 0) + 660 * i + 10 * j := f1
  refine hvC ?_
  refine rqi_4_0 (?_ : qT bs3 c4 [] (R' 58))
  intro z E hb hx
  have hh := hq z E hb hx
  unfold bs3 at hb
  obtain ⟨z0, z1, u, w, u0, u1, w0, w1, ze⟩ := hb
  unfold c4 at *
  have w0 : R' 58 E = R 58 E := r2 _ (by rcases (show z = q ∨ z ≠ q by omega) with c | c; (have t := f0 u w (by omega) (by omega) (by omega) (by omega); omega); omega)
  have w1 : R' 58 (E + 9) = R 58 (E + 9) := r2 _ (by rcases (show z = q ∨ z ≠ q by omega) with c | c; (have t := f1 u w (by omega) (by omega) (by omega) (by omega); omega); omega)
  rw [w0, w1]
  exact hh

theorem tK_4_1_0 : vK rQ 4 hk_4_1_0 := by
  intro R R' G ps lo hi hl r1 r2 hq
  obtain ⟨x0, rfl⟩ := hl1 hl
  replace hq : qT bs3 c4 [x0] (R 58) := rqo_4_1 hq
  replace r2 : ∀ i, i < lo ∨ hi < i → R' 58 i = R 58 i := r2
  refine hv8 (fun q r g0 g0a g0b => ?_)
  replace g0 : ((0 : Int) + (1 * lo + 0)) = ((39700 : Nat) : Int) * q + r := g0
  replace g0b : r < ((39700 : Nat) : Int) := g0b
  show hV _ _ _ _ _ [x0, lo, hi, q, r]
  refine hv8 (fun q1 r1 g1 g1a g1b => ?_)
  replace g1 : ((0 : Int) + (1 * hi + 0)) = ((39700 : Nat) : Int) * q1 + r1 := g1
  replace g1b : r1 < ((39700 : Nat) : Int) := g1b
  show hV _ _ _ _ _ [x0, lo, hi, q, r, q1, r1]
  refine hv13 (fun g2 => ?_)
  replace g2 : ((0 : Int) + (1 * q + 0)) = ((0 : Int) + (1 * q1 + 0)) := g2
  refine hv11 (fun g3 => ?_)
  obtain ⟨f0, f1, -⟩ := g3
  replace f0 : ∀ i j : Int, 0 ≤ i → i < ((4 : Int) + 0) → 0 ≤ j → j < 40 → ((30940 : Int) + 0) + 660 * i + 10 * j < ((0 : Int) + (1 * r + 0)) ∨ ((0 : Int) + (1 * r1 + 0)) < ((30940 : Int) + 0) + 660 * i + 10 * j := f0
  replace f1 : ∀ i j : Int, 0 ≤ i → i < ((4 : Int) + 0) → 0 ≤ j → j < 40 → ((30949 : Int) + 0) + 660 * i + 10 * j < ((0 : Int) + (1 * r + 0)) ∨ ((0 : Int) + (1 * r1 + 0)) < ((30949 : Int) + 0) + 660 * i + 10 * j := f1
  refine hvC ?_
  refine rqi_4_1 (?_ : qT bs3 c4 [x0] (R' 58))
  intro z E hb hx
  have hh := hq z E hb hx
  unfold bs3 at hb
  obtain ⟨z0, z1, u, w, u0, u1, w0, w1, ze⟩ := hb
  unfold c4 at *
  have w0 : R' 58 E = R 58 E := r2 _ (by rcases (show z = q ∨ z ≠ q by omega) with c | c; (have t := f0 u w (by omega) (by omega) (by omega) (by omega); omega); omega)
  have w1 : R' 58 (E + 9) = R 58 (E + 9) := r2 _ (by rcases (show z = q ∨ z ≠ q by omega) with c | c; (have t := f1 u w (by omega) (by omega) (by omega) (by omega); omega); omega)
  rw [w0, w1]
  exact hh

theorem tK_5_0_0 : vK rQ 5 hk_5_0_0 := by
  intro R R' G ps lo hi hl r1 r2 hq
  obtain rfl := hl0 hl
  replace hq : qT bs5 c5 [] (R 58) := rqo_5_0 hq
  replace r2 : ∀ i, i < lo ∨ hi < i → R' 58 i = R 58 i := r2
  refine hv0 (fun g0 => ?_)
  replace g0 : (0 : Int) ≤ ((-238200 : Int) + (1 * lo + 0)) := g0
  refine hvC ?_
  refine rqi_5_0 (?_ : qT bs5 c5 [] (R' 58))
  intro z E hb hx
  have hh := hq z E hb hx
  unfold bs5 at hb
  obtain ⟨z0, z1, u, u0, u1, ze⟩ := hb
  unfold c5 at *
  have w0 : R' 58 E = R 58 E := r2 _ (by omega)
  have w1 : R' 58 (E + 7) = R 58 (E + 7) := r2 _ (by omega)
  have w2 : R' 58 (E + 8) = R 58 (E + 8) := r2 _ (by omega)
  rw [w0, w1, w2]
  exact hh

theorem tK_5_0_1 : vK rQ 5 hk_5_0_1 := by
  intro R R' G ps lo hi hl r1 r2 hq
  obtain rfl := hl0 hl
  replace hq : qT bs5 c5 [] (R 58) := rqo_5_0 hq
  replace r2 : ∀ i, i < lo ∨ hi < i → R' 58 i = R 58 i := r2
  refine hv8 (fun q r g0 g0a g0b => ?_)
  replace g0 : ((0 : Int) + (1 * lo + 0)) = ((39700 : Nat) : Int) * q + r := g0
  replace g0b : r < ((39700 : Nat) : Int) := g0b
  show hV _ _ _ _ _ [lo, hi, q, r]
  refine hv8 (fun q1 r1 g1 g1a g1b => ?_)
  replace g1 : ((0 : Int) + (1 * hi + 0)) = ((39700 : Nat) : Int) * q1 + r1 := g1
  replace g1b : r1 < ((39700 : Nat) : Int) := g1b
  show hV _ _ _ _ _ [lo, hi, q, r, q1, r1]
  refine hv13 (fun g2 => ?_)
  replace g2 : ((0 : Int) + (1 * q + 0)) = ((0 : Int) + (1 * q1 + 0)) := g2
  refine hv11 (fun g3 => ?_)
  obtain ⟨f0, f1, f2, -⟩ := g3
  replace f0 : ∀ i j : Int, 0 ≤ i → i < ((4 : Int) + 0) → 0 ≤ j → j < 1 → ((30692 : Int) + 0) + 660 * i + 660 * j < ((0 : Int) + (1 * r + 0)) ∨ ((0 : Int) + (1 * r1 + 0)) < ((30692 : Int) + 0) + 660 * i + 660 * j := f0
  replace f1 : ∀ i j : Int, 0 ≤ i → i < ((4 : Int) + 0) → 0 ≤ j → j < 1 → ((30699 : Int) + 0) + 660 * i + 660 * j < ((0 : Int) + (1 * r + 0)) ∨ ((0 : Int) + (1 * r1 + 0)) < ((30699 : Int) + 0) + 660 * i + 660 * j := f1
  replace f2 : ∀ i j : Int, 0 ≤ i → i < ((4 : Int) + 0) → 0 ≤ j → j < 1 → ((30700 : Int) + 0) + 660 * i + 660 * j < ((0 : Int) + (1 * r + 0)) ∨ ((0 : Int) + (1 * r1 + 0)) < ((30700 : Int) + 0) + 660 * i + 660 * j := f2
  refine hvC ?_
  refine rqi_5_0 (?_ : qT bs5 c5 [] (R' 58))
  intro z E hb hx
  have hh := hq z E hb hx
  unfold bs5 at hb
  obtain ⟨z0, z1, u, u0, u1, ze⟩ := hb
  unfold c5 at *
  have w0 : R' 58 E = R 58 E := r2 _ (by rcases (show z = q ∨ z ≠ q by omega) with c | c; (have t := f0 u 0 (by omega) (by omega) (by omega) (by omega); omega); omega)
  have w1 : R' 58 (E + 7) = R 58 (E + 7) := r2 _ (by rcases (show z = q ∨ z ≠ q by omega) with c | c; (have t := f1 u 0 (by omega) (by omega) (by omega) (by omega); omega); omega)
  have w2 : R' 58 (E + 8) = R 58 (E + 8) := r2 _ (by rcases (show z = q ∨ z ≠ q by omega) with c | c; (have t := f2 u 0 (by omega) (by omega) (by omega) (by omega); omega); omega)
  rw [w0, w1, w2]
  exact hh

theorem tK_5_1_0 : vK rQ 5 hk_5_1_0 := by
  intro R R' G ps lo hi hl r1 r2 hq
  obtain ⟨x0, rfl⟩ := hl1 hl
  replace hq : qT bs5 c5 [x0] (R 58) := rqo_5_1 hq
  replace r2 : ∀ i, i < lo ∨ hi < i → R' 58 i = R 58 i := r2
  refine hv8 (fun q r g0 g0a g0b => ?_)
  replace g0 : ((0 : Int) + (1 * lo + 0)) = ((39700 : Nat) : Int) * q + r := g0
  replace g0b : r < ((39700 : Nat) : Int) := g0b
  show hV _ _ _ _ _ [x0, lo, hi, q, r]
  refine hv8 (fun q1 r1 g1 g1a g1b => ?_)
  replace g1 : ((0 : Int) + (1 * hi + 0)) = ((39700 : Nat) : Int) * q1 + r1 := g1
  replace g1b : r1 < ((39700 : Nat) : Int) := g1b
  show hV _ _ _ _ _ [x0, lo, hi, q, r, q1, r1]
  refine hv13 (fun g2 => ?_)
  replace g2 : ((0 : Int) + (1 * q + 0)) = ((0 : Int) + (1 * q1 + 0)) := g2
  refine hv11 (fun g3 => ?_)
  obtain ⟨f0, f1, f2, -⟩ := g3
  replace f0 : ∀ i j : Int, 0 ≤ i → i < ((4 : Int) + 0) → 0 ≤ j → j < 1 → ((30692 : Int) + 0) + 660 * i + 660 * j < ((0 : Int) + (1 * r + 0)) ∨ ((0 : Int) + (1 * r1 + 0)) < ((30692 : Int) + 0) + 660 * i + 660 * j := f0
  replace f1 : ∀ i j : Int, 0 ≤ i → i < ((4 : Int) + 0) → 0 ≤ j → j < 1 → ((30699 : Int) + 0) + 660 * i + 660 * j < ((0 : Int) + (1 * r + 0)) ∨ ((0 : Int) + (1 * r1 + 0)) < ((30699 : Int) + 0) + 660 * i + 660 * j := f1
  replace f2 : ∀ i j : Int, 0 ≤ i → i < ((4 : Int) + 0) → 0 ≤ j → j < 1 → ((30700 : Int) + 0) + 660 * i + 660 * j < ((0 : Int) + (1 * r + 0)) ∨ ((0 : Int) + (1 * r1 + 0)) < ((30700 : Int) + 0) + 660 * i + 660 * j := f2
  refine hvC ?_
  refine rqi_5_1 (?_ : qT bs5 c5 [x0] (R' 58))
  intro z E hb hx
  have hh := hq z E hb hx
  unfold bs5 at hb
  obtain ⟨z0, z1, u, u0, u1, ze⟩ := hb
  unfold c5 at *
  have w0 : R' 58 E = R 58 E := r2 _ (by rcases (show z = q ∨ z ≠ q by omega) with c | c; (have t := f0 u 0 (by omega) (by omega) (by omega) (by omega); omega); omega)
  have w1 : R' 58 (E + 7) = R 58 (E + 7) := r2 _ (by rcases (show z = q ∨ z ≠ q by omega) with c | c; (have t := f1 u 0 (by omega) (by omega) (by omega) (by omega); omega); omega)
  have w2 : R' 58 (E + 8) = R 58 (E + 8) := r2 _ (by rcases (show z = q ∨ z ≠ q by omega) with c | c; (have t := f2 u 0 (by omega) (by omega) (by omega) (by omega); omega); omega)
  rw [w0, w1, w2]
  exact hh

theorem tK_103_1_0 : vK rQ 103 hk_103_1_0 := by
  intro R R' G ps lo hi hl r1 r2 hq
  obtain ⟨x0, rfl⟩ := hl1 hl
  replace hq : qB bs3 c3 x0 (R 58) := rqo_103_1 hq
  replace r2 : ∀ i, i < lo ∨ hi < i → R' 58 i = R 58 i := r2
  refine hv8 (fun q r g0 g0a g0b => ?_)
  replace g0 : ((0 : Int) + (1 * lo + 0)) = ((39700 : Nat) : Int) * q + r := g0
  replace g0b : r < ((39700 : Nat) : Int) := g0b
  show hV _ _ _ _ _ [x0, lo, hi, q, r]
  refine hv8 (fun q1 r1 g1 g1a g1b => ?_)
  replace g1 : ((0 : Int) + (1 * hi + 0)) = ((39700 : Nat) : Int) * q1 + r1 := g1
  replace g1b : r1 < ((39700 : Nat) : Int) := g1b
  show hV _ _ _ _ _ [x0, lo, hi, q, r, q1, r1]
  refine hv13 (fun g2 => ?_)
  replace g2 : ((0 : Int) + (1 * q + 0)) = ((0 : Int) + (1 * q1 + 0)) := g2
  refine hv13 (fun g3 => ?_)
  replace g3 : ((0 : Int) + (39700 * q + 0)) = ((0 : Int) + (1 * x0 + 0)) := g3
  refine hvC ?_
  refine rqi_103_1 (?_ : qB bs3 c3 x0 (R' 58))
  intro z E hb hx
  have hh := hq z E hb hx
  unfold bs3 at hb
  obtain ⟨z0, z1, u, w, u0, u1, w0, w1, ze⟩ := hb
  unfold c3 at *
  have w0 : R' 58 (E + 5) = R 58 (E + 5) := r2 _ (by omega)
  have w1 : R' 58 (E + 6) = R 58 (E + 6) := r2 _ (by omega)
  rw [w0, w1]
  exact hh

theorem tK_104_1_0 : vK rQ 104 hk_104_1_0 := by
  intro R R' G ps lo hi hl r1 r2 hq
  obtain ⟨x0, rfl⟩ := hl1 hl
  replace hq : qB bs3 c4 x0 (R 58) := rqo_104_1 hq
  replace r2 : ∀ i, i < lo ∨ hi < i → R' 58 i = R 58 i := r2
  refine hv8 (fun q r g0 g0a g0b => ?_)
  replace g0 : ((0 : Int) + (1 * lo + 0)) = ((39700 : Nat) : Int) * q + r := g0
  replace g0b : r < ((39700 : Nat) : Int) := g0b
  show hV _ _ _ _ _ [x0, lo, hi, q, r]
  refine hv8 (fun q1 r1 g1 g1a g1b => ?_)
  replace g1 : ((0 : Int) + (1 * hi + 0)) = ((39700 : Nat) : Int) * q1 + r1 := g1
  replace g1b : r1 < ((39700 : Nat) : Int) := g1b
  show hV _ _ _ _ _ [x0, lo, hi, q, r, q1, r1]
  refine hv13 (fun g2 => ?_)
  replace g2 : ((0 : Int) + (1 * q + 0)) = ((0 : Int) + (1 * q1 + 0)) := g2
  refine hv13 (fun g3 => ?_)
  replace g3 : ((0 : Int) + (39700 * q + 0)) = ((0 : Int) + (1 * x0 + 0)) := g3
  refine hvC ?_
  refine rqi_104_1 (?_ : qB bs3 c4 x0 (R' 58))
  intro z E hb hx
  have hh := hq z E hb hx
  unfold bs3 at hb
  obtain ⟨z0, z1, u, w, u0, u1, w0, w1, ze⟩ := hb
  unfold c4 at *
  have w0 : R' 58 E = R 58 E := r2 _ (by omega)
  have w1 : R' 58 (E + 9) = R 58 (E + 9) := r2 _ (by omega)
  rw [w0, w1]
  exact hh

theorem tK_105_1_0 : vK rQ 105 hk_105_1_0 := by
  intro R R' G ps lo hi hl r1 r2 hq
  obtain ⟨x0, rfl⟩ := hl1 hl
  replace hq : qB bs5 c5 x0 (R 58) := rqo_105_1 hq
  replace r2 : ∀ i, i < lo ∨ hi < i → R' 58 i = R 58 i := r2
  refine hv8 (fun q r g0 g0a g0b => ?_)
  replace g0 : ((0 : Int) + (1 * lo + 0)) = ((39700 : Nat) : Int) * q + r := g0
  replace g0b : r < ((39700 : Nat) : Int) := g0b
  show hV _ _ _ _ _ [x0, lo, hi, q, r]
  refine hv8 (fun q1 r1 g1 g1a g1b => ?_)
  replace g1 : ((0 : Int) + (1 * hi + 0)) = ((39700 : Nat) : Int) * q1 + r1 := g1
  replace g1b : r1 < ((39700 : Nat) : Int) := g1b
  show hV _ _ _ _ _ [x0, lo, hi, q, r, q1, r1]
  refine hv13 (fun g2 => ?_)
  replace g2 : ((0 : Int) + (1 * q + 0)) = ((0 : Int) + (1 * q1 + 0)) := g2
  refine hv13 (fun g3 => ?_)
  replace g3 : ((0 : Int) + (39700 * q + 0)) = ((0 : Int) + (1 * x0 + 0)) := g3
  refine hvC ?_
  refine rqi_105_1 (?_ : qB bs5 c5 x0 (R' 58))
  intro z E hb hx
  have hh := hq z E hb hx
  unfold bs5 at hb
  obtain ⟨z0, z1, u, u0, u1, ze⟩ := hb
  unfold c5 at *
  have w0 : R' 58 E = R 58 E := r2 _ (by omega)
  have w1 : R' 58 (E + 7) = R 58 (E + 7) := r2 _ (by omega)
  have w2 : R' 58 (E + 8) = R 58 (E + 8) := r2 _ (by omega)
  rw [w0, w1, w2]
  exact hh

theorem tK_6_0_0 : vK rQ 6 hk_6_0_0 := by
  intro R R' G ps lo hi hl r1 r2 hq
  obtain rfl := hl0 hl
  replace hq : q6 [] (R 58) := rqo_6_0 hq
  replace r2 : ∀ i, i < lo ∨ hi < i → R' 58 i = R 58 i := r2
  refine hv0 (fun g0 => ?_)
  replace g0 : (0 : Int) ≤ ((-198500 : Int) + (1 * lo + 0)) := g0
  refine hvC ?_
  refine rqi_6_0 (?_ : q6 [] (R' 58))
  intro z z0 z1 hx
  have hh := hq z z0 z1 hx
  have w1 : R' 58 (39700 * z + 35) = R 58 (39700 * z + 35) := r2 _ (by omega)
  have w2 : R' 58 (39700 * z + 12) = R 58 (39700 * z + 12) := r2 _ (by omega)
  rw [w1, w2]
  rcases hh with hh | ⟨h1, h2, h3⟩
  · exact Or.inl hh
  · refine Or.inr ⟨h1, h2, ?_⟩
    have w3 : R' 58 (39700 * z + 30692 + 660 * R 58 (39700 * z + 12)) = R 58 (39700 * z + 30692 + 660 * R 58 (39700 * z + 12)) := r2 _ (by omega)
    rw [w3]
    exact h3

theorem tK_6_0_1 : vK rQ 6 hk_6_0_1 := by
  intro R R' G ps lo hi hl r1 r2 hq
  obtain rfl := hl0 hl
  replace hq : q6 [] (R 58) := rqo_6_0 hq
  replace r2 : ∀ i, i < lo ∨ hi < i → R' 58 i = R 58 i := r2
  refine hv8 (fun q r g0 g0a g0b => ?_)
  replace g0 : ((0 : Int) + (1 * lo + 0)) = ((39700 : Nat) : Int) * q + r := g0
  replace g0b : r < ((39700 : Nat) : Int) := g0b
  show hV _ _ _ _ _ [lo, hi, q, r]
  refine hv8 (fun q1 r1 g1 g1a g1b => ?_)
  replace g1 : ((0 : Int) + (1 * hi + 0)) = ((39700 : Nat) : Int) * q1 + r1 := g1
  replace g1b : r1 < ((39700 : Nat) : Int) := g1b
  show hV _ _ _ _ _ [lo, hi, q, r, q1, r1]
  refine hv13 (fun g2 => ?_)
  replace g2 : ((0 : Int) + (1 * q + 0)) = ((0 : Int) + (1 * q1 + 0)) := g2
  refine hv11 (fun g3 => ?_)
  obtain ⟨f0, f1, f2, -⟩ := g3
  replace f0 : ∀ i j : Int, 0 ≤ i → i < ((1 : Int) + 0) → 0 ≤ j → j < 1 → ((12 : Int) + 0) + 1 * i + 1 * j < ((0 : Int) + (1 * r + 0)) ∨ ((0 : Int) + (1 * r1 + 0)) < ((12 : Int) + 0) + 1 * i + 1 * j := f0
  replace f1 : ∀ i j : Int, 0 ≤ i → i < ((1 : Int) + 0) → 0 ≤ j → j < 1 → ((35 : Int) + 0) + 1 * i + 1 * j < ((0 : Int) + (1 * r + 0)) ∨ ((0 : Int) + (1 * r1 + 0)) < ((35 : Int) + 0) + 1 * i + 1 * j := f1
  replace f2 : ∀ i j : Int, 0 ≤ i → i < ((4 : Int) + 0) → 0 ≤ j → j < 1 → ((30692 : Int) + 0) + 660 * i + 660 * j < ((0 : Int) + (1 * r + 0)) ∨ ((0 : Int) + (1 * r1 + 0)) < ((30692 : Int) + 0) + 660 * i + 660 * j := f2
  refine hvC ?_
  refine rqi_6_0 (?_ : q6 [] (R' 58))
  intro z z0 z1 hx
  have hh := hq z z0 z1 hx
  have w1 : R' 58 (39700 * z + 35) = R 58 (39700 * z + 35) := r2 _ (by rcases (show z = q ∨ z ≠ q by omega) with c | c; (have t := f1 0 0 (by omega) (by omega) (by omega) (by omega); omega); omega)
  have w2 : R' 58 (39700 * z + 12) = R 58 (39700 * z + 12) := r2 _ (by rcases (show z = q ∨ z ≠ q by omega) with c | c; (have t := f0 0 0 (by omega) (by omega) (by omega) (by omega); omega); omega)
  rw [w1, w2]
  rcases hh with hh | ⟨h1, h2, h3⟩
  · exact Or.inl hh
  · refine Or.inr ⟨h1, h2, ?_⟩
    have w3 : R' 58 (39700 * z + 30692 + 660 * R 58 (39700 * z + 12)) = R 58 (39700 * z + 30692 + 660 * R 58 (39700 * z + 12)) := r2 _ (by rcases (show z = q ∨ z ≠ q by omega) with c | c; (have t := f2 (R 58 (39700 * z + 12)) 0 (by omega) (by omega) (by omega) (by omega); omega); omega)
    rw [w3]
    exact h3

theorem tK_6_1_0 : vK rQ 6 hk_6_1_0 := by
  intro R R' G ps lo hi hl r1 r2 hq
  obtain ⟨x, rfl⟩ := hl1 hl
  replace hq : q6 [x] (R 58) := rqo_6_1 hq
  replace r2 : ∀ i, i < lo ∨ hi < i → R' 58 i = R 58 i := r2
  refine hv8 (fun q r g0 g0a g0b => ?_)
  replace g0 : ((0 : Int) + (1 * lo + 0)) = ((39700 : Nat) : Int) * q + r := g0
  replace g0b : r < ((39700 : Nat) : Int) := g0b
  show hV _ _ _ _ _ [x, lo, hi, q, r]
  refine hv8 (fun q1 r1 g1 g1a g1b => ?_)
  replace g1 : ((0 : Int) + (1 * hi + 0)) = ((39700 : Nat) : Int) * q1 + r1 := g1
  replace g1b : r1 < ((39700 : Nat) : Int) := g1b
  show hV _ _ _ _ _ [x, lo, hi, q, r, q1, r1]
  refine hv13 (fun g2 => ?_)
  replace g2 : ((0 : Int) + (1 * q + 0)) = ((0 : Int) + (1 * q1 + 0)) := g2
  refine hv11 (fun g3 => ?_)
  obtain ⟨f0, f1, f2, -⟩ := g3
  replace f0 : ∀ i j : Int, 0 ≤ i → i < ((1 : Int) + 0) → 0 ≤ j → j < 1 → ((12 : Int) + 0) + 1 * i + 1 * j < ((0 : Int) + (1 * r + 0)) ∨ ((0 : Int) + (1 * r1 + 0)) < ((12 : Int) + 0) + 1 * i + 1 * j := f0
  replace f1 : ∀ i j : Int, 0 ≤ i → i < ((1 : Int) + 0) → 0 ≤ j → j < 1 → ((35 : Int) + 0) + 1 * i + 1 * j < ((0 : Int) + (1 * r + 0)) ∨ ((0 : Int) + (1 * r1 + 0)) < ((35 : Int) + 0) + 1 * i + 1 * j := f1
  replace f2 : ∀ i j : Int, 0 ≤ i → i < ((4 : Int) + 0) → 0 ≤ j → j < 1 → ((30692 : Int) + 0) + 660 * i + 660 * j < ((0 : Int) + (1 * r + 0)) ∨ ((0 : Int) + (1 * r1 + 0)) < ((30692 : Int) + 0) + 660 * i + 660 * j := f2
  refine hvC ?_
  refine rqi_6_1 (?_ : q6 [x] (R' 58))
  intro z z0 z1 hx
  have hh := hq z z0 z1 hx
  have w1 : R' 58 (39700 * z + 35) = R 58 (39700 * z + 35) := r2 _ (by rcases (show z = q ∨ z ≠ q by omega) with c | c; (have t := f1 0 0 (by omega) (by omega) (by omega) (by omega); omega); omega)
  have w2 : R' 58 (39700 * z + 12) = R 58 (39700 * z + 12) := r2 _ (by rcases (show z = q ∨ z ≠ q by omega) with c | c; (have t := f0 0 0 (by omega) (by omega) (by omega) (by omega); omega); omega)
  rw [w1, w2]
  rcases hh with hh | ⟨h1, h2, h3⟩
  · exact Or.inl hh
  · refine Or.inr ⟨h1, h2, ?_⟩
    have w3 : R' 58 (39700 * z + 30692 + 660 * R 58 (39700 * z + 12)) = R 58 (39700 * z + 30692 + 660 * R 58 (39700 * z + 12)) := r2 _ (by rcases (show z = q ∨ z ≠ q by omega) with c | c; (have t := f2 (R 58 (39700 * z + 12)) 0 (by omega) (by omega) (by omega) (by omega); omega); omega)
    rw [w3]
    exact h3

theorem tK_6_1_1 : vK rQ 6 hk_6_1_1 := by
  intro R R' G ps lo hi hl r1 r2 hq
  obtain ⟨x0, rfl⟩ := hl1 hl
  replace hq : q6 [x0] (R 58) := rqo_6_1 hq
  replace r2 : ∀ i, i < lo ∨ hi < i → R' 58 i = R 58 i := r2
  refine hv8 (fun q r g0 g0a g0b => ?_)
  replace g0 : ((0 : Int) + (1 * lo + 0)) = ((39700 : Nat) : Int) * q + r := g0
  replace g0b : r < ((39700 : Nat) : Int) := g0b
  show hV _ _ _ _ _ [x0, lo, hi, q, r]
  refine hv8 (fun q1 r1 g1 g1a g1b => ?_)
  replace g1 : ((0 : Int) + (1 * hi + 0)) = ((39700 : Nat) : Int) * q1 + r1 := g1
  replace g1b : r1 < ((39700 : Nat) : Int) := g1b
  show hV _ _ _ _ _ [x0, lo, hi, q, r, q1, r1]
  refine hv13 (fun g2 => ?_)
  replace g2 : ((0 : Int) + (1 * q + 0)) = ((0 : Int) + (1 * q1 + 0)) := g2
  refine hv13 (fun g3 => ?_)
  replace g3 : ((0 : Int) + (39700 * q + 0)) = ((0 : Int) + (1 * x0 + 0)) := g3
  refine hvC ?_
  refine rqi_6_1 (?_ : q6 [x0] (R' 58))
  intro z z0 z1 hx
  have hh := hq z z0 z1 hx
  have hne := hx x0 (by simp)
  have w1 : R' 58 (39700 * z + 35) = R 58 (39700 * z + 35) := r2 _ (by omega)
  have w2 : R' 58 (39700 * z + 12) = R 58 (39700 * z + 12) := r2 _ (by omega)
  rw [w1, w2]
  rcases hh with hh | ⟨h1, h2, h3⟩
  · exact Or.inl hh
  · refine Or.inr ⟨h1, h2, ?_⟩
    have w3 : R' 58 (39700 * z + 30692 + 660 * R 58 (39700 * z + 12)) = R 58 (39700 * z + 30692 + 660 * R 58 (39700 * z + 12)) := r2 _ (by omega)
    rw [w3]
    exact h3

theorem tK_10_0_0 : vK rQ 10 hk_10_0_0 := by
  intro R R' G ps lo hi hl r1 r2 hq
  obtain rfl := hl0 hl
  replace hq : q10 [] (R 58) := rqo_10_0 hq
  replace r2 : ∀ i, i < lo ∨ hi < i → R' 58 i = R 58 i := r2
  refine hv0 (fun g0 => ?_)
  replace g0 : (0 : Int) ≤ ((-238200 : Int) + (1 * lo + 0)) := g0
  refine hvC ?_
  refine rqi_10_0 (?_ : q10 [] (R' 58))
  intro z z0 z1 hx
  refine dC_fr (hq z z0 z1 hx) fun o ho => ?_
  have ol := DFo_lt ho
  refine (show R' 58 _ = R 58 _ from r2 _ ?_)
  omega

theorem tK_10_0_1 : vK rQ 10 hk_10_0_1 := by
  intro R R' G ps lo hi hl r1 r2 hq
  obtain rfl := hl0 hl
  replace hq : q10 [] (R 58) := rqo_10_0 hq
  replace r2 : ∀ i, i < lo ∨ hi < i → R' 58 i = R 58 i := r2
  refine hv8 (fun q r g0 g0a g0b => ?_)
  replace g0 : ((0 : Int) + (1 * lo + 0)) = ((39700 : Nat) : Int) * q + r := g0
  replace g0b : r < ((39700 : Nat) : Int) := g0b
  show hV _ _ _ _ _ [lo, hi, q, r]
  refine hv8 (fun q1 r1 g1 g1a g1b => ?_)
  replace g1 : ((0 : Int) + (1 * hi + 0)) = ((39700 : Nat) : Int) * q1 + r1 := g1
  replace g1b : r1 < ((39700 : Nat) : Int) := g1b
  show hV _ _ _ _ _ [lo, hi, q, r, q1, r1]
  refine hv13 (fun g2 => ?_)
  replace g2 : ((0 : Int) + (1 * q + 0)) = ((0 : Int) + (1 * q1 + 0)) := g2
  refine hv11 (fun g3 => ?_)
  obtain ⟨f0, f1, f2, f3, f4, f5, f6, f7, f8, f9, f10, f11, f12, f13, f14, f15, f16, f17, f18, -⟩ := g3
  replace f0 : ∀ i j : Int, 0 ≤ i → i < ((1 : Int) + 0) → 0 ≤ j → j < 1 → ((4 : Int) + 0) + 1 * i + 1 * j < ((0 : Int) + (1 * r + 0)) ∨ ((0 : Int) + (1 * r1 + 0)) < ((4 : Int) + 0) + 1 * i + 1 * j := f0
  replace f1 : ∀ i j : Int, 0 ≤ i → i < ((1 : Int) + 0) → 0 ≤ j → j < 1 → ((5 : Int) + 0) + 1 * i + 1 * j < ((0 : Int) + (1 * r + 0)) ∨ ((0 : Int) + (1 * r1 + 0)) < ((5 : Int) + 0) + 1 * i + 1 * j := f1
  replace f2 : ∀ i j : Int, 0 ≤ i → i < ((1 : Int) + 0) → 0 ≤ j → j < 1 → ((24 : Int) + 0) + 1 * i + 1 * j < ((0 : Int) + (1 * r + 0)) ∨ ((0 : Int) + (1 * r1 + 0)) < ((24 : Int) + 0) + 1 * i + 1 * j := f2
  replace f3 : ∀ i j : Int, 0 ≤ i → i < ((1 : Int) + 0) → 0 ≤ j → j < 1 → ((17 : Int) + 0) + 1 * i + 1 * j < ((0 : Int) + (1 * r + 0)) ∨ ((0 : Int) + (1 * r1 + 0)) < ((17 : Int) + 0) + 1 * i + 1 * j := f3
  replace f4 : ∀ i j : Int, 0 ≤ i → i < ((360 : Int) + 0) → 0 ≤ j → j < 1 → ((8292 : Int) + 0) + 40 * i + 40 * j < ((0 : Int) + (1 * r + 0)) ∨ ((0 : Int) + (1 * r1 + 0)) < ((8292 : Int) + 0) + 40 * i + 40 * j := f4
  replace f5 : ∀ i j : Int, 0 ≤ i → i < ((360 : Int) + 0) → 0 ≤ j → j < 1 → ((8295 : Int) + 0) + 40 * i + 40 * j < ((0 : Int) + (1 * r + 0)) ∨ ((0 : Int) + (1 * r1 + 0)) < ((8295 : Int) + 0) + 40 * i + 40 * j := f5
  replace f6 : ∀ i j : Int, 0 ≤ i → i < ((360 : Int) + 0) → 0 ≤ j → j < 1 → ((8296 : Int) + 0) + 40 * i + 40 * j < ((0 : Int) + (1 * r + 0)) ∨ ((0 : Int) + (1 * r1 + 0)) < ((8296 : Int) + 0) + 40 * i + 40 * j := f6
  replace f7 : ∀ i j : Int, 0 ≤ i → i < ((360 : Int) + 0) → 0 ≤ j → j < 1 → ((8299 : Int) + 0) + 40 * i + 40 * j < ((0 : Int) + (1 * r + 0)) ∨ ((0 : Int) + (1 * r1 + 0)) < ((8299 : Int) + 0) + 40 * i + 40 * j := f7
  replace f8 : ∀ i j : Int, 0 ≤ i → i < ((360 : Int) + 0) → 0 ≤ j → j < 1 → ((8305 : Int) + 0) + 40 * i + 40 * j < ((0 : Int) + (1 * r + 0)) ∨ ((0 : Int) + (1 * r1 + 0)) < ((8305 : Int) + 0) + 40 * i + 40 * j := f8
  replace f9 : ∀ i j : Int, 0 ≤ i → i < ((360 : Int) + 0) → 0 ≤ j → j < 1 → ((8306 : Int) + 0) + 40 * i + 40 * j < ((0 : Int) + (1 * r + 0)) ∨ ((0 : Int) + (1 * r1 + 0)) < ((8306 : Int) + 0) + 40 * i + 40 * j := f9
  replace f10 : ∀ i j : Int, 0 ≤ i → i < ((8000 : Int) + 0) → 0 ≤ j → j < 1 → ((22692 : Int) + 0) + 1 * i + 1 * j < ((0 : Int) + (1 * r + 0)) ∨ ((0 : Int) + (1 * r1 + 0)) < ((22692 : Int) + 0) + 1 * i + 1 * j := f10
  replace f11 : ∀ i j : Int, 0 ≤ i → i < ((32 : Int) + 0) → 0 ≤ j → j < 1 → ((37420 : Int) + 0) + 6 * i + 6 * j < ((0 : Int) + (1 * r + 0)) ∨ ((0 : Int) + (1 * r1 + 0)) < ((37420 : Int) + 0) + 6 * i + 6 * j := f11
  replace f12 : ∀ i j : Int, 0 ≤ i → i < ((32 : Int) + 0) → 0 ≤ j → j < 1 → ((37421 : Int) + 0) + 6 * i + 6 * j < ((0 : Int) + (1 * r + 0)) ∨ ((0 : Int) + (1 * r1 + 0)) < ((37421 : Int) + 0) + 6 * i + 6 * j := f12
  replace f13 : ∀ i j : Int, 0 ≤ i → i < ((5 : Int) + 0) → 0 ≤ j → j < 1 → ((37612 : Int) + 0) + 300 * i + 300 * j < ((0 : Int) + (1 * r + 0)) ∨ ((0 : Int) + (1 * r1 + 0)) < ((37612 : Int) + 0) + 300 * i + 300 * j := f13
  replace f14 : ∀ i j : Int, 0 ≤ i → i < ((5 : Int) + 0) → 0 ≤ j → j < 1 → ((37613 : Int) + 0) + 300 * i + 300 * j < ((0 : Int) + (1 * r + 0)) ∨ ((0 : Int) + (1 * r1 + 0)) < ((37613 : Int) + 0) + 300 * i + 300 * j := f14
  replace f15 : ∀ i j : Int, 0 ≤ i → i < ((5 : Int) + 0) → 0 ≤ j → j < 1 → ((37617 : Int) + 0) + 300 * i + 300 * j < ((0 : Int) + (1 * r + 0)) ∨ ((0 : Int) + (1 * r1 + 0)) < ((37617 : Int) + 0) + 300 * i + 300 * j := f15
  replace f16 : ∀ i j : Int, 0 ≤ i → i < ((5 : Int) + 0) → 0 ≤ j → j < 1 → ((37619 : Int) + 0) + 300 * i + 300 * j < ((0 : Int) + (1 * r + 0)) ∨ ((0 : Int) + (1 * r1 + 0)) < ((37619 : Int) + 0) + 300 * i + 300 * j := f16
  replace f17 : ∀ i j : Int, 0 ≤ i → i < ((32 : Int) + 0) → 0 ≤ j → j < 1 → ((39112 : Int) + 0) + 16 * i + 16 * j < ((0 : Int) + (1 * r + 0)) ∨ ((0 : Int) + (1 * r1 + 0)) < ((39112 : Int) + 0) + 16 * i + 16 * j := f17
  replace f18 : ∀ i j : Int, 0 ≤ i → i < ((32 : Int) + 0) → 0 ≤ j → j < 1 → ((39113 : Int) + 0) + 16 * i + 16 * j < ((0 : Int) + (1 * r + 0)) ∨ ((0 : Int) + (1 * r1 + 0)) < ((39113 : Int) + 0) + 16 * i + 16 * j := f18
  refine hvC ?_
  refine rqi_10_0 (?_ : q10 [] (R' 58))
  intro z z0 z1 hx
  refine dC_fr (hq z z0 z1 hx) fun o ho => ?_
  have ol := DFo_lt ho
  refine (show R' 58 _ = R 58 _ from r2 _ ?_)
  rcases (show z = q ∨ z ≠ q by omega) with c | c
  · subst c
    rcases ho with h | h | h | h | ⟨i, h1, h2, h⟩ | h | ⟨i, h1, h2, h⟩ | ⟨i, h1, h2, h⟩ | ⟨i, h1, h2, h⟩
    · have := f0 0 0 (by omega) (by omega) (by omega) (by omega)
      omega
    · have := f1 0 0 (by omega) (by omega) (by omega) (by omega)
      omega
    · have := f3 0 0 (by omega) (by omega) (by omega) (by omega)
      omega
    · have := f2 0 0 (by omega) (by omega) (by omega) (by omega)
      omega
    · have t0 := f4 i 0 (by omega) (by omega) (by omega) (by omega)
      have t1 := f5 i 0 (by omega) (by omega) (by omega) (by omega)
      have t2 := f6 i 0 (by omega) (by omega) (by omega) (by omega)
      have t3 := f7 i 0 (by omega) (by omega) (by omega) (by omega)
      have t4 := f8 i 0 (by omega) (by omega) (by omega) (by omega)
      have t5 := f9 i 0 (by omega) (by omega) (by omega) (by omega)
      omega
    · have := f10 (o - 22692) 0 (by omega) (by omega) (by omega) (by omega)
      omega
    · have t0 := f11 i 0 (by omega) (by omega) (by omega) (by omega)
      have t1 := f12 i 0 (by omega) (by omega) (by omega) (by omega)
      omega
    · have t0 := f13 i 0 (by omega) (by omega) (by omega) (by omega)
      have t1 := f14 i 0 (by omega) (by omega) (by omega) (by omega)
      have t2 := f15 i 0 (by omega) (by omega) (by omega) (by omega)
      have t3 := f16 i 0 (by omega) (by omega) (by omega) (by omega)
      omega
    · have t0 := f17 i 0 (by omega) (by omega) (by omega) (by omega)
      have t1 := f18 i 0 (by omega) (by omega) (by omega) (by omega)
      omega
  · omega

theorem tK_10_1_0 : vK rQ 10 hk_10_1_0 := by
  intro R R' G ps lo hi hl r1 r2 hq
  obtain ⟨b, rfl⟩ := hl1 hl
  replace hq : q10 [b] (R 58) := rqo_10_1 hq
  replace r2 : ∀ i, i < lo ∨ hi < i → R' 58 i = R 58 i := r2
  refine hv8 (fun q r g0 g0a g0b => ?_)
  replace g0 : ((0 : Int) + (1 * lo + 0)) = ((39700 : Nat) : Int) * q + r := g0
  replace g0b : r < ((39700 : Nat) : Int) := g0b
  show hV _ _ _ _ _ [b, lo, hi, q, r]
  refine hv8 (fun q1 r1 g1 g1a g1b => ?_)
  replace g1 : ((0 : Int) + (1 * hi + 0)) = ((39700 : Nat) : Int) * q1 + r1 := g1
  replace g1b : r1 < ((39700 : Nat) : Int) := g1b
  show hV _ _ _ _ _ [b, lo, hi, q, r, q1, r1]
  refine hv13 (fun g2 => ?_)
  replace g2 : ((0 : Int) + (1 * q + 0)) = ((0 : Int) + (1 * q1 + 0)) := g2
  refine hv11 (fun g3 => ?_)
  obtain ⟨f0, f1, f2, f3, f4, f5, f6, f7, f8, f9, f10, f11, f12, f13, f14, f15, f16, f17, f18, -⟩ := g3
  replace f0 : ∀ i j : Int, 0 ≤ i → i < ((1 : Int) + 0) → 0 ≤ j → j < 1 → ((4 : Int) + 0) + 1 * i + 1 * j < ((0 : Int) + (1 * r + 0)) ∨ ((0 : Int) + (1 * r1 + 0)) < ((4 : Int) + 0) + 1 * i + 1 * j := f0
  replace f1 : ∀ i j : Int, 0 ≤ i → i < ((1 : Int) + 0) → 0 ≤ j → j < 1 → ((5 : Int) + 0) + 1 * i + 1 * j < ((0 : Int) + (1 * r + 0)) ∨ ((0 : Int) + (1 * r1 + 0)) < ((5 : Int) + 0) + 1 * i + 1 * j := f1
  replace f2 : ∀ i j : Int, 0 ≤ i → i < ((1 : Int) + 0) → 0 ≤ j → j < 1 → ((24 : Int) + 0) + 1 * i + 1 * j < ((0 : Int) + (1 * r + 0)) ∨ ((0 : Int) + (1 * r1 + 0)) < ((24 : Int) + 0) + 1 * i + 1 * j := f2
  replace f3 : ∀ i j : Int, 0 ≤ i → i < ((1 : Int) + 0) → 0 ≤ j → j < 1 → ((17 : Int) + 0) + 1 * i + 1 * j < ((0 : Int) + (1 * r + 0)) ∨ ((0 : Int) + (1 * r1 + 0)) < ((17 : Int) + 0) + 1 * i + 1 * j := f3
  replace f4 : ∀ i j : Int, 0 ≤ i → i < ((360 : Int) + 0) → 0 ≤ j → j < 1 → ((8292 : Int) + 0) + 40 * i + 40 * j < ((0 : Int) + (1 * r + 0)) ∨ ((0 : Int) + (1 * r1 + 0)) < ((8292 : Int) + 0) + 40 * i + 40 * j := f4
  replace f5 : ∀ i j : Int, 0 ≤ i → i < ((360 : Int) + 0) → 0 ≤ j → j < 1 → ((8295 : Int) + 0) + 40 * i + 40 * j < ((0 : Int) + (1 * r + 0)) ∨ ((0 : Int) + (1 * r1 + 0)) < ((8295 : Int) + 0) + 40 * i + 40 * j := f5
  replace f6 : ∀ i j : Int, 0 ≤ i → i < ((360 : Int) + 0) → 0 ≤ j → j < 1 → ((8296 : Int) + 0) + 40 * i + 40 * j < ((0 : Int) + (1 * r + 0)) ∨ ((0 : Int) + (1 * r1 + 0)) < ((8296 : Int) + 0) + 40 * i + 40 * j := f6
  replace f7 : ∀ i j : Int, 0 ≤ i → i < ((360 : Int) + 0) → 0 ≤ j → j < 1 → ((8299 : Int) + 0) + 40 * i + 40 * j < ((0 : Int) + (1 * r + 0)) ∨ ((0 : Int) + (1 * r1 + 0)) < ((8299 : Int) + 0) + 40 * i + 40 * j := f7
  replace f8 : ∀ i j : Int, 0 ≤ i → i < ((360 : Int) + 0) → 0 ≤ j → j < 1 → ((8305 : Int) + 0) + 40 * i + 40 * j < ((0 : Int) + (1 * r + 0)) ∨ ((0 : Int) + (1 * r1 + 0)) < ((8305 : Int) + 0) + 40 * i + 40 * j := f8
  replace f9 : ∀ i j : Int, 0 ≤ i → i < ((360 : Int) + 0) → 0 ≤ j → j < 1 → ((8306 : Int) + 0) + 40 * i + 40 * j < ((0 : Int) + (1 * r + 0)) ∨ ((0 : Int) + (1 * r1 + 0)) < ((8306 : Int) + 0) + 40 * i + 40 * j := f9
  replace f10 : ∀ i j : Int, 0 ≤ i → i < ((8000 : Int) + 0) → 0 ≤ j → j < 1 → ((22692 : Int) + 0) + 1 * i + 1 * j < ((0 : Int) + (1 * r + 0)) ∨ ((0 : Int) + (1 * r1 + 0)) < ((22692 : Int) + 0) + 1 * i + 1 * j := f10
  replace f11 : ∀ i j : Int, 0 ≤ i → i < ((32 : Int) + 0) → 0 ≤ j → j < 1 → ((37420 : Int) + 0) + 6 * i + 6 * j < ((0 : Int) + (1 * r + 0)) ∨ ((0 : Int) + (1 * r1 + 0)) < ((37420 : Int) + 0) + 6 * i + 6 * j := f11
  replace f12 : ∀ i j : Int, 0 ≤ i → i < ((32 : Int) + 0) → 0 ≤ j → j < 1 → ((37421 : Int) + 0) + 6 * i + 6 * j < ((0 : Int) + (1 * r + 0)) ∨ ((0 : Int) + (1 * r1 + 0)) < ((37421 : Int) + 0) + 6 * i + 6 * j := f12
  replace f13 : ∀ i j : Int, 0 ≤ i → i < ((5 : Int) + 0) → 0 ≤ j → j < 1 → ((37612 : Int) + 0) + 300 * i + 300 * j < ((0 : Int) + (1 * r + 0)) ∨ ((0 : Int) + (1 * r1 + 0)) < ((37612 : Int) + 0) + 300 * i + 300 * j := f13
  replace f14 : ∀ i j : Int, 0 ≤ i → i < ((5 : Int) + 0) → 0 ≤ j → j < 1 → ((37613 : Int) + 0) + 300 * i + 300 * j < ((0 : Int) + (1 * r + 0)) ∨ ((0 : Int) + (1 * r1 + 0)) < ((37613 : Int) + 0) + 300 * i + 300 * j := f14
  replace f15 : ∀ i j : Int, 0 ≤ i → i < ((5 : Int) + 0) → 0 ≤ j → j < 1 → ((37617 : Int) + 0) + 300 * i + 300 * j < ((0 : Int) + (1 * r + 0)) ∨ ((0 : Int) + (1 * r1 + 0)) < ((37617 : Int) + 0) + 300 * i + 300 * j := f15
  replace f16 : ∀ i j : Int, 0 ≤ i → i < ((5 : Int) + 0) → 0 ≤ j → j < 1 → ((37619 : Int) + 0) + 300 * i + 300 * j < ((0 : Int) + (1 * r + 0)) ∨ ((0 : Int) + (1 * r1 + 0)) < ((37619 : Int) + 0) + 300 * i + 300 * j := f16
  replace f17 : ∀ i j : Int, 0 ≤ i → i < ((32 : Int) + 0) → 0 ≤ j → j < 1 → ((39112 : Int) + 0) + 16 * i + 16 * j < ((0 : Int) + (1 * r + 0)) ∨ ((0 : Int) + (1 * r1 + 0)) < ((39112 : Int) + 0) + 16 * i + 16 * j := f17
  replace f18 : ∀ i j : Int, 0 ≤ i → i < ((32 : Int) + 0) → 0 ≤ j → j < 1 → ((39113 : Int) + 0) + 16 * i + 16 * j < ((0 : Int) + (1 * r + 0)) ∨ ((0 : Int) + (1 * r1 + 0)) < ((39113 : Int) + 0) + 16 * i + 16 * j := f18
  refine hvC ?_
  refine rqi_10_1 (?_ : q10 [b] (R' 58))
  intro z z0 z1 hx
  refine dC_fr (hq z z0 z1 hx) fun o ho => ?_
  have ol := DFo_lt ho
  refine (show R' 58 _ = R 58 _ from r2 _ ?_)
  rcases (show z = q ∨ z ≠ q by omega) with c | c
  · subst c
    rcases ho with h | h | h | h | ⟨i, h1, h2, h⟩ | h | ⟨i, h1, h2, h⟩ | ⟨i, h1, h2, h⟩ | ⟨i, h1, h2, h⟩
    · have := f0 0 0 (by omega) (by omega) (by omega) (by omega)
      omega
    · have := f1 0 0 (by omega) (by omega) (by omega) (by omega)
      omega
    · have := f3 0 0 (by omega) (by omega) (by omega) (by omega)
      omega
    · have := f2 0 0 (by omega) (by omega) (by omega) (by omega)
      omega
    · have t0 := f4 i 0 (by omega) (by omega) (by omega) (by omega)
      have t1 := f5 i 0 (by omega) (by omega) (by omega) (by omega)
      have t2 := f6 i 0 (by omega) (by omega) (by omega) (by omega)
      have t3 := f7 i 0 (by omega) (by omega) (by omega) (by omega)
      have t4 := f8 i 0 (by omega) (by omega) (by omega) (by omega)
      have t5 := f9 i 0 (by omega) (by omega) (by omega) (by omega)
      omega
    · have := f10 (o - 22692) 0 (by omega) (by omega) (by omega) (by omega)
      omega
    · have t0 := f11 i 0 (by omega) (by omega) (by omega) (by omega)
      have t1 := f12 i 0 (by omega) (by omega) (by omega) (by omega)
      omega
    · have t0 := f13 i 0 (by omega) (by omega) (by omega) (by omega)
      have t1 := f14 i 0 (by omega) (by omega) (by omega) (by omega)
      have t2 := f15 i 0 (by omega) (by omega) (by omega) (by omega)
      have t3 := f16 i 0 (by omega) (by omega) (by omega) (by omega)
      omega
    · have t0 := f17 i 0 (by omega) (by omega) (by omega) (by omega)
      have t1 := f18 i 0 (by omega) (by omega) (by omega) (by omega)
      omega
  · omega

theorem tK_10_1_1 : vK rQ 10 hk_10_1_1 := by
  intro R R' G ps lo hi hl r1 r2 hq
  obtain ⟨x0, rfl⟩ := hl1 hl
  replace hq : q10 [x0] (R 58) := rqo_10_1 hq
  replace r2 : ∀ i, i < lo ∨ hi < i → R' 58 i = R 58 i := r2
  refine hv8 (fun q r g0 g0a g0b => ?_)
  replace g0 : ((0 : Int) + (1 * lo + 0)) = ((39700 : Nat) : Int) * q + r := g0
  replace g0b : r < ((39700 : Nat) : Int) := g0b
  show hV _ _ _ _ _ [x0, lo, hi, q, r]
  refine hv8 (fun q1 r1 g1 g1a g1b => ?_)
  replace g1 : ((0 : Int) + (1 * hi + 0)) = ((39700 : Nat) : Int) * q1 + r1 := g1
  replace g1b : r1 < ((39700 : Nat) : Int) := g1b
  show hV _ _ _ _ _ [x0, lo, hi, q, r, q1, r1]
  refine hv13 (fun g2 => ?_)
  replace g2 : ((0 : Int) + (1 * q + 0)) = ((0 : Int) + (1 * q1 + 0)) := g2
  refine hv13 (fun g3 => ?_)
  replace g3 : ((0 : Int) + (39700 * q + 0)) = ((0 : Int) + (1 * x0 + 0)) := g3
  refine hvC ?_
  refine rqi_10_1 (?_ : q10 [x0] (R' 58))
  intro z z0 z1 hx
  refine dC_fr (hq z z0 z1 hx) fun o ho => ?_
  have hne := hx x0 (by simp)
  have ol := DFo_lt ho
  refine (show R' 58 _ = R 58 _ from r2 _ ?_)
  omega

theorem tK_12_8_0 : vK rQ 12 hk_12_8_0 := by
  intro R R' G ps lo hi hl r1 r2 hq
  obtain ⟨b, many, ic, under, pc, x, y, h, rfl⟩ := hl8 hl
  replace hq : q12 b many ic under pc x y h (R 58) := rqo_12_8 hq
  replace r2 : ∀ i, i < lo ∨ hi < i → R' 58 i = R 58 i := r2
  refine hv8 (fun q r g0 g0a g0b => ?_)
  replace g0 : ((0 : Int) + (1 * lo + 0)) = ((39700 : Nat) : Int) * q + r := g0
  replace g0b : r < ((39700 : Nat) : Int) := g0b
  show hV _ _ _ _ _ [b, many, ic, under, pc, x, y, h, lo, hi, q, r]
  refine hv8 (fun q1 r1 g1 g1a g1b => ?_)
  replace g1 : ((0 : Int) + (1 * hi + 0)) = ((39700 : Nat) : Int) * q1 + r1 := g1
  replace g1b : r1 < ((39700 : Nat) : Int) := g1b
  show hV _ _ _ _ _ [b, many, ic, under, pc, x, y, h, lo, hi, q, r, q1, r1]
  refine hv13 (fun g2 => ?_)
  replace g2 : ((0 : Int) + (1 * q + 0)) = ((0 : Int) + (1 * q1 + 0)) := g2
  refine hv13 (fun g3 => ?_)
  replace g3 : ((0 : Int) + (39700 * q + 0)) = ((0 : Int) + (1 * b + 0)) := g3
  refine hv11 (fun g4 => ?_)
  obtain ⟨f0, f1, f2, f3, f4, f5, f6, f7, f8, f9, f10, f11, f12, f13, f14, f15, -⟩ := g4
  replace f0 : ∀ i j : Int, 0 ≤ i → i < ((0 : Int) + (1 * many + 0)) → 0 ≤ j → j < 1 → ((8292 : Int) + 0) + 40 * i + 40 * j < ((0 : Int) + (1 * r + 0)) ∨ ((0 : Int) + (1 * r1 + 0)) < ((8292 : Int) + 0) + 40 * i + 40 * j := f0
  replace f1 : ∀ i j : Int, 0 ≤ i → i < ((0 : Int) + (1 * many + 0)) → 0 ≤ j → j < 1 → ((8295 : Int) + 0) + 40 * i + 40 * j < ((0 : Int) + (1 * r + 0)) ∨ ((0 : Int) + (1 * r1 + 0)) < ((8295 : Int) + 0) + 40 * i + 40 * j := f1
  replace f2 : ∀ i j : Int, 0 ≤ i → i < ((0 : Int) + (1 * many + 0)) → 0 ≤ j → j < 1 → ((8296 : Int) + 0) + 40 * i + 40 * j < ((0 : Int) + (1 * r + 0)) ∨ ((0 : Int) + (1 * r1 + 0)) < ((8296 : Int) + 0) + 40 * i + 40 * j := f2
  replace f3 : ∀ i j : Int, 0 ≤ i → i < ((0 : Int) + (1 * many + 0)) → 0 ≤ j → j < 1 → ((8299 : Int) + 0) + 40 * i + 40 * j < ((0 : Int) + (1 * r + 0)) ∨ ((0 : Int) + (1 * r1 + 0)) < ((8299 : Int) + 0) + 40 * i + 40 * j := f3
  replace f4 : ∀ i j : Int, 0 ≤ i → i < ((0 : Int) + (1 * many + 0)) → 0 ≤ j → j < 1 → ((8305 : Int) + 0) + 40 * i + 40 * j < ((0 : Int) + (1 * r + 0)) ∨ ((0 : Int) + (1 * r1 + 0)) < ((8305 : Int) + 0) + 40 * i + 40 * j := f4
  replace f5 : ∀ i j : Int, 0 ≤ i → i < ((0 : Int) + (1 * many + 0)) → 0 ≤ j → j < 1 → ((8306 : Int) + 0) + 40 * i + 40 * j < ((0 : Int) + (1 * r + 0)) ∨ ((0 : Int) + (1 * r1 + 0)) < ((8306 : Int) + 0) + 40 * i + 40 * j := f5
  replace f6 : ∀ i j : Int, 0 ≤ i → i < ((0 : Int) + (1 * ic + 0)) → 0 ≤ j → j < 1 → ((22692 : Int) + 0) + 2 * i + 2 * j < ((0 : Int) + (1 * r + 0)) ∨ ((0 : Int) + (1 * r1 + 0)) < ((22692 : Int) + 0) + 2 * i + 2 * j := f6
  replace f7 : ∀ i j : Int, 0 ≤ i → i < ((0 : Int) + (1 * ic + 0)) → 0 ≤ j → j < 1 → ((22693 : Int) + 0) + 2 * i + 2 * j < ((0 : Int) + (1 * r + 0)) ∨ ((0 : Int) + (1 * r1 + 0)) < ((22693 : Int) + 0) + 2 * i + 2 * j := f7
  replace f8 : ∀ i j : Int, 0 ≤ i → i < ((0 : Int) + (1 * pc + 0)) → 0 ≤ j → j < 1 → ((37420 : Int) + 0) + 6 * i + 6 * j < ((0 : Int) + (1 * r + 0)) ∨ ((0 : Int) + (1 * r1 + 0)) < ((37420 : Int) + 0) + 6 * i + 6 * j := f8
  replace f9 : ∀ i j : Int, 0 ≤ i → i < ((0 : Int) + (1 * pc + 0)) → 0 ≤ j → j < 1 → ((37421 : Int) + 0) + 6 * i + 6 * j < ((0 : Int) + (1 * r + 0)) ∨ ((0 : Int) + (1 * r1 + 0)) < ((37421 : Int) + 0) + 6 * i + 6 * j := f9
  replace f10 : ∀ i j : Int, 0 ≤ i → i < ((0 : Int) + (1 * under + 0)) → 0 ≤ j → j < 1 → ((37612 : Int) + 0) + 300 * i + 300 * j < ((0 : Int) + (1 * r + 0)) ∨ ((0 : Int) + (1 * r1 + 0)) < ((37612 : Int) + 0) + 300 * i + 300 * j := f10
  replace f11 : ∀ i j : Int, 0 ≤ i → i < ((0 : Int) + (1 * under + 0)) → 0 ≤ j → j < 1 → ((37613 : Int) + 0) + 300 * i + 300 * j < ((0 : Int) + (1 * r + 0)) ∨ ((0 : Int) + (1 * r1 + 0)) < ((37613 : Int) + 0) + 300 * i + 300 * j := f11
  replace f12 : ∀ i j : Int, 0 ≤ i → i < ((0 : Int) + (1 * under + 0)) → 0 ≤ j → j < 1 → ((37617 : Int) + 0) + 300 * i + 300 * j < ((0 : Int) + (1 * r + 0)) ∨ ((0 : Int) + (1 * r1 + 0)) < ((37617 : Int) + 0) + 300 * i + 300 * j := f12
  replace f13 : ∀ i j : Int, 0 ≤ i → i < ((0 : Int) + (1 * under + 0)) → 0 ≤ j → j < 1 → ((37619 : Int) + 0) + 300 * i + 300 * j < ((0 : Int) + (1 * r + 0)) ∨ ((0 : Int) + (1 * r1 + 0)) < ((37619 : Int) + 0) + 300 * i + 300 * j := f13
  replace f14 : ∀ i j : Int, 0 ≤ i → i < ((32 : Int) + 0) → 0 ≤ j → j < 1 → ((39112 : Int) + 0) + 16 * i + 16 * j < ((0 : Int) + (1 * r + 0)) ∨ ((0 : Int) + (1 * r1 + 0)) < ((39112 : Int) + 0) + 16 * i + 16 * j := f14
  replace f15 : ∀ i j : Int, 0 ≤ i → i < ((32 : Int) + 0) → 0 ≤ j → j < 1 → ((39113 : Int) + 0) + 16 * i + 16 * j < ((0 : Int) + (1 * r + 0)) ∨ ((0 : Int) + (1 * r1 + 0)) < ((39113 : Int) + 0) + 16 * i + 16 * j := f15
  refine hvC ?_
  refine rqi_12_8 (?_ : q12 b many ic under pc x y h (R' 58))
  obtain ⟨⟨z, z0, z1, z2⟩, hD, hh⟩ := hq
  have hD0 := hD
  obtain ⟨⟨a1, a2, a3, a4, a5, a6, a7, a8, a9⟩, -⟩ := hD0
  have n : ∀ a, a < lo ∨ hi < a → R' 58 a = R 58 a := r2
  refine ⟨⟨z, z0, z1, z2⟩, dD_fr (b' := b) hD (fun i q0 q1 => n _ (by have := f0 (i) 0 (by omega) (by omega) (by omega) (by omega); omega)) (fun i q0 q1 _ => n _ (by have := f1 (i) 0 (by omega) (by omega) (by omega) (by omega); omega)) (fun i q0 q1 _ => ⟨Or.inl (n _ (by have := f2 (i) 0 (by omega) (by omega) (by omega) (by omega); omega)), n _ (by have := f4 (i) 0 (by omega) (by omega) (by omega) (by omega); omega), Or.inl (n _ (by have := f5 (i) 0 (by omega) (by omega) (by omega) (by omega); omega))⟩) (fun k q0 q1 => ⟨n _ (by have := f6 (k) 0 (by omega) (by omega) (by omega) (by omega); omega), Or.inl (n _ (by have := f7 (k) 0 (by omega) (by omega) (by omega) (by omega); omega))⟩) (fun p q0 q1 => ⟨n _ (by have := f8 (p) 0 (by omega) (by omega) (by omega) (by omega); omega), n _ (by have := f9 (p) 0 (by omega) (by omega) (by omega) (by omega); omega)⟩) (fun j q0 q1 => ⟨n _ (by have := f10 (j) 0 (by omega) (by omega) (by omega) (by omega); omega), n _ (by have := f11 (j) 0 (by omega) (by omega) (by omega) (by omega); omega), n _ (by have := f12 (j) 0 (by omega) (by omega) (by omega) (by omega); omega), n _ (by have := f13 (j) 0 (by omega) (by omega) (by omega) (by omega); omega)⟩) (fun i _ _ _ v0 v1 => ⟨n _ (by have := f14 (dV (R 58) b i) 0 (by omega) (by omega) (by omega) (by omega); omega), n _ (by have := f15 (dV (R 58) b i) 0 (by omega) (by omega) (by omega) (by omega); omega)⟩), fun c1 c2 => ?_⟩
  have t := lj hD (j := 0) (by omega) (by omega)
  rw [show fT (R' 58) b 0 = fT (R 58) b 0 from n _ (by have := f10 (0) 0 (by omega) (by omega) (by omega) (by omega); omega), show dH (R' 58) b (fT (R 58) b 0) = dH (R 58) b (fT (R 58) b 0) from n _ (by have := f3 (fT (R 58) b 0) 0 (by omega) (by omega) (by omega) (by omega); omega)]
  exact hh c1 c2

theorem tK_14_3_0 : vK rQ 14 hk_14_3_0 := by
  intro R R' G ps lo hi hl r1 r2 hq
  obtain ⟨b, s, k, rfl⟩ := hl3 hl
  replace hq : q14 b s k (R 58) := rqo_14_3 hq
  replace r2 : ∀ i, i < lo ∨ hi < i → R' 58 i = R 58 i := r2
  refine hv8 (fun q r g0 g0a g0b => ?_)
  replace g0 : ((0 : Int) + (1 * lo + 0)) = ((39700 : Nat) : Int) * q + r := g0
  replace g0b : r < ((39700 : Nat) : Int) := g0b
  show hV _ _ _ _ _ [b, s, k, lo, hi, q, r]
  refine hv8 (fun q1 r1 g1 g1a g1b => ?_)
  replace g1 : ((0 : Int) + (1 * hi + 0)) = ((39700 : Nat) : Int) * q1 + r1 := g1
  replace g1b : r1 < ((39700 : Nat) : Int) := g1b
  show hV _ _ _ _ _ [b, s, k, lo, hi, q, r, q1, r1]
  refine hv13 (fun g2 => ?_)
  replace g2 : ((0 : Int) + (1 * q + 0)) = ((0 : Int) + (1 * q1 + 0)) := g2
  refine hv13 (fun g3 => ?_)
  replace g3 : ((0 : Int) + (39700 * q + 0)) = ((0 : Int) + (1 * b + 0)) := g3
  refine hv11 (fun g4 => ?_)
  obtain ⟨f0, f1, -⟩ := g4
  replace f0 : ∀ i j : Int, 0 ≤ i → i < ((0 : Int) + (1 * k + 0)) → 0 ≤ j → j < 1 → ((8292 : Int) + 0) + 40 * i + 40 * j < ((0 : Int) + (1 * r + 0)) ∨ ((0 : Int) + (1 * r1 + 0)) < ((8292 : Int) + 0) + 40 * i + 40 * j := f0
  replace f1 : ∀ i j : Int, 0 ≤ i → i < ((0 : Int) + (1 * k + 0)) → 0 ≤ j → j < 1 → ((8295 : Int) + 0) + 40 * i + 40 * j < ((0 : Int) + (1 * r + 0)) ∨ ((0 : Int) + (1 * r1 + 0)) < ((8295 : Int) + 0) + 40 * i + 40 * j := f1
  refine hvC ?_
  refine rqi_14_3 (?_ : q14 b s k (R' 58))
  intro i_ i0 i1 hc
  refine hq i_ i0 i1 ?_
  rw [show dK (R' 58) b i_ = dK (R 58) b i_ from r2 _ (by have u_ := f0 (i_) 0 (by omega) (by omega) (by omega) (by omega); omega), show dV (R' 58) b i_ = dV (R 58) b i_ from r2 _ (by have u_ := f1 (i_) 0 (by omega) (by omega) (by omega) (by omega); omega)] at hc
  exact hc

theorem tK_15_3_0 : vK rQ 15 hk_15_3_0 := by
  intro R R' G ps lo hi hl r1 r2 hq
  obtain ⟨b, l, u, rfl⟩ := hl3 hl
  replace hq : q15 b l u (R 58) := rqo_15_3 hq
  replace r2 : ∀ i, i < lo ∨ hi < i → R' 58 i = R 58 i := r2
  refine hv8 (fun q r g0 g0a g0b => ?_)
  replace g0 : ((0 : Int) + (1 * lo + 0)) = ((39700 : Nat) : Int) * q + r := g0
  replace g0b : r < ((39700 : Nat) : Int) := g0b
  show hV _ _ _ _ _ [b, l, u, lo, hi, q, r]
  refine hv8 (fun q1 r1 g1 g1a g1b => ?_)
  replace g1 : ((0 : Int) + (1 * hi + 0)) = ((39700 : Nat) : Int) * q1 + r1 := g1
  replace g1b : r1 < ((39700 : Nat) : Int) := g1b
  show hV _ _ _ _ _ [b, l, u, lo, hi, q, r, q1, r1]
  refine hv13 (fun g2 => ?_)
  replace g2 : ((0 : Int) + (1 * q + 0)) = ((0 : Int) + (1 * q1 + 0)) := g2
  refine hv13 (fun g3 => ?_)
  replace g3 : ((0 : Int) + (39700 * q + 0)) = ((0 : Int) + (1 * b + 0)) := g3
  refine hv11 (fun g4 => ?_)
  obtain ⟨f0, -⟩ := g4
  replace f0 : ∀ i j : Int, 0 ≤ i → i < ((0 : Int) + ((-1) * l + (1 * u + 0))) → 0 ≤ j → j < 1 → ((37420 : Int) + (6 * l + 0)) + 6 * i + 6 * j < ((0 : Int) + (1 * r + 0)) ∨ ((0 : Int) + (1 * r1 + 0)) < ((37420 : Int) + (6 * l + 0)) + 6 * i + 6 * j := f0
  refine hvC ?_
  refine rqi_15_3 (?_ : q15 b l u (R' 58))
  intro p_ p0 p1
  rw [show pK (R' 58) b p_ = pK (R 58) b p_ from r2 _ (by have u_ := f0 (p_ - l) 0 (by omega) (by omega) (by omega) (by omega); omega)]
  exact hq p_ p0 p1

theorem tK_16_2_0 : vK rQ 16 hk_16_2_0 := by
  intro R R' G ps lo hi hl r1 r2 hq
  obtain ⟨b, aT, rfl⟩ := hl2 hl
  replace hq : q16 b aT (R 58) := rqo_16_2 hq
  replace r2 : ∀ i, i < lo ∨ hi < i → R' 58 i = R 58 i := r2
  refine hv8 (fun q r g0 g0a g0b => ?_)
  replace g0 : ((0 : Int) + (1 * lo + 0)) = ((39700 : Nat) : Int) * q + r := g0
  replace g0b : r < ((39700 : Nat) : Int) := g0b
  show hV _ _ _ _ _ [b, aT, lo, hi, q, r]
  refine hv8 (fun q1 r1 g1 g1a g1b => ?_)
  replace g1 : ((0 : Int) + (1 * hi + 0)) = ((39700 : Nat) : Int) * q1 + r1 := g1
  replace g1b : r1 < ((39700 : Nat) : Int) := g1b
  show hV _ _ _ _ _ [b, aT, lo, hi, q, r, q1, r1]
  refine hv13 (fun g2 => ?_)
  replace g2 : ((0 : Int) + (1 * q + 0)) = ((0 : Int) + (1 * q1 + 0)) := g2
  refine hv13 (fun g3 => ?_)
  replace g3 : ((0 : Int) + (39700 * q + 0)) = ((0 : Int) + (1 * b + 0)) := g3
  refine hv11 (fun g4 => ?_)
  obtain ⟨f0, f1, -⟩ := g4
  replace f0 : ∀ i j : Int, 0 ≤ i → i < ((1 : Int) + 0) → 0 ≤ j → j < 1 → ((17 : Int) + 0) + 1 * i + 1 * j < ((0 : Int) + (1 * r + 0)) ∨ ((0 : Int) + (1 * r1 + 0)) < ((17 : Int) + 0) + 1 * i + 1 * j := f0
  replace f1 : ∀ i j : Int, 0 ≤ i → i < ((192 : Int) + 0) → 0 ≤ j → j < 1 → ((37420 : Int) + 0) + 1 * i + 1 * j < ((0 : Int) + (1 * r + 0)) ∨ ((0 : Int) + (1 * r1 + 0)) < ((37420 : Int) + 0) + 1 * i + 1 * j := f1
  refine hvC ?_
  refine rqi_16_2 (?_ : q16 b aT (R' 58))
  rcases hq with h_ | ⟨p_, p0, p1, p2, p3, p4⟩
  · exact Or.inl h_
  · have w1 : R' 58 (b + 17) = R 58 (b + 17) := r2 _ (by have u_ := f0 (0) 0 (by omega) (by omega) (by omega) (by omega); omega)
    have w2 : pK (R' 58) b p_ = pK (R 58) b p_ := r2 _ (by have u_ := f1 (6 * p_) 0 (by omega) (by omega) (by omega) (by omega); omega)
    have w3 : pP (R' 58) b p_ = pP (R 58) b p_ := r2 _ (by have u_ := f1 (6 * p_ + 1) 0 (by omega) (by omega) (by omega) (by omega); omega)
    exact Or.inr ⟨p_, p0, by rw [w1]; exact p1, p2, by rw [w2]; exact p3, by rw [w3]; exact p4⟩

theorem tK_41_3_0 : vK rQ 41 hk_41_3_0 := by
  intro R R' G ps lo hi hl r1 r2 hq
  obtain ⟨k, n, b, rfl⟩ := hl3 hl
  replace hq : q41 k n b (R 58) := rqo_41_3 hq
  replace r2 : ∀ i, i < lo ∨ hi < i → R' 58 i = R 58 i := r2
  refine hv8 (fun q r g0 g0a g0b => ?_)
  replace g0 : ((0 : Int) + (1 * lo + 0)) = ((39700 : Nat) : Int) * q + r := g0
  replace g0b : r < ((39700 : Nat) : Int) := g0b
  show hV _ _ _ _ _ [k, n, b, lo, hi, q, r]
  refine hv8 (fun q1 r1 g1 g1a g1b => ?_)
  replace g1 : ((0 : Int) + (1 * hi + 0)) = ((39700 : Nat) : Int) * q1 + r1 := g1
  replace g1b : r1 < ((39700 : Nat) : Int) := g1b
  show hV _ _ _ _ _ [k, n, b, lo, hi, q, r, q1, r1]
  refine hv13 (fun g2 => ?_)
  replace g2 : ((0 : Int) + (1 * q + 0)) = ((0 : Int) + (1 * q1 + 0)) := g2
  refine hv13 (fun g3 => ?_)
  replace g3 : ((0 : Int) + (39700 * q + 0)) = ((0 : Int) + (1 * b + 0)) := g3
  refine hv11 (fun g4 => ?_)
  obtain ⟨f0, f1, -⟩ := g4
  replace f0 : ∀ i j : Int, 0 ≤ i → i < ((1 : Int) + 0) → 0 ≤ j → j < 1 → ((4 : Int) + 0) + 1 * i + 1 * j < ((0 : Int) + (1 * r + 0)) ∨ ((0 : Int) + (1 * r1 + 0)) < ((4 : Int) + 0) + 1 * i + 1 * j := f0
  replace f1 : ∀ i j : Int, 0 ≤ i → i < ((360 : Int) + 0) → 0 ≤ j → j < 1 → ((8292 : Int) + 0) + 40 * i + 40 * j < ((0 : Int) + (1 * r + 0)) ∨ ((0 : Int) + (1 * r1 + 0)) < ((8292 : Int) + 0) + 40 * i + 40 * j := f1
  refine hvC ?_
  refine rqi_41_3 (?_ : q41 k n b (R' 58))
  obtain ⟨h1, h2⟩ := hq
  refine ⟨fun c_ => ?_, h2⟩
  have w1 : R' 58 (b + 4) = R 58 (b + 4) := r2 _ (by have u_ := f0 (0) 0 (by omega) (by omega) (by omega) (by omega); omega)
  rw [w1]
  rcases (show n < 0 ∨ 360 ≤ n ∨ (0 ≤ n ∧ n < 360) by omega) with d_ | d_ | d_
  · exact Or.inl d_
  · exact Or.inr (Or.inl d_)
  · rw [show dK (R' 58) b n = dK (R 58) b n from r2 _ (by have u_ := f1 (n) 0 (by omega) (by omega) (by omega) (by omega); omega)]
    exact h1 c_

theorem tK_60_3_0 : vK rQ 60 hk_60_3_0 := by
  intro R R' G ps lo hi hl r1 r2 hq
  obtain ⟨s, d, k, rfl⟩ := hl3 hl
  replace hq : q60 s d k (R 58) := rqo_60_3 hq
  replace r2 : ∀ i, i < lo ∨ hi < i → R' 58 i = R 58 i := r2
  refine hv8 (fun q r g0 g0a g0b => ?_)
  replace g0 : ((0 : Int) + (1 * lo + 0)) = ((39700 : Nat) : Int) * q + r := g0
  replace g0b : r < ((39700 : Nat) : Int) := g0b
  show hV _ _ _ _ _ [s, d, k, lo, hi, q, r]
  refine hv8 (fun q1 r1 g1 g1a g1b => ?_)
  replace g1 : ((0 : Int) + (1 * hi + 0)) = ((39700 : Nat) : Int) * q1 + r1 := g1
  replace g1b : r1 < ((39700 : Nat) : Int) := g1b
  show hV _ _ _ _ _ [s, d, k, lo, hi, q, r, q1, r1]
  refine hv13 (fun g2 => ?_)
  replace g2 : ((0 : Int) + (1 * q + 0)) = ((0 : Int) + (1 * q1 + 0)) := g2
  refine hv13 (fun g3 => ?_)
  replace g3 : ((0 : Int) + (39700 * q + 0)) = ((0 : Int) + (1 * d + 0)) := g3
  refine hv0 (fun g4 => ?_)
  replace g4 : (0 : Int) ≤ ((0 : Int) + ((-1) * k + (1 * r + 0))) := g4
  refine hv8 (fun sq sr g5 g5a g5b => ?_)
  replace g5 : ((0 : Int) + (1 * s + 0)) = ((39700 : Nat) : Int) * sq + sr := g5
  replace g5b : sr < ((39700 : Nat) : Int) := g5b
  show hV _ _ _ _ _ [s, d, k, lo, hi, q, r, q1, r1, sq, sr]
  refine hv13 (fun g6 => ?_)
  replace g6 : ((0 : Int) + (1 * sr + 0)) = ((0 : Int) + 0) := g6
  refine hv1 (fun g7 => ?_)
  replace g7 : ((0 : Int) + (1 * s + 0)) ≠ ((0 : Int) + (1 * d + 0)) := g7
  refine hv0 (fun g8 => ?_)
  replace g8 : (0 : Int) ≤ ((39700 : Int) + ((-1) * k + 0)) := g8
  refine hvC ?_
  refine rqi_60_3 (?_ : q60 s d k (R' 58))
  intro i_ i0 i1
  rw [show R' 58 (d + i_) = R 58 (d + i_) from r2 _ (by omega), show R' 58 (s + i_) = R 58 (s + i_) from r2 _ (by omega)]
  exact hq i_ i0 i1

theorem tK_62_1_0 : vK rQ 62 hk_62_1_0 := by
  intro R R' G ps lo hi hl r1 r2 hq
  obtain ⟨b, rfl⟩ := hl1 hl
  replace hq : q62 b (R 58) := rqo_62_1 hq
  replace r2 : ∀ i, i < lo ∨ hi < i → R' 58 i = R 58 i := r2
  refine hv8 (fun q r g0 g0a g0b => ?_)
  replace g0 : ((0 : Int) + (1 * lo + 0)) = ((39700 : Nat) : Int) * q + r := g0
  replace g0b : r < ((39700 : Nat) : Int) := g0b
  show hV _ _ _ _ _ [b, lo, hi, q, r]
  refine hv8 (fun q1 r1 g1 g1a g1b => ?_)
  replace g1 : ((0 : Int) + (1 * hi + 0)) = ((39700 : Nat) : Int) * q1 + r1 := g1
  replace g1b : r1 < ((39700 : Nat) : Int) := g1b
  show hV _ _ _ _ _ [b, lo, hi, q, r, q1, r1]
  refine hv13 (fun g2 => ?_)
  replace g2 : ((0 : Int) + (1 * q + 0)) = ((0 : Int) + (1 * q1 + 0)) := g2
  refine hv13 (fun g3 => ?_)
  replace g3 : ((0 : Int) + (39700 * q + 0)) = ((0 : Int) + (1 * b + 0)) := g3
  refine hv11 (fun g4 => ?_)
  obtain ⟨f0, f1, f2, f3, -⟩ := g4
  replace f0 : ∀ i j : Int, 0 ≤ i → i < ((360 : Int) + 0) → 0 ≤ j → j < 1 → ((8292 : Int) + 0) + 40 * i + 40 * j < ((0 : Int) + (1 * r + 0)) ∨ ((0 : Int) + (1 * r1 + 0)) < ((8292 : Int) + 0) + 40 * i + 40 * j := f0
  replace f1 : ∀ i j : Int, 0 ≤ i → i < ((8000 : Int) + 0) → 0 ≤ j → j < 1 → ((22692 : Int) + 0) + 1 * i + 1 * j < ((0 : Int) + (1 * r + 0)) ∨ ((0 : Int) + (1 * r1 + 0)) < ((22692 : Int) + 0) + 1 * i + 1 * j := f1
  replace f2 : ∀ i j : Int, 0 ≤ i → i < ((2639 : Int) + 0) → 0 ≤ j → j < 1 → ((30693 : Int) + 0) + 1 * i + 1 * j < ((0 : Int) + (1 * r + 0)) ∨ ((0 : Int) + (1 * r1 + 0)) < ((30693 : Int) + 0) + 1 * i + 1 * j := f2
  replace f3 : ∀ i j : Int, 0 ≤ i → i < ((2204 : Int) + 0) → 0 ≤ j → j < 1 → ((37420 : Int) + 0) + 1 * i + 1 * j < ((0 : Int) + (1 * r + 0)) ∨ ((0 : Int) + (1 * r1 + 0)) < ((37420 : Int) + 0) + 1 * i + 1 * j := f3
  refine hvC ?_
  refine rqi_62_1 (?_ : q62 b (R' 58))
  intro i_ hi_
  have e_ : R' 58 (b + i_) = R 58 (b + i_) := by
    refine r2 _ ?_
    rcases hi_ with h_ | h_ | h_ | ⟨j_, j0, j1, h_⟩
    · have u_ := f1 (i_ - 22692) 0 (by omega) (by omega) (by omega) (by omega)
      omega
    · have u_ := f2 (i_ - 30693) 0 (by omega) (by omega) (by omega) (by omega)
      omega
    · have u_ := f3 (i_ - 37420) 0 (by omega) (by omega) (by omega) (by omega)
      omega
    · have u_ := f0 (j_) 0 (by omega) (by omega) (by omega) (by omega)
      omega
  rw [e_]
  exact hq i_ hi_

theorem tK_82_3_0 : vK rQ 82 hk_82_3_0 := by
  intro R R' G ps lo hi hl r1 r2 hq
  obtain ⟨b, q0, e, rfl⟩ := hl3 hl
  replace hq : q82 b q0 e (R 58) (R 67) (R 68) (R 60) := rqo_82_3 hq
  replace r2 : ∀ i, i < lo ∨ hi < i → R' 67 i = R 67 i := r2
  refine hv0 (fun g0 => ?_)
  replace g0 : (0 : Int) ≤ ((0 : Int) + ((-1) * q0 + (1 * lo + 0))) := g0
  refine hvC ?_
  refine rqi_82_3 (?_ : q82 b q0 e (R' 58) (R' 67) (R' 68) (R' 60))
  rw [r1 58 (by decide), r1 68 (by decide), r1 60 (by decide)]
  exact q82_P hq (fun x hx => r2 x (Or.inl (by omega)))

theorem tK_82_3_1 : vK rQ 82 hk_82_3_1 := by
  intro R R' G ps lo hi hl r1 r2 hq
  obtain ⟨b, q0, e, rfl⟩ := hl3 hl
  replace hq : q82 b q0 e (R 58) (R 67) (R 68) (R 60) := rqo_82_3 hq
  replace r2 : ∀ i, i < lo ∨ hi < i → R' 68 i = R 68 i := r2
  refine hv0 (fun g0 => ?_)
  replace g0 : (0 : Int) ≤ ((0 : Int) + ((-1) * q0 + (1 * lo + 0))) := g0
  refine hvC ?_
  refine rqi_82_3 (?_ : q82 b q0 e (R' 58) (R' 67) (R' 68) (R' 60))
  rw [r1 58 (by decide), r1 67 (by decide), r1 60 (by decide)]
  exact q82_A hq (fun x hx => r2 x (Or.inl (by omega)))

