/-! RULES: theorems (printed by tools/t63.py) -/
theorem tS_8_1_1 : vS rQ 8 hs_8_1_1 := by
  refine ⟨fun _ => ?_, fun h => absurd h (by decide)⟩
  intro R G ps idx val hl i0 i1 hq
  replace i1 : idx < 238220 := i1
  obtain ⟨x0, rfl⟩ := hl1 hl
  replace hq : qT bs0 c8 [x0] (R 58) := rqo_8_1 hq
  refine hv13 (fun g0 => ?_)
  replace g0 : ((-33 : Int) + (1 * idx + 0)) = ((0 : Int) + (1 * x0 + 0)) := g0
  refine hv8 (fun q r g1 g1a g1b => ?_)
  replace g1 : ((-33 : Int) + (1 * idx + 0)) = ((39700 : Nat) : Int) * q + r := g1
  replace g1b : r < ((39700 : Nat) : Int) := g1b
  show hV _ _ _ _ _ [x0, idx, val, q, r]
  refine hv0 (fun g2 => ?_)
  replace g2 : (0 : Int) ≤ ((5 : Int) + ((-1) * q + 0)) := g2
  refine hv0 (fun g3 => ?_)
  replace g3 : (0 : Int) ≤ ((0 : Int) + (1 * q + 0)) := g3
  refine hv13 (fun g4 => ?_)
  replace g4 : ((0 : Int) + (1 * r + 0)) = ((0 : Int) + 0) := g4
  refine hv0 (fun g5 => ?_)
  replace g5 : (0 : Int) ≤ ((-16 : Int) + (1 * val + 0)) := g5
  refine hvC ?_
  refine ⟨rqi_8_0 (?_ : qT bs0 c8 [] ((hupR R 58 idx val) 58)), trivial⟩
  try simp only [Int.zero_add, Int.one_mul, Int.add_zero]
  intro z E hb hx
  by_cases hE : E = idx - 33
  · unfold c8
    have w0 : hupR R 58 idx val 58 (E + 35) = R 58 (E + 35) := hup_n (by omega)
    have w1 : hupR R 58 idx val 58 (E + 33) = val := hup_y (by omega)
    omega
  · have hh := hq z E hb (fun x hm => by have := List.mem_singleton.mp hm; first | omega | (rw [this]; exact hx x0 (by simp)))
    unfold bs0 at hb
    obtain ⟨z0, z1, ze⟩ := hb
    unfold c8 at *
    have w0 : hupR R 58 idx val 58 (E + 35) = R 58 (E + 35) := hup_n (by omega)
    have w1 : hupR R 58 idx val 58 (E + 33) = R 58 (E + 33) := hup_n (by omega)
    rw [w0, w1]
    exact hh

theorem tS_7_0_0 : vS rQ 7 hs_7_0_0 := by
  refine ⟨fun _ => ?_, fun h => absurd h (by decide)⟩
  intro R G ps idx val hl i0 i1 hq
  replace i1 : idx < 238220 := i1
  obtain rfl := hl0 hl
  replace hq : qT bs0 c7 [] (R 58) := rqo_7_0 hq
  refine hv8 (fun q r g0 g0a g0b => ?_)
  replace g0 : ((-4 : Int) + (1 * idx + 0)) = ((39700 : Nat) : Int) * q + r := g0
  replace g0b : r < ((39700 : Nat) : Int) := g0b
  show hV _ _ _ _ _ [idx, val, q, r]
  refine hv0 (fun g1 => ?_)
  replace g1 : (0 : Int) ≤ ((5 : Int) + ((-1) * q + 0)) := g1
  refine hv0 (fun g2 => ?_)
  replace g2 : (0 : Int) ≤ ((0 : Int) + (1 * q + 0)) := g2
  refine hv13 (fun g3 => ?_)
  replace g3 : ((0 : Int) + (1 * r + 0)) = ((0 : Int) + 0) := g3
  refine hv0 (fun g4 => ?_)
  replace g4 : (0 : Int) ≤ ((-172 : Int) + (1 * val + 0)) := g4
  refine hvC ?_
  refine ⟨rqi_7_0 (?_ : qT bs0 c7 [] ((hupR R 58 idx val) 58)), trivial⟩
  try simp only [Int.zero_add, Int.one_mul, Int.add_zero]
  intro z E hb hx
  by_cases hE : E = idx - 4
  · unfold c7
    have w0 : hupR R 58 idx val 58 (E + 35) = R 58 (E + 35) := hup_n (by omega)
    have w1 : hupR R 58 idx val 58 (E + 4) = val := hup_y (by omega)
    omega
  · have hh := hq z E hb (fun x hm => by cases hm)
    unfold bs0 at hb
    obtain ⟨z0, z1, ze⟩ := hb
    unfold c7 at *
    have w0 : hupR R 58 idx val 58 (E + 35) = R 58 (E + 35) := hup_n (by omega)
    have w1 : hupR R 58 idx val 58 (E + 4) = R 58 (E + 4) := hup_n (by omega)
    rw [w0, w1]
    exact hh

theorem tS_7_1_0 : vS rQ 7 hs_7_1_0 := by
  refine ⟨fun _ => ?_, fun h => absurd h (by decide)⟩
  intro R G ps idx val hl i0 i1 hq
  replace i1 : idx < 238220 := i1
  obtain ⟨x0, rfl⟩ := hl1 hl
  replace hq : qT bs0 c7 [x0] (R 58) := rqo_7_1 hq
  refine hv13 (fun g0 => ?_)
  replace g0 : ((-35 : Int) + (1 * idx + 0)) = ((0 : Int) + (1 * x0 + 0)) := g0
  refine hv8 (fun q r g1 g1a g1b => ?_)
  replace g1 : ((-35 : Int) + (1 * idx + 0)) = ((39700 : Nat) : Int) * q + r := g1
  replace g1b : r < ((39700 : Nat) : Int) := g1b
  show hV _ _ _ _ _ [x0, idx, val, q, r]
  refine hv0 (fun g2 => ?_)
  replace g2 : (0 : Int) ≤ ((5 : Int) + ((-1) * q + 0)) := g2
  refine hv0 (fun g3 => ?_)
  replace g3 : (0 : Int) ≤ ((0 : Int) + (1 * q + 0)) := g3
  refine hv13 (fun g4 => ?_)
  replace g4 : ((0 : Int) + (1 * r + 0)) = ((0 : Int) + 0) := g4
  refine hvC ?_
  refine ⟨rqi_7_1 (?_ : qT bs0 c7 [((0 : Int) + (1 * x0 + 0))] ((hupR R 58 idx val) 58)), trivial⟩
  try simp only [Int.zero_add, Int.one_mul, Int.add_zero]
  intro z E hb hx
  by_cases hE : E = idx - 35
  · exact absurd (by omega) (hx x0 (by simp))
  · have hh := hq z E hb (fun x hm => by have := List.mem_singleton.mp hm; first | omega | (rw [this]; exact hx x0 (by simp)))
    unfold bs0 at hb
    obtain ⟨z0, z1, ze⟩ := hb
    unfold c7 at *
    have w0 : hupR R 58 idx val 58 (E + 35) = R 58 (E + 35) := hup_n (by omega)
    have w1 : hupR R 58 idx val 58 (E + 4) = R 58 (E + 4) := hup_n (by omega)
    rw [w0, w1]
    exact hh

theorem tS_3_0_0 : vS rQ 3 hs_3_0_0 := by
  refine ⟨fun _ => ?_, fun h => absurd h (by decide)⟩
  intro R G ps idx val hl i0 i1 hq
  replace i1 : idx < 238220 := i1
  obtain rfl := hl0 hl
  replace hq : qT bs3 c3 [] (R 58) := rqo_3_0 hq
  refine hv8 (fun q r g0 g0a g0b => ?_)
  replace g0 : ((-5 : Int) + (1 * idx + 0)) = ((39700 : Nat) : Int) * q + r := g0
  replace g0b : r < ((39700 : Nat) : Int) := g0b
  show hV _ _ _ _ _ [idx, val, q, r]
  refine hv0 (fun g1 => ?_)
  replace g1 : (0 : Int) ≤ ((5 : Int) + ((-1) * q + 0)) := g1
  refine hv0 (fun g2 => ?_)
  replace g2 : (0 : Int) ≤ ((0 : Int) + (1 * q + 0)) := g2
  refine hv8 (fun u s g3 g3a g3b => ?_)
  replace g3 : ((-30940 : Int) + (1 * r + 0)) = ((660 : Nat) : Int) * u + s := g3
  replace g3b : s < ((660 : Nat) : Int) := g3b
  show hV _ _ _ _ _ [idx, val, q, r, u, s]
  refine hv0 (fun g4 => ?_)
  replace g4 : (0 : Int) ≤ ((0 : Int) + (1 * u + 0)) := g4
  refine hv0 (fun g5 => ?_)
  replace g5 : (0 : Int) ≤ ((3 : Int) + ((-1) * u + 0)) := g5
  refine hv7 (fun w g6 => ?_)
  replace g6 : ((10 : Nat) : Int) * w = ((0 : Int) + (1 * s + 0)) := g6
  show hV _ _ _ _ _ [idx, val, q, r, u, s, w]
  refine hv0 (fun g7 => ?_)
  replace g7 : (0 : Int) ≤ ((0 : Int) + (1 * w + 0)) := g7
  refine hv0 (fun g8 => ?_)
  replace g8 : (0 : Int) ≤ ((39 : Int) + ((-1) * w + 0)) := g8
  refine hv0 (fun g9 => ?_)
  replace g9 : (0 : Int) ≤ ((0 : Int) + ((-1) * val + 0)) := g9
  refine hvC ?_
  refine ⟨rqi_3_0 (?_ : qT bs3 c3 [] ((hupR R 58 idx val) 58)), trivial⟩
  try simp only [Int.zero_add, Int.one_mul, Int.add_zero]
  intro z E hb hx
  by_cases hE : E = idx - 5
  · unfold c3
    have w0 : hupR R 58 idx val 58 (E + 5) = val := hup_y (by omega)
    have w1 : hupR R 58 idx val 58 (E + 6) = R 58 (E + 6) := hup_n (by omega)
    omega
  · have hh := hq z E hb (fun x hm => by cases hm)
    unfold bs3 at hb
    obtain ⟨z0, z1, u, w, u0, u1, w0, w1, ze⟩ := hb
    unfold c3 at *
    have w0 : hupR R 58 idx val 58 (E + 5) = R 58 (E + 5) := hup_n (by omega)
    have w1 : hupR R 58 idx val 58 (E + 6) = R 58 (E + 6) := hup_n (by omega)
    rw [w0, w1]
    exact hh

theorem tS_3_0_1 : vS rQ 3 hs_3_0_1 := by
  refine ⟨fun _ => ?_, fun h => absurd h (by decide)⟩
  intro R G ps idx val hl i0 i1 hq
  replace i1 : idx < 238220 := i1
  obtain rfl := hl0 hl
  replace hq : qT bs3 c3 [] (R 58) := rqo_3_0 hq
  refine hv8 (fun q r g0 g0a g0b => ?_)
  replace g0 : ((-5 : Int) + (1 * idx + 0)) = ((39700 : Nat) : Int) * q + r := g0
  replace g0b : r < ((39700 : Nat) : Int) := g0b
  show hV _ _ _ _ _ [idx, val, q, r]
  refine hv0 (fun g1 => ?_)
  replace g1 : (0 : Int) ≤ ((5 : Int) + ((-1) * q + 0)) := g1
  refine hv0 (fun g2 => ?_)
  replace g2 : (0 : Int) ≤ ((0 : Int) + (1 * q + 0)) := g2
  refine hv8 (fun u s g3 g3a g3b => ?_)
  replace g3 : ((-30940 : Int) + (1 * r + 0)) = ((660 : Nat) : Int) * u + s := g3
  replace g3b : s < ((660 : Nat) : Int) := g3b
  show hV _ _ _ _ _ [idx, val, q, r, u, s]
  refine hv0 (fun g4 => ?_)
  replace g4 : (0 : Int) ≤ ((0 : Int) + (1 * u + 0)) := g4
  refine hv0 (fun g5 => ?_)
  replace g5 : (0 : Int) ≤ ((3 : Int) + ((-1) * u + 0)) := g5
  refine hv7 (fun w g6 => ?_)
  replace g6 : ((10 : Nat) : Int) * w = ((0 : Int) + (1 * s + 0)) := g6
  show hV _ _ _ _ _ [idx, val, q, r, u, s, w]
  refine hv0 (fun g7 => ?_)
  replace g7 : (0 : Int) ≤ ((0 : Int) + (1 * w + 0)) := g7
  refine hv0 (fun g8 => ?_)
  replace g8 : (0 : Int) ≤ ((39 : Int) + ((-1) * w + 0)) := g8
  refine hvC ?_
  refine ⟨rqi_3_1 (?_ : qT bs3 c3 [((-5 : Int) + (1 * idx + 0))] ((hupR R 58 idx val) 58)), trivial⟩
  try simp only [Int.zero_add, Int.one_mul, Int.add_zero]
  intro z E hb hx
  by_cases hE : E = idx - 5
  · exact absurd (by omega) (hx (-5 + idx) (by simp))
  · have hh := hq z E hb (fun x hm => by cases hm)
    unfold bs3 at hb
    obtain ⟨z0, z1, u, w, u0, u1, w0, w1, ze⟩ := hb
    unfold c3 at *
    have w0 : hupR R 58 idx val 58 (E + 5) = R 58 (E + 5) := hup_n (by omega)
    have w1 : hupR R 58 idx val 58 (E + 6) = R 58 (E + 6) := hup_n (by omega)
    rw [w0, w1]
    exact hh

theorem tS_3_0_2 : vS rQ 3 hs_3_0_2 := by
  refine ⟨fun _ => ?_, fun h => absurd h (by decide)⟩
  intro R G ps idx val hl i0 i1 hq
  replace i1 : idx < 238220 := i1
  obtain rfl := hl0 hl
  replace hq : qT bs3 c3 [] (R 58) := rqo_3_0 hq
  refine hv8 (fun q r g0 g0a g0b => ?_)
  replace g0 : ((-6 : Int) + (1 * idx + 0)) = ((39700 : Nat) : Int) * q + r := g0
  replace g0b : r < ((39700 : Nat) : Int) := g0b
  show hV _ _ _ _ _ [idx, val, q, r]
  refine hv0 (fun g1 => ?_)
  replace g1 : (0 : Int) ≤ ((5 : Int) + ((-1) * q + 0)) := g1
  refine hv0 (fun g2 => ?_)
  replace g2 : (0 : Int) ≤ ((0 : Int) + (1 * q + 0)) := g2
  refine hv8 (fun u s g3 g3a g3b => ?_)
  replace g3 : ((-30940 : Int) + (1 * r + 0)) = ((660 : Nat) : Int) * u + s := g3
  replace g3b : s < ((660 : Nat) : Int) := g3b
  show hV _ _ _ _ _ [idx, val, q, r, u, s]
  refine hv0 (fun g4 => ?_)
  replace g4 : (0 : Int) ≤ ((0 : Int) + (1 * u + 0)) := g4
  refine hv0 (fun g5 => ?_)
  replace g5 : (0 : Int) ≤ ((3 : Int) + ((-1) * u + 0)) := g5
  refine hv7 (fun w g6 => ?_)
  replace g6 : ((10 : Nat) : Int) * w = ((0 : Int) + (1 * s + 0)) := g6
  show hV _ _ _ _ _ [idx, val, q, r, u, s, w]
  refine hv0 (fun g7 => ?_)
  replace g7 : (0 : Int) ≤ ((0 : Int) + (1 * w + 0)) := g7
  refine hv0 (fun g8 => ?_)
  replace g8 : (0 : Int) ≤ ((39 : Int) + ((-1) * w + 0)) := g8
  refine hv2 (fun y0 hag9 g9 => ?_)
  replace g9 : R 58 ((-1 : Int) + (1 * idx + 0)) = y0 := g9
  replace hag9 : (0 : Int) ≤ ((-1 : Int) + (1 * idx + 0)) := hag9
  replace g9 : R 58 (idx - 1) = y0 := hF (R := R 58) g9 (ad_86 idx)
  show hV _ _ _ _ _ [idx, val, q, r, u, s, w, y0]
  refine hv0 (fun g10 => ?_)
  replace g10 : (0 : Int) ≤ ((0 : Int) + ((-1) * y0 + 0)) := g10
  refine hvC ?_
  refine ⟨rqi_3_0 (?_ : qT bs3 c3 [] ((hupR R 58 idx val) 58)), trivial⟩
  try simp only [Int.zero_add, Int.one_mul, Int.add_zero]
  intro z E hb hx
  by_cases hE : E = idx - 6
  · unfold c3
    have w0 := (hup_n (R := R) (r := 58) (a := idx) (v := val) (i := (E + 5)) (by omega)).trans (hF (R := R 58) g9 (by omega))
    have w1 : hupR R 58 idx val 58 (E + 6) = val := hup_y (by omega)
    omega
  · have hh := hq z E hb (fun x hm => by cases hm)
    unfold bs3 at hb
    obtain ⟨z0, z1, u, w, u0, u1, w0, w1, ze⟩ := hb
    unfold c3 at *
    have w0 : hupR R 58 idx val 58 (E + 5) = R 58 (E + 5) := hup_n (by omega)
    have w1 : hupR R 58 idx val 58 (E + 6) = R 58 (E + 6) := hup_n (by omega)
    rw [w0, w1]
    exact hh

theorem tS_3_1_0 : vS rQ 3 hs_3_1_0 := by
  refine ⟨fun _ => ?_, fun h => absurd h (by decide)⟩
  intro R G ps idx val hl i0 i1 hq
  replace i1 : idx < 238220 := i1
  obtain ⟨x0, rfl⟩ := hl1 hl
  replace hq : qT bs3 c3 [x0] (R 58) := rqo_3_1 hq
  refine hv13 (fun g0 => ?_)
  replace g0 : ((-6 : Int) + (1 * idx + 0)) = ((0 : Int) + (1 * x0 + 0)) := g0
  refine hv8 (fun q r g1 g1a g1b => ?_)
  replace g1 : ((-6 : Int) + (1 * idx + 0)) = ((39700 : Nat) : Int) * q + r := g1
  replace g1b : r < ((39700 : Nat) : Int) := g1b
  show hV _ _ _ _ _ [x0, idx, val, q, r]
  refine hv0 (fun g2 => ?_)
  replace g2 : (0 : Int) ≤ ((5 : Int) + ((-1) * q + 0)) := g2
  refine hv0 (fun g3 => ?_)
  replace g3 : (0 : Int) ≤ ((0 : Int) + (1 * q + 0)) := g3
  refine hv8 (fun u s g4 g4a g4b => ?_)
  replace g4 : ((-30940 : Int) + (1 * r + 0)) = ((660 : Nat) : Int) * u + s := g4
  replace g4b : s < ((660 : Nat) : Int) := g4b
  show hV _ _ _ _ _ [x0, idx, val, q, r, u, s]
  refine hv0 (fun g5 => ?_)
  replace g5 : (0 : Int) ≤ ((0 : Int) + (1 * u + 0)) := g5
  refine hv0 (fun g6 => ?_)
  replace g6 : (0 : Int) ≤ ((3 : Int) + ((-1) * u + 0)) := g6
  refine hv7 (fun w g7 => ?_)
  replace g7 : ((10 : Nat) : Int) * w = ((0 : Int) + (1 * s + 0)) := g7
  show hV _ _ _ _ _ [x0, idx, val, q, r, u, s, w]
  refine hv0 (fun g8 => ?_)
  replace g8 : (0 : Int) ≤ ((0 : Int) + (1 * w + 0)) := g8
  refine hv0 (fun g9 => ?_)
  replace g9 : (0 : Int) ≤ ((39 : Int) + ((-1) * w + 0)) := g9
  refine hv0 (fun g10 => ?_)
  replace g10 : (0 : Int) ≤ ((7 : Int) + ((-1) * val + 0)) := g10
  refine hvC ?_
  refine ⟨rqi_3_0 (?_ : qT bs3 c3 [] ((hupR R 58 idx val) 58)), trivial⟩
  try simp only [Int.zero_add, Int.one_mul, Int.add_zero]
  intro z E hb hx
  by_cases hE : E = idx - 6
  · unfold c3
    have w0 : hupR R 58 idx val 58 (E + 5) = R 58 (E + 5) := hup_n (by omega)
    have w1 : hupR R 58 idx val 58 (E + 6) = val := hup_y (by omega)
    omega
  · have hh := hq z E hb (fun x hm => by have := List.mem_singleton.mp hm; first | omega | (rw [this]; exact hx x0 (by simp)))
    unfold bs3 at hb
    obtain ⟨z0, z1, u, w, u0, u1, w0, w1, ze⟩ := hb
    unfold c3 at *
    have w0 : hupR R 58 idx val 58 (E + 5) = R 58 (E + 5) := hup_n (by omega)
    have w1 : hupR R 58 idx val 58 (E + 6) = R 58 (E + 6) := hup_n (by omega)
    rw [w0, w1]
    exact hh

theorem tS_4_0_0 : vS rQ 4 hs_4_0_0 := by
  refine ⟨fun _ => ?_, fun h => absurd h (by decide)⟩
  intro R G ps idx val hl i0 i1 hq
  replace i1 : idx < 238220 := i1
  obtain rfl := hl0 hl
  replace hq : qT bs3 c4 [] (R 58) := rqo_4_0 hq
  refine hv8 (fun q r g0 g0a g0b => ?_)
  replace g0 : ((0 : Int) + (1 * idx + 0)) = ((39700 : Nat) : Int) * q + r := g0
  replace g0b : r < ((39700 : Nat) : Int) := g0b
  show hV _ _ _ _ _ [idx, val, q, r]
  refine hv0 (fun g1 => ?_)
  replace g1 : (0 : Int) ≤ ((5 : Int) + ((-1) * q + 0)) := g1
  refine hv0 (fun g2 => ?_)
  replace g2 : (0 : Int) ≤ ((0 : Int) + (1 * q + 0)) := g2
  refine hv8 (fun u s g3 g3a g3b => ?_)
  replace g3 : ((-30940 : Int) + (1 * r + 0)) = ((660 : Nat) : Int) * u + s := g3
  replace g3b : s < ((660 : Nat) : Int) := g3b
  show hV _ _ _ _ _ [idx, val, q, r, u, s]
  refine hv0 (fun g4 => ?_)
  replace g4 : (0 : Int) ≤ ((0 : Int) + (1 * u + 0)) := g4
  refine hv0 (fun g5 => ?_)
  replace g5 : (0 : Int) ≤ ((3 : Int) + ((-1) * u + 0)) := g5
  refine hv7 (fun w g6 => ?_)
  replace g6 : ((10 : Nat) : Int) * w = ((0 : Int) + (1 * s + 0)) := g6
  show hV _ _ _ _ _ [idx, val, q, r, u, s, w]
  refine hv0 (fun g7 => ?_)
  replace g7 : (0 : Int) ≤ ((0 : Int) + (1 * w + 0)) := g7
  refine hv0 (fun g8 => ?_)
  replace g8 : (0 : Int) ≤ ((39 : Int) + ((-1) * w + 0)) := g8
  refine hv0 (fun g9 => ?_)
  replace g9 : (0 : Int) ≤ ((1 : Int) + ((-1) * val + 0)) := g9
  refine hvC ?_
  refine ⟨rqi_4_0 (?_ : qT bs3 c4 [] ((hupR R 58 idx val) 58)), trivial⟩
  try simp only [Int.zero_add, Int.one_mul, Int.add_zero]
  intro z E hb hx
  by_cases hE : E = idx
  · unfold c4
    have w0 : hupR R 58 idx val 58 E = val := hup_y (by omega)
    have w1 : hupR R 58 idx val 58 (E + 9) = R 58 (E + 9) := hup_n (by omega)
    omega
  · have hh := hq z E hb (fun x hm => by cases hm)
    unfold bs3 at hb
    obtain ⟨z0, z1, u, w, u0, u1, w0, w1, ze⟩ := hb
    unfold c4 at *
    have w0 : hupR R 58 idx val 58 E = R 58 E := hup_n (by omega)
    have w1 : hupR R 58 idx val 58 (E + 9) = R 58 (E + 9) := hup_n (by omega)
    rw [w0, w1]
    exact hh

theorem tS_4_0_1 : vS rQ 4 hs_4_0_1 := by
  refine ⟨fun _ => ?_, fun h => absurd h (by decide)⟩
  intro R G ps idx val hl i0 i1 hq
  replace i1 : idx < 238220 := i1
  obtain rfl := hl0 hl
  replace hq : qT bs3 c4 [] (R 58) := rqo_4_0 hq
  refine hv8 (fun q r g0 g0a g0b => ?_)
  replace g0 : ((0 : Int) + (1 * idx + 0)) = ((39700 : Nat) : Int) * q + r := g0
  replace g0b : r < ((39700 : Nat) : Int) := g0b
  show hV _ _ _ _ _ [idx, val, q, r]
  refine hv0 (fun g1 => ?_)
  replace g1 : (0 : Int) ≤ ((5 : Int) + ((-1) * q + 0)) := g1
  refine hv0 (fun g2 => ?_)
  replace g2 : (0 : Int) ≤ ((0 : Int) + (1 * q + 0)) := g2
  refine hv8 (fun u s g3 g3a g3b => ?_)
  replace g3 : ((-30940 : Int) + (1 * r + 0)) = ((660 : Nat) : Int) * u + s := g3
  replace g3b : s < ((660 : Nat) : Int) := g3b
  show hV _ _ _ _ _ [idx, val, q, r, u, s]
  refine hv0 (fun g4 => ?_)
  replace g4 : (0 : Int) ≤ ((0 : Int) + (1 * u + 0)) := g4
  refine hv0 (fun g5 => ?_)
  replace g5 : (0 : Int) ≤ ((3 : Int) + ((-1) * u + 0)) := g5
  refine hv7 (fun w g6 => ?_)
  replace g6 : ((10 : Nat) : Int) * w = ((0 : Int) + (1 * s + 0)) := g6
  show hV _ _ _ _ _ [idx, val, q, r, u, s, w]
  refine hv0 (fun g7 => ?_)
  replace g7 : (0 : Int) ≤ ((0 : Int) + (1 * w + 0)) := g7
  refine hv0 (fun g8 => ?_)
  replace g8 : (0 : Int) ≤ ((39 : Int) + ((-1) * w + 0)) := g8
  refine hvC ?_
  refine ⟨rqi_4_1 (?_ : qT bs3 c4 [((0 : Int) + (1 * idx + 0))] ((hupR R 58 idx val) 58)), trivial⟩
  try simp only [Int.zero_add, Int.one_mul, Int.add_zero]
  intro z E hb hx
  by_cases hE : E = idx
  · exact absurd (by omega) (hx idx (by simp))
  · have hh := hq z E hb (fun x hm => by cases hm)
    unfold bs3 at hb
    obtain ⟨z0, z1, u, w, u0, u1, w0, w1, ze⟩ := hb
    unfold c4 at *
    have w0 : hupR R 58 idx val 58 E = R 58 E := hup_n (by omega)
    have w1 : hupR R 58 idx val 58 (E + 9) = R 58 (E + 9) := hup_n (by omega)
    rw [w0, w1]
    exact hh

theorem tS_4_0_2 : vS rQ 4 hs_4_0_2 := by
  refine ⟨fun _ => ?_, fun h => absurd h (by decide)⟩
  intro R G ps idx val hl i0 i1 hq
  replace i1 : idx < 238220 := i1
  obtain rfl := hl0 hl
  replace hq : qT bs3 c4 [] (R 58) := rqo_4_0 hq
  refine hv8 (fun q r g0 g0a g0b => ?_)
  replace g0 : ((-9 : Int) + (1 * idx + 0)) = ((39700 : Nat) : Int) * q + r := g0
  replace g0b : r < ((39700 : Nat) : Int) := g0b
  show hV _ _ _ _ _ [idx, val, q, r]
  refine hv0 (fun g1 => ?_)
  replace g1 : (0 : Int) ≤ ((5 : Int) + ((-1) * q + 0)) := g1
  refine hv0 (fun g2 => ?_)
  replace g2 : (0 : Int) ≤ ((0 : Int) + (1 * q + 0)) := g2
  refine hv8 (fun u s g3 g3a g3b => ?_)
  replace g3 : ((-30940 : Int) + (1 * r + 0)) = ((660 : Nat) : Int) * u + s := g3
  replace g3b : s < ((660 : Nat) : Int) := g3b
  show hV _ _ _ _ _ [idx, val, q, r, u, s]
  refine hv0 (fun g4 => ?_)
  replace g4 : (0 : Int) ≤ ((0 : Int) + (1 * u + 0)) := g4
  refine hv0 (fun g5 => ?_)
  replace g5 : (0 : Int) ≤ ((3 : Int) + ((-1) * u + 0)) := g5
  refine hv7 (fun w g6 => ?_)
  replace g6 : ((10 : Nat) : Int) * w = ((0 : Int) + (1 * s + 0)) := g6
  show hV _ _ _ _ _ [idx, val, q, r, u, s, w]
  refine hv0 (fun g7 => ?_)
  replace g7 : (0 : Int) ≤ ((0 : Int) + (1 * w + 0)) := g7
  refine hv0 (fun g8 => ?_)
  replace g8 : (0 : Int) ≤ ((39 : Int) + ((-1) * w + 0)) := g8
  refine hv2 (fun y0 hag9 g9 => ?_)
  replace g9 : R 58 ((-9 : Int) + (1 * idx + 0)) = y0 := g9
  replace hag9 : (0 : Int) ≤ ((-9 : Int) + (1 * idx + 0)) := hag9
  replace g9 : R 58 (idx - 9) = y0 := hF (R := R 58) g9 (ad_87 idx)
  show hV _ _ _ _ _ [idx, val, q, r, u, s, w, y0]
  refine hv0 (fun g10 => ?_)
  replace g10 : (0 : Int) ≤ ((1 : Int) + ((-1) * y0 + 0)) := g10
  refine hvC ?_
  refine ⟨rqi_4_0 (?_ : qT bs3 c4 [] ((hupR R 58 idx val) 58)), trivial⟩
  try simp only [Int.zero_add, Int.one_mul, Int.add_zero]
  intro z E hb hx
  by_cases hE : E = idx - 9
  · unfold c4
    have w0 := (hup_n (R := R) (r := 58) (a := idx) (v := val) (i := E) (by omega)).trans (hF (R := R 58) g9 (by omega))
    have w1 : hupR R 58 idx val 58 (E + 9) = val := hup_y (by omega)
    omega
  · have hh := hq z E hb (fun x hm => by cases hm)
    unfold bs3 at hb
    obtain ⟨z0, z1, u, w, u0, u1, w0, w1, ze⟩ := hb
    unfold c4 at *
    have w0 : hupR R 58 idx val 58 E = R 58 E := hup_n (by omega)
    have w1 : hupR R 58 idx val 58 (E + 9) = R 58 (E + 9) := hup_n (by omega)
    rw [w0, w1]
    exact hh

theorem tS_4_1_0 : vS rQ 4 hs_4_1_0 := by
  refine ⟨fun _ => ?_, fun h => absurd h (by decide)⟩
  intro R G ps idx val hl i0 i1 hq
  replace i1 : idx < 238220 := i1
  obtain ⟨x0, rfl⟩ := hl1 hl
  replace hq : qT bs3 c4 [x0] (R 58) := rqo_4_1 hq
  refine hv13 (fun g0 => ?_)
  replace g0 : ((-9 : Int) + (1 * idx + 0)) = ((0 : Int) + (1 * x0 + 0)) := g0
  refine hv8 (fun q r g1 g1a g1b => ?_)
  replace g1 : ((-9 : Int) + (1 * idx + 0)) = ((39700 : Nat) : Int) * q + r := g1
  replace g1b : r < ((39700 : Nat) : Int) := g1b
  show hV _ _ _ _ _ [x0, idx, val, q, r]
  refine hv0 (fun g2 => ?_)
  replace g2 : (0 : Int) ≤ ((5 : Int) + ((-1) * q + 0)) := g2
  refine hv0 (fun g3 => ?_)
  replace g3 : (0 : Int) ≤ ((0 : Int) + (1 * q + 0)) := g3
  refine hv8 (fun u s g4 g4a g4b => ?_)
  replace g4 : ((-30940 : Int) + (1 * r + 0)) = ((660 : Nat) : Int) * u + s := g4
  replace g4b : s < ((660 : Nat) : Int) := g4b
  show hV _ _ _ _ _ [x0, idx, val, q, r, u, s]
  refine hv0 (fun g5 => ?_)
  replace g5 : (0 : Int) ≤ ((0 : Int) + (1 * u + 0)) := g5
  refine hv0 (fun g6 => ?_)
  replace g6 : (0 : Int) ≤ ((3 : Int) + ((-1) * u + 0)) := g6
  refine hv7 (fun w g7 => ?_)
  replace g7 : ((10 : Nat) : Int) * w = ((0 : Int) + (1 * s + 0)) := g7
  show hV _ _ _ _ _ [x0, idx, val, q, r, u, s, w]
  refine hv0 (fun g8 => ?_)
  replace g8 : (0 : Int) ≤ ((0 : Int) + (1 * w + 0)) := g8
  refine hv0 (fun g9 => ?_)
  replace g9 : (0 : Int) ≤ ((39 : Int) + ((-1) * w + 0)) := g9
  refine hv0 (fun g10 => ?_)
  replace g10 : (0 : Int) ≤ ((63 : Int) + ((-1) * val + 0)) := g10
  refine hvC ?_
  refine ⟨rqi_4_0 (?_ : qT bs3 c4 [] ((hupR R 58 idx val) 58)), trivial⟩
  try simp only [Int.zero_add, Int.one_mul, Int.add_zero]
  intro z E hb hx
  by_cases hE : E = idx - 9
  · unfold c4
    have w0 : hupR R 58 idx val 58 E = R 58 E := hup_n (by omega)
    have w1 : hupR R 58 idx val 58 (E + 9) = val := hup_y (by omega)
    omega
  · have hh := hq z E hb (fun x hm => by have := List.mem_singleton.mp hm; first | omega | (rw [this]; exact hx x0 (by simp)))
    unfold bs3 at hb
    obtain ⟨z0, z1, u, w, u0, u1, w0, w1, ze⟩ := hb
    unfold c4 at *
    have w0 : hupR R 58 idx val 58 E = R 58 E := hup_n (by omega)
    have w1 : hupR R 58 idx val 58 (E + 9) = R 58 (E + 9) := hup_n (by omega)
    rw [w0, w1]
    exact hh

theorem tS_5_0_0 : vS rQ 5 hs_5_0_0 := by
  refine ⟨fun _ => ?_, fun h => absurd h (by decide)⟩
  intro R G ps idx val hl i0 i1 hq
  replace i1 : idx < 238220 := i1
  obtain rfl := hl0 hl
  replace hq : qT bs5 c5 [] (R 58) := rqo_5_0 hq
  refine hv8 (fun q r g0 g0a g0b => ?_)
  replace g0 : ((0 : Int) + (1 * idx + 0)) = ((39700 : Nat) : Int) * q + r := g0
  replace g0b : r < ((39700 : Nat) : Int) := g0b
  show hV _ _ _ _ _ [idx, val, q, r]
  refine hv0 (fun g1 => ?_)
  replace g1 : (0 : Int) ≤ ((5 : Int) + ((-1) * q + 0)) := g1
  refine hv0 (fun g2 => ?_)
  replace g2 : (0 : Int) ≤ ((0 : Int) + (1 * q + 0)) := g2
  refine hv7 (fun u g3 => ?_)
  replace g3 : ((660 : Nat) : Int) * u = ((-30692 : Int) + (1 * r + 0)) := g3
  show hV _ _ _ _ _ [idx, val, q, r, u]
  refine hv0 (fun g4 => ?_)
  replace g4 : (0 : Int) ≤ ((0 : Int) + (1 * u + 0)) := g4
  refine hv0 (fun g5 => ?_)
  replace g5 : (0 : Int) ≤ ((3 : Int) + ((-1) * u + 0)) := g5
  refine hv2 (fun y2 hag6 g6 => ?_)
  replace g6 : R 58 ((8 : Int) + (1 * idx + 0)) = y2 := g6
  replace hag6 : (0 : Int) ≤ ((8 : Int) + (1 * idx + 0)) := hag6
  replace g6 : R 58 (idx + 8) = y2 := hF (R := R 58) g6 (ad_88 idx)
  show hV _ _ _ _ _ [idx, val, q, r, u, y2]
  refine hv0 (fun g7 => ?_)
  replace g7 : (0 : Int) ≤ ((0 : Int) + ((-1) * y2 + 0)) := g7
  refine hvC ?_
  refine ⟨rqi_5_0 (?_ : qT bs5 c5 [] ((hupR R 58 idx val) 58)), trivial⟩
  try simp only [Int.zero_add, Int.one_mul, Int.add_zero]
  intro z E hb hx
  by_cases hE : E = idx
  · unfold c5
    have w0 : hupR R 58 idx val 58 E = val := hup_y (by omega)
    have w1 : hupR R 58 idx val 58 (E + 7) = R 58 (E + 7) := hup_n (by omega)
    have w2 := (hup_n (R := R) (r := 58) (a := idx) (v := val) (i := (E + 8)) (by omega)).trans (hF (R := R 58) g6 (by omega))
    omega
  · have hh := hq z E hb (fun x hm => by cases hm)
    unfold bs5 at hb
    obtain ⟨z0, z1, u, u0, u1, ze⟩ := hb
    unfold c5 at *
    have w0 : hupR R 58 idx val 58 E = R 58 E := hup_n (by omega)
    have w1 : hupR R 58 idx val 58 (E + 7) = R 58 (E + 7) := hup_n (by omega)
    have w2 : hupR R 58 idx val 58 (E + 8) = R 58 (E + 8) := hup_n (by omega)
    rw [w0, w1, w2]
    exact hh

theorem tS_5_0_1 : vS rQ 5 hs_5_0_1 := by
  refine ⟨fun _ => ?_, fun h => absurd h (by decide)⟩
  intro R G ps idx val hl i0 i1 hq
  replace i1 : idx < 238220 := i1
  obtain rfl := hl0 hl
  replace hq : qT bs5 c5 [] (R 58) := rqo_5_0 hq
  refine hv8 (fun q r g0 g0a g0b => ?_)
  replace g0 : ((0 : Int) + (1 * idx + 0)) = ((39700 : Nat) : Int) * q + r := g0
  replace g0b : r < ((39700 : Nat) : Int) := g0b
  show hV _ _ _ _ _ [idx, val, q, r]
  refine hv0 (fun g1 => ?_)
  replace g1 : (0 : Int) ≤ ((5 : Int) + ((-1) * q + 0)) := g1
  refine hv0 (fun g2 => ?_)
  replace g2 : (0 : Int) ≤ ((0 : Int) + (1 * q + 0)) := g2
  refine hv7 (fun u g3 => ?_)
  replace g3 : ((660 : Nat) : Int) * u = ((-30692 : Int) + (1 * r + 0)) := g3
  show hV _ _ _ _ _ [idx, val, q, r, u]
  refine hv0 (fun g4 => ?_)
  replace g4 : (0 : Int) ≤ ((0 : Int) + (1 * u + 0)) := g4
  refine hv0 (fun g5 => ?_)
  replace g5 : (0 : Int) ≤ ((3 : Int) + ((-1) * u + 0)) := g5
  refine hv0 (fun g6 => ?_)
  replace g6 : (0 : Int) ≤ ((-2 : Int) + (1 * val + 0)) := g6
  refine hvC ?_
  refine ⟨rqi_5_0 (?_ : qT bs5 c5 [] ((hupR R 58 idx val) 58)), trivial⟩
  try simp only [Int.zero_add, Int.one_mul, Int.add_zero]
  intro z E hb hx
  by_cases hE : E = idx
  · unfold c5
    have w0 : hupR R 58 idx val 58 E = val := hup_y (by omega)
    have w1 : hupR R 58 idx val 58 (E + 7) = R 58 (E + 7) := hup_n (by omega)
    have w2 : hupR R 58 idx val 58 (E + 8) = R 58 (E + 8) := hup_n (by omega)
    omega
  · have hh := hq z E hb (fun x hm => by cases hm)
    unfold bs5 at hb
    obtain ⟨z0, z1, u, u0, u1, ze⟩ := hb
    unfold c5 at *
    have w0 : hupR R 58 idx val 58 E = R 58 E := hup_n (by omega)
    have w1 : hupR R 58 idx val 58 (E + 7) = R 58 (E + 7) := hup_n (by omega)
    have w2 : hupR R 58 idx val 58 (E + 8) = R 58 (E + 8) := hup_n (by omega)
    rw [w0, w1, w2]
    exact hh

theorem tS_5_0_2 : vS rQ 5 hs_5_0_2 := by
  refine ⟨fun _ => ?_, fun h => absurd h (by decide)⟩
  intro R G ps idx val hl i0 i1 hq
  replace i1 : idx < 238220 := i1
  obtain rfl := hl0 hl
  replace hq : qT bs5 c5 [] (R 58) := rqo_5_0 hq
  refine hv8 (fun q r g0 g0a g0b => ?_)
  replace g0 : ((0 : Int) + (1 * idx + 0)) = ((39700 : Nat) : Int) * q + r := g0
  replace g0b : r < ((39700 : Nat) : Int) := g0b
  show hV _ _ _ _ _ [idx, val, q, r]
  refine hv0 (fun g1 => ?_)
  replace g1 : (0 : Int) ≤ ((5 : Int) + ((-1) * q + 0)) := g1
  refine hv0 (fun g2 => ?_)
  replace g2 : (0 : Int) ≤ ((0 : Int) + (1 * q + 0)) := g2
  refine hv7 (fun u g3 => ?_)
  replace g3 : ((660 : Nat) : Int) * u = ((-30692 : Int) + (1 * r + 0)) := g3
  show hV _ _ _ _ _ [idx, val, q, r, u]
  refine hv0 (fun g4 => ?_)
  replace g4 : (0 : Int) ≤ ((0 : Int) + (1 * u + 0)) := g4
  refine hv0 (fun g5 => ?_)
  replace g5 : (0 : Int) ≤ ((3 : Int) + ((-1) * u + 0)) := g5
  refine hv2 (fun y1 hag6 g6 => ?_)
  replace g6 : R 58 ((7 : Int) + (1 * idx + 0)) = y1 := g6
  replace hag6 : (0 : Int) ≤ ((7 : Int) + (1 * idx + 0)) := hag6
  replace g6 : R 58 (idx + 7) = y1 := hF (R := R 58) g6 (ad_89 idx)
  show hV _ _ _ _ _ [idx, val, q, r, u, y1]
  refine hv0 (fun g7 => ?_)
  replace g7 : (0 : Int) ≤ ((-1 : Int) + (1 * y1 + 0)) := g7
  refine hvC ?_
  refine ⟨rqi_5_0 (?_ : qT bs5 c5 [] ((hupR R 58 idx val) 58)), trivial⟩
  try simp only [Int.zero_add, Int.one_mul, Int.add_zero]
  intro z E hb hx
  by_cases hE : E = idx
  · unfold c5
    have w0 : hupR R 58 idx val 58 E = val := hup_y (by omega)
    have w1 := (hup_n (R := R) (r := 58) (a := idx) (v := val) (i := (E + 7)) (by omega)).trans (hF (R := R 58) g6 (by omega))
    have w2 : hupR R 58 idx val 58 (E + 8) = R 58 (E + 8) := hup_n (by omega)
    omega
  · have hh := hq z E hb (fun x hm => by cases hm)
    unfold bs5 at hb
    obtain ⟨z0, z1, u, u0, u1, ze⟩ := hb
    unfold c5 at *
    have w0 : hupR R 58 idx val 58 E = R 58 E := hup_n (by omega)
    have w1 : hupR R 58 idx val 58 (E + 7) = R 58 (E + 7) := hup_n (by omega)
    have w2 : hupR R 58 idx val 58 (E + 8) = R 58 (E + 8) := hup_n (by omega)
    rw [w0, w1, w2]
    exact hh

theorem tS_5_0_3 : vS rQ 5 hs_5_0_3 := by
  refine ⟨fun _ => ?_, fun h => absurd h (by decide)⟩
  intro R G ps idx val hl i0 i1 hq
  replace i1 : idx < 238220 := i1
  obtain rfl := hl0 hl
  replace hq : qT bs5 c5 [] (R 58) := rqo_5_0 hq
  refine hv8 (fun q r g0 g0a g0b => ?_)
  replace g0 : ((0 : Int) + (1 * idx + 0)) = ((39700 : Nat) : Int) * q + r := g0
  replace g0b : r < ((39700 : Nat) : Int) := g0b
  show hV _ _ _ _ _ [idx, val, q, r]
  refine hv0 (fun g1 => ?_)
  replace g1 : (0 : Int) ≤ ((5 : Int) + ((-1) * q + 0)) := g1
  refine hv0 (fun g2 => ?_)
  replace g2 : (0 : Int) ≤ ((0 : Int) + (1 * q + 0)) := g2
  refine hv7 (fun u g3 => ?_)
  replace g3 : ((660 : Nat) : Int) * u = ((-30692 : Int) + (1 * r + 0)) := g3
  show hV _ _ _ _ _ [idx, val, q, r, u]
  refine hv0 (fun g4 => ?_)
  replace g4 : (0 : Int) ≤ ((0 : Int) + (1 * u + 0)) := g4
  refine hv0 (fun g5 => ?_)
  replace g5 : (0 : Int) ≤ ((3 : Int) + ((-1) * u + 0)) := g5
  refine hvC ?_
  refine ⟨rqi_5_1 (?_ : qT bs5 c5 [((0 : Int) + (1 * idx + 0))] ((hupR R 58 idx val) 58)), trivial⟩
  try simp only [Int.zero_add, Int.one_mul, Int.add_zero]
  intro z E hb hx
  by_cases hE : E = idx
  · exact absurd (by omega) (hx idx (by simp))
  · have hh := hq z E hb (fun x hm => by cases hm)
    unfold bs5 at hb
    obtain ⟨z0, z1, u, u0, u1, ze⟩ := hb
    unfold c5 at *
    have w0 : hupR R 58 idx val 58 E = R 58 E := hup_n (by omega)
    have w1 : hupR R 58 idx val 58 (E + 7) = R 58 (E + 7) := hup_n (by omega)
    have w2 : hupR R 58 idx val 58 (E + 8) = R 58 (E + 8) := hup_n (by omega)
    rw [w0, w1, w2]
    exact hh

theorem tS_5_0_4 : vS rQ 5 hs_5_0_4 := by
  refine ⟨fun _ => ?_, fun h => absurd h (by decide)⟩
  intro R G ps idx val hl i0 i1 hq
  replace i1 : idx < 238220 := i1
  obtain rfl := hl0 hl
  replace hq : qT bs5 c5 [] (R 58) := rqo_5_0 hq
  refine hv8 (fun q r g0 g0a g0b => ?_)
  replace g0 : ((-7 : Int) + (1 * idx + 0)) = ((39700 : Nat) : Int) * q + r := g0
  replace g0b : r < ((39700 : Nat) : Int) := g0b
  show hV _ _ _ _ _ [idx, val, q, r]
  refine hv0 (fun g1 => ?_)
  replace g1 : (0 : Int) ≤ ((5 : Int) + ((-1) * q + 0)) := g1
  refine hv0 (fun g2 => ?_)
  replace g2 : (0 : Int) ≤ ((0 : Int) + (1 * q + 0)) := g2
  refine hv7 (fun u g3 => ?_)
  replace g3 : ((660 : Nat) : Int) * u = ((-30692 : Int) + (1 * r + 0)) := g3
  show hV _ _ _ _ _ [idx, val, q, r, u]
  refine hv0 (fun g4 => ?_)
  replace g4 : (0 : Int) ≤ ((0 : Int) + (1 * u + 0)) := g4
  refine hv0 (fun g5 => ?_)
  replace g5 : (0 : Int) ≤ ((3 : Int) + ((-1) * u + 0)) := g5
  refine hv2 (fun y2 hag6 g6 => ?_)
  replace g6 : R 58 ((1 : Int) + (1 * idx + 0)) = y2 := g6
  replace hag6 : (0 : Int) ≤ ((1 : Int) + (1 * idx + 0)) := hag6
  replace g6 : R 58 (idx + 1) = y2 := hF (R := R 58) g6 (ad_90 idx)
  show hV _ _ _ _ _ [idx, val, q, r, u, y2]
  refine hv0 (fun g7 => ?_)
  replace g7 : (0 : Int) ≤ ((0 : Int) + ((-1) * y2 + 0)) := g7
  refine hvC ?_
  refine ⟨rqi_5_0 (?_ : qT bs5 c5 [] ((hupR R 58 idx val) 58)), trivial⟩
  try simp only [Int.zero_add, Int.one_mul, Int.add_zero]
  intro z E hb hx
  by_cases hE : E = idx - 7
  · unfold c5
    have w0 : hupR R 58 idx val 58 E = R 58 E := hup_n (by omega)
    have w1 : hupR R 58 idx val 58 (E + 7) = val := hup_y (by omega)
    have w2 := (hup_n (R := R) (r := 58) (a := idx) (v := val) (i := (E + 8)) (by omega)).trans (hF (R := R 58) g6 (by omega))
    omega
  · have hh := hq z E hb (fun x hm => by cases hm)
    unfold bs5 at hb
    obtain ⟨z0, z1, u, u0, u1, ze⟩ := hb
    unfold c5 at *
    have w0 : hupR R 58 idx val 58 E = R 58 E := hup_n (by omega)
    have w1 : hupR R 58 idx val 58 (E + 7) = R 58 (E + 7) := hup_n (by omega)
    have w2 : hupR R 58 idx val 58 (E + 8) = R 58 (E + 8) := hup_n (by omega)
    rw [w0, w1, w2]
    exact hh

theorem tS_5_0_5 : vS rQ 5 hs_5_0_5 := by
  refine ⟨fun _ => ?_, fun h => absurd h (by decide)⟩
  intro R G ps idx val hl i0 i1 hq
  replace i1 : idx < 238220 := i1
  obtain rfl := hl0 hl
  replace hq : qT bs5 c5 [] (R 58) := rqo_5_0 hq
  refine hv8 (fun q r g0 g0a g0b => ?_)
  replace g0 : ((-7 : Int) + (1 * idx + 0)) = ((39700 : Nat) : Int) * q + r := g0
  replace g0b : r < ((39700 : Nat) : Int) := g0b
  show hV _ _ _ _ _ [idx, val, q, r]
  refine hv0 (fun g1 => ?_)
  replace g1 : (0 : Int) ≤ ((5 : Int) + ((-1) * q + 0)) := g1
  refine hv0 (fun g2 => ?_)
  replace g2 : (0 : Int) ≤ ((0 : Int) + (1 * q + 0)) := g2
  refine hv7 (fun u g3 => ?_)
  replace g3 : ((660 : Nat) : Int) * u = ((-30692 : Int) + (1 * r + 0)) := g3
  show hV _ _ _ _ _ [idx, val, q, r, u]
  refine hv0 (fun g4 => ?_)
  replace g4 : (0 : Int) ≤ ((0 : Int) + (1 * u + 0)) := g4
  refine hv0 (fun g5 => ?_)
  replace g5 : (0 : Int) ≤ ((3 : Int) + ((-1) * u + 0)) := g5
  refine hv2 (fun y0 hag6 g6 => ?_)
  replace g6 : R 58 ((-7 : Int) + (1 * idx + 0)) = y0 := g6
  replace hag6 : (0 : Int) ≤ ((-7 : Int) + (1 * idx + 0)) := hag6
  replace g6 : R 58 (idx - 7) = y0 := hF (R := R 58) g6 (ad_91 idx)
  show hV _ _ _ _ _ [idx, val, q, r, u, y0]
  refine hv0 (fun g7 => ?_)
  replace g7 : (0 : Int) ≤ ((-2 : Int) + (1 * y0 + 0)) := g7
  refine hvC ?_
  refine ⟨rqi_5_0 (?_ : qT bs5 c5 [] ((hupR R 58 idx val) 58)), trivial⟩
  try simp only [Int.zero_add, Int.one_mul, Int.add_zero]
  intro z E hb hx
  by_cases hE : E = idx - 7
  · unfold c5
    have w0 := (hup_n (R := R) (r := 58) (a := idx) (v := val) (i := E) (by omega)).trans (hF (R := R 58) g6 (by omega))
    have w1 : hupR R 58 idx val 58 (E + 7) = val := hup_y (by omega)
    have w2 : hupR R 58 idx val 58 (E + 8) = R 58 (E + 8) := hup_n (by omega)
    omega
  · have hh := hq z E hb (fun x hm => by cases hm)
    unfold bs5 at hb
    obtain ⟨z0, z1, u, u0, u1, ze⟩ := hb
    unfold c5 at *
    have w0 : hupR R 58 idx val 58 E = R 58 E := hup_n (by omega)
    have w1 : hupR R 58 idx val 58 (E + 7) = R 58 (E + 7) := hup_n (by omega)
    have w2 : hupR R 58 idx val 58 (E + 8) = R 58 (E + 8) := hup_n (by omega)
    rw [w0, w1, w2]
    exact hh

theorem tS_5_0_6 : vS rQ 5 hs_5_0_6 := by
  refine ⟨fun _ => ?_, fun h => absurd h (by decide)⟩
  intro R G ps idx val hl i0 i1 hq
  replace i1 : idx < 238220 := i1
  obtain rfl := hl0 hl
  replace hq : qT bs5 c5 [] (R 58) := rqo_5_0 hq
  refine hv8 (fun q r g0 g0a g0b => ?_)
  replace g0 : ((-7 : Int) + (1 * idx + 0)) = ((39700 : Nat) : Int) * q + r := g0
  replace g0b : r < ((39700 : Nat) : Int) := g0b
  show hV _ _ _ _ _ [idx, val, q, r]
  refine hv0 (fun g1 => ?_)
  replace g1 : (0 : Int) ≤ ((5 : Int) + ((-1) * q + 0)) := g1
  refine hv0 (fun g2 => ?_)
  replace g2 : (0 : Int) ≤ ((0 : Int) + (1 * q + 0)) := g2
  refine hv7 (fun u g3 => ?_)
  replace g3 : ((660 : Nat) : Int) * u = ((-30692 : Int) + (1 * r + 0)) := g3
  show hV _ _ _ _ _ [idx, val, q, r, u]
  refine hv0 (fun g4 => ?_)
  replace g4 : (0 : Int) ≤ ((0 : Int) + (1 * u + 0)) := g4
  refine hv0 (fun g5 => ?_)
  replace g5 : (0 : Int) ≤ ((3 : Int) + ((-1) * u + 0)) := g5
  refine hv0 (fun g6 => ?_)
  replace g6 : (0 : Int) ≤ ((-1 : Int) + (1 * val + 0)) := g6
  refine hvC ?_
  refine ⟨rqi_5_0 (?_ : qT bs5 c5 [] ((hupR R 58 idx val) 58)), trivial⟩
  try simp only [Int.zero_add, Int.one_mul, Int.add_zero]
  intro z E hb hx
  by_cases hE : E = idx - 7
  · unfold c5
    have w0 : hupR R 58 idx val 58 E = R 58 E := hup_n (by omega)
    have w1 : hupR R 58 idx val 58 (E + 7) = val := hup_y (by omega)
    have w2 : hupR R 58 idx val 58 (E + 8) = R 58 (E + 8) := hup_n (by omega)
    omega
  · have hh := hq z E hb (fun x hm => by cases hm)
    unfold bs5 at hb
    obtain ⟨z0, z1, u, u0, u1, ze⟩ := hb
    unfold c5 at *
    have w0 : hupR R 58 idx val 58 E = R 58 E := hup_n (by omega)
    have w1 : hupR R 58 idx val 58 (E + 7) = R 58 (E + 7) := hup_n (by omega)
    have w2 : hupR R 58 idx val 58 (E + 8) = R 58 (E + 8) := hup_n (by omega)
    rw [w0, w1, w2]
    exact hh

theorem tS_5_0_7 : vS rQ 5 hs_5_0_7 := by
  refine ⟨fun _ => ?_, fun h => absurd h (by decide)⟩
  intro R G ps idx val hl i0 i1 hq
  replace i1 : idx < 238220 := i1
  obtain rfl := hl0 hl
  replace hq : qT bs5 c5 [] (R 58) := rqo_5_0 hq
  refine hv8 (fun q r g0 g0a g0b => ?_)
  replace g0 : ((-8 : Int) + (1 * idx + 0)) = ((39700 : Nat) : Int) * q + r := g0
  replace g0b : r < ((39700 : Nat) : Int) := g0b
  show hV _ _ _ _ _ [idx, val, q, r]
  refine hv0 (fun g1 => ?_)
  replace g1 : (0 : Int) ≤ ((5 : Int) + ((-1) * q + 0)) := g1
  refine hv0 (fun g2 => ?_)
  replace g2 : (0 : Int) ≤ ((0 : Int) + (1 * q + 0)) := g2
  refine hv7 (fun u g3 => ?_)
  replace g3 : ((660 : Nat) : Int) * u = ((-30692 : Int) + (1 * r + 0)) := g3
  show hV _ _ _ _ _ [idx, val, q, r, u]
  refine hv0 (fun g4 => ?_)
  replace g4 : (0 : Int) ≤ ((0 : Int) + (1 * u + 0)) := g4
  refine hv0 (fun g5 => ?_)
  replace g5 : (0 : Int) ≤ ((3 : Int) + ((-1) * u + 0)) := g5
  refine hv0 (fun g6 => ?_)
  replace g6 : (0 : Int) ≤ ((0 : Int) + ((-1) * val + 0)) := g6
  refine hvC ?_
  refine ⟨rqi_5_0 (?_ : qT bs5 c5 [] ((hupR R 58 idx val) 58)), trivial⟩
  try simp only [Int.zero_add, Int.one_mul, Int.add_zero]
  intro z E hb hx
  by_cases hE : E = idx - 8
  · unfold c5
    have w0 : hupR R 58 idx val 58 E = R 58 E := hup_n (by omega)
    have w1 : hupR R 58 idx val 58 (E + 7) = R 58 (E + 7) := hup_n (by omega)
    have w2 : hupR R 58 idx val 58 (E + 8) = val := hup_y (by omega)
    omega
  · have hh := hq z E hb (fun x hm => by cases hm)
    unfold bs5 at hb
    obtain ⟨z0, z1, u, u0, u1, ze⟩ := hb
    unfold c5 at *
    have w0 : hupR R 58 idx val 58 E = R 58 E := hup_n (by omega)
    have w1 : hupR R 58 idx val 58 (E + 7) = R 58 (E + 7) := hup_n (by omega)
    have w2 : hupR R 58 idx val 58 (E + 8) = R 58 (E + 8) := hup_n (by omega)
    rw [w0, w1, w2]
    exact hh

theorem tS_5_0_8 : vS rQ 5 hs_5_0_8 := by
  refine ⟨fun _ => ?_, fun h => absurd h (by decide)⟩
  intro R G ps idx val hl i0 i1 hq
  replace i1 : idx < 238220 := i1
  obtain rfl := hl0 hl
  replace hq : qT bs5 c5 [] (R 58) := rqo_5_0 hq
  refine hv8 (fun q r g0 g0a g0b => ?_)
  replace g0 : ((-8 : Int) + (1 * idx + 0)) = ((39700 : Nat) : Int) * q + r := g0
  replace g0b : r < ((39700 : Nat) : Int) := g0b
  show hV _ _ _ _ _ [idx, val, q, r]
  refine hv0 (fun g1 => ?_)
  replace g1 : (0 : Int) ≤ ((5 : Int) + ((-1) * q + 0)) := g1
  refine hv0 (fun g2 => ?_)
  replace g2 : (0 : Int) ≤ ((0 : Int) + (1 * q + 0)) := g2
  refine hv7 (fun u g3 => ?_)
  replace g3 : ((660 : Nat) : Int) * u = ((-30692 : Int) + (1 * r + 0)) := g3
  show hV _ _ _ _ _ [idx, val, q, r, u]
  refine hv0 (fun g4 => ?_)
  replace g4 : (0 : Int) ≤ ((0 : Int) + (1 * u + 0)) := g4
  refine hv0 (fun g5 => ?_)
  replace g5 : (0 : Int) ≤ ((3 : Int) + ((-1) * u + 0)) := g5
  refine hv2 (fun y0 hag6 g6 => ?_)
  replace g6 : R 58 ((-8 : Int) + (1 * idx + 0)) = y0 := g6
  replace hag6 : (0 : Int) ≤ ((-8 : Int) + (1 * idx + 0)) := hag6
  replace g6 : R 58 (idx - 8) = y0 := hF (R := R 58) g6 (ad_92 idx)
  show hV _ _ _ _ _ [idx, val, q, r, u, y0]
  refine hv0 (fun g7 => ?_)
  replace g7 : (0 : Int) ≤ ((-2 : Int) + (1 * y0 + 0)) := g7
  refine hvC ?_
  refine ⟨rqi_5_0 (?_ : qT bs5 c5 [] ((hupR R 58 idx val) 58)), trivial⟩
  try simp only [Int.zero_add, Int.one_mul, Int.add_zero]
  intro z E hb hx
  by_cases hE : E = idx - 8
  · unfold c5
    have w0 := (hup_n (R := R) (r := 58) (a := idx) (v := val) (i := E) (by omega)).trans (hF (R := R 58) g6 (by omega))
    have w1 : hupR R 58 idx val 58 (E + 7) = R 58 (E + 7) := hup_n (by omega)
    have w2 : hupR R 58 idx val 58 (E + 8) = val := hup_y (by omega)
    omega
  · have hh := hq z E hb (fun x hm => by cases hm)
    unfold bs5 at hb
    obtain ⟨z0, z1, u, u0, u1, ze⟩ := hb
    unfold c5 at *
    have w0 : hupR R 58 idx val 58 E = R 58 E := hup_n (by omega)
    have w1 : hupR R 58 idx val 58 (E + 7) = R 58 (E + 7) := hup_n (by omega)
    have w2 : hupR R 58 idx val 58 (E + 8) = R 58 (E + 8) := hup_n (by omega)
    rw [w0, w1, w2]
    exact hh

theorem tS_5_1_0 : vS rQ 5 hs_5_1_0 := by
  refine ⟨fun _ => ?_, fun h => absurd h (by decide)⟩
  intro R G ps idx val hl i0 i1 hq
  replace i1 : idx < 238220 := i1
  obtain ⟨x0, rfl⟩ := hl1 hl
  replace hq : qT bs5 c5 [x0] (R 58) := rqo_5_1 hq
  refine hv13 (fun g0 => ?_)
  replace g0 : ((-7 : Int) + (1 * idx + 0)) = ((0 : Int) + (1 * x0 + 0)) := g0
  refine hv8 (fun q r g1 g1a g1b => ?_)
  replace g1 : ((-7 : Int) + (1 * idx + 0)) = ((39700 : Nat) : Int) * q + r := g1
  replace g1b : r < ((39700 : Nat) : Int) := g1b
  show hV _ _ _ _ _ [x0, idx, val, q, r]
  refine hv0 (fun g2 => ?_)
  replace g2 : (0 : Int) ≤ ((5 : Int) + ((-1) * q + 0)) := g2
  refine hv0 (fun g3 => ?_)
  replace g3 : (0 : Int) ≤ ((0 : Int) + (1 * q + 0)) := g3
  refine hv7 (fun u g4 => ?_)
  replace g4 : ((660 : Nat) : Int) * u = ((-30692 : Int) + (1 * r + 0)) := g4
  show hV _ _ _ _ _ [x0, idx, val, q, r, u]
  refine hv0 (fun g5 => ?_)
  replace g5 : (0 : Int) ≤ ((0 : Int) + (1 * u + 0)) := g5
  refine hv0 (fun g6 => ?_)
  replace g6 : (0 : Int) ≤ ((3 : Int) + ((-1) * u + 0)) := g6
  refine hvC ?_
  refine ⟨rqi_5_1 (?_ : qT bs5 c5 [((0 : Int) + (1 * x0 + 0))] ((hupR R 58 idx val) 58)), trivial⟩
  try simp only [Int.zero_add, Int.one_mul, Int.add_zero]
  intro z E hb hx
  by_cases hE : E = idx - 7
  · exact absurd (by omega) (hx x0 (by simp))
  · have hh := hq z E hb (fun x hm => by have := List.mem_singleton.mp hm; first | omega | (rw [this]; exact hx x0 (by simp)))
    unfold bs5 at hb
    obtain ⟨z0, z1, u, u0, u1, ze⟩ := hb
    unfold c5 at *
    have w0 : hupR R 58 idx val 58 E = R 58 E := hup_n (by omega)
    have w1 : hupR R 58 idx val 58 (E + 7) = R 58 (E + 7) := hup_n (by omega)
    have w2 : hupR R 58 idx val 58 (E + 8) = R 58 (E + 8) := hup_n (by omega)
    rw [w0, w1, w2]
    exact hh

theorem tS_5_1_1 : vS rQ 5 hs_5_1_1 := by
  refine ⟨fun _ => ?_, fun h => absurd h (by decide)⟩
  intro R G ps idx val hl i0 i1 hq
  replace i1 : idx < 238220 := i1
  obtain ⟨x0, rfl⟩ := hl1 hl
  replace hq : qT bs5 c5 [x0] (R 58) := rqo_5_1 hq
  refine hv13 (fun g0 => ?_)
  replace g0 : ((-8 : Int) + (1 * idx + 0)) = ((0 : Int) + (1 * x0 + 0)) := g0
  refine hv8 (fun q r g1 g1a g1b => ?_)
  replace g1 : ((-8 : Int) + (1 * idx + 0)) = ((39700 : Nat) : Int) * q + r := g1
  replace g1b : r < ((39700 : Nat) : Int) := g1b
  show hV _ _ _ _ _ [x0, idx, val, q, r]
  refine hv0 (fun g2 => ?_)
  replace g2 : (0 : Int) ≤ ((5 : Int) + ((-1) * q + 0)) := g2
  refine hv0 (fun g3 => ?_)
  replace g3 : (0 : Int) ≤ ((0 : Int) + (1 * q + 0)) := g3
  refine hv7 (fun u g4 => ?_)
  replace g4 : ((660 : Nat) : Int) * u = ((-30692 : Int) + (1 * r + 0)) := g4
  show hV _ _ _ _ _ [x0, idx, val, q, r, u]
  refine hv0 (fun g5 => ?_)
  replace g5 : (0 : Int) ≤ ((0 : Int) + (1 * u + 0)) := g5
  refine hv0 (fun g6 => ?_)
  replace g6 : (0 : Int) ≤ ((3 : Int) + ((-1) * u + 0)) := g6
  refine hv0 (fun g7 => ?_)
  replace g7 : (0 : Int) ≤ ((0 : Int) + ((-1) * val + 0)) := g7
  refine hvC ?_
  refine ⟨rqi_5_0 (?_ : qT bs5 c5 [] ((hupR R 58 idx val) 58)), trivial⟩
  try simp only [Int.zero_add, Int.one_mul, Int.add_zero]
  intro z E hb hx
  by_cases hE : E = idx - 8
  · unfold c5
    have w0 : hupR R 58 idx val 58 E = R 58 E := hup_n (by omega)
    have w1 : hupR R 58 idx val 58 (E + 7) = R 58 (E + 7) := hup_n (by omega)
    have w2 : hupR R 58 idx val 58 (E + 8) = val := hup_y (by omega)
    omega
  · have hh := hq z E hb (fun x hm => by have := List.mem_singleton.mp hm; first | omega | (rw [this]; exact hx x0 (by simp)))
    unfold bs5 at hb
    obtain ⟨z0, z1, u, u0, u1, ze⟩ := hb
    unfold c5 at *
    have w0 : hupR R 58 idx val 58 E = R 58 E := hup_n (by omega)
    have w1 : hupR R 58 idx val 58 (E + 7) = R 58 (E + 7) := hup_n (by omega)
    have w2 : hupR R 58 idx val 58 (E + 8) = R 58 (E + 8) := hup_n (by omega)
    rw [w0, w1, w2]
    exact hh

theorem tS_6_0_0 : vS rQ 6 hs_6_0_0 := by
  refine ⟨fun _ => ?_, fun h => absurd h (by decide)⟩
  intro R G ps idx val hl i0 i1 hq
  replace i1 : idx < 238220 := i1
  obtain rfl := hl0 hl
  replace hq : q6 [] (R 58) := rqo_6_0 hq
  refine hv8 (fun q r g0 g0a g0b => ?_)
  replace g0 : ((0 : Int) + (1 * idx + 0)) = ((39700 : Nat) : Int) * q + r := g0
  replace g0b : r < ((39700 : Nat) : Int) := g0b
  show hV _ _ _ _ _ [idx, val, q, r]
  refine hv7 (fun u g1 => ?_)
  replace g1 : ((660 : Nat) : Int) * u = ((-30692 : Int) + (1 * r + 0)) := g1
  show hV _ _ _ _ _ [idx, val, q, r, u]
  refine hv0 (fun g2 => ?_)
  replace g2 : (0 : Int) ≤ ((0 : Int) + (1 * u + 0)) := g2
  refine hv0 (fun g3 => ?_)
  replace g3 : (0 : Int) ≤ ((3 : Int) + ((-1) * u + 0)) := g3
  refine hv13 (fun g4 => ?_)
  replace g4 : ((0 : Int) + (1 * val + 0)) = ((1 : Int) + 0) := g4
  refine hvC ?_
  refine ⟨rqi_6_0 (?_ : q6 [] ((hupR R 58 idx val) 58)), trivial⟩
  try simp only [Int.zero_add, Int.one_mul, Int.add_zero]
  intro z z0 z1 hx
  have hh := hq z z0 z1 hx
  have w1 : hupR R 58 idx val 58 (39700 * z + 35) = R 58 (39700 * z + 35) := hup_n (by omega)
  have w2 : hupR R 58 idx val 58 (39700 * z + 12) = R 58 (39700 * z + 12) := hup_n (by omega)
  rw [w1, w2]
  rcases hh with hh | ⟨h1, h2, h3⟩
  · exact Or.inl hh
  · refine Or.inr ⟨h1, h2, ?_⟩
    rw [hup58]
    split
    · omega
    · exact h3

theorem tS_6_1_0 : vS rQ 6 hs_6_1_0 := by
  refine ⟨fun _ => ?_, fun h => absurd h (by decide)⟩
  intro R G ps idx val hl i0 i1 hq
  replace i1 : idx < 238220 := i1
  obtain ⟨x, rfl⟩ := hl1 hl
  replace hq : q6 [x] (R 58) := rqo_6_1 hq
  refine hv8 (fun q r g0 g0a g0b => ?_)
  replace g0 : ((0 : Int) + (1 * idx + 0)) = ((39700 : Nat) : Int) * q + r := g0
  replace g0b : r < ((39700 : Nat) : Int) := g0b
  show hV _ _ _ _ _ [x, idx, val, q, r]
  refine hv7 (fun u g1 => ?_)
  replace g1 : ((660 : Nat) : Int) * u = ((-30692 : Int) + (1 * r + 0)) := g1
  show hV _ _ _ _ _ [x, idx, val, q, r, u]
  refine hv0 (fun g2 => ?_)
  replace g2 : (0 : Int) ≤ ((0 : Int) + (1 * u + 0)) := g2
  refine hv0 (fun g3 => ?_)
  replace g3 : (0 : Int) ≤ ((3 : Int) + ((-1) * u + 0)) := g3
  refine hv13 (fun g4 => ?_)
  replace g4 : ((0 : Int) + (1 * val + 0)) = ((1 : Int) + 0) := g4
  refine hvC ?_
  refine ⟨rqi_6_1 (?_ : q6 [((0 : Int) + (1 * x + 0))] ((hupR R 58 idx val) 58)), trivial⟩
  try simp only [Int.zero_add, Int.one_mul, Int.add_zero]
  intro z z0 z1 hx
  have hh := hq z z0 z1 hx
  have w1 : hupR R 58 idx val 58 (39700 * z + 35) = R 58 (39700 * z + 35) := hup_n (by omega)
  have w2 : hupR R 58 idx val 58 (39700 * z + 12) = R 58 (39700 * z + 12) := hup_n (by omega)
  rw [w1, w2]
  rcases hh with hh | ⟨h1, h2, h3⟩
  · exact Or.inl hh
  · refine Or.inr ⟨h1, h2, ?_⟩
    rw [hup58]
    split
    · omega
    · exact h3

theorem tS_12_8_0 : vS rQ 12 hs_12_8_0 := by
  refine ⟨fun _ => ?_, fun h => absurd h (by decide)⟩
  intro R G ps idx val hl i0 i1 hq
  replace i1 : idx < 238220 := i1
  obtain ⟨b, many, ic, under, pc, x, y, h, rfl⟩ := hl8 hl
  replace hq : q12 b many ic under pc x y h (R 58) := rqo_12_8 hq
  refine hv8 (fun q r g0 g0a g0b => ?_)
  replace g0 : ((0 : Int) + (1 * idx + 0)) = ((39700 : Nat) : Int) * q + r := g0
  replace g0b : r < ((39700 : Nat) : Int) := g0b
  show hV _ _ _ _ _ [b, many, ic, under, pc, x, y, h, idx, val, q, r]
  refine hv13 (fun g1 => ?_)
  replace g1 : ((0 : Int) + (39700 * q + 0)) = ((0 : Int) + (1 * b + 0)) := g1
  refine hv13 (fun g2 => ?_)
  replace g2 : ((0 : Int) + (1 * r + 0)) = ((5 : Int) + 0) := g2
  refine hv13 (fun g3 => ?_)
  replace g3 : ((0 : Int) + (1 * val + 0)) = ((1 : Int) + (1 * ic + 0)) := g3
  refine hv0 (fun g4 => ?_)
  replace g4 : (0 : Int) ≤ ((-1 : Int) + (1 * under + 0)) := g4
  refine hv0 (fun g5 => ?_)
  replace g5 : (0 : Int) ≤ ((3999 : Int) + ((-1) * ic + 0)) := g5
  refine hv2 (fun k hag6 g6 => ?_)
  replace g6 : R 58 ((22692 : Int) + (1 * b + (2 * ic + 0))) = k := g6
  replace hag6 : (0 : Int) ≤ ((22692 : Int) + (1 * b + (2 * ic + 0))) := hag6
  replace g6 : iK (R 58) b (ic) = k := hF (R := R 58) g6 (ad_93 b ic)
  show hV _ _ _ _ _ [b, many, ic, under, pc, x, y, h, idx, val, q, r, k]
  refine hv2 (fun n hag7 g7 => ?_)
  replace g7 : R 58 ((22693 : Int) + (1 * b + (2 * ic + 0))) = n := g7
  replace hag7 : (0 : Int) ≤ ((22693 : Int) + (1 * b + (2 * ic + 0))) := hag7
  replace g7 : iN (R 58) b (ic) = n := hF (R := R 58) g7 (ad_94 b ic)
  show hV _ _ _ _ _ [b, many, ic, under, pc, x, y, h, idx, val, q, r, k, n]
  refine hv5 (fun g8 => ?_)
  replace g8 : dNx (R 58) ((0 : Int) + (1 * b + 0)) ((0 : Int) + (1 * ic + 0)) ((0 : Int) + (1 * under + 0)) ((0 : Int) + (1 * pc + 0)) ((0 : Int) + (1 * x + 0)) := rqo_19_5 g8
  simp only [Int.zero_add, Int.one_mul, Int.add_zero] at g8
  refine hv13 (fun g9 => ?_)
  replace g9 : ((0 : Int) + (1 * k + 0)) = ((0 : Int) + 0) := g9
  refine hv0 (fun g10 => ?_)
  replace g10 : (0 : Int) ≤ ((0 : Int) + (1 * n + 0)) := g10
  refine hv0 (fun g11 => ?_)
  replace g11 : (0 : Int) ≤ ((-1 : Int) + (1 * many + ((-1) * n + 0))) := g11
  refine hvC ?_
  refine ⟨rqi_12_8 (?_ : q12 ((0 : Int) + (1 * b + 0)) ((0 : Int) + (1 * many + 0)) ((1 : Int) + (1 * ic + 0)) ((0 : Int) + (1 * under + 0)) ((0 : Int) + (1 * pc + 0)) ((0 : Int) + (1 * ic + 0)) ((0 : Int) + (1 * y + 0)) ((0 : Int) + (1 * h + 0)) ((hupR R 58 idx val) 58)), trivial⟩
  try simp only [Int.zero_add, Int.one_mul, Int.add_zero]
  refine q12_hd (F := R 58) ?_ (fun a ha => hup_n (by omega))
  obtain ⟨z, hD, hh⟩ := hq
  rw [show (1 : Int) + ic = ic + 1 by omega]
  exact ⟨z, dm_item hD (by omega) (by omega) g8 (fun c => by omega) (fun c => by omega) (fun c => by omega) (Or.inl rfl), hh⟩

theorem tS_12_8_1 : vS rQ 12 hs_12_8_1 := by
  refine ⟨fun _ => ?_, fun h => absurd h (by decide)⟩
  intro R G ps idx val hl i0 i1 hq
  replace i1 : idx < 238220 := i1
  obtain ⟨b, many, ic, under, pc, x, y, h, rfl⟩ := hl8 hl
  replace hq : q12 b many ic under pc x y h (R 58) := rqo_12_8 hq
  refine hv8 (fun q r g0 g0a g0b => ?_)
  replace g0 : ((0 : Int) + (1 * idx + 0)) = ((39700 : Nat) : Int) * q + r := g0
  replace g0b : r < ((39700 : Nat) : Int) := g0b
  show hV _ _ _ _ _ [b, many, ic, under, pc, x, y, h, idx, val, q, r]
  refine hv13 (fun g1 => ?_)
  replace g1 : ((0 : Int) + (39700 * q + 0)) = ((0 : Int) + (1 * b + 0)) := g1
  refine hv13 (fun g2 => ?_)
  replace g2 : ((0 : Int) + (1 * r + 0)) = ((5 : Int) + 0) := g2
  refine hv13 (fun g3 => ?_)
  replace g3 : ((0 : Int) + (1 * val + 0)) = ((1 : Int) + (1 * ic + 0)) := g3
  refine hv0 (fun g4 => ?_)
  replace g4 : (0 : Int) ≤ ((-1 : Int) + (1 * under + 0)) := g4
  refine hv0 (fun g5 => ?_)
  replace g5 : (0 : Int) ≤ ((3999 : Int) + ((-1) * ic + 0)) := g5
  refine hv2 (fun k hag6 g6 => ?_)
  replace g6 : R 58 ((22692 : Int) + (1 * b + (2 * ic + 0))) = k := g6
  replace hag6 : (0 : Int) ≤ ((22692 : Int) + (1 * b + (2 * ic + 0))) := hag6
  replace g6 : iK (R 58) b (ic) = k := hF (R := R 58) g6 (ad_93 b ic)
  show hV _ _ _ _ _ [b, many, ic, under, pc, x, y, h, idx, val, q, r, k]
  refine hv2 (fun n hag7 g7 => ?_)
  replace g7 : R 58 ((22693 : Int) + (1 * b + (2 * ic + 0))) = n := g7
  replace hag7 : (0 : Int) ≤ ((22693 : Int) + (1 * b + (2 * ic + 0))) := hag7
  replace g7 : iN (R 58) b (ic) = n := hF (R := R 58) g7 (ad_94 b ic)
  show hV _ _ _ _ _ [b, many, ic, under, pc, x, y, h, idx, val, q, r, k, n]
  refine hv5 (fun g8 => ?_)
  replace g8 : dNx (R 58) ((0 : Int) + (1 * b + 0)) ((0 : Int) + (1 * ic + 0)) ((0 : Int) + (1 * under + 0)) ((0 : Int) + (1 * pc + 0)) ((0 : Int) + (1 * x + 0)) := rqo_19_5 g8
  simp only [Int.zero_add, Int.one_mul, Int.add_zero] at g8
  refine hv13 (fun g9 => ?_)
  replace g9 : ((0 : Int) + (1 * k + 0)) = ((0 : Int) + 0) := g9
  refine hv0 (fun g10 => ?_)
  replace g10 : (0 : Int) ≤ ((0 : Int) + (1 * n + 0)) := g10
  refine hv0 (fun g11 => ?_)
  replace g11 : (0 : Int) ≤ ((171 : Int) + ((-1) * n + 0)) := g11
  refine hvC ?_
  refine ⟨rqi_12_8 (?_ : q12 ((0 : Int) + (1 * b + 0)) ((0 : Int) + (1 * many + 0)) ((1 : Int) + (1 * ic + 0)) ((0 : Int) + (1 * under + 0)) ((0 : Int) + (1 * pc + 0)) ((0 : Int) + (1 * ic + 0)) ((0 : Int) + (1 * y + 0)) ((0 : Int) + (1 * h + 0)) ((hupR R 58 idx val) 58)), trivial⟩
  try simp only [Int.zero_add, Int.one_mul, Int.add_zero]
  refine q12_hd (F := R 58) ?_ (fun a ha => hup_n (by omega))
  obtain ⟨z, hD, hh⟩ := hq
  rw [show (1 : Int) + ic = ic + 1 by omega]
  exact ⟨z, dm_item hD (by omega) (by omega) g8 (fun c => by omega) (fun c => by omega) (fun c => by omega) (Or.inl rfl), hh⟩

theorem tS_12_8_2 : vS rQ 12 hs_12_8_2 := by
  refine ⟨fun _ => ?_, fun h => absurd h (by decide)⟩
  intro R G ps idx val hl i0 i1 hq
  replace i1 : idx < 238220 := i1
  obtain ⟨b, many, ic, under, pc, x, y, h, rfl⟩ := hl8 hl
  replace hq : q12 b many ic under pc x y h (R 58) := rqo_12_8 hq
  refine hv8 (fun q r g0 g0a g0b => ?_)
  replace g0 : ((0 : Int) + (1 * idx + 0)) = ((39700 : Nat) : Int) * q + r := g0
  replace g0b : r < ((39700 : Nat) : Int) := g0b
  show hV _ _ _ _ _ [b, many, ic, under, pc, x, y, h, idx, val, q, r]
  refine hv13 (fun g1 => ?_)
  replace g1 : ((0 : Int) + (39700 * q + 0)) = ((0 : Int) + (1 * b + 0)) := g1
  refine hv13 (fun g2 => ?_)
  replace g2 : ((0 : Int) + (1 * r + 0)) = ((5 : Int) + 0) := g2
  refine hv13 (fun g3 => ?_)
  replace g3 : ((0 : Int) + (1 * val + 0)) = ((1 : Int) + (1 * ic + 0)) := g3
  refine hv0 (fun g4 => ?_)
  replace g4 : (0 : Int) ≤ ((-1 : Int) + (1 * under + 0)) := g4
  refine hv0 (fun g5 => ?_)
  replace g5 : (0 : Int) ≤ ((3999 : Int) + ((-1) * ic + 0)) := g5
  refine hv2 (fun k hag6 g6 => ?_)
  replace g6 : R 58 ((22692 : Int) + (1 * b + (2 * ic + 0))) = k := g6
  replace hag6 : (0 : Int) ≤ ((22692 : Int) + (1 * b + (2 * ic + 0))) := hag6
  replace g6 : iK (R 58) b (ic) = k := hF (R := R 58) g6 (ad_93 b ic)
  show hV _ _ _ _ _ [b, many, ic, under, pc, x, y, h, idx, val, q, r, k]
  refine hv2 (fun n hag7 g7 => ?_)
  replace g7 : R 58 ((22693 : Int) + (1 * b + (2 * ic + 0))) = n := g7
  replace hag7 : (0 : Int) ≤ ((22693 : Int) + (1 * b + (2 * ic + 0))) := hag7
  replace g7 : iN (R 58) b (ic) = n := hF (R := R 58) g7 (ad_94 b ic)
  show hV _ _ _ _ _ [b, many, ic, under, pc, x, y, h, idx, val, q, r, k, n]
  refine hv5 (fun g8 => ?_)
  replace g8 : dNx (R 58) ((0 : Int) + (1 * b + 0)) ((0 : Int) + (1 * ic + 0)) ((0 : Int) + (1 * under + 0)) ((0 : Int) + (1 * pc + 0)) ((0 : Int) + (1 * x + 0)) := rqo_19_5 g8
  simp only [Int.zero_add, Int.one_mul, Int.add_zero] at g8
  refine hv13 (fun g9 => ?_)
  replace g9 : ((0 : Int) + (1 * k + 0)) = ((14 : Int) + 0) := g9
  refine hv0 (fun g10 => ?_)
  replace g10 : (0 : Int) ≤ ((0 : Int) + (1 * n + 0)) := g10
  refine hv0 (fun g11 => ?_)
  replace g11 : (0 : Int) ≤ ((-1 : Int) + (1 * many + ((-1) * n + 0))) := g11
  refine hv2 (fun w hag12 g12 => ?_)
  replace g12 : R 58 ((8292 : Int) + (1 * b + (40 * n + 0))) = w := g12
  replace hag12 : (0 : Int) ≤ ((8292 : Int) + (1 * b + (40 * n + 0))) := hag12
  replace g12 : dK (R 58) b (n) = w := hF (R := R 58) g12 (ad_95 b n)
  show hV _ _ _ _ _ [b, many, ic, under, pc, x, y, h, idx, val, q, r, k, n, w]
  refine hv0 (fun g13 => ?_)
  replace g13 : (0 : Int) ≤ ((-4 : Int) + (1 * w + 0)) := g13
  refine hv0 (fun g14 => ?_)
  replace g14 : (0 : Int) ≤ ((5 : Int) + ((-1) * w + 0)) := g14
  refine hvC ?_
  refine ⟨rqi_12_8 (?_ : q12 ((0 : Int) + (1 * b + 0)) ((0 : Int) + (1 * many + 0)) ((1 : Int) + (1 * ic + 0)) ((0 : Int) + (1 * under + 0)) ((0 : Int) + (1 * pc + 0)) ((0 : Int) + (1 * ic + 0)) ((0 : Int) + (1 * y + 0)) ((0 : Int) + (1 * h + 0)) ((hupR R 58 idx val) 58)), trivial⟩
  try simp only [Int.zero_add, Int.one_mul, Int.add_zero]
  refine q12_hd (F := R 58) ?_ (fun a ha => hup_n (by omega))
  obtain ⟨z, hD, hh⟩ := hq
  rw [show (1 : Int) + ic = ic + 1 by omega]
  exact ⟨z, dm_item hD (by omega) (by omega) g8 (fun c => by omega) (fun c => ⟨by omega, by omega, by rw [show iN (R 58) b ic = n by omega]; omega⟩) (fun c => by omega) (Or.inl rfl), hh⟩

theorem tS_12_8_3 : vS rQ 12 hs_12_8_3 := by
  refine ⟨fun _ => ?_, fun h => absurd h (by decide)⟩
  intro R G ps idx val hl i0 i1 hq
  replace i1 : idx < 238220 := i1
  obtain ⟨b, many, ic, under, pc, x, y, h, rfl⟩ := hl8 hl
  replace hq : q12 b many ic under pc x y h (R 58) := rqo_12_8 hq
  refine hv8 (fun q r g0 g0a g0b => ?_)
  replace g0 : ((0 : Int) + (1 * idx + 0)) = ((39700 : Nat) : Int) * q + r := g0
  replace g0b : r < ((39700 : Nat) : Int) := g0b
  show hV _ _ _ _ _ [b, many, ic, under, pc, x, y, h, idx, val, q, r]
  refine hv13 (fun g1 => ?_)
  replace g1 : ((0 : Int) + (39700 * q + 0)) = ((0 : Int) + (1 * b + 0)) := g1
  refine hv13 (fun g2 => ?_)
  replace g2 : ((0 : Int) + (1 * r + 0)) = ((5 : Int) + 0) := g2
  refine hv13 (fun g3 => ?_)
  replace g3 : ((0 : Int) + (1 * val + 0)) = ((1 : Int) + (1 * ic + 0)) := g3
  refine hv0 (fun g4 => ?_)
  replace g4 : (0 : Int) ≤ ((-1 : Int) + (1 * under + 0)) := g4
  refine hv0 (fun g5 => ?_)
  replace g5 : (0 : Int) ≤ ((3999 : Int) + ((-1) * ic + 0)) := g5
  refine hv2 (fun k hag6 g6 => ?_)
  replace g6 : R 58 ((22692 : Int) + (1 * b + (2 * ic + 0))) = k := g6
  replace hag6 : (0 : Int) ≤ ((22692 : Int) + (1 * b + (2 * ic + 0))) := hag6
  replace g6 : iK (R 58) b (ic) = k := hF (R := R 58) g6 (ad_93 b ic)
  show hV _ _ _ _ _ [b, many, ic, under, pc, x, y, h, idx, val, q, r, k]
  refine hv2 (fun n hag7 g7 => ?_)
  replace g7 : R 58 ((22693 : Int) + (1 * b + (2 * ic + 0))) = n := g7
  replace hag7 : (0 : Int) ≤ ((22693 : Int) + (1 * b + (2 * ic + 0))) := hag7
  replace g7 : iN (R 58) b (ic) = n := hF (R := R 58) g7 (ad_94 b ic)
  show hV _ _ _ _ _ [b, many, ic, under, pc, x, y, h, idx, val, q, r, k, n]
  refine hv5 (fun g8 => ?_)
  replace g8 : dNx (R 58) ((0 : Int) + (1 * b + 0)) ((0 : Int) + (1 * ic + 0)) ((0 : Int) + (1 * under + 0)) ((0 : Int) + (1 * pc + 0)) ((0 : Int) + (1 * x + 0)) := rqo_19_5 g8
  simp only [Int.zero_add, Int.one_mul, Int.add_zero] at g8
  refine hv10 (fun g9 => ?_)
  replace g9 : ((0 : Int) + (1 * k + 0)) = (11 : Int) ∨ ((0 : Int) + (1 * k + 0)) = (12 : Int) ∨ ((0 : Int) + (1 * k + 0)) = (13 : Int) ∨ ((0 : Int) + (1 * k + 0)) = (4 : Int) := g9
  refine hv0 (fun g10 => ?_)
  replace g10 : (0 : Int) ≤ ((0 : Int) + (1 * n + 0)) := g10
  refine hv0 (fun g11 => ?_)
  replace g11 : (0 : Int) ≤ ((1048576 : Int) + ((-1) * n + 0)) := g11
  refine hvC ?_
  refine ⟨rqi_12_8 (?_ : q12 ((0 : Int) + (1 * b + 0)) ((0 : Int) + (1 * many + 0)) ((1 : Int) + (1 * ic + 0)) ((0 : Int) + (1 * under + 0)) ((0 : Int) + (1 * pc + 0)) ((0 : Int) + (1 * ic + 0)) ((0 : Int) + (1 * y + 0)) ((0 : Int) + (1 * h + 0)) ((hupR R 58 idx val) 58)), trivial⟩
  try simp only [Int.zero_add, Int.one_mul, Int.add_zero]
  refine q12_hd (F := R 58) ?_ (fun a ha => hup_n (by omega))
  obtain ⟨z, hD, hh⟩ := hq
  rw [show (1 : Int) + ic = ic + 1 by omega]
  exact ⟨z, dm_item hD (by omega) (by omega) g8 (fun c => by omega) (fun c => by omega) (fun c => by omega) (Or.inl rfl), hh⟩

theorem tS_12_8_4 : vS rQ 12 hs_12_8_4 := by
  refine ⟨fun _ => ?_, fun h => absurd h (by decide)⟩
  intro R G ps idx val hl i0 i1 hq
  replace i1 : idx < 238220 := i1
  obtain ⟨b, many, ic, under, pc, x, y, h, rfl⟩ := hl8 hl
  replace hq : q12 b many ic under pc x y h (R 58) := rqo_12_8 hq
  refine hv8 (fun q r g0 g0a g0b => ?_)
  replace g0 : ((0 : Int) + (1 * idx + 0)) = ((39700 : Nat) : Int) * q + r := g0
  replace g0b : r < ((39700 : Nat) : Int) := g0b
  show hV _ _ _ _ _ [b, many, ic, under, pc, x, y, h, idx, val, q, r]
  refine hv13 (fun g1 => ?_)
  replace g1 : ((0 : Int) + (39700 * q + 0)) = ((0 : Int) + (1 * b + 0)) := g1
  refine hv13 (fun g2 => ?_)
  replace g2 : ((0 : Int) + (1 * r + 0)) = ((5 : Int) + 0) := g2
  refine hv13 (fun g3 => ?_)
  replace g3 : ((0 : Int) + (1 * val + 0)) = ((1 : Int) + (1 * ic + 0)) := g3
  refine hv0 (fun g4 => ?_)
  replace g4 : (0 : Int) ≤ ((-1 : Int) + (1 * under + 0)) := g4
  refine hv0 (fun g5 => ?_)
  replace g5 : (0 : Int) ≤ ((3999 : Int) + ((-1) * ic + 0)) := g5
  refine hv2 (fun k hag6 g6 => ?_)
  replace g6 : R 58 ((22692 : Int) + (1 * b + (2 * ic + 0))) = k := g6
  replace hag6 : (0 : Int) ≤ ((22692 : Int) + (1 * b + (2 * ic + 0))) := hag6
  replace g6 : iK (R 58) b (ic) = k := hF (R := R 58) g6 (ad_93 b ic)
  show hV _ _ _ _ _ [b, many, ic, under, pc, x, y, h, idx, val, q, r, k]
  refine hv2 (fun n hag7 g7 => ?_)
  replace g7 : R 58 ((22693 : Int) + (1 * b + (2 * ic + 0))) = n := g7
  replace hag7 : (0 : Int) ≤ ((22693 : Int) + (1 * b + (2 * ic + 0))) := hag7
  replace g7 : iN (R 58) b (ic) = n := hF (R := R 58) g7 (ad_94 b ic)
  show hV _ _ _ _ _ [b, many, ic, under, pc, x, y, h, idx, val, q, r, k, n]
  refine hv5 (fun g8 => ?_)
  replace g8 : dNx (R 58) ((0 : Int) + (1 * b + 0)) ((0 : Int) + (1 * ic + 0)) ((0 : Int) + (1 * under + 0)) ((0 : Int) + (1 * pc + 0)) ((0 : Int) + (1 * x + 0)) := rqo_19_5 g8
  simp only [Int.zero_add, Int.one_mul, Int.add_zero] at g8
  refine hv10 (fun g9 => ?_)
  replace g9 : ((0 : Int) + (1 * k + 0)) = (2 : Int) ∨ ((0 : Int) + (1 * k + 0)) = (3 : Int) ∨ ((0 : Int) + (1 * k + 0)) = (5 : Int) ∨ ((0 : Int) + (1 * k + 0)) = (6 : Int) ∨ ((0 : Int) + (1 * k + 0)) = (7 : Int) ∨ ((0 : Int) + (1 * k + 0)) = (8 : Int) ∨ ((0 : Int) + (1 * k + 0)) = (9 : Int) := g9
  refine hv5 (fun g10 => ?_)
  replace g10 : dRs (R 58) ((0 : Int) + (1 * b + 0)) ((0 : Int) + (1 * ic + 0)) ((0 : Int) + (1 * pc + 0)) ((0 : Int) + (1 * n + 0)) := rqo_18_4 g10
  simp only [Int.zero_add, Int.one_mul, Int.add_zero] at g10
  refine hvC ?_
  refine ⟨rqi_12_8 (?_ : q12 ((0 : Int) + (1 * b + 0)) ((0 : Int) + (1 * many + 0)) ((1 : Int) + (1 * ic + 0)) ((0 : Int) + (1 * under + 0)) ((0 : Int) + (1 * pc + 0)) ((-1 : Int) + 0) ((0 : Int) + (1 * y + 0)) ((0 : Int) + (1 * h + 0)) ((hupR R 58 idx val) 58)), trivial⟩
  try simp only [Int.zero_add, Int.one_mul, Int.add_zero]
  refine q12_hd (F := R 58) ?_ (fun a ha => hup_n (by omega))
  obtain ⟨z, hD, hh⟩ := hq
  rw [show (1 : Int) + ic = ic + 1 by omega]
  exact ⟨z, dm_item hD (by omega) (by omega) g8 (fun c => by omega) (fun c => by omega) (fun c => by omega) (Or.inr ⟨rfl, Or.inl (by rw [show iN (R 58) b ic = n by omega]; exact g10)⟩), hh⟩

theorem tS_12_8_5 : vS rQ 12 hs_12_8_5 := by
  refine ⟨fun _ => ?_, fun h => absurd h (by decide)⟩
  intro R G ps idx val hl i0 i1 hq
  replace i1 : idx < 238220 := i1
  obtain ⟨b, many, ic, under, pc, x, y, h, rfl⟩ := hl8 hl
  replace hq : q12 b many ic under pc x y h (R 58) := rqo_12_8 hq
  refine hv8 (fun q r g0 g0a g0b => ?_)
  replace g0 : ((0 : Int) + (1 * idx + 0)) = ((39700 : Nat) : Int) * q + r := g0
  replace g0b : r < ((39700 : Nat) : Int) := g0b
  show hV _ _ _ _ _ [b, many, ic, under, pc, x, y, h, idx, val, q, r]
  refine hv13 (fun g1 => ?_)
  replace g1 : ((0 : Int) + (39700 * q + 0)) = ((0 : Int) + (1 * b + 0)) := g1
  refine hv13 (fun g2 => ?_)
  replace g2 : ((0 : Int) + (1 * r + 0)) = ((5 : Int) + 0) := g2
  refine hv13 (fun g3 => ?_)
  replace g3 : ((0 : Int) + (1 * val + 0)) = ((1 : Int) + (1 * ic + 0)) := g3
  refine hv0 (fun g4 => ?_)
  replace g4 : (0 : Int) ≤ ((-1 : Int) + (1 * under + 0)) := g4
  refine hv0 (fun g5 => ?_)
  replace g5 : (0 : Int) ≤ ((3999 : Int) + ((-1) * ic + 0)) := g5
  refine hv2 (fun k hag6 g6 => ?_)
  replace g6 : R 58 ((22692 : Int) + (1 * b + (2 * ic + 0))) = k := g6
  replace hag6 : (0 : Int) ≤ ((22692 : Int) + (1 * b + (2 * ic + 0))) := hag6
  replace g6 : iK (R 58) b (ic) = k := hF (R := R 58) g6 (ad_93 b ic)
  show hV _ _ _ _ _ [b, many, ic, under, pc, x, y, h, idx, val, q, r, k]
  refine hv2 (fun n hag7 g7 => ?_)
  replace g7 : R 58 ((22693 : Int) + (1 * b + (2 * ic + 0))) = n := g7
  replace hag7 : (0 : Int) ≤ ((22693 : Int) + (1 * b + (2 * ic + 0))) := hag7
  replace g7 : iN (R 58) b (ic) = n := hF (R := R 58) g7 (ad_94 b ic)
  show hV _ _ _ _ _ [b, many, ic, under, pc, x, y, h, idx, val, q, r, k, n]
  refine hv5 (fun g8 => ?_)
  replace g8 : dNx (R 58) ((0 : Int) + (1 * b + 0)) ((0 : Int) + (1 * ic + 0)) ((0 : Int) + (1 * under + 0)) ((0 : Int) + (1 * pc + 0)) ((0 : Int) + (1 * x + 0)) := rqo_19_5 g8
  simp only [Int.zero_add, Int.one_mul, Int.add_zero] at g8
  refine hv13 (fun g9 => ?_)
  replace g9 : ((0 : Int) + (1 * k + 0)) = ((8 : Int) + 0) := g9
  refine hv2 (fun hp hag10 g10 => ?_)
  replace g10 : R 58 ((17 : Int) + (1 * b + 0)) = hp := g10
  replace hag10 : (0 : Int) ≤ ((17 : Int) + (1 * b + 0)) := hag10
  replace g10 : R 58 (b + 17) = hp := hF (R := R 58) g10 (ad_7 b)
  show hV _ _ _ _ _ [b, many, ic, under, pc, x, y, h, idx, val, q, r, k, n, hp]
  refine hv0 (fun g11 => ?_)
  replace g11 : (0 : Int) ≤ ((0 : Int) + (1 * pc + ((-1) * hp + 0))) := g11
  refine hv4 (hm2 (fun b2 aT g12 => ?_))
  replace g12 : q16 b2 aT (R 58) := rqo_16_2 g12
  refine hmb rfl ?_
  show hmt _ _ _ [b, many, ic, under, pc, x, y, h, idx, val, q, r, k, n, hp, b2]
  refine hmb rfl ?_
  show hmt _ _ _ [b, many, ic, under, pc, x, y, h, idx, val, q, r, k, n, hp, b2, aT]
  refine hmn ?_
  show hV _ _ _ _ _ [b, many, ic, under, pc, x, y, h, idx, val, q, r, k, n, hp, b2, aT]
  refine hv13 (fun g13 => ?_)
  replace g13 : ((0 : Int) + (1 * b2 + 0)) = ((0 : Int) + (1 * b + 0)) := g13
  refine hv13 (fun g14 => ?_)
  replace g14 : ((0 : Int) + (1 * aT + 0)) = ((-2 : Int) + ((-1) * n + 0)) := g14
  refine hv1 (fun g15 => ?_)
  replace g15 : ((0 : Int) + (1 * aT + 0)) ≠ ((-1 : Int) + 0) := g15
  refine hv0 (fun g16 => ?_)
  replace g16 : (0 : Int) ≤ ((0 : Int) + (1 * aT + 0)) := g16
  refine hvC ?_
  refine ⟨rqi_12_8 (?_ : q12 ((0 : Int) + (1 * b + 0)) ((0 : Int) + (1 * many + 0)) ((1 : Int) + (1 * ic + 0)) ((0 : Int) + (1 * under + 0)) ((0 : Int) + (1 * pc + 0)) ((-1 : Int) + 0) ((0 : Int) + (1 * y + 0)) ((0 : Int) + (1 * h + 0)) ((hupR R 58 idx val) 58)), trivial⟩
  try simp only [Int.zero_add, Int.one_mul, Int.add_zero]
  refine q12_hd (F := R 58) ?_ (fun a ha => hup_n (by omega))
  obtain ⟨z, hD, hh⟩ := hq
  rw [show (1 : Int) + ic = ic + 1 by omega]
  have hb : b2 = b := by omega
  rw [hb] at g12
  have t : ∃ p, 0 ≤ p ∧ p < pc ∧ pK (R 58) b p = 3 ∧ iN (R 58) b ic = -2 - pP (R 58) b p := by
    rcases g12 with c | ⟨p, p0, p1, p2, p3, p4⟩
    · omega
    · exact ⟨p, p0, by omega, p3, by omega⟩
  exact ⟨z, dm_item hD (by omega) (by omega) g8 (fun c => by omega) (fun c => by omega) (fun c => by omega) (Or.inr ⟨rfl, Or.inr ⟨by omega, t⟩⟩), hh⟩

theorem tS_12_8_6 : vS rQ 12 hs_12_8_6 := by
  refine ⟨fun _ => ?_, fun h => absurd h (by decide)⟩
  intro R G ps idx val hl i0 i1 hq
  replace i1 : idx < 238220 := i1
  obtain ⟨b, many, ic, under, pc, x, y, h, rfl⟩ := hl8 hl
  replace hq : q12 b many ic under pc x y h (R 58) := rqo_12_8 hq
  refine hv8 (fun q r g0 g0a g0b => ?_)
  replace g0 : ((0 : Int) + (1 * idx + 0)) = ((39700 : Nat) : Int) * q + r := g0
  replace g0b : r < ((39700 : Nat) : Int) := g0b
  show hV _ _ _ _ _ [b, many, ic, under, pc, x, y, h, idx, val, q, r]
  refine hv13 (fun g1 => ?_)
  replace g1 : ((0 : Int) + (39700 * q + 0)) = ((0 : Int) + (1 * b + 0)) := g1
  refine hv13 (fun g2 => ?_)
  replace g2 : ((0 : Int) + (1 * r + 0)) = ((5 : Int) + 0) := g2
  refine hv13 (fun g3 => ?_)
  replace g3 : ((0 : Int) + (1 * val + 0)) = ((1 : Int) + (1 * ic + 0)) := g3
  refine hv0 (fun g4 => ?_)
  replace g4 : (0 : Int) ≤ ((-1 : Int) + (1 * under + 0)) := g4
  refine hv0 (fun g5 => ?_)
  replace g5 : (0 : Int) ≤ ((3999 : Int) + ((-1) * ic + 0)) := g5
  refine hv2 (fun k hag6 g6 => ?_)
  replace g6 : R 58 ((22692 : Int) + (1 * b + (2 * ic + 0))) = k := g6
  replace hag6 : (0 : Int) ≤ ((22692 : Int) + (1 * b + (2 * ic + 0))) := hag6
  replace g6 : iK (R 58) b (ic) = k := hF (R := R 58) g6 (ad_93 b ic)
  show hV _ _ _ _ _ [b, many, ic, under, pc, x, y, h, idx, val, q, r, k]
  refine hv2 (fun n hag7 g7 => ?_)
  replace g7 : R 58 ((22693 : Int) + (1 * b + (2 * ic + 0))) = n := g7
  replace hag7 : (0 : Int) ≤ ((22693 : Int) + (1 * b + (2 * ic + 0))) := hag7
  replace g7 : iN (R 58) b (ic) = n := hF (R := R 58) g7 (ad_94 b ic)
  show hV _ _ _ _ _ [b, many, ic, under, pc, x, y, h, idx, val, q, r, k, n]
  refine hv5 (fun g8 => ?_)
  replace g8 : dNx (R 58) ((0 : Int) + (1 * b + 0)) ((0 : Int) + (1 * ic + 0)) ((0 : Int) + (1 * under + 0)) ((0 : Int) + (1 * pc + 0)) ((0 : Int) + (1 * x + 0)) := rqo_19_5 g8
  simp only [Int.zero_add, Int.one_mul, Int.add_zero] at g8
  refine hv10 (fun g9 => ?_)
  replace g9 : ((0 : Int) + (1 * k + 0)) = (2 : Int) ∨ ((0 : Int) + (1 * k + 0)) = (3 : Int) ∨ ((0 : Int) + (1 * k + 0)) = (5 : Int) ∨ ((0 : Int) + (1 * k + 0)) = (6 : Int) ∨ ((0 : Int) + (1 * k + 0)) = (7 : Int) ∨ ((0 : Int) + (1 * k + 0)) = (8 : Int) ∨ ((0 : Int) + (1 * k + 0)) = (9 : Int) := g9
  refine hvC ?_
  refine ⟨rqi_12_8 (?_ : q12 ((0 : Int) + (1 * b + 0)) ((0 : Int) + (1 * many + 0)) ((1 : Int) + (1 * ic + 0)) ((0 : Int) + (1 * under + 0)) ((0 : Int) + (1 * pc + 0)) ((0 : Int) + (1 * ic + 0)) ((0 : Int) + (1 * y + 0)) ((0 : Int) + (1 * h + 0)) ((hupR R 58 idx val) 58)), trivial⟩
  try simp only [Int.zero_add, Int.one_mul, Int.add_zero]
  refine q12_hd (F := R 58) ?_ (fun a ha => hup_n (by omega))
  obtain ⟨z, hD, hh⟩ := hq
  rw [show (1 : Int) + ic = ic + 1 by omega]
  exact ⟨z, dm_item hD (by omega) (by omega) g8 (fun c => by omega) (fun c => by omega) (fun c => by omega) (Or.inl rfl), hh⟩

theorem tS_12_8_7 : vS rQ 12 hs_12_8_7 := by
  refine ⟨fun _ => ?_, fun h => absurd h (by decide)⟩
  intro R G ps idx val hl i0 i1 hq
  replace i1 : idx < 238220 := i1
  obtain ⟨b, many, ic, under, pc, x, y, h, rfl⟩ := hl8 hl
  replace hq : q12 b many ic under pc x y h (R 58) := rqo_12_8 hq
  refine hv8 (fun q r g0 g0a g0b => ?_)
  replace g0 : ((0 : Int) + (1 * idx + 0)) = ((39700 : Nat) : Int) * q + r := g0
  replace g0b : r < ((39700 : Nat) : Int) := g0b
  show hV _ _ _ _ _ [b, many, ic, under, pc, x, y, h, idx, val, q, r]
  refine hv13 (fun g1 => ?_)
  replace g1 : ((0 : Int) + (39700 * q + 0)) = ((0 : Int) + (1 * b + 0)) := g1
  refine hv13 (fun g2 => ?_)
  replace g2 : ((0 : Int) + (1 * r + 0)) = ((5 : Int) + 0) := g2
  refine hv13 (fun g3 => ?_)
  replace g3 : ((0 : Int) + (1 * val + 0)) = ((1 : Int) + (1 * ic + 0)) := g3
  refine hv0 (fun g4 => ?_)
  replace g4 : (0 : Int) ≤ ((-1 : Int) + (1 * under + 0)) := g4
  refine hv0 (fun g5 => ?_)
  replace g5 : (0 : Int) ≤ ((3999 : Int) + ((-1) * ic + 0)) := g5
  refine hv2 (fun k hag6 g6 => ?_)
  replace g6 : R 58 ((22692 : Int) + (1 * b + (2 * ic + 0))) = k := g6
  replace hag6 : (0 : Int) ≤ ((22692 : Int) + (1 * b + (2 * ic + 0))) := hag6
  replace g6 : iK (R 58) b (ic) = k := hF (R := R 58) g6 (ad_93 b ic)
  show hV _ _ _ _ _ [b, many, ic, under, pc, x, y, h, idx, val, q, r, k]
  refine hv2 (fun n hag7 g7 => ?_)
  replace g7 : R 58 ((22693 : Int) + (1 * b + (2 * ic + 0))) = n := g7
  replace hag7 : (0 : Int) ≤ ((22693 : Int) + (1 * b + (2 * ic + 0))) := hag7
  replace g7 : iN (R 58) b (ic) = n := hF (R := R 58) g7 (ad_94 b ic)
  show hV _ _ _ _ _ [b, many, ic, under, pc, x, y, h, idx, val, q, r, k, n]
  refine hv5 (fun g8 => ?_)
  replace g8 : dNx (R 58) ((0 : Int) + (1 * b + 0)) ((0 : Int) + (1 * ic + 0)) ((0 : Int) + (1 * under + 0)) ((0 : Int) + (1 * pc + 0)) ((0 : Int) + (1 * x + 0)) := rqo_19_5 g8
  simp only [Int.zero_add, Int.one_mul, Int.add_zero] at g8
  refine hv10 (fun g9 => ?_)
  replace g9 : ((0 : Int) + (1 * k + 0)) = (1 : Int) ∨ ((0 : Int) + (1 * k + 0)) = (10 : Int) ∨ ((0 : Int) + (1 * k + 0)) = (15 : Int) ∨ ((0 : Int) + (1 * k + 0)) = (16 : Int) := g9
  refine hvC ?_
  refine ⟨rqi_12_8 (?_ : q12 ((0 : Int) + (1 * b + 0)) ((0 : Int) + (1 * many + 0)) ((1 : Int) + (1 * ic + 0)) ((0 : Int) + (1 * under + 0)) ((0 : Int) + (1 * pc + 0)) ((0 : Int) + (1 * ic + 0)) ((0 : Int) + (1 * y + 0)) ((0 : Int) + (1 * h + 0)) ((hupR R 58 idx val) 58)), trivial⟩
  try simp only [Int.zero_add, Int.one_mul, Int.add_zero]
  refine q12_hd (F := R 58) ?_ (fun a ha => hup_n (by omega))
  obtain ⟨z, hD, hh⟩ := hq
  rw [show (1 : Int) + ic = ic + 1 by omega]
  exact ⟨z, dm_item hD (by omega) (by omega) g8 (fun c => by omega) (fun c => by omega) (fun c => by omega) (Or.inl rfl), hh⟩

theorem tS_12_8_8 : vS rQ 12 hs_12_8_8 := by
  refine ⟨fun _ => ?_, fun h => absurd h (by decide)⟩
  intro R G ps idx val hl i0 i1 hq
  replace i1 : idx < 238220 := i1
  obtain ⟨b, many, ic, under, pc, x, y, h, rfl⟩ := hl8 hl
  replace hq : q12 b many ic under pc x y h (R 58) := rqo_12_8 hq
  refine hv8 (fun q r g0 g0a g0b => ?_)
  replace g0 : ((0 : Int) + (1 * idx + 0)) = ((39700 : Nat) : Int) * q + r := g0
  replace g0b : r < ((39700 : Nat) : Int) := g0b
  show hV _ _ _ _ _ [b, many, ic, under, pc, x, y, h, idx, val, q, r]
  refine hv13 (fun g1 => ?_)
  replace g1 : ((0 : Int) + (39700 * q + 0)) = ((0 : Int) + (1 * b + 0)) := g1
  refine hv13 (fun g2 => ?_)
  replace g2 : ((0 : Int) + (1 * r + 0)) = ((17 : Int) + 0) := g2
  refine hv13 (fun g3 => ?_)
  replace g3 : ((0 : Int) + (1 * val + 0)) = ((1 : Int) + (1 * pc + 0)) := g3
  refine hv0 (fun g4 => ?_)
  replace g4 : (0 : Int) ≤ ((-1 : Int) + (1 * under + 0)) := g4
  refine hv0 (fun g5 => ?_)
  replace g5 : (0 : Int) ≤ ((31 : Int) + ((-1) * pc + 0)) := g5
  refine hv2 (fun k hag6 g6 => ?_)
  replace g6 : R 58 ((37420 : Int) + (1 * b + (6 * pc + 0))) = k := g6
  replace hag6 : (0 : Int) ≤ ((37420 : Int) + (1 * b + (6 * pc + 0))) := hag6
  replace g6 : pK (R 58) b (pc) = k := hF (R := R 58) g6 (ad_54 b pc)
  show hV _ _ _ _ _ [b, many, ic, under, pc, x, y, h, idx, val, q, r, k]
  refine hv2 (fun l hag7 g7 => ?_)
  replace g7 : R 58 ((37421 : Int) + (1 * b + (6 * pc + 0))) = l := g7
  replace hag7 : (0 : Int) ≤ ((37421 : Int) + (1 * b + (6 * pc + 0))) := hag7
  replace g7 : pP (R 58) b (pc) = l := hF (R := R 58) g7 (ad_55 b pc)
  show hV _ _ _ _ _ [b, many, ic, under, pc, x, y, h, idx, val, q, r, k, l]
  refine hv0 (fun g8 => ?_)
  replace g8 : (0 : Int) ≤ ((0 : Int) + (1 * l + 0)) := g8
  refine hv10 (fun g9 => ?_)
  replace g9 : ((0 : Int) + (1 * k + 0)) = (2 : Int) ∨ ((0 : Int) + (1 * k + 0)) = (4 : Int) := g9
  refine hv13 (fun g10 => ?_)
  replace g10 : ((0 : Int) + (1 * l + 0)) = ((0 : Int) + (1 * ic + 0)) := g10
  refine hvC ?_
  refine ⟨rqi_12_8 (?_ : q12 ((0 : Int) + (1 * b + 0)) ((0 : Int) + (1 * many + 0)) ((0 : Int) + (1 * ic + 0)) ((0 : Int) + (1 * under + 0)) ((1 : Int) + (1 * pc + 0)) ((0 : Int) + (1 * x + 0)) ((0 : Int) + (1 * y + 0)) ((0 : Int) + (1 * h + 0)) ((hupR R 58 idx val) 58)), trivial⟩
  try simp only [Int.zero_add, Int.one_mul, Int.add_zero]
  refine q12_hd (F := R 58) ?_ (fun a ha => hup_n (by omega))
  obtain ⟨z, hD, hh⟩ := hq
  rw [show (1 : Int) + pc = pc + 1 by omega]
  exact ⟨z, dm_pushA hD (by omega) (by omega) (by omega) (by omega), hh⟩

theorem tS_12_8_9 : vS rQ 12 hs_12_8_9 := by
  refine ⟨fun _ => ?_, fun h => absurd h (by decide)⟩
  intro R G ps idx val hl i0 i1 hq
  replace i1 : idx < 238220 := i1
  obtain ⟨b, many, ic, under, pc, x, y, h, rfl⟩ := hl8 hl
  replace hq : q12 b many ic under pc x y h (R 58) := rqo_12_8 hq
  refine hv8 (fun q r g0 g0a g0b => ?_)
  replace g0 : ((0 : Int) + (1 * idx + 0)) = ((39700 : Nat) : Int) * q + r := g0
  replace g0b : r < ((39700 : Nat) : Int) := g0b
  show hV _ _ _ _ _ [b, many, ic, under, pc, x, y, h, idx, val, q, r]
  refine hv13 (fun g1 => ?_)
  replace g1 : ((0 : Int) + (39700 * q + 0)) = ((0 : Int) + (1 * b + 0)) := g1
  refine hv13 (fun g2 => ?_)
  replace g2 : ((0 : Int) + (1 * r + 0)) = ((17 : Int) + 0) := g2
  refine hv13 (fun g3 => ?_)
  replace g3 : ((0 : Int) + (1 * val + 0)) = ((1 : Int) + (1 * pc + 0)) := g3
  refine hv0 (fun g4 => ?_)
  replace g4 : (0 : Int) ≤ ((-1 : Int) + (1 * under + 0)) := g4
  refine hv0 (fun g5 => ?_)
  replace g5 : (0 : Int) ≤ ((31 : Int) + ((-1) * pc + 0)) := g5
  refine hv2 (fun k hag6 g6 => ?_)
  replace g6 : R 58 ((37420 : Int) + (1 * b + (6 * pc + 0))) = k := g6
  replace hag6 : (0 : Int) ≤ ((37420 : Int) + (1 * b + (6 * pc + 0))) := hag6
  replace g6 : pK (R 58) b (pc) = k := hF (R := R 58) g6 (ad_54 b pc)
  show hV _ _ _ _ _ [b, many, ic, under, pc, x, y, h, idx, val, q, r, k]
  refine hv2 (fun l hag7 g7 => ?_)
  replace g7 : R 58 ((37421 : Int) + (1 * b + (6 * pc + 0))) = l := g7
  replace hag7 : (0 : Int) ≤ ((37421 : Int) + (1 * b + (6 * pc + 0))) := hag7
  replace g7 : pP (R 58) b (pc) = l := hF (R := R 58) g7 (ad_55 b pc)
  show hV _ _ _ _ _ [b, many, ic, under, pc, x, y, h, idx, val, q, r, k, l]
  refine hv0 (fun g8 => ?_)
  replace g8 : (0 : Int) ≤ ((0 : Int) + (1 * l + 0)) := g8
  refine hv13 (fun g9 => ?_)
  replace g9 : ((0 : Int) + (1 * k + 0)) = ((1 : Int) + 0) := g9
  refine hv13 (fun g10 => ?_)
  replace g10 : ((0 : Int) + (1 * l + 0)) = ((0 : Int) + (1 * x + 0)) := g10
  refine hv2 (fun kk hag11 g11 => ?_)
  replace g11 : R 58 ((22692 : Int) + (1 * b + (2 * l + 0))) = kk := g11
  replace hag11 : (0 : Int) ≤ ((22692 : Int) + (1 * b + (2 * l + 0))) := hag11
  replace g11 : iK (R 58) b (l) = kk := hF (R := R 58) g11 (ad_56 b l)
  show hV _ _ _ _ _ [b, many, ic, under, pc, x, y, h, idx, val, q, r, k, l, kk]
  refine hv0 (fun g12 => ?_)
  replace g12 : (0 : Int) ≤ ((-2 : Int) + (1 * kk + 0)) := g12
  refine hv0 (fun g13 => ?_)
  replace g13 : (0 : Int) ≤ ((3 : Int) + ((-1) * kk + 0)) := g13
  refine hvC ?_
  refine ⟨rqi_12_8 (?_ : q12 ((0 : Int) + (1 * b + 0)) ((0 : Int) + (1 * many + 0)) ((0 : Int) + (1 * ic + 0)) ((0 : Int) + (1 * under + 0)) ((1 : Int) + (1 * pc + 0)) ((0 : Int) + (1 * x + 0)) ((0 : Int) + (1 * y + 0)) ((0 : Int) + (1 * h + 0)) ((hupR R 58 idx val) 58)), trivial⟩
  try simp only [Int.zero_add, Int.one_mul, Int.add_zero]
  refine q12_hd (F := R 58) ?_ (fun a ha => hup_n (by omega))
  obtain ⟨z, hD, hh⟩ := hq
  rw [show (1 : Int) + pc = pc + 1 by omega]
  have e : x = l := by omega
  subst e
  exact ⟨z, dm_pushB hD (by omega) (by omega) (by omega) (by omega) (by omega), hh⟩

theorem tS_12_8_10 : vS rQ 12 hs_12_8_10 := by
  refine ⟨fun _ => ?_, fun h => absurd h (by decide)⟩
  intro R G ps idx val hl i0 i1 hq
  replace i1 : idx < 238220 := i1
  obtain ⟨b, many, ic, under, pc, x, y, h, rfl⟩ := hl8 hl
  replace hq : q12 b many ic under pc x y h (R 58) := rqo_12_8 hq
  refine hv8 (fun q r g0 g0a g0b => ?_)
  replace g0 : ((0 : Int) + (1 * idx + 0)) = ((39700 : Nat) : Int) * q + r := g0
  replace g0b : r < ((39700 : Nat) : Int) := g0b
  show hV _ _ _ _ _ [b, many, ic, under, pc, x, y, h, idx, val, q, r]
  refine hv13 (fun g1 => ?_)
  replace g1 : ((0 : Int) + (39700 * q + 0)) = ((0 : Int) + (1 * b + 0)) := g1
  refine hv13 (fun g2 => ?_)
  replace g2 : ((0 : Int) + (1 * r + 0)) = ((17 : Int) + 0) := g2
  refine hv13 (fun g3 => ?_)
  replace g3 : ((0 : Int) + (1 * val + 0)) = ((1 : Int) + (1 * pc + 0)) := g3
  refine hv0 (fun g4 => ?_)
  replace g4 : (0 : Int) ≤ ((-1 : Int) + (1 * under + 0)) := g4
  refine hv0 (fun g5 => ?_)
  replace g5 : (0 : Int) ≤ ((31 : Int) + ((-1) * pc + 0)) := g5
  refine hv2 (fun k hag6 g6 => ?_)
  replace g6 : R 58 ((37420 : Int) + (1 * b + (6 * pc + 0))) = k := g6
  replace hag6 : (0 : Int) ≤ ((37420 : Int) + (1 * b + (6 * pc + 0))) := hag6
  replace g6 : pK (R 58) b (pc) = k := hF (R := R 58) g6 (ad_54 b pc)
  show hV _ _ _ _ _ [b, many, ic, under, pc, x, y, h, idx, val, q, r, k]
  refine hv2 (fun l hag7 g7 => ?_)
  replace g7 : R 58 ((37421 : Int) + (1 * b + (6 * pc + 0))) = l := g7
  replace hag7 : (0 : Int) ≤ ((37421 : Int) + (1 * b + (6 * pc + 0))) := hag7
  replace g7 : pP (R 58) b (pc) = l := hF (R := R 58) g7 (ad_55 b pc)
  show hV _ _ _ _ _ [b, many, ic, under, pc, x, y, h, idx, val, q, r, k, l]
  refine hv0 (fun g8 => ?_)
  replace g8 : (0 : Int) ≤ ((0 : Int) + (1 * l + 0)) := g8
  refine hv13 (fun g9 => ?_)
  replace g9 : ((0 : Int) + (1 * k + 0)) = ((3 : Int) + 0) := g9
  refine hv13 (fun g10 => ?_)
  replace g10 : ((0 : Int) + (1 * l + 0)) = ((0 : Int) + (1 * x + 0)) := g10
  refine hv2 (fun kk hag11 g11 => ?_)
  replace g11 : R 58 ((22692 : Int) + (1 * b + (2 * l + 0))) = kk := g11
  replace hag11 : (0 : Int) ≤ ((22692 : Int) + (1 * b + (2 * l + 0))) := hag11
  replace g11 : iK (R 58) b (l) = kk := hF (R := R 58) g11 (ad_56 b l)
  show hV _ _ _ _ _ [b, many, ic, under, pc, x, y, h, idx, val, q, r, k, l, kk]
  refine hv0 (fun g12 => ?_)
  replace g12 : (0 : Int) ≤ ((-4 : Int) + (1 * kk + 0)) := g12
  refine hv0 (fun g13 => ?_)
  replace g13 : (0 : Int) ≤ ((5 : Int) + ((-1) * kk + 0)) := g13
  refine hvC ?_
  refine ⟨rqi_12_8 (?_ : q12 ((0 : Int) + (1 * b + 0)) ((0 : Int) + (1 * many + 0)) ((0 : Int) + (1 * ic + 0)) ((0 : Int) + (1 * under + 0)) ((1 : Int) + (1 * pc + 0)) ((0 : Int) + (1 * x + 0)) ((0 : Int) + (1 * y + 0)) ((0 : Int) + (1 * h + 0)) ((hupR R 58 idx val) 58)), trivial⟩
  try simp only [Int.zero_add, Int.one_mul, Int.add_zero]
  refine q12_hd (F := R 58) ?_ (fun a ha => hup_n (by omega))
  obtain ⟨z, hD, hh⟩ := hq
  rw [show (1 : Int) + pc = pc + 1 by omega]
  have e : x = l := by omega
  subst e
  exact ⟨z, dm_pushB hD (by omega) (by omega) (by omega) (by omega) (by omega), hh⟩

theorem tS_12_8_11 : vS rQ 12 hs_12_8_11 := by
  refine ⟨fun _ => ?_, fun h => absurd h (by decide)⟩
  intro R G ps idx val hl i0 i1 hq
  replace i1 : idx < 238220 := i1
  obtain ⟨b, many, ic, under, pc, x, y, h, rfl⟩ := hl8 hl
  replace hq : q12 b many ic under pc x y h (R 58) := rqo_12_8 hq
  refine hv8 (fun q r g0 g0a g0b => ?_)
  replace g0 : ((0 : Int) + (1 * idx + 0)) = ((39700 : Nat) : Int) * q + r := g0
  replace g0b : r < ((39700 : Nat) : Int) := g0b
  show hV _ _ _ _ _ [b, many, ic, under, pc, x, y, h, idx, val, q, r]
  refine hv13 (fun g1 => ?_)
  replace g1 : ((0 : Int) + (39700 * q + 0)) = ((0 : Int) + (1 * b + 0)) := g1
  refine hv13 (fun g2 => ?_)
  replace g2 : ((0 : Int) + (1 * r + 0)) = ((17 : Int) + 0) := g2
  refine hv13 (fun g3 => ?_)
  replace g3 : ((0 : Int) + (1 * val + 0)) = ((1 : Int) + (1 * pc + 0)) := g3
  refine hv0 (fun g4 => ?_)
  replace g4 : (0 : Int) ≤ ((-1 : Int) + (1 * under + 0)) := g4
  refine hv0 (fun g5 => ?_)
  replace g5 : (0 : Int) ≤ ((31 : Int) + ((-1) * pc + 0)) := g5
  refine hv2 (fun k hag6 g6 => ?_)
  replace g6 : R 58 ((37420 : Int) + (1 * b + (6 * pc + 0))) = k := g6
  replace hag6 : (0 : Int) ≤ ((37420 : Int) + (1 * b + (6 * pc + 0))) := hag6
  replace g6 : pK (R 58) b (pc) = k := hF (R := R 58) g6 (ad_54 b pc)
  show hV _ _ _ _ _ [b, many, ic, under, pc, x, y, h, idx, val, q, r, k]
  refine hv2 (fun l hag7 g7 => ?_)
  replace g7 : R 58 ((37421 : Int) + (1 * b + (6 * pc + 0))) = l := g7
  replace hag7 : (0 : Int) ≤ ((37421 : Int) + (1 * b + (6 * pc + 0))) := hag7
  replace g7 : pP (R 58) b (pc) = l := hF (R := R 58) g7 (ad_55 b pc)
  show hV _ _ _ _ _ [b, many, ic, under, pc, x, y, h, idx, val, q, r, k, l]
  refine hv0 (fun g8 => ?_)
  replace g8 : (0 : Int) ≤ ((0 : Int) + (1 * l + 0)) := g8
  refine hv13 (fun g9 => ?_)
  replace g9 : ((0 : Int) + (1 * k + 0)) = ((5 : Int) + 0) := g9
  refine hv13 (fun g10 => ?_)
  replace g10 : ((0 : Int) + (1 * l + 0)) = ((0 : Int) + (1 * x + 0)) := g10
  refine hv2 (fun kk hag11 g11 => ?_)
  replace g11 : R 58 ((22692 : Int) + (1 * b + (2 * l + 0))) = kk := g11
  replace hag11 : (0 : Int) ≤ ((22692 : Int) + (1 * b + (2 * l + 0))) := hag11
  replace g11 : iK (R 58) b (l) = kk := hF (R := R 58) g11 (ad_56 b l)
  show hV _ _ _ _ _ [b, many, ic, under, pc, x, y, h, idx, val, q, r, k, l, kk]
  refine hv0 (fun g12 => ?_)
  replace g12 : (0 : Int) ≤ ((-9 : Int) + (1 * kk + 0)) := g12
  refine hv0 (fun g13 => ?_)
  replace g13 : (0 : Int) ≤ ((9 : Int) + ((-1) * kk + 0)) := g13
  refine hvC ?_
  refine ⟨rqi_12_8 (?_ : q12 ((0 : Int) + (1 * b + 0)) ((0 : Int) + (1 * many + 0)) ((0 : Int) + (1 * ic + 0)) ((0 : Int) + (1 * under + 0)) ((1 : Int) + (1 * pc + 0)) ((0 : Int) + (1 * x + 0)) ((0 : Int) + (1 * y + 0)) ((0 : Int) + (1 * h + 0)) ((hupR R 58 idx val) 58)), trivial⟩
  try simp only [Int.zero_add, Int.one_mul, Int.add_zero]
  refine q12_hd (F := R 58) ?_ (fun a ha => hup_n (by omega))
  obtain ⟨z, hD, hh⟩ := hq
  rw [show (1 : Int) + pc = pc + 1 by omega]
  have e : x = l := by omega
  subst e
  exact ⟨z, dm_pushB hD (by omega) (by omega) (by omega) (by omega) (by omega), hh⟩

theorem tS_12_8_12 : vS rQ 12 hs_12_8_12 := by
  refine ⟨fun _ => ?_, fun h => absurd h (by decide)⟩
  intro R G ps idx val hl i0 i1 hq
  replace i1 : idx < 238220 := i1
  obtain ⟨b, many, ic, under, pc, x, y, h, rfl⟩ := hl8 hl
  replace hq : q12 b many ic under pc x y h (R 58) := rqo_12_8 hq
  refine hv8 (fun q r g0 g0a g0b => ?_)
  replace g0 : ((0 : Int) + (1 * idx + 0)) = ((39700 : Nat) : Int) * q + r := g0
  replace g0b : r < ((39700 : Nat) : Int) := g0b
  show hV _ _ _ _ _ [b, many, ic, under, pc, x, y, h, idx, val, q, r]
  refine hv13 (fun g1 => ?_)
  replace g1 : ((0 : Int) + (39700 * q + 0)) = ((0 : Int) + (1 * b + 0)) := g1
  refine hv13 (fun g2 => ?_)
  replace g2 : ((0 : Int) + (1 * r + 0)) = ((17 : Int) + 0) := g2
  refine hv13 (fun g3 => ?_)
  replace g3 : ((0 : Int) + (1 * val + 0)) = ((-1 : Int) + (1 * pc + 0)) := g3
  refine hv0 (fun g4 => ?_)
  replace g4 : (0 : Int) ≤ ((0 : Int) + (1 * val + 0)) := g4
  refine hv2 (fun k hag5 g5 => ?_)
  replace g5 : R 58 ((37420 : Int) + (1 * b + (6 * val + 0))) = k := g5
  replace hag5 : (0 : Int) ≤ ((37420 : Int) + (1 * b + (6 * val + 0))) := hag5
  replace g5 : pK (R 58) b (val) = k := hF (R := R 58) g5 (ad_96 b val)
  show hV _ _ _ _ _ [b, many, ic, under, pc, x, y, h, idx, val, q, r, k]
  refine hv10 (fun g6 => ?_)
  replace g6 : ((0 : Int) + (1 * k + 0)) = (2 : Int) ∨ ((0 : Int) + (1 * k + 0)) = (4 : Int) := g6
  refine hv2 (fun l hag7 g7 => ?_)
  replace g7 : R 58 ((37421 : Int) + (1 * b + (6 * val + 0))) = l := g7
  replace hag7 : (0 : Int) ≤ ((37421 : Int) + (1 * b + (6 * val + 0))) := hag7
  replace g7 : pP (R 58) b (val) = l := hF (R := R 58) g7 (ad_97 b val)
  show hV _ _ _ _ _ [b, many, ic, under, pc, x, y, h, idx, val, q, r, k, l]
  refine hvC ?_
  refine ⟨rqi_12_8 (?_ : q12 ((0 : Int) + (1 * b + 0)) ((0 : Int) + (1 * many + 0)) ((0 : Int) + (1 * ic + 0)) ((0 : Int) + (1 * under + 0)) ((0 : Int) + (1 * val + 0)) ((0 : Int) + (1 * x + 0)) ((0 : Int) + (1 * l + 0)) ((0 : Int) + (1 * h + 0)) ((hupR R 58 idx val) 58)), trivial⟩
  try simp only [Int.zero_add, Int.one_mul, Int.add_zero]
  refine q12_hd (F := R 58) ?_ (fun a ha => hup_n (by omega))
  obtain ⟨z, hD, hh⟩ := hq
  have ev : val = pc - 1 := by omega
  subst ev
  exact ⟨z, dm_drop0 hD (by omega) (by omega) (Or.inr (Or.inr (by omega))), hh⟩

theorem tS_12_8_13 : vS rQ 12 hs_12_8_13 := by
  refine ⟨fun _ => ?_, fun h => absurd h (by decide)⟩
  intro R G ps idx val hl i0 i1 hq
  replace i1 : idx < 238220 := i1
  obtain ⟨b, many, ic, under, pc, x, y, h, rfl⟩ := hl8 hl
  replace hq : q12 b many ic under pc x y h (R 58) := rqo_12_8 hq
  refine hv8 (fun q r g0 g0a g0b => ?_)
  replace g0 : ((0 : Int) + (1 * idx + 0)) = ((39700 : Nat) : Int) * q + r := g0
  replace g0b : r < ((39700 : Nat) : Int) := g0b
  show hV _ _ _ _ _ [b, many, ic, under, pc, x, y, h, idx, val, q, r]
  refine hv13 (fun g1 => ?_)
  replace g1 : ((0 : Int) + (39700 * q + 0)) = ((0 : Int) + (1 * b + 0)) := g1
  refine hv13 (fun g2 => ?_)
  replace g2 : ((0 : Int) + (1 * r + 0)) = ((17 : Int) + 0) := g2
  refine hv13 (fun g3 => ?_)
  replace g3 : ((0 : Int) + (1 * val + 0)) = ((-1 : Int) + (1 * pc + 0)) := g3
  refine hv0 (fun g4 => ?_)
  replace g4 : (0 : Int) ≤ ((0 : Int) + (1 * val + 0)) := g4
  refine hv2 (fun k hag5 g5 => ?_)
  replace g5 : R 58 ((37420 : Int) + (1 * b + (6 * val + 0))) = k := g5
  replace hag5 : (0 : Int) ≤ ((37420 : Int) + (1 * b + (6 * val + 0))) := hag5
  replace g5 : pK (R 58) b (val) = k := hF (R := R 58) g5 (ad_96 b val)
  show hV _ _ _ _ _ [b, many, ic, under, pc, x, y, h, idx, val, q, r, k]
  refine hv10 (fun g6 => ?_)
  replace g6 : ((0 : Int) + (1 * k + 0)) = (2 : Int) ∨ ((0 : Int) + (1 * k + 0)) = (4 : Int) := g6
  refine hvC ?_
  refine ⟨rqi_12_8 (?_ : q12 ((0 : Int) + (1 * b + 0)) ((0 : Int) + (1 * many + 0)) ((0 : Int) + (1 * ic + 0)) ((0 : Int) + (1 * under + 0)) ((0 : Int) + (1 * val + 0)) ((0 : Int) + (1 * x + 0)) ((-1 : Int) + 0) ((0 : Int) + (1 * h + 0)) ((hupR R 58 idx val) 58)), trivial⟩
  try simp only [Int.zero_add, Int.one_mul, Int.add_zero]
  refine q12_hd (F := R 58) ?_ (fun a ha => hup_n (by omega))
  obtain ⟨z, hD, hh⟩ := hq
  have ev : val = pc - 1 := by omega
  subst ev
  exact ⟨z, dm_drop0 hD (by omega) (by omega) (Or.inr (Or.inl rfl)), hh⟩

theorem tS_12_8_14 : vS rQ 12 hs_12_8_14 := by
  refine ⟨fun _ => ?_, fun h => absurd h (by decide)⟩
  intro R G ps idx val hl i0 i1 hq
  replace i1 : idx < 238220 := i1
  obtain ⟨b, many, ic, under, pc, x, y, h, rfl⟩ := hl8 hl
  replace hq : q12 b many ic under pc x y h (R 58) := rqo_12_8 hq
  refine hv8 (fun q r g0 g0a g0b => ?_)
  replace g0 : ((0 : Int) + (1 * idx + 0)) = ((39700 : Nat) : Int) * q + r := g0
  replace g0b : r < ((39700 : Nat) : Int) := g0b
  show hV _ _ _ _ _ [b, many, ic, under, pc, x, y, h, idx, val, q, r]
  refine hv13 (fun g1 => ?_)
  replace g1 : ((0 : Int) + (39700 * q + 0)) = ((0 : Int) + (1 * b + 0)) := g1
  refine hv13 (fun g2 => ?_)
  replace g2 : ((0 : Int) + (1 * r + 0)) = ((17 : Int) + 0) := g2
  refine hv13 (fun g3 => ?_)
  replace g3 : ((0 : Int) + (1 * val + 0)) = ((-1 : Int) + (1 * pc + 0)) := g3
  refine hv0 (fun g4 => ?_)
  replace g4 : (0 : Int) ≤ ((0 : Int) + (1 * val + 0)) := g4
  refine hv2 (fun l hag5 g5 => ?_)
  replace g5 : R 58 ((37421 : Int) + (1 * b + (6 * val + 0))) = l := g5
  replace hag5 : (0 : Int) ≤ ((37421 : Int) + (1 * b + (6 * val + 0))) := hag5
  replace g5 : pP (R 58) b (val) = l := hF (R := R 58) g5 (ad_97 b val)
  show hV _ _ _ _ _ [b, many, ic, under, pc, x, y, h, idx, val, q, r, l]
  refine hv5 (fun g6 => ?_)
  replace g6 : q25 ((0 : Int) + (1 * b + 0)) ((0 : Int) + (1 * val + 0)) (R 58) := rqo_25_2 g6
  simp only [Int.zero_add, Int.one_mul, Int.add_zero] at g6
  refine hv2 (fun n hag7 g7 => ?_)
  replace g7 : R 58 ((22693 : Int) + (1 * b + (2 * l + 0))) = n := g7
  replace hag7 : (0 : Int) ≤ ((22693 : Int) + (1 * b + (2 * l + 0))) := hag7
  replace g7 : iN (R 58) b (l) = n := hF (R := R 58) g7 (ad_58 b l)
  show hV _ _ _ _ _ [b, many, ic, under, pc, x, y, h, idx, val, q, r, l, n]
  refine hv5 (fun g8 => ?_)
  replace g8 : dRs (R 58) ((0 : Int) + (1 * b + 0)) ((0 : Int) + (1 * ic + 0)) ((0 : Int) + (1 * val + 0)) ((0 : Int) + (1 * n + 0)) := rqo_18_4 g8
  simp only [Int.zero_add, Int.one_mul, Int.add_zero] at g8
  refine hv5 (fun g9 => ?_)
  replace g9 : dNx (R 58) ((0 : Int) + (1 * b + 0)) ((0 : Int) + (1 * ic + 0)) ((0 : Int) + (1 * under + 0)) ((0 : Int) + (1 * pc + 0)) ((0 : Int) + (1 * x + 0)) := rqo_19_5 g9
  simp only [Int.zero_add, Int.one_mul, Int.add_zero] at g9
  refine hvC ?_
  refine ⟨rqi_12_8 (?_ : q12 ((0 : Int) + (1 * b + 0)) ((0 : Int) + (1 * many + 0)) ((0 : Int) + (1 * ic + 0)) ((0 : Int) + (1 * under + 0)) ((0 : Int) + (1 * val + 0)) ((-1 : Int) + 0) ((0 : Int) + (1 * y + 0)) ((0 : Int) + (1 * h + 0)) ((hupR R 58 idx val) 58)), trivial⟩
  try simp only [Int.zero_add, Int.one_mul, Int.add_zero]
  refine q12_hd (F := R 58) ?_ (fun a ha => hup_n (by omega))
  obtain ⟨z, hD, hh⟩ := hq
  have ev : val = pc - 1 := by omega
  subst ev
  have t := dm_x hD g9
  have k3 := g6
  unfold q25 at k3
  have e1 : pP (R 58) b (pc - 1) = l := by omega
  have e2 : iN (R 58) b l = n := by omega
  exact ⟨z, dm_dropr t (by omega) (by omega) (by rw [e1, e2]; exact g8) (Or.inl rfl), hh⟩

theorem tS_12_8_15 : vS rQ 12 hs_12_8_15 := by
  refine ⟨fun _ => ?_, fun h => absurd h (by decide)⟩
  intro R G ps idx val hl i0 i1 hq
  replace i1 : idx < 238220 := i1
  obtain ⟨b, many, ic, under, pc, x, y, h, rfl⟩ := hl8 hl
  replace hq : q12 b many ic under pc x y h (R 58) := rqo_12_8 hq
  refine hv8 (fun q r g0 g0a g0b => ?_)
  replace g0 : ((0 : Int) + (1 * idx + 0)) = ((39700 : Nat) : Int) * q + r := g0
  replace g0b : r < ((39700 : Nat) : Int) := g0b
  show hV _ _ _ _ _ [b, many, ic, under, pc, x, y, h, idx, val, q, r]
  refine hv13 (fun g1 => ?_)
  replace g1 : ((0 : Int) + (39700 * q + 0)) = ((0 : Int) + (1 * b + 0)) := g1
  refine hv13 (fun g2 => ?_)
  replace g2 : ((0 : Int) + (1 * r + 0)) = ((17 : Int) + 0) := g2
  refine hv13 (fun g3 => ?_)
  replace g3 : ((0 : Int) + (1 * val + 0)) = ((-1 : Int) + (1 * pc + 0)) := g3
  refine hv0 (fun g4 => ?_)
  replace g4 : (0 : Int) ≤ ((0 : Int) + (1 * val + 0)) := g4
  refine hv2 (fun k hag5 g5 => ?_)
  replace g5 : R 58 ((37420 : Int) + (1 * b + (6 * val + 0))) = k := g5
  replace hag5 : (0 : Int) ≤ ((37420 : Int) + (1 * b + (6 * val + 0))) := hag5
  replace g5 : pK (R 58) b (val) = k := hF (R := R 58) g5 (ad_96 b val)
  show hV _ _ _ _ _ [b, many, ic, under, pc, x, y, h, idx, val, q, r, k]
  refine hv13 (fun g6 => ?_)
  replace g6 : ((0 : Int) + (1 * k + 0)) = ((3 : Int) + 0) := g6
  refine hv2 (fun l hag7 g7 => ?_)
  replace g7 : R 58 ((37421 : Int) + (1 * b + (6 * val + 0))) = l := g7
  replace hag7 : (0 : Int) ≤ ((37421 : Int) + (1 * b + (6 * val + 0))) := hag7
  replace g7 : pP (R 58) b (val) = l := hF (R := R 58) g7 (ad_97 b val)
  show hV _ _ _ _ _ [b, many, ic, under, pc, x, y, h, idx, val, q, r, k, l]
  refine hv4 (hm3 (fun b2 a2 k2 g8 => ?_))
  replace g8 : q17 b2 a2 k2 (R 58) := rqo_17_3 g8
  refine hmb rfl ?_
  show hmt _ _ _ [b, many, ic, under, pc, x, y, h, idx, val, q, r, k, l, b2]
  refine hmb rfl ?_
  show hmt _ _ _ [b, many, ic, under, pc, x, y, h, idx, val, q, r, k, l, b2, a2]
  refine hmb rfl ?_
  show hmt _ _ _ [b, many, ic, under, pc, x, y, h, idx, val, q, r, k, l, b2, a2, k2]
  refine hmn ?_
  show hV _ _ _ _ _ [b, many, ic, under, pc, x, y, h, idx, val, q, r, k, l, b2, a2, k2]
  refine hv13 (fun g9 => ?_)
  replace g9 : ((0 : Int) + (1 * b2 + 0)) = ((0 : Int) + (1 * b + 0)) := g9
  refine hv13 (fun g10 => ?_)
  replace g10 : ((0 : Int) + (1 * a2 + 0)) = ((0 : Int) + (1 * l + 0)) := g10
  refine hv13 (fun g11 => ?_)
  replace g11 : ((0 : Int) + (1 * k2 + 0)) = ((0 : Int) + (1 * ic + 0)) := g11
  refine hv2 (fun kk hag12 g12 => ?_)
  replace g12 : R 58 ((22692 : Int) + (1 * b + (2 * l + 0))) = kk := g12
  replace hag12 : (0 : Int) ≤ ((22692 : Int) + (1 * b + (2 * l + 0))) := hag12
  replace g12 : iK (R 58) b (l) = kk := hF (R := R 58) g12 (ad_56 b l)
  show hV _ _ _ _ _ [b, many, ic, under, pc, x, y, h, idx, val, q, r, k, l, b2, a2, k2, kk]
  refine hv0 (fun g13 => ?_)
  replace g13 : (0 : Int) ≤ ((4 : Int) + ((-1) * kk + 0)) := g13
  refine hvC ?_
  refine ⟨rqi_12_8 (?_ : q12 ((0 : Int) + (1 * b + 0)) ((0 : Int) + (1 * many + 0)) ((0 : Int) + (1 * ic + 0)) ((0 : Int) + (1 * under + 0)) ((0 : Int) + (1 * val + 0)) ((0 : Int) + (1 * x + 0)) ((0 : Int) + (1 * y + 0)) ((0 : Int) + (1 * h + 0)) ((hupR R 58 idx val) 58)), trivial⟩
  try simp only [Int.zero_add, Int.one_mul, Int.add_zero]
  refine q12_hd (F := R 58) ?_ (fun a ha => hup_n (by omega))
  obtain ⟨z, hD, hh⟩ := hq
  have ev : val = pc - 1 := by omega
  subst ev
  have e1 : pP (R 58) b (pc - 1) = l := by omega
  have h17 : q17 b (pP (R 58) b (pc - 1)) ic (R 58) := by
    rw [e1, ← show b2 = b by omega, ← show a2 = l by omega, ← show k2 = ic by omega]
    exact g8
  exact ⟨z, dm_drop3 hD (by omega) (by omega) h17 (Or.inl (by rw [e1]; omega)), hh⟩

theorem tS_12_8_16 : vS rQ 12 hs_12_8_16 := by
  refine ⟨fun _ => ?_, fun h => absurd h (by decide)⟩
  intro R G ps idx val hl i0 i1 hq
  replace i1 : idx < 238220 := i1
  obtain ⟨b, many, ic, under, pc, x, y, h, rfl⟩ := hl8 hl
  replace hq : q12 b many ic under pc x y h (R 58) := rqo_12_8 hq
  refine hv8 (fun q r g0 g0a g0b => ?_)
  replace g0 : ((0 : Int) + (1 * idx + 0)) = ((39700 : Nat) : Int) * q + r := g0
  replace g0b : r < ((39700 : Nat) : Int) := g0b
  show hV _ _ _ _ _ [b, many, ic, under, pc, x, y, h, idx, val, q, r]
  refine hv13 (fun g1 => ?_)
  replace g1 : ((0 : Int) + (39700 * q + 0)) = ((0 : Int) + (1 * b + 0)) := g1
  refine hv13 (fun g2 => ?_)
  replace g2 : ((0 : Int) + (1 * r + 0)) = ((17 : Int) + 0) := g2
  refine hv13 (fun g3 => ?_)
  replace g3 : ((0 : Int) + (1 * val + 0)) = ((-1 : Int) + (1 * pc + 0)) := g3
  refine hv0 (fun g4 => ?_)
  replace g4 : (0 : Int) ≤ ((0 : Int) + (1 * val + 0)) := g4
  refine hv2 (fun k hag5 g5 => ?_)
  replace g5 : R 58 ((37420 : Int) + (1 * b + (6 * val + 0))) = k := g5
  replace hag5 : (0 : Int) ≤ ((37420 : Int) + (1 * b + (6 * val + 0))) := hag5
  replace g5 : pK (R 58) b (val) = k := hF (R := R 58) g5 (ad_96 b val)
  show hV _ _ _ _ _ [b, many, ic, under, pc, x, y, h, idx, val, q, r, k]
  refine hv13 (fun g6 => ?_)
  replace g6 : ((0 : Int) + (1 * k + 0)) = ((3 : Int) + 0) := g6
  refine hv2 (fun l hag7 g7 => ?_)
  replace g7 : R 58 ((37421 : Int) + (1 * b + (6 * val + 0))) = l := g7
  replace hag7 : (0 : Int) ≤ ((37421 : Int) + (1 * b + (6 * val + 0))) := hag7
  replace g7 : pP (R 58) b (val) = l := hF (R := R 58) g7 (ad_97 b val)
  show hV _ _ _ _ _ [b, many, ic, under, pc, x, y, h, idx, val, q, r, k, l]
  refine hv4 (hm3 (fun b2 a2 k2 g8 => ?_))
  replace g8 : q17 b2 a2 k2 (R 58) := rqo_17_3 g8
  refine hmb rfl ?_
  show hmt _ _ _ [b, many, ic, under, pc, x, y, h, idx, val, q, r, k, l, b2]
  refine hmb rfl ?_
  show hmt _ _ _ [b, many, ic, under, pc, x, y, h, idx, val, q, r, k, l, b2, a2]
  refine hmb rfl ?_
  show hmt _ _ _ [b, many, ic, under, pc, x, y, h, idx, val, q, r, k, l, b2, a2, k2]
  refine hmn ?_
  show hV _ _ _ _ _ [b, many, ic, under, pc, x, y, h, idx, val, q, r, k, l, b2, a2, k2]
  refine hv13 (fun g9 => ?_)
  replace g9 : ((0 : Int) + (1 * b2 + 0)) = ((0 : Int) + (1 * b + 0)) := g9
  refine hv13 (fun g10 => ?_)
  replace g10 : ((0 : Int) + (1 * a2 + 0)) = ((0 : Int) + (1 * l + 0)) := g10
  refine hv13 (fun g11 => ?_)
  replace g11 : ((0 : Int) + (1 * k2 + 0)) = ((0 : Int) + (1 * ic + 0)) := g11
  refine hv2 (fun kk hag12 g12 => ?_)
  replace g12 : R 58 ((22692 : Int) + (1 * b + (2 * l + 0))) = kk := g12
  replace hag12 : (0 : Int) ≤ ((22692 : Int) + (1 * b + (2 * l + 0))) := hag12
  replace g12 : iK (R 58) b (l) = kk := hF (R := R 58) g12 (ad_56 b l)
  show hV _ _ _ _ _ [b, many, ic, under, pc, x, y, h, idx, val, q, r, k, l, b2, a2, k2, kk]
  refine hv2 (fun n hag13 g13 => ?_)
  replace g13 : R 58 ((22693 : Int) + (1 * b + (2 * l + 0))) = n := g13
  replace hag13 : (0 : Int) ≤ ((22693 : Int) + (1 * b + (2 * l + 0))) := hag13
  replace g13 : iN (R 58) b (l) = n := hF (R := R 58) g13 (ad_58 b l)
  show hV _ _ _ _ _ [b, many, ic, under, pc, x, y, h, idx, val, q, r, k, l, b2, a2, k2, kk, n]
  refine hv5 (fun g14 => ?_)
  replace g14 : dRs (R 58) ((0 : Int) + (1 * b + 0)) ((0 : Int) + (1 * ic + 0)) ((0 : Int) + (1 * val + 0)) ((0 : Int) + (1 * n + 0)) := rqo_18_4 g14
  simp only [Int.zero_add, Int.one_mul, Int.add_zero] at g14
  refine hv5 (fun g15 => ?_)
  replace g15 : dNx (R 58) ((0 : Int) + (1 * b + 0)) ((0 : Int) + (1 * ic + 0)) ((0 : Int) + (1 * under + 0)) ((0 : Int) + (1 * pc + 0)) ((0 : Int) + (1 * x + 0)) := rqo_19_5 g15
  simp only [Int.zero_add, Int.one_mul, Int.add_zero] at g15
  refine hvC ?_
  refine ⟨rqi_12_8 (?_ : q12 ((0 : Int) + (1 * b + 0)) ((0 : Int) + (1 * many + 0)) ((0 : Int) + (1 * ic + 0)) ((0 : Int) + (1 * under + 0)) ((0 : Int) + (1 * val + 0)) ((-1 : Int) + 0) ((0 : Int) + (1 * y + 0)) ((0 : Int) + (1 * h + 0)) ((hupR R 58 idx val) 58)), trivial⟩
  try simp only [Int.zero_add, Int.one_mul, Int.add_zero]
  refine q12_hd (F := R 58) ?_ (fun a ha => hup_n (by omega))
  obtain ⟨z, hD, hh⟩ := hq
  have ev : val = pc - 1 := by omega
  subst ev
  have t := dm_x hD g15
  have e1 : pP (R 58) b (pc - 1) = l := by omega
  have e2 : iN (R 58) b l = n := by omega
  have h17 : q17 b (pP (R 58) b (pc - 1)) ic (R 58) := by
    rw [e1, ← show b2 = b by omega, ← show a2 = l by omega, ← show k2 = ic by omega]
    exact g8
  exact ⟨z, dm_drop3 t (by omega) (by omega) h17 (Or.inr ⟨by rw [e1, e2]; exact g14, Or.inl rfl⟩), hh⟩

theorem tS_12_8_17 : vS rQ 12 hs_12_8_17 := by
  refine ⟨fun _ => ?_, fun h => absurd h (by decide)⟩
  intro R G ps idx val hl i0 i1 hq
  replace i1 : idx < 238220 := i1
  obtain ⟨b, many, ic, under, pc, x, y, h, rfl⟩ := hl8 hl
  replace hq : q12 b many ic under pc x y h (R 58) := rqo_12_8 hq
  refine hv8 (fun q r g0 g0a g0b => ?_)
  replace g0 : ((0 : Int) + (1 * idx + 0)) = ((39700 : Nat) : Int) * q + r := g0
  replace g0b : r < ((39700 : Nat) : Int) := g0b
  show hV _ _ _ _ _ [b, many, ic, under, pc, x, y, h, idx, val, q, r]
  refine hv13 (fun g1 => ?_)
  replace g1 : ((0 : Int) + (39700 * q + 0)) = ((0 : Int) + (1 * b + 0)) := g1
  refine hv7 (fun i g2 => ?_)
  replace g2 : ((40 : Nat) : Int) * i = ((-8295 : Int) + (1 * r + 0)) := g2
  show hV _ _ _ _ _ [b, many, ic, under, pc, x, y, h, idx, val, q, r, i]
  refine hv0 (fun g3 => ?_)
  replace g3 : (0 : Int) ≤ ((0 : Int) + (1 * i + 0)) := g3
  refine hv0 (fun g4 => ?_)
  replace g4 : (0 : Int) ≤ ((-1 : Int) + (1 * many + ((-1) * i + 0))) := g4
  refine hv2 (fun k hag5 g5 => ?_)
  replace g5 : R 58 ((8292 : Int) + (1 * b + (40 * i + 0))) = k := g5
  replace hag5 : (0 : Int) ≤ ((8292 : Int) + (1 * b + (40 * i + 0))) := hag5
  replace g5 : dK (R 58) b (i) = k := hF (R := R 58) g5 (ad_27 b i)
  show hV _ _ _ _ _ [b, many, ic, under, pc, x, y, h, idx, val, q, r, i, k]
  refine hv0 (fun g6 => ?_)
  replace g6 : (0 : Int) ≤ ((-2 : Int) + (1 * k + 0)) := g6
  refine hv0 (fun g7 => ?_)
  replace g7 : (0 : Int) ≤ ((5 : Int) + ((-1) * k + 0)) := g7
  refine hvC ?_
  refine ⟨rqi_12_8 (?_ : q12 ((0 : Int) + (1 * b + 0)) ((0 : Int) + (1 * many + 0)) ((0 : Int) + (1 * ic + 0)) ((0 : Int) + (1 * under + 0)) ((0 : Int) + (1 * pc + 0)) ((0 : Int) + (1 * x + 0)) ((0 : Int) + (1 * y + 0)) ((0 : Int) + (1 * h + 0)) ((hupR R 58 idx val) 58)), trivial⟩
  try simp only [Int.zero_add, Int.one_mul, Int.add_zero]
  have e : idx = b + 8292 + 3 + 40 * i := by omega
  rw [e]
  exact q12_w hq (by omega) (by omega) (Or.inl ⟨rfl, by omega, by omega, rfl⟩)

theorem tS_12_8_18 : vS rQ 12 hs_12_8_18 := by
  refine ⟨fun _ => ?_, fun h => absurd h (by decide)⟩
  intro R G ps idx val hl i0 i1 hq
  replace i1 : idx < 238220 := i1
  obtain ⟨b, many, ic, under, pc, x, y, h, rfl⟩ := hl8 hl
  replace hq : q12 b many ic under pc x y h (R 58) := rqo_12_8 hq
  refine hv8 (fun q r g0 g0a g0b => ?_)
  replace g0 : ((0 : Int) + (1 * idx + 0)) = ((39700 : Nat) : Int) * q + r := g0
  replace g0b : r < ((39700 : Nat) : Int) := g0b
  show hV _ _ _ _ _ [b, many, ic, under, pc, x, y, h, idx, val, q, r]
  refine hv13 (fun g1 => ?_)
  replace g1 : ((0 : Int) + (39700 * q + 0)) = ((0 : Int) + (1 * b + 0)) := g1
  refine hv7 (fun i g2 => ?_)
  replace g2 : ((40 : Nat) : Int) * i = ((-8306 : Int) + (1 * r + 0)) := g2
  show hV _ _ _ _ _ [b, many, ic, under, pc, x, y, h, idx, val, q, r, i]
  refine hv0 (fun g3 => ?_)
  replace g3 : (0 : Int) ≤ ((0 : Int) + (1 * i + 0)) := g3
  refine hv0 (fun g4 => ?_)
  replace g4 : (0 : Int) ≤ ((-1 : Int) + (1 * many + ((-1) * i + 0))) := g4
  refine hv13 (fun g5 => ?_)
  replace g5 : ((0 : Int) + (1 * val + 0)) = ((1 : Int) + 0) := g5
  refine hvC ?_
  refine ⟨rqi_12_8 (?_ : q12 ((0 : Int) + (1 * b + 0)) ((0 : Int) + (1 * many + 0)) ((0 : Int) + (1 * ic + 0)) ((0 : Int) + (1 * under + 0)) ((0 : Int) + (1 * pc + 0)) ((0 : Int) + (1 * x + 0)) ((0 : Int) + (1 * y + 0)) ((0 : Int) + (1 * h + 0)) ((hupR R 58 idx val) 58)), trivial⟩
  try simp only [Int.zero_add, Int.one_mul, Int.add_zero]
  have e : idx = b + 8292 + 14 + 40 * i := by omega
  rw [e]
  exact q12_w hq (by omega) (by omega) (Or.inr (Or.inl ⟨rfl, by omega, rfl⟩))

theorem tS_12_8_19 : vS rQ 12 hs_12_8_19 := by
  refine ⟨fun _ => ?_, fun h => absurd h (by decide)⟩
  intro R G ps idx val hl i0 i1 hq
  replace i1 : idx < 238220 := i1
  obtain ⟨b, many, ic, under, pc, x, y, h, rfl⟩ := hl8 hl
  replace hq : q12 b many ic under pc x y h (R 58) := rqo_12_8 hq
  refine hv8 (fun q r g0 g0a g0b => ?_)
  replace g0 : ((0 : Int) + (1 * idx + 0)) = ((39700 : Nat) : Int) * q + r := g0
  replace g0b : r < ((39700 : Nat) : Int) := g0b
  show hV _ _ _ _ _ [b, many, ic, under, pc, x, y, h, idx, val, q, r]
  refine hv13 (fun g1 => ?_)
  replace g1 : ((0 : Int) + (39700 * q + 0)) = ((0 : Int) + (1 * b + 0)) := g1
  refine hv7 (fun i g2 => ?_)
  replace g2 : ((40 : Nat) : Int) * i = ((-8299 : Int) + (1 * r + 0)) := g2
  show hV _ _ _ _ _ [b, many, ic, under, pc, x, y, h, idx, val, q, r, i]
  refine hv0 (fun g3 => ?_)
  replace g3 : (0 : Int) ≤ ((0 : Int) + (1 * i + 0)) := g3
  refine hv0 (fun g4 => ?_)
  replace g4 : (0 : Int) ≤ ((-1 : Int) + (1 * many + ((-1) * i + 0))) := g4
  refine hv0 (fun g5 => ?_)
  replace g5 : (0 : Int) ≤ ((-2 : Int) + (1 * under + 0)) := g5
  refine hv2 (fun w hag6 g6 => ?_)
  replace g6 : R 58 ((37312 : Int) + (1 * b + (300 * under + 0))) = w := g6
  replace hag6 : (0 : Int) ≤ ((37312 : Int) + (1 * b + (300 * under + 0))) := hag6
  replace g6 : fT (R 58) b (under - 1) = w := hF (R := R 58) g6 (ad_69 b under)
  show hV _ _ _ _ _ [b, many, ic, under, pc, x, y, h, idx, val, q, r, i, w]
  refine hv13 (fun g7 => ?_)
  replace g7 : ((0 : Int) + (1 * w + 0)) = ((0 : Int) + (1 * i + 0)) := g7
  refine hvC ?_
  refine ⟨rqi_12_8 (?_ : q12 ((0 : Int) + (1 * b + 0)) ((0 : Int) + (1 * many + 0)) ((0 : Int) + (1 * ic + 0)) ((0 : Int) + (1 * under + 0)) ((0 : Int) + (1 * pc + 0)) ((0 : Int) + (1 * x + 0)) ((0 : Int) + (1 * y + 0)) ((0 : Int) + (1 * h + 0)) ((hupR R 58 idx val) 58)), trivial⟩
  try simp only [Int.zero_add, Int.one_mul, Int.add_zero]
  have e : idx = b + 8292 + 7 + 40 * i := by omega
  rw [e]
  exact q12_w hq (by omega) (by omega) (Or.inr (Or.inr (Or.inl ⟨rfl, Or.inr ⟨rfl, by omega, by omega⟩⟩)))

theorem tS_12_8_20 : vS rQ 12 hs_12_8_20 := by
  refine ⟨fun _ => ?_, fun h => absurd h (by decide)⟩
  intro R G ps idx val hl i0 i1 hq
  replace i1 : idx < 238220 := i1
  obtain ⟨b, many, ic, under, pc, x, y, h, rfl⟩ := hl8 hl
  replace hq : q12 b many ic under pc x y h (R 58) := rqo_12_8 hq
  refine hv8 (fun q r g0 g0a g0b => ?_)
  replace g0 : ((0 : Int) + (1 * idx + 0)) = ((39700 : Nat) : Int) * q + r := g0
  replace g0b : r < ((39700 : Nat) : Int) := g0b
  show hV _ _ _ _ _ [b, many, ic, under, pc, x, y, h, idx, val, q, r]
  refine hv13 (fun g1 => ?_)
  replace g1 : ((0 : Int) + (39700 * q + 0)) = ((0 : Int) + (1 * b + 0)) := g1
  refine hv7 (fun i g2 => ?_)
  replace g2 : ((40 : Nat) : Int) * i = ((-8299 : Int) + (1 * r + 0)) := g2
  show hV _ _ _ _ _ [b, many, ic, under, pc, x, y, h, idx, val, q, r, i]
  refine hv0 (fun g3 => ?_)
  replace g3 : (0 : Int) ≤ ((0 : Int) + (1 * i + 0)) := g3
  refine hv0 (fun g4 => ?_)
  replace g4 : (0 : Int) ≤ ((-1 : Int) + (1 * many + ((-1) * i + 0))) := g4
  refine hvC ?_
  refine ⟨rqi_12_8 (?_ : q12 ((0 : Int) + (1 * b + 0)) ((0 : Int) + (1 * many + 0)) ((0 : Int) + (1 * ic + 0)) ((0 : Int) + (1 * under + 0)) ((0 : Int) + (1 * pc + 0)) ((0 : Int) + (1 * x + 0)) ((0 : Int) + (1 * y + 0)) ((0 : Int) + 0) ((hupR R 58 idx val) 58)), trivial⟩
  try simp only [Int.zero_add, Int.one_mul, Int.add_zero]
  have e : idx = b + 8292 + 7 + 40 * i := by omega
  rw [e]
  exact q12_w hq (by omega) (by omega) (Or.inr (Or.inr (Or.inl ⟨rfl, Or.inl rfl⟩)))

theorem tS_12_8_21 : vS rQ 12 hs_12_8_21 := by
  refine ⟨fun _ => ?_, fun h => absurd h (by decide)⟩
  intro R G ps idx val hl i0 i1 hq
  replace i1 : idx < 238220 := i1
  obtain ⟨b, many, ic, under, pc, x, y, h, rfl⟩ := hl8 hl
  replace hq : q12 b many ic under pc x y h (R 58) := rqo_12_8 hq
  refine hv8 (fun q r g0 g0a g0b => ?_)
  replace g0 : ((0 : Int) + (1 * idx + 0)) = ((39700 : Nat) : Int) * q + r := g0
  replace g0b : r < ((39700 : Nat) : Int) := g0b
  show hV _ _ _ _ _ [b, many, ic, under, pc, x, y, h, idx, val, q, r]
  refine hv13 (fun g1 => ?_)
  replace g1 : ((0 : Int) + (39700 * q + 0)) = ((0 : Int) + (1 * b + 0)) := g1
  refine hv7 (fun i g2 => ?_)
  replace g2 : ((40 : Nat) : Int) * i = ((-8296 : Int) + (1 * r + 0)) := g2
  show hV _ _ _ _ _ [b, many, ic, under, pc, x, y, h, idx, val, q, r, i]
  refine hv0 (fun g3 => ?_)
  replace g3 : (0 : Int) ≤ ((0 : Int) + (1 * i + 0)) := g3
  refine hv0 (fun g4 => ?_)
  replace g4 : (0 : Int) ≤ ((-1 : Int) + (1 * many + ((-1) * i + 0))) := g4
  refine hv0 (fun g5 => ?_)
  replace g5 : (0 : Int) ≤ ((-1 : Int) + (1 * under + 0)) := g5
  refine hv2 (fun w hag6 g6 => ?_)
  replace g6 : R 58 ((37312 : Int) + (1 * b + (300 * under + 0))) = w := g6
  replace hag6 : (0 : Int) ≤ ((37312 : Int) + (1 * b + (300 * under + 0))) := hag6
  replace g6 : fT (R 58) b (under - 1) = w := hF (R := R 58) g6 (ad_69 b under)
  show hV _ _ _ _ _ [b, many, ic, under, pc, x, y, h, idx, val, q, r, i, w]
  refine hv13 (fun g7 => ?_)
  replace g7 : ((0 : Int) + (1 * w + 0)) = ((0 : Int) + (1 * i + 0)) := g7
  refine hv2 (fun V hag8 g8 => ?_)
  replace g8 : R 58 ((8295 : Int) + (1 * b + (40 * i + 0))) = V := g8
  replace hag8 : (0 : Int) ≤ ((8295 : Int) + (1 * b + (40 * i + 0))) := hag8
  replace g8 : dV (R 58) b (i) = V := hF (R := R 58) g8 (ad_8 b i)
  show hV _ _ _ _ _ [b, many, ic, under, pc, x, y, h, idx, val, q, r, i, w, V]
  refine hv0 (fun g9 => ?_)
  replace g9 : (0 : Int) ≤ ((0 : Int) + (1 * val + 0)) := g9
  refine hv0 (fun g10 => ?_)
  replace g10 : (0 : Int) ≤ ((0 : Int) + (1 * ic + ((-1) * val + ((-1) * V + 0)))) := g10
  refine hvC ?_
  refine ⟨rqi_12_8 (?_ : q12 ((0 : Int) + (1 * b + 0)) ((0 : Int) + (1 * many + 0)) ((0 : Int) + (1 * ic + 0)) ((0 : Int) + (1 * under + 0)) ((0 : Int) + (1 * pc + 0)) ((0 : Int) + (1 * x + 0)) ((0 : Int) + (1 * y + 0)) ((0 : Int) + (1 * h + 0)) ((hupR R 58 idx val) 58)), trivial⟩
  try simp only [Int.zero_add, Int.one_mul, Int.add_zero]
  have e : idx = b + 8292 + 4 + 40 * i := by omega
  rw [e]
  exact q12_w hq (by omega) (by omega) (Or.inr (Or.inr (Or.inr ⟨rfl, rfl, by omega, by omega, by omega, by omega⟩)))

theorem tS_12_8_22 : vS rQ 12 hs_12_8_22 := by
  refine ⟨fun _ => ?_, fun h => absurd h (by decide)⟩
  intro R G ps idx val hl i0 i1 hq
  replace i1 : idx < 238220 := i1
  obtain ⟨b, many, ic, under, pc, x, y, h, rfl⟩ := hl8 hl
  replace hq : q12 b many ic under pc x y h (R 58) := rqo_12_8 hq
  refine hv8 (fun q r g0 g0a g0b => ?_)
  replace g0 : ((0 : Int) + (1 * idx + 0)) = ((39700 : Nat) : Int) * q + r := g0
  replace g0b : r < ((39700 : Nat) : Int) := g0b
  show hV _ _ _ _ _ [b, many, ic, under, pc, x, y, h, idx, val, q, r]
  refine hv13 (fun g1 => ?_)
  replace g1 : ((0 : Int) + (39700 * q + 0)) = ((0 : Int) + (1 * b + 0)) := g1
  refine hv7 (fun k g2 => ?_)
  replace g2 : ((2 : Nat) : Int) * k = ((-22693 : Int) + (1 * r + 0)) := g2
  show hV _ _ _ _ _ [b, many, ic, under, pc, x, y, h, idx, val, q, r, k]
  refine hv0 (fun g3 => ?_)
  replace g3 : (0 : Int) ≤ ((0 : Int) + (1 * k + 0)) := g3
  refine hv0 (fun g4 => ?_)
  replace g4 : (0 : Int) ≤ ((-1 : Int) + (1 * ic + ((-1) * k + 0))) := g4
  refine hv2 (fun kk hag5 g5 => ?_)
  replace g5 : R 58 ((22692 : Int) + (1 * b + (2 * k + 0))) = kk := g5
  replace hag5 : (0 : Int) ≤ ((22692 : Int) + (1 * b + (2 * k + 0))) := hag5
  replace g5 : iK (R 58) b (k) = kk := hF (R := R 58) g5 (ad_38 b k)
  show hV _ _ _ _ _ [b, many, ic, under, pc, x, y, h, idx, val, q, r, k, kk]
  refine hv13 (fun g6 => ?_)
  replace g6 : ((0 : Int) + (1 * kk + 0)) = ((1 : Int) + 0) := g6
  refine hvC ?_
  refine ⟨rqi_12_8 (?_ : q12 ((0 : Int) + (1 * b + 0)) ((0 : Int) + (1 * many + 0)) ((0 : Int) + (1 * ic + 0)) ((0 : Int) + (1 * under + 0)) ((0 : Int) + (1 * pc + 0)) ((0 : Int) + (1 * x + 0)) ((0 : Int) + (1 * y + 0)) ((0 : Int) + (1 * h + 0)) ((hupR R 58 idx val) 58)), trivial⟩
  try simp only [Int.zero_add, Int.one_mul, Int.add_zero]
  have e : idx = b + 22693 + 2 * k := by omega
  rw [e]
  exact q12_n hq (by omega) (by omega) (Or.inl (by omega))

theorem tS_12_8_23 : vS rQ 12 hs_12_8_23 := by
  refine ⟨fun _ => ?_, fun h => absurd h (by decide)⟩
  intro R G ps idx val hl i0 i1 hq
  replace i1 : idx < 238220 := i1
  obtain ⟨b, many, ic, under, pc, x, y, h, rfl⟩ := hl8 hl
  replace hq : q12 b many ic under pc x y h (R 58) := rqo_12_8 hq
  refine hv8 (fun q r g0 g0a g0b => ?_)
  replace g0 : ((0 : Int) + (1 * idx + 0)) = ((39700 : Nat) : Int) * q + r := g0
  replace g0b : r < ((39700 : Nat) : Int) := g0b
  show hV _ _ _ _ _ [b, many, ic, under, pc, x, y, h, idx, val, q, r]
  refine hv13 (fun g1 => ?_)
  replace g1 : ((0 : Int) + (39700 * q + 0)) = ((0 : Int) + (1 * b + 0)) := g1
  refine hv7 (fun k g2 => ?_)
  replace g2 : ((2 : Nat) : Int) * k = ((-22693 : Int) + (1 * r + 0)) := g2
  show hV _ _ _ _ _ [b, many, ic, under, pc, x, y, h, idx, val, q, r, k]
  refine hv0 (fun g3 => ?_)
  replace g3 : (0 : Int) ≤ ((0 : Int) + (1 * k + 0)) := g3
  refine hv0 (fun g4 => ?_)
  replace g4 : (0 : Int) ≤ ((-1 : Int) + (1 * ic + ((-1) * k + 0))) := g4
  refine hv13 (fun g5 => ?_)
  replace g5 : ((0 : Int) + (1 * val + 0)) = ((0 : Int) + (1 * ic + 0)) := g5
  refine hv0 (fun g6 => ?_)
  replace g6 : (0 : Int) ≤ ((-1 : Int) + (1 * pc + 0)) := g6
  refine hv2 (fun l hag7 g7 => ?_)
  replace g7 : R 58 ((37415 : Int) + (1 * b + (6 * pc + 0))) = l := g7
  replace hag7 : (0 : Int) ≤ ((37415 : Int) + (1 * b + (6 * pc + 0))) := hag7
  replace g7 : pP (R 58) b (pc - 1) = l := hF (R := R 58) g7 (ad_11 b pc)
  show hV _ _ _ _ _ [b, many, ic, under, pc, x, y, h, idx, val, q, r, k, l]
  refine hv13 (fun g8 => ?_)
  replace g8 : ((0 : Int) + (1 * l + 0)) = ((0 : Int) + (1 * k + 0)) := g8
  refine hv2 (fun pk hag9 g9 => ?_)
  replace g9 : R 58 ((37414 : Int) + (1 * b + (6 * pc + 0))) = pk := g9
  replace hag9 : (0 : Int) ≤ ((37414 : Int) + (1 * b + (6 * pc + 0))) := hag9
  replace g9 : pK (R 58) b (pc - 1) = pk := hF (R := R 58) g9 (ad_10 b pc)
  show hV _ _ _ _ _ [b, many, ic, under, pc, x, y, h, idx, val, q, r, k, l, pk]
  refine hv10 (fun g10 => ?_)
  replace g10 : ((0 : Int) + (1 * pk + 0)) = (1 : Int) ∨ ((0 : Int) + (1 * pk + 0)) = (5 : Int) ∨ ((0 : Int) + (1 * pk + 0)) = (6 : Int) := g10
  refine hv5 (fun g11 => ?_)
  replace g11 : dNx (R 58) ((0 : Int) + (1 * b + 0)) ((0 : Int) + (1 * ic + 0)) ((0 : Int) + (1 * under + 0)) ((0 : Int) + (1 * pc + 0)) ((0 : Int) + (1 * x + 0)) := rqo_19_5 g11
  simp only [Int.zero_add, Int.one_mul, Int.add_zero] at g11
  refine hvC ?_
  refine ⟨rqi_12_8 (?_ : q12 ((0 : Int) + (1 * b + 0)) ((0 : Int) + (1 * many + 0)) ((0 : Int) + (1 * ic + 0)) ((0 : Int) + (1 * under + 0)) ((0 : Int) + (1 * pc + 0)) ((-1 : Int) + 0) ((0 : Int) + (1 * y + 0)) ((0 : Int) + (1 * h + 0)) ((hupR R 58 idx val) 58)), trivial⟩
  try simp only [Int.zero_add, Int.one_mul, Int.add_zero]
  have e : idx = b + 22693 + 2 * k := by omega
  rw [e]
  obtain ⟨z, hD, hh⟩ := hq
  have hq : q12 b many ic under pc (-1) y h (R 58) := ⟨z, dm_x hD g11, hh⟩
  have t := pairlead hD (by omega) (by omega)
  rw [show pP (R 58) b (pc - 1) = k by omega] at t
  exact q12_n hq (by omega) (by omega) (Or.inr ⟨t.1, t.2.1, t.2.2, by omega, fun _ c => by omega⟩)

theorem tS_12_8_24 : vS rQ 12 hs_12_8_24 := by
  refine ⟨fun _ => ?_, fun h => absurd h (by decide)⟩
  intro R G ps idx val hl i0 i1 hq
  replace i1 : idx < 238220 := i1
  obtain ⟨b, many, ic, under, pc, x, y, h, rfl⟩ := hl8 hl
  replace hq : q12 b many ic under pc x y h (R 58) := rqo_12_8 hq
  refine hv8 (fun q r g0 g0a g0b => ?_)
  replace g0 : ((0 : Int) + (1 * idx + 0)) = ((39700 : Nat) : Int) * q + r := g0
  replace g0b : r < ((39700 : Nat) : Int) := g0b
  show hV _ _ _ _ _ [b, many, ic, under, pc, x, y, h, idx, val, q, r]
  refine hv13 (fun g1 => ?_)
  replace g1 : ((0 : Int) + (39700 * q + 0)) = ((0 : Int) + (1 * b + 0)) := g1
  refine hv7 (fun k g2 => ?_)
  replace g2 : ((2 : Nat) : Int) * k = ((-22693 : Int) + (1 * r + 0)) := g2
  show hV _ _ _ _ _ [b, many, ic, under, pc, x, y, h, idx, val, q, r, k]
  refine hv0 (fun g3 => ?_)
  replace g3 : (0 : Int) ≤ ((0 : Int) + (1 * k + 0)) := g3
  refine hv0 (fun g4 => ?_)
  replace g4 : (0 : Int) ≤ ((-1 : Int) + (1 * ic + ((-1) * k + 0))) := g4
  refine hv13 (fun g5 => ?_)
  replace g5 : ((0 : Int) + (1 * val + 0)) = ((0 : Int) + (1 * ic + 0)) := g5
  refine hv0 (fun g6 => ?_)
  replace g6 : (0 : Int) ≤ ((-1 : Int) + (1 * pc + 0)) := g6
  refine hv2 (fun l hag7 g7 => ?_)
  replace g7 : R 58 ((37415 : Int) + (1 * b + (6 * pc + 0))) = l := g7
  replace hag7 : (0 : Int) ≤ ((37415 : Int) + (1 * b + (6 * pc + 0))) := hag7
  replace g7 : pP (R 58) b (pc - 1) = l := hF (R := R 58) g7 (ad_11 b pc)
  show hV _ _ _ _ _ [b, many, ic, under, pc, x, y, h, idx, val, q, r, k, l]
  refine hv13 (fun g8 => ?_)
  replace g8 : ((0 : Int) + (1 * l + 0)) = ((0 : Int) + (1 * k + 0)) := g8
  refine hv2 (fun pk hag9 g9 => ?_)
  replace g9 : R 58 ((37414 : Int) + (1 * b + (6 * pc + 0))) = pk := g9
  replace hag9 : (0 : Int) ≤ ((37414 : Int) + (1 * b + (6 * pc + 0))) := hag9
  replace g9 : pK (R 58) b (pc - 1) = pk := hF (R := R 58) g9 (ad_10 b pc)
  show hV _ _ _ _ _ [b, many, ic, under, pc, x, y, h, idx, val, q, r, k, l, pk]
  refine hv10 (fun g10 => ?_)
  replace g10 : ((0 : Int) + (1 * pk + 0)) = (1 : Int) ∨ ((0 : Int) + (1 * pk + 0)) = (5 : Int) ∨ ((0 : Int) + (1 * pk + 0)) = (6 : Int) := g10
  refine hv2 (fun kx hag11 g11 => ?_)
  replace g11 : R 58 ((22692 : Int) + (1 * b + (2 * x + 0))) = kx := g11
  replace hag11 : (0 : Int) ≤ ((22692 : Int) + (1 * b + (2 * x + 0))) := hag11
  replace g11 : iK (R 58) b (x) = kx := hF (R := R 58) g11 (ad_12 b x)
  show hV _ _ _ _ _ [b, many, ic, under, pc, x, y, h, idx, val, q, r, k, l, pk, kx]
  refine hv1 (fun g12 => ?_)
  replace g12 : ((0 : Int) + (1 * kx + 0)) ≠ ((0 : Int) + 0) := g12
  refine hvC ?_
  refine ⟨rqi_12_8 (?_ : q12 ((0 : Int) + (1 * b + 0)) ((0 : Int) + (1 * many + 0)) ((0 : Int) + (1 * ic + 0)) ((0 : Int) + (1 * under + 0)) ((0 : Int) + (1 * pc + 0)) ((0 : Int) + (1 * x + 0)) ((0 : Int) + (1 * y + 0)) ((0 : Int) + (1 * h + 0)) ((hupR R 58 idx val) 58)), trivial⟩
  try simp only [Int.zero_add, Int.one_mul, Int.add_zero]
  have e : idx = b + 22693 + 2 * k := by omega
  rw [e]
  obtain ⟨z, hD, hh⟩ := id hq
  have t := pairlead hD (by omega) (by omega)
  rw [show pP (R 58) b (pc - 1) = k by omega] at t
  exact q12_n hq (by omega) (by omega) (Or.inr ⟨t.1, t.2.1, t.2.2, by omega, fun _ c => by omega⟩)

theorem tS_12_8_25 : vS rQ 12 hs_12_8_25 := by
  refine ⟨fun _ => ?_, fun h => absurd h (by decide)⟩
  intro R G ps idx val hl i0 i1 hq
  replace i1 : idx < 238220 := i1
  obtain ⟨b, many, ic, under, pc, x, y, h, rfl⟩ := hl8 hl
  replace hq : q12 b many ic under pc x y h (R 58) := rqo_12_8 hq
  refine hv8 (fun q r g0 g0a g0b => ?_)
  replace g0 : ((0 : Int) + (1 * idx + 0)) = ((39700 : Nat) : Int) * q + r := g0
  replace g0b : r < ((39700 : Nat) : Int) := g0b
  show hV _ _ _ _ _ [b, many, ic, under, pc, x, y, h, idx, val, q, r]
  refine hv13 (fun g1 => ?_)
  replace g1 : ((0 : Int) + (39700 * q + 0)) = ((0 : Int) + (1 * b + 0)) := g1
  refine hv7 (fun k g2 => ?_)
  replace g2 : ((2 : Nat) : Int) * k = ((-22693 : Int) + (1 * r + 0)) := g2
  show hV _ _ _ _ _ [b, many, ic, under, pc, x, y, h, idx, val, q, r, k]
  refine hv0 (fun g3 => ?_)
  replace g3 : (0 : Int) ≤ ((0 : Int) + (1 * k + 0)) := g3
  refine hv0 (fun g4 => ?_)
  replace g4 : (0 : Int) ≤ ((-1 : Int) + (1 * ic + ((-1) * k + 0))) := g4
  refine hv13 (fun g5 => ?_)
  replace g5 : ((0 : Int) + (1 * val + 0)) = ((0 : Int) + (1 * ic + 0)) := g5
  refine hv0 (fun g6 => ?_)
  replace g6 : (0 : Int) ≤ ((-1 : Int) + (1 * pc + 0)) := g6
  refine hv2 (fun l hag7 g7 => ?_)
  replace g7 : R 58 ((37415 : Int) + (1 * b + (6 * pc + 0))) = l := g7
  replace hag7 : (0 : Int) ≤ ((37415 : Int) + (1 * b + (6 * pc + 0))) := hag7
  replace g7 : pP (R 58) b (pc - 1) = l := hF (R := R 58) g7 (ad_11 b pc)
  show hV _ _ _ _ _ [b, many, ic, under, pc, x, y, h, idx, val, q, r, k, l]
  refine hv13 (fun g8 => ?_)
  replace g8 : ((0 : Int) + (1 * l + 0)) = ((0 : Int) + (1 * k + 0)) := g8
  refine hv2 (fun pk hag9 g9 => ?_)
  replace g9 : R 58 ((37414 : Int) + (1 * b + (6 * pc + 0))) = pk := g9
  replace hag9 : (0 : Int) ≤ ((37414 : Int) + (1 * b + (6 * pc + 0))) := hag9
  replace g9 : pK (R 58) b (pc - 1) = pk := hF (R := R 58) g9 (ad_10 b pc)
  show hV _ _ _ _ _ [b, many, ic, under, pc, x, y, h, idx, val, q, r, k, l, pk]
  refine hv13 (fun g10 => ?_)
  replace g10 : ((0 : Int) + (1 * pk + 0)) = ((3 : Int) + 0) := g10
  refine hv2 (fun kk hag11 g11 => ?_)
  replace g11 : R 58 ((22692 : Int) + (1 * b + (2 * k + 0))) = kk := g11
  replace hag11 : (0 : Int) ≤ ((22692 : Int) + (1 * b + (2 * k + 0))) := hag11
  replace g11 : iK (R 58) b (k) = kk := hF (R := R 58) g11 (ad_38 b k)
  show hV _ _ _ _ _ [b, many, ic, under, pc, x, y, h, idx, val, q, r, k, l, pk, kk]
  refine hv13 (fun g12 => ?_)
  replace g12 : ((0 : Int) + (1 * kk + 0)) = ((5 : Int) + 0) := g12
  refine hv5 (fun g13 => ?_)
  replace g13 : dNx (R 58) ((0 : Int) + (1 * b + 0)) ((0 : Int) + (1 * ic + 0)) ((0 : Int) + (1 * under + 0)) ((0 : Int) + (1 * pc + 0)) ((0 : Int) + (1 * x + 0)) := rqo_19_5 g13
  simp only [Int.zero_add, Int.one_mul, Int.add_zero] at g13
  refine hvC ?_
  refine ⟨rqi_12_8 (?_ : q12 ((0 : Int) + (1 * b + 0)) ((0 : Int) + (1 * many + 0)) ((0 : Int) + (1 * ic + 0)) ((0 : Int) + (1 * under + 0)) ((0 : Int) + (1 * pc + 0)) ((-1 : Int) + 0) ((0 : Int) + (1 * y + 0)) ((0 : Int) + (1 * h + 0)) ((hupR R 58 idx val) 58)), trivial⟩
  try simp only [Int.zero_add, Int.one_mul, Int.add_zero]
  have e : idx = b + 22693 + 2 * k := by omega
  rw [e]
  obtain ⟨z, hD, hh⟩ := hq
  have hq : q12 b many ic under pc (-1) y h (R 58) := ⟨z, dm_x hD g13, hh⟩
  have hpc : 1 ≤ pc := by omega
  have hu := u1of hD hpc
  obtain ⟨-, -, -, -, -, -, -, -, -, -, -, u1⟩ := id hD
  obtain ⟨⟨-, -, -, -, -, -, o7, o8⟩, -, -, -, df, -, pr, -⟩ := u1 hu
  obtain ⟨p1, p2, p3, p4, p5, p6⟩ := pr (pc - 1) (by omega) (by omega)
  obtain ⟨-, -, l3, l4, l5, l6, l7⟩ := lp hD (p := pc - 1) (by omega) (by omega)
  have e1 : pP (R 58) b (pc - 1) = l := by omega
  rw [e1] at p1 p2 l4 l5 l6 l7
  exact q12_n hq (by omega) (by omega) (Or.inr ⟨(by unfold ild; omega), hu, by omega, by omega, fun _ c => by omega⟩)

theorem tS_12_8_26 : vS rQ 12 hs_12_8_26 := by
  refine ⟨fun _ => ?_, fun h => absurd h (by decide)⟩
  intro R G ps idx val hl i0 i1 hq
  replace i1 : idx < 238220 := i1
  obtain ⟨b, many, ic, under, pc, x, y, h, rfl⟩ := hl8 hl
  replace hq : q12 b many ic under pc x y h (R 58) := rqo_12_8 hq
  refine hv8 (fun q r g0 g0a g0b => ?_)
  replace g0 : ((0 : Int) + (1 * idx + 0)) = ((39700 : Nat) : Int) * q + r := g0
  replace g0b : r < ((39700 : Nat) : Int) := g0b
  show hV _ _ _ _ _ [b, many, ic, under, pc, x, y, h, idx, val, q, r]
  refine hv13 (fun g1 => ?_)
  replace g1 : ((0 : Int) + (39700 * q + 0)) = ((0 : Int) + (1 * b + 0)) := g1
  refine hv7 (fun k g2 => ?_)
  replace g2 : ((2 : Nat) : Int) * k = ((-22693 : Int) + (1 * r + 0)) := g2
  show hV _ _ _ _ _ [b, many, ic, under, pc, x, y, h, idx, val, q, r, k]
  refine hv0 (fun g3 => ?_)
  replace g3 : (0 : Int) ≤ ((0 : Int) + (1 * k + 0)) := g3
  refine hv0 (fun g4 => ?_)
  replace g4 : (0 : Int) ≤ ((-1 : Int) + (1 * ic + ((-1) * k + 0))) := g4
  refine hv13 (fun g5 => ?_)
  replace g5 : ((0 : Int) + (1 * val + 0)) = ((0 : Int) + (1 * ic + 0)) := g5
  refine hv0 (fun g6 => ?_)
  replace g6 : (0 : Int) ≤ ((-1 : Int) + (1 * pc + 0)) := g6
  refine hv2 (fun kk hag7 g7 => ?_)
  replace g7 : R 58 ((22692 : Int) + (1 * b + (2 * k + 0))) = kk := g7
  replace hag7 : (0 : Int) ≤ ((22692 : Int) + (1 * b + (2 * k + 0))) := hag7
  replace g7 : iK (R 58) b (k) = kk := hF (R := R 58) g7 (ad_38 b k)
  show hV _ _ _ _ _ [b, many, ic, under, pc, x, y, h, idx, val, q, r, k, kk]
  refine hv13 (fun g8 => ?_)
  replace g8 : ((0 : Int) + (1 * kk + 0)) = ((8 : Int) + 0) := g8
  refine hv2 (fun l hag9 g9 => ?_)
  replace g9 : R 58 ((37415 : Int) + (1 * b + (6 * pc + 0))) = l := g9
  replace hag9 : (0 : Int) ≤ ((37415 : Int) + (1 * b + (6 * pc + 0))) := hag9
  replace g9 : pP (R 58) b (pc - 1) = l := hF (R := R 58) g9 (ad_11 b pc)
  show hV _ _ _ _ _ [b, many, ic, under, pc, x, y, h, idx, val, q, r, k, kk, l]
  refine hv0 (fun g10 => ?_)
  replace g10 : (0 : Int) ≤ ((0 : Int) + (1 * k + ((-1) * l + 0))) := g10
  refine hv5 (fun g11 => ?_)
  replace g11 : dNx (R 58) ((0 : Int) + (1 * b + 0)) ((0 : Int) + (1 * ic + 0)) ((0 : Int) + (1 * under + 0)) ((0 : Int) + (1 * pc + 0)) ((0 : Int) + (1 * x + 0)) := rqo_19_5 g11
  simp only [Int.zero_add, Int.one_mul, Int.add_zero] at g11
  refine hvC ?_
  refine ⟨rqi_12_8 (?_ : q12 ((0 : Int) + (1 * b + 0)) ((0 : Int) + (1 * many + 0)) ((0 : Int) + (1 * ic + 0)) ((0 : Int) + (1 * under + 0)) ((0 : Int) + (1 * pc + 0)) ((-1 : Int) + 0) ((0 : Int) + (1 * y + 0)) ((0 : Int) + (1 * h + 0)) ((hupR R 58 idx val) 58)), trivial⟩
  try simp only [Int.zero_add, Int.one_mul, Int.add_zero]
  have e : idx = b + 22693 + 2 * k := by omega
  rw [e]
  obtain ⟨z, hD, hh⟩ := hq
  have hq : q12 b many ic under pc (-1) y h (R 58) := ⟨z, dm_x hD g11, hh⟩
  have hpc : 1 ≤ pc := by omega
  have hu := u1of hD hpc
  obtain ⟨-, -, -, -, -, -, -, -, -, -, -, u1⟩ := id hD
  obtain ⟨⟨-, -, -, -, -, -, o7, o8⟩, -, -, -, df, -, pr, -⟩ := u1 hu
  obtain ⟨p1, p2, p3, p4, p5, p6⟩ := pr (pc - 1) (by omega) (by omega)
  obtain ⟨-, -, l3, l4, l5, l6, l7⟩ := lp hD (p := pc - 1) (by omega) (by omega)
  have e1 : pP (R 58) b (pc - 1) = l := by omega
  rw [e1] at p1 p2 l4 l5 l6 l7
  exact q12_n hq (by omega) (by omega) (Or.inr ⟨(by unfold ild; omega), hu, by omega, by omega, fun _ c => by omega⟩)

theorem tS_12_8_27 : vS rQ 12 hs_12_8_27 := by
  refine ⟨fun _ => ?_, fun h => absurd h (by decide)⟩
  intro R G ps idx val hl i0 i1 hq
  replace i1 : idx < 238220 := i1
  obtain ⟨b, many, ic, under, pc, x, y, h, rfl⟩ := hl8 hl
  replace hq : q12 b many ic under pc x y h (R 58) := rqo_12_8 hq
  refine hv8 (fun q r g0 g0a g0b => ?_)
  replace g0 : ((0 : Int) + (1 * idx + 0)) = ((39700 : Nat) : Int) * q + r := g0
  replace g0b : r < ((39700 : Nat) : Int) := g0b
  show hV _ _ _ _ _ [b, many, ic, under, pc, x, y, h, idx, val, q, r]
  refine hv13 (fun g1 => ?_)
  replace g1 : ((0 : Int) + (39700 * q + 0)) = ((0 : Int) + (1 * b + 0)) := g1
  refine hv7 (fun k g2 => ?_)
  replace g2 : ((2 : Nat) : Int) * k = ((-22693 : Int) + (1 * r + 0)) := g2
  show hV _ _ _ _ _ [b, many, ic, under, pc, x, y, h, idx, val, q, r, k]
  refine hv0 (fun g3 => ?_)
  replace g3 : (0 : Int) ≤ ((0 : Int) + (1 * k + 0)) := g3
  refine hv0 (fun g4 => ?_)
  replace g4 : (0 : Int) ≤ ((-1 : Int) + (1 * ic + ((-1) * k + 0))) := g4
  refine hv13 (fun g5 => ?_)
  replace g5 : ((0 : Int) + (1 * val + 0)) = ((0 : Int) + (1 * ic + 0)) := g5
  refine hv0 (fun g6 => ?_)
  replace g6 : (0 : Int) ≤ ((-2 : Int) + (1 * under + 0)) := g6
  refine hv2 (fun w hag7 g7 => ?_)
  replace g7 : R 58 ((37319 : Int) + (1 * b + (300 * under + 0))) = w := g7
  replace hag7 : (0 : Int) ≤ ((37319 : Int) + (1 * b + (300 * under + 0))) := hag7
  replace g7 : fJ (R 58) b (under - 1) = w := hF (R := R 58) g7 (ad_98 b under)
  show hV _ _ _ _ _ [b, many, ic, under, pc, x, y, h, idx, val, q, r, k, w]
  refine hv13 (fun g8 => ?_)
  replace g8 : ((0 : Int) + (1 * w + 0)) = ((0 : Int) + (1 * k + 0)) := g8
  refine hvC ?_
  refine ⟨rqi_12_8 (?_ : q12 ((0 : Int) + (1 * b + 0)) ((0 : Int) + (1 * many + 0)) ((0 : Int) + (1 * ic + 0)) ((0 : Int) + (1 * under + 0)) ((0 : Int) + (1 * pc + 0)) ((0 : Int) + (1 * x + 0)) ((0 : Int) + (1 * y + 0)) ((0 : Int) + (1 * h + 0)) ((hupR R 58 idx val) 58)), trivial⟩
  try simp only [Int.zero_add, Int.one_mul, Int.add_zero]
  have e : idx = b + 22693 + 2 * k := by omega
  rw [e]
  obtain ⟨z, hD, hh⟩ := id hq
  have hu : 1 ≤ under := by omega
  obtain ⟨-, -, -, -, -, -, -, -, -, -, -, u1⟩ := id hD
  obtain ⟨-, -, -, -, df, -⟩ := u1 hu
  obtain ⟨-, -, -, -, d5⟩ := df (under - 1) (by omega) (by omega)
  obtain ⟨e1, e2, e3, e4, e5⟩ := d5 (by omega)
  rw [show fJ (R 58) b (under - 1) = k by omega] at e3 e4 e5
  exact q12_n hq (by omega) (by omega) (Or.inr ⟨Or.inl e5, hu, by omega, by omega, fun c _ => by omega⟩)

theorem tS_12_8_28 : vS rQ 12 hs_12_8_28 := by
  refine ⟨fun _ => ?_, fun h => absurd h (by decide)⟩
  intro R G ps idx val hl i0 i1 hq
  replace i1 : idx < 238220 := i1
  obtain ⟨b, many, ic, under, pc, x, y, h, rfl⟩ := hl8 hl
  replace hq : q12 b many ic under pc x y h (R 58) := rqo_12_8 hq
  refine hv8 (fun q r g0 g0a g0b => ?_)
  replace g0 : ((0 : Int) + (1 * idx + 0)) = ((39700 : Nat) : Int) * q + r := g0
  replace g0b : r < ((39700 : Nat) : Int) := g0b
  show hV _ _ _ _ _ [b, many, ic, under, pc, x, y, h, idx, val, q, r]
  refine hv13 (fun g1 => ?_)
  replace g1 : ((0 : Int) + (39700 * q + 0)) = ((0 : Int) + (1 * b + 0)) := g1
  refine hv7 (fun k g2 => ?_)
  replace g2 : ((2 : Nat) : Int) * k = ((-22693 : Int) + (1 * r + 0)) := g2
  show hV _ _ _ _ _ [b, many, ic, under, pc, x, y, h, idx, val, q, r, k]
  refine hv0 (fun g3 => ?_)
  replace g3 : (0 : Int) ≤ ((0 : Int) + (1 * k + 0)) := g3
  refine hv0 (fun g4 => ?_)
  replace g4 : (0 : Int) ≤ ((-1 : Int) + (1 * ic + ((-1) * k + 0))) := g4
  refine hv13 (fun g5 => ?_)
  replace g5 : ((0 : Int) + (1 * val + 0)) = ((0 : Int) + (1 * ic + 0)) := g5
  refine hv4 (hm3 (fun b2 l u g6 => ?_))
  replace g6 : q15 b2 l u (R 58) := rqo_15_3 g6
  refine hmb rfl ?_
  show hmt _ _ _ [b, many, ic, under, pc, x, y, h, idx, val, q, r, k, b2]
  refine hmb rfl ?_
  show hmt _ _ _ [b, many, ic, under, pc, x, y, h, idx, val, q, r, k, b2, l]
  refine hmb rfl ?_
  show hmt _ _ _ [b, many, ic, under, pc, x, y, h, idx, val, q, r, k, b2, l, u]
  refine hmn ?_
  show hV _ _ _ _ _ [b, many, ic, under, pc, x, y, h, idx, val, q, r, k, b2, l, u]
  refine hv13 (fun g7 => ?_)
  replace g7 : ((0 : Int) + (1 * b2 + 0)) = ((0 : Int) + (1 * b + 0)) := g7
  refine hv6 (fun p w g8 => ?_)
  replace g8 : R 58 (((37421 : Int) + (1 * b + 0)) + ((6 : Nat) : Int) * p) = w := g8
  replace g8 : pP (R 58) b (p) = w := hF (R := R 58) g8 (ad_17 b p)
  show hV _ _ _ _ _ [b, many, ic, under, pc, x, y, h, idx, val, q, r, k, b2, l, u, p, w]
  refine hv13 (fun g9 => ?_)
  replace g9 : ((0 : Int) + (1 * w + 0)) = ((0 : Int) + (1 * k + 0)) := g9
  refine hv0 (fun g10 => ?_)
  replace g10 : (0 : Int) ≤ ((0 : Int) + ((-1) * l + (1 * p + 0))) := g10
  refine hv0 (fun g11 => ?_)
  replace g11 : (0 : Int) ≤ ((-1 : Int) + (1 * u + ((-1) * p + 0))) := g11
  refine hv0 (fun g12 => ?_)
  replace g12 : (0 : Int) ≤ ((-1 : Int) + (1 * pc + ((-1) * p + 0))) := g12
  refine hv0 (fun g13 => ?_)
  replace g13 : (0 : Int) ≤ ((0 : Int) + (1 * p + 0)) := g13
  refine hv5 (fun g14 => ?_)
  replace g14 : dNx (R 58) ((0 : Int) + (1 * b + 0)) ((0 : Int) + (1 * ic + 0)) ((0 : Int) + (1 * under + 0)) ((0 : Int) + (1 * pc + 0)) ((0 : Int) + (1 * x + 0)) := rqo_19_5 g14
  simp only [Int.zero_add, Int.one_mul, Int.add_zero] at g14
  refine hvC ?_
  refine ⟨rqi_12_8 (?_ : q12 ((0 : Int) + (1 * b + 0)) ((0 : Int) + (1 * many + 0)) ((0 : Int) + (1 * ic + 0)) ((0 : Int) + (1 * under + 0)) ((0 : Int) + (1 * pc + 0)) ((-1 : Int) + 0) ((0 : Int) + (1 * y + 0)) ((0 : Int) + (1 * h + 0)) ((hupR R 58 idx val) 58)), trivial⟩
  try simp only [Int.zero_add, Int.one_mul, Int.add_zero]
  have e : idx = b + 22693 + 2 * k := by omega
  rw [e]
  obtain ⟨z, hD, hh⟩ := hq
  have hq : q12 b many ic under pc (-1) y h (R 58) := ⟨z, dm_x hD g14, hh⟩
  have hu := u1of hD (by omega)
  obtain ⟨-, -, -, -, -, -, -, -, -, -, -, u1⟩ := id hD
  obtain ⟨-, -, -, -, -, -, pr, -⟩ := u1 hu
  obtain ⟨p1, p2, p3, p4, p5, p6⟩ := pr p (by omega) (by omega)
  have k6 : pK (R 58) b p = 6 := by
    rw [← show b2 = b by omega]
    exact g6 p (by omega) (by omega)
  have q6 := p6 k6
  rw [show pP (R 58) b p = k by omega] at p1 q6
  exact q12_n hq (by omega) (by omega) (Or.inr ⟨Or.inl q6.2, hu, by omega, by omega, fun _ c => by omega⟩)

theorem tS_12_8_29 : vS rQ 12 hs_12_8_29 := by
  refine ⟨fun _ => ?_, fun h => absurd h (by decide)⟩
  intro R G ps idx val hl i0 i1 hq
  replace i1 : idx < 238220 := i1
  obtain ⟨b, many, ic, under, pc, x, y, h, rfl⟩ := hl8 hl
  replace hq : q12 b many ic under pc x y h (R 58) := rqo_12_8 hq
  refine hv8 (fun q r g0 g0a g0b => ?_)
  replace g0 : ((0 : Int) + (1 * idx + 0)) = ((39700 : Nat) : Int) * q + r := g0
  replace g0b : r < ((39700 : Nat) : Int) := g0b
  show hV _ _ _ _ _ [b, many, ic, under, pc, x, y, h, idx, val, q, r]
  refine hv13 (fun g1 => ?_)
  replace g1 : ((0 : Int) + (39700 * q + 0)) = ((0 : Int) + (1 * b + 0)) := g1
  refine hv0 (fun g2 => ?_)
  replace g2 : (0 : Int) ≤ ((-39112 : Int) + (1 * r + 0)) := g2
  refine hv0 (fun g3 => ?_)
  replace g3 : (0 : Int) ≤ ((39623 : Int) + ((-1) * r + 0)) := g3
  refine hv8 (fun s so g4 g4a g4b => ?_)
  replace g4 : ((-39112 : Int) + (1 * r + 0)) = ((16 : Nat) : Int) * s + so := g4
  replace g4b : so < ((16 : Nat) : Int) := g4b
  show hV _ _ _ _ _ [b, many, ic, under, pc, x, y, h, idx, val, q, r, s, so]
  refine hv4 (hm3 (fun b2 s2 k2 g5 => ?_))
  replace g5 : q14 b2 s2 k2 (R 58) := rqo_14_3 g5
  refine hmb rfl ?_
  show hmt _ _ _ [b, many, ic, under, pc, x, y, h, idx, val, q, r, s, so, b2]
  refine hmb rfl ?_
  show hmt _ _ _ [b, many, ic, under, pc, x, y, h, idx, val, q, r, s, so, b2, s2]
  refine hmb rfl ?_
  show hmt _ _ _ [b, many, ic, under, pc, x, y, h, idx, val, q, r, s, so, b2, s2, k2]
  refine hmn ?_
  show hV _ _ _ _ _ [b, many, ic, under, pc, x, y, h, idx, val, q, r, s, so, b2, s2, k2]
  refine hv13 (fun g6 => ?_)
  replace g6 : ((0 : Int) + (1 * b2 + 0)) = ((0 : Int) + (1 * b + 0)) := g6
  refine hv13 (fun g7 => ?_)
  replace g7 : ((0 : Int) + (1 * s2 + 0)) = ((0 : Int) + (1 * s + 0)) := g7
  refine hv0 (fun g8 => ?_)
  replace g8 : (0 : Int) ≤ ((0 : Int) + ((-1) * many + (1 * k2 + 0))) := g8
  refine hvC ?_
  refine ⟨rqi_12_8 (?_ : q12 ((0 : Int) + (1 * b + 0)) ((0 : Int) + (1 * many + 0)) ((0 : Int) + (1 * ic + 0)) ((0 : Int) + (1 * under + 0)) ((0 : Int) + (1 * pc + 0)) ((0 : Int) + (1 * x + 0)) ((0 : Int) + (1 * y + 0)) ((0 : Int) + (1 * h + 0)) ((hupR R 58 idx val) 58)), trivial⟩
  try simp only [Int.zero_add, Int.one_mul, Int.add_zero]
  have e : idx = b + 39112 + so + 16 * s := by omega
  rw [e]
  have h14 := g5
  rw [show b2 = b by omega, show s2 = s by omega] at h14
  exact q12_m hq h14 (by omega) (by omega) (by omega) (by omega) (by omega)

theorem tS_17_3_0 : vS rQ 17 hs_17_3_0 := by
  refine ⟨fun _ => ?_, fun h => absurd h (by decide)⟩
  intro R G ps idx val hl i0 i1 hq
  replace i1 : idx < 238220 := i1
  obtain ⟨b, aT, k, rfl⟩ := hl3 hl
  replace hq : q17 b aT k (R 58) := rqo_17_3 hq
  refine hv8 (fun q r g0 g0a g0b => ?_)
  replace g0 : ((0 : Int) + (1 * idx + 0)) = ((39700 : Nat) : Int) * q + r := g0
  replace g0b : r < ((39700 : Nat) : Int) := g0b
  show hV _ _ _ _ _ [b, aT, k, idx, val, q, r]
  refine hv13 (fun g1 => ?_)
  replace g1 : ((0 : Int) + (39700 * q + 0)) = ((0 : Int) + (1 * b + 0)) := g1
  refine hv7 (fun j g2 => ?_)
  replace g2 : ((2 : Nat) : Int) * j = ((-22693 : Int) + (1 * r + 0)) := g2
  show hV _ _ _ _ _ [b, aT, k, idx, val, q, r, j]
  refine hv0 (fun g3 => ?_)
  replace g3 : (0 : Int) ≤ ((1 : Int) + (1 * val + 0)) := g3
  refine hv0 (fun g4 => ?_)
  replace g4 : (0 : Int) ≤ ((0 : Int) + (1 * aT + 0)) := g4
  refine hvC ?_
  refine ⟨rqi_17_3 (?_ : q17 ((0 : Int) + (1 * b + 0)) ((0 : Int) + (1 * aT + 0)) ((0 : Int) + (1 * k + 0)) ((hupR R 58 idx val) 58)), trivial⟩
  try simp only [Int.zero_add, Int.one_mul, Int.add_zero]
  intro j_ j0 j1 hk
  have e1 : iK (hupR R 58 idx val 58) b j_ = iK (R 58) b j_ := hup_n (by omega)
  rw [e1] at hk
  have h_ := hq j_ j0 j1 hk
  by_cases c_ : b + 22693 + 2 * j_ = idx
  · rw [show iN (hupR R 58 idx val 58) b j_ = val from hup_y c_]
    omega
  · rw [show iN (hupR R 58 idx val 58) b j_ = iN (R 58) b j_ from hup_n c_]
    exact h_

theorem tS_50_1_0 : vS rQ 50 hs_50_1_0 := by
  refine ⟨fun _ => ?_, fun h => absurd h (by decide)⟩
  intro R G ps idx val hl i0 i1 hq
  replace i1 : idx < 4000 := i1
  obtain ⟨c, rfl⟩ := hl1 hl
  replace hq : q50 c (R 64) := rqo_50_1 hq
  refine hv13 (fun g0 => ?_)
  replace g0 : ((0 : Int) + (1 * val + 0)) = ((2 : Int) + 0) := g0
  refine hv2 (fun o hag1 g1 => ?_)
  replace g1 : R 64 ((0 : Int) + (1 * idx + 0)) = o := g1
  replace hag1 : (0 : Int) ≤ ((0 : Int) + (1 * idx + 0)) := hag1
  replace g1 : R 64 (idx) = o := hF (R := R 64) g1 (ad_99 idx)
  show hV _ _ _ _ _ [c, idx, val, o]
  refine hv1 (fun g2 => ?_)
  replace g2 : ((0 : Int) + (1 * o + 0)) ≠ ((2 : Int) + 0) := g2
  refine hvC ?_
  refine ⟨rqi_50_1 (?_ : q50 ((-1 : Int) + (1 * c + 0)) ((hupR R 64 idx val) 64)), trivial⟩
  try simp only [Int.zero_add, Int.one_mul, Int.add_zero]
  have t_ := cnt2_up (S := R 64) (S' := hupR R 64 idx val 64) (a := idx) (by omega) (fun i_ hi => hup_n hi) 4000 (by omega)
  rw [show hupR R 64 idx val 64 idx = val from hup_y rfl] at t_
  unfold q50 at hq ⊢
  rw [if_neg (by omega), if_pos (by omega)] at t_
  omega

theorem tS_50_1_1 : vS rQ 50 hs_50_1_1 := by
  refine ⟨fun _ => ?_, fun h => absurd h (by decide)⟩
  intro R G ps idx val hl i0 i1 hq
  replace i1 : idx < 4000 := i1
  obtain ⟨c, rfl⟩ := hl1 hl
  replace hq : q50 c (R 64) := rqo_50_1 hq
  refine hv13 (fun g0 => ?_)
  replace g0 : ((0 : Int) + (1 * val + 0)) = ((2 : Int) + 0) := g0
  refine hvC ?_
  refine ⟨rqi_50_1 (?_ : q50 ((0 : Int) + (1 * c + 0)) ((hupR R 64 idx val) 64)), trivial⟩
  try simp only [Int.zero_add, Int.one_mul, Int.add_zero]
  have t_ := cnt2_up (S := R 64) (S' := hupR R 64 idx val 64) (a := idx) (by omega) (fun i_ hi => hup_n hi) 4000 (by omega)
  rw [show hupR R 64 idx val 64 idx = val from hup_y rfl] at t_
  unfold q50 at hq ⊢
  rw [if_pos (show val = 2 by omega)] at t_
  split at t_ <;> omega

theorem tS_50_1_2 : vS rQ 50 hs_50_1_2 := by
  refine ⟨fun _ => ?_, fun h => absurd h (by decide)⟩
  intro R G ps idx val hl i0 i1 hq
  replace i1 : idx < 4000 := i1
  obtain ⟨c, rfl⟩ := hl1 hl
  replace hq : q50 c (R 64) := rqo_50_1 hq
  refine hv1 (fun g0 => ?_)
  replace g0 : ((0 : Int) + (1 * val + 0)) ≠ ((2 : Int) + 0) := g0
  refine hv2 (fun o hag1 g1 => ?_)
  replace g1 : R 64 ((0 : Int) + (1 * idx + 0)) = o := g1
  replace hag1 : (0 : Int) ≤ ((0 : Int) + (1 * idx + 0)) := hag1
  replace g1 : R 64 (idx) = o := hF (R := R 64) g1 (ad_99 idx)
  show hV _ _ _ _ _ [c, idx, val, o]
  refine hv1 (fun g2 => ?_)
  replace g2 : ((0 : Int) + (1 * o + 0)) ≠ ((2 : Int) + 0) := g2
  refine hvC ?_
  refine ⟨rqi_50_1 (?_ : q50 ((0 : Int) + (1 * c + 0)) ((hupR R 64 idx val) 64)), trivial⟩
  try simp only [Int.zero_add, Int.one_mul, Int.add_zero]
  have t_ := cnt2_up (S := R 64) (S' := hupR R 64 idx val 64) (a := idx) (by omega) (fun i_ hi => hup_n hi) 4000 (by omega)
  rw [show hupR R 64 idx val 64 idx = val from hup_y rfl] at t_
  unfold q50 at hq ⊢
  rw [if_neg (by omega), if_neg (by omega)] at t_
  omega

theorem tS_61_2_0 : vS rQ 61 hs_61_2_0 := by
  refine ⟨fun _ => ?_, fun h => absurd h (by decide)⟩
  intro R G ps idx val hl i0 i1 hq
  replace i1 : idx < 238220 := i1
  obtain ⟨b, k, rfl⟩ := hl2 hl
  replace hq : q61 b k (R 58) := rqo_61_2 hq
  refine hv13 (fun g0 => ?_)
  replace g0 : ((0 : Int) + (1 * val + 0)) = ((0 : Int) + 0) := g0
  refine hvC ?_
  refine ⟨rqi_61_2 (?_ : q61 ((0 : Int) + (1 * b + 0)) ((0 : Int) + (1 * k + 0)) ((hupR R 58 idx val) 58)), trivial⟩
  try simp only [Int.zero_add, Int.one_mul, Int.add_zero]
  intro i h0 h1
  rw [hup58]
  split
  · omega
  · exact hq i h0 h1

theorem tS_62_1_0 : vS rQ 62 hs_62_1_0 := by
  refine ⟨fun _ => ?_, fun h => absurd h (by decide)⟩
  intro R G ps s k hl i0 i1 hq
  replace i1 : s < 238220 := i1
  obtain ⟨b, rfl⟩ := hl1 hl
  replace hq : q62 b (R 58) := rqo_62_1 hq
  refine hv13 (fun g0 => ?_)
  replace g0 : ((0 : Int) + (1 * k + 0)) = ((0 : Int) + 0) := g0
  refine hvC ?_
  refine ⟨rqi_62_1 (?_ : q62 ((0 : Int) + (1 * b + 0)) ((hupR R 58 s k) 58)), trivial⟩
  try simp only [Int.zero_add, Int.one_mul, Int.add_zero]
  intro i hi
  rw [hup58]
  split
  · omega
  · exact hq i hi

