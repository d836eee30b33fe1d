/-! RULES: theorems (printed by tools/t63.py) -/
theorem tN_1_1_0 : vN rQ 1 hn_1_1_0 := by
  intro R G ps hl
  obtain ⟨x0, rfl⟩ := hl1 hl
  refine hv4 (hm0 (fun g0 => ?_))
  replace g0 : qT bs0 c1 [] (R 58) := rqo_1_0 g0
  refine hmn ?_
  show hV _ _ _ _ _ [x0]
  refine hvC ?_
  refine rqi_1_1 (?_ : qT bs0 c1 [x0] (R 58))
  intro z E hb hx
  exact g0 z E hb (fun x hm => by cases hm)

theorem tN_1_0_0 : vN rQ 1 hn_1_0_0 := by
  intro R G ps hl
  obtain rfl := hl0 hl
  refine hv4 (hm1 (fun b g0 => ?_))
  replace g0 : qT bs0 c1 [b] (R 58) := rqo_1_1 g0
  refine hmb rfl ?_
  show hmt _ _ _ [b]
  refine hmn ?_
  show hV _ _ _ _ _ [b]
  refine hv4 (hm3 (fun s d k g1 => ?_))
  replace g1 : q60 s d k (R 58) := rqo_60_3 g1
  refine hmb rfl ?_
  show hmt _ _ _ [b, s]
  refine hmb rfl ?_
  show hmt _ _ _ [b, s, d]
  refine hmb rfl ?_
  show hmt _ _ _ [b, s, d, k]
  refine hmn ?_
  show hV _ _ _ _ _ [b, s, d, k]
  refine hv13 (fun g2 => ?_)
  replace g2 : ((0 : Int) + (1 * d + 0)) = ((0 : Int) + (1 * b + 0)) := g2
  refine hv0 (fun g3 => ?_)
  replace g3 : (0 : Int) ≤ ((-39700 : Int) + (1 * k + 0)) := g3
  refine hv8 (fun sq sr g4 g4a g4b => ?_)
  replace g4 : ((0 : Int) + (1 * s + 0)) = ((39700 : Nat) : Int) * sq + sr := g4
  replace g4b : sr < ((39700 : Nat) : Int) := g4b
  show hV _ _ _ _ _ [b, s, d, k, sq, sr]
  refine hv13 (fun g5 => ?_)
  replace g5 : ((0 : Int) + (1 * sr + 0)) = ((0 : Int) + 0) := g5
  refine hv1 (fun g6 => ?_)
  replace g6 : ((0 : Int) + (1 * s + 0)) ≠ ((0 : Int) + (1 * b + 0)) := g6
  refine hv0 (fun g7 => ?_)
  replace g7 : (0 : Int) ≤ ((0 : Int) + (1 * s + 0)) := g7
  refine hv0 (fun g8 => ?_)
  replace g8 : (0 : Int) ≤ ((198500 : Int) + ((-1) * s + 0)) := g8
  refine hvC ?_
  refine rqi_1_0 (?_ : qT bs0 c1 [] (R 58))
  intro z E hb hx
  have hb0 := hb
  unfold bs0 at hb
  obtain ⟨z0, z1, ze⟩ := hb
  by_cases c : 39700 * z = b
  · have hh := g0 sq (E - b + s) ⟨by omega, by omega, by omega⟩ (fun x hm => by rw [List.mem_singleton.mp hm]; omega)
    unfold c1 at *
    have w0 := g1 (E - b + 35) (by omega) (by omega)
    rw [show d + (E - b + 35) = E + 35 by omega, show s + (E - b + 35) = E - b + s + 35 by omega] at w0
    have w1 := g1 (E - b + 1) (by omega) (by omega)
    rw [show d + (E - b + 1) = E + 1 by omega, show s + (E - b + 1) = E - b + s + 1 by omega] at w1
    rw [w0, w1]
    exact hh
  · exact g0 z E hb0 (fun x hm => by rw [List.mem_singleton.mp hm]; omega)

theorem tN_2_1_0 : vN rQ 2 hn_2_1_0 := by
  intro R G ps hl
  obtain ⟨x0, rfl⟩ := hl1 hl
  refine hv4 (hm0 (fun g0 => ?_))
  replace g0 : qT bs0 c2 [] (R 58) := rqo_2_0 g0
  refine hmn ?_
  show hV _ _ _ _ _ [x0]
  refine hvC ?_
  refine rqi_2_1 (?_ : qT bs0 c2 [x0] (R 58))
  intro z E hb hx
  exact g0 z E hb (fun x hm => by cases hm)

theorem tN_2_0_0 : vN rQ 2 hn_2_0_0 := by
  intro R G ps hl
  obtain rfl := hl0 hl
  refine hv4 (hm1 (fun e0 g0 => ?_))
  replace g0 : qT bs0 c2 [e0] (R 58) := rqo_2_1 g0
  refine hmb rfl ?_
  show hmt _ _ _ [e0]
  refine hmn ?_
  show hV _ _ _ _ _ [e0]
  refine hv5 (fun g1 => ?_)
  replace g1 : c2 (R 58) ((0 : Int) + (1 * e0 + 0)) := rqo_132_1 g1
  simp only [Int.zero_add, Int.one_mul, Int.add_zero] at g1
  refine hvC ?_
  refine rqi_2_0 (?_ : qT bs0 c2 [] (R 58))
  intro z E hb hx
  by_cases c : E = e0
  · rw [c]
    exact g1
  · exact g0 z E hb (fun x hm => by rw [List.mem_singleton.mp hm]; exact c)

theorem tN_2_0_1 : vN rQ 2 hn_2_0_1 := by
  intro R G ps hl
  obtain rfl := hl0 hl
  refine hv4 (hm1 (fun b g0 => ?_))
  replace g0 : qT bs0 c2 [b] (R 58) := rqo_2_1 g0
  refine hmb rfl ?_
  show hmt _ _ _ [b]
  refine hmn ?_
  show hV _ _ _ _ _ [b]
  refine hv4 (hm3 (fun s d k g1 => ?_))
  replace g1 : q60 s d k (R 58) := rqo_60_3 g1
  refine hmb rfl ?_
  show hmt _ _ _ [b, s]
  refine hmb rfl ?_
  show hmt _ _ _ [b, s, d]
  refine hmb rfl ?_
  show hmt _ _ _ [b, s, d, k]
  refine hmn ?_
  show hV _ _ _ _ _ [b, s, d, k]
  refine hv13 (fun g2 => ?_)
  replace g2 : ((0 : Int) + (1 * d + 0)) = ((0 : Int) + (1 * b + 0)) := g2
  refine hv0 (fun g3 => ?_)
  replace g3 : (0 : Int) ≤ ((-39700 : Int) + (1 * k + 0)) := g3
  refine hv8 (fun sq sr g4 g4a g4b => ?_)
  replace g4 : ((0 : Int) + (1 * s + 0)) = ((39700 : Nat) : Int) * sq + sr := g4
  replace g4b : sr < ((39700 : Nat) : Int) := g4b
  show hV _ _ _ _ _ [b, s, d, k, sq, sr]
  refine hv13 (fun g5 => ?_)
  replace g5 : ((0 : Int) + (1 * sr + 0)) = ((0 : Int) + 0) := g5
  refine hv1 (fun g6 => ?_)
  replace g6 : ((0 : Int) + (1 * s + 0)) ≠ ((0 : Int) + (1 * b + 0)) := g6
  refine hv0 (fun g7 => ?_)
  replace g7 : (0 : Int) ≤ ((0 : Int) + (1 * s + 0)) := g7
  refine hv0 (fun g8 => ?_)
  replace g8 : (0 : Int) ≤ ((198500 : Int) + ((-1) * s + 0)) := g8
  refine hvC ?_
  refine rqi_2_0 (?_ : qT bs0 c2 [] (R 58))
  intro z E hb hx
  have hb0 := hb
  unfold bs0 at hb
  obtain ⟨z0, z1, ze⟩ := hb
  by_cases c : 39700 * z = b
  · have hh := g0 sq (E - b + s) ⟨by omega, by omega, by omega⟩ (fun x hm => by rw [List.mem_singleton.mp hm]; omega)
    unfold c2 at *
    have w0 := g1 (E - b + 8) (by omega) (by omega)
    rw [show d + (E - b + 8) = E + 8 by omega, show s + (E - b + 8) = E - b + s + 8 by omega] at w0
    have w1 := g1 (E - b + 24) (by omega) (by omega)
    rw [show d + (E - b + 24) = E + 24 by omega, show s + (E - b + 24) = E - b + s + 24 by omega] at w1
    rw [w0, w1]
    exact hh
  · exact g0 z E hb0 (fun x hm => by rw [List.mem_singleton.mp hm]; omega)

theorem tN_132_1_0 : vN rQ 132 hn_132_1_0 := by
  intro R G ps hl
  obtain ⟨e, rfl⟩ := hl1 hl
  refine hv2 (fun y0 hag0 g0 => ?_)
  replace g0 : R 58 ((8 : Int) + (1 * e + 0)) = y0 := g0
  replace hag0 : (0 : Int) ≤ ((8 : Int) + (1 * e + 0)) := hag0
  replace g0 : R 58 (e + 8) = y0 := hF (R := R 58) g0 (ad_0 e)
  show hV _ _ _ _ _ [e, y0]
  refine hv0 (fun g1 => ?_)
  replace g1 : (0 : Int) ≤ ((0 : Int) + ((-1) * y0 + 0)) := g1
  refine hvC ?_
  refine rqi_132_1 (?_ : c2 (R 58) e)
  unfold c2
  omega

theorem tN_8_1_0 : vN rQ 8 hn_8_1_0 := by
  intro R G ps hl
  obtain ⟨x0, rfl⟩ := hl1 hl
  refine hv4 (hm0 (fun g0 => ?_))
  replace g0 : qT bs0 c8 [] (R 58) := rqo_8_0 g0
  refine hmn ?_
  show hV _ _ _ _ _ [x0]
  refine hvC ?_
  refine rqi_8_1 (?_ : qT bs0 c8 [x0] (R 58))
  intro z E hb hx
  exact g0 z E hb (fun x hm => by cases hm)

theorem tN_8_0_0 : vN rQ 8 hn_8_0_0 := by
  intro R G ps hl
  obtain rfl := hl0 hl
  refine hv4 (hm1 (fun b g0 => ?_))
  replace g0 : qT bs0 c8 [b] (R 58) := rqo_8_1 g0
  refine hmb rfl ?_
  show hmt _ _ _ [b]
  refine hmn ?_
  show hV _ _ _ _ _ [b]
  refine hv4 (hm3 (fun s d k g1 => ?_))
  replace g1 : q60 s d k (R 58) := rqo_60_3 g1
  refine hmb rfl ?_
  show hmt _ _ _ [b, s]
  refine hmb rfl ?_
  show hmt _ _ _ [b, s, d]
  refine hmb rfl ?_
  show hmt _ _ _ [b, s, d, k]
  refine hmn ?_
  show hV _ _ _ _ _ [b, s, d, k]
  refine hv13 (fun g2 => ?_)
  replace g2 : ((0 : Int) + (1 * d + 0)) = ((0 : Int) + (1 * b + 0)) := g2
  refine hv0 (fun g3 => ?_)
  replace g3 : (0 : Int) ≤ ((-39700 : Int) + (1 * k + 0)) := g3
  refine hv8 (fun sq sr g4 g4a g4b => ?_)
  replace g4 : ((0 : Int) + (1 * s + 0)) = ((39700 : Nat) : Int) * sq + sr := g4
  replace g4b : sr < ((39700 : Nat) : Int) := g4b
  show hV _ _ _ _ _ [b, s, d, k, sq, sr]
  refine hv13 (fun g5 => ?_)
  replace g5 : ((0 : Int) + (1 * sr + 0)) = ((0 : Int) + 0) := g5
  refine hv1 (fun g6 => ?_)
  replace g6 : ((0 : Int) + (1 * s + 0)) ≠ ((0 : Int) + (1 * b + 0)) := g6
  refine hv0 (fun g7 => ?_)
  replace g7 : (0 : Int) ≤ ((0 : Int) + (1 * s + 0)) := g7
  refine hv0 (fun g8 => ?_)
  replace g8 : (0 : Int) ≤ ((198500 : Int) + ((-1) * s + 0)) := g8
  refine hvC ?_
  refine rqi_8_0 (?_ : qT bs0 c8 [] (R 58))
  intro z E hb hx
  have hb0 := hb
  unfold bs0 at hb
  obtain ⟨z0, z1, ze⟩ := hb
  by_cases c : 39700 * z = b
  · have hh := g0 sq (E - b + s) ⟨by omega, by omega, by omega⟩ (fun x hm => by rw [List.mem_singleton.mp hm]; omega)
    unfold c8 at *
    have w0 := g1 (E - b + 35) (by omega) (by omega)
    rw [show d + (E - b + 35) = E + 35 by omega, show s + (E - b + 35) = E - b + s + 35 by omega] at w0
    have w1 := g1 (E - b + 33) (by omega) (by omega)
    rw [show d + (E - b + 33) = E + 33 by omega, show s + (E - b + 33) = E - b + s + 33 by omega] at w1
    rw [w0, w1]
    exact hh
  · exact g0 z E hb0 (fun x hm => by rw [List.mem_singleton.mp hm]; omega)

theorem tN_7_1_0 : vN rQ 7 hn_7_1_0 := by
  intro R G ps hl
  obtain ⟨x0, rfl⟩ := hl1 hl
  refine hv4 (hm0 (fun g0 => ?_))
  replace g0 : qT bs0 c7 [] (R 58) := rqo_7_0 g0
  refine hmn ?_
  show hV _ _ _ _ _ [x0]
  refine hvC ?_
  refine rqi_7_1 (?_ : qT bs0 c7 [x0] (R 58))
  intro z E hb hx
  exact g0 z E hb (fun x hm => by cases hm)

theorem tN_7_0_0 : vN rQ 7 hn_7_0_0 := by
  intro R G ps hl
  obtain rfl := hl0 hl
  refine hv4 (hm1 (fun e0 g0 => ?_))
  replace g0 : qT bs0 c7 [e0] (R 58) := rqo_7_1 g0
  refine hmb rfl ?_
  show hmt _ _ _ [e0]
  refine hmn ?_
  show hV _ _ _ _ _ [e0]
  refine hv5 (fun g1 => ?_)
  replace g1 : c7 (R 58) ((0 : Int) + (1 * e0 + 0)) := rqo_137_1 g1
  simp only [Int.zero_add, Int.one_mul, Int.add_zero] at g1
  refine hvC ?_
  refine rqi_7_0 (?_ : qT bs0 c7 [] (R 58))
  intro z E hb hx
  by_cases c : E = e0
  · rw [c]
    exact g1
  · exact g0 z E hb (fun x hm => by rw [List.mem_singleton.mp hm]; exact c)

theorem tN_7_0_1 : vN rQ 7 hn_7_0_1 := by
  intro R G ps hl
  obtain rfl := hl0 hl
  refine hv4 (hm1 (fun b g0 => ?_))
  replace g0 : qT bs0 c7 [b] (R 58) := rqo_7_1 g0
  refine hmb rfl ?_
  show hmt _ _ _ [b]
  refine hmn ?_
  show hV _ _ _ _ _ [b]
  refine hv4 (hm3 (fun s d k g1 => ?_))
  replace g1 : q60 s d k (R 58) := rqo_60_3 g1
  refine hmb rfl ?_
  show hmt _ _ _ [b, s]
  refine hmb rfl ?_
  show hmt _ _ _ [b, s, d]
  refine hmb rfl ?_
  show hmt _ _ _ [b, s, d, k]
  refine hmn ?_
  show hV _ _ _ _ _ [b, s, d, k]
  refine hv13 (fun g2 => ?_)
  replace g2 : ((0 : Int) + (1 * d + 0)) = ((0 : Int) + (1 * b + 0)) := g2
  refine hv0 (fun g3 => ?_)
  replace g3 : (0 : Int) ≤ ((-39700 : Int) + (1 * k + 0)) := g3
  refine hv8 (fun sq sr g4 g4a g4b => ?_)
  replace g4 : ((0 : Int) + (1 * s + 0)) = ((39700 : Nat) : Int) * sq + sr := g4
  replace g4b : sr < ((39700 : Nat) : Int) := g4b
  show hV _ _ _ _ _ [b, s, d, k, sq, sr]
  refine hv13 (fun g5 => ?_)
  replace g5 : ((0 : Int) + (1 * sr + 0)) = ((0 : Int) + 0) := g5
  refine hv1 (fun g6 => ?_)
  replace g6 : ((0 : Int) + (1 * s + 0)) ≠ ((0 : Int) + (1 * b + 0)) := g6
  refine hv0 (fun g7 => ?_)
  replace g7 : (0 : Int) ≤ ((0 : Int) + (1 * s + 0)) := g7
  refine hv0 (fun g8 => ?_)
  replace g8 : (0 : Int) ≤ ((198500 : Int) + ((-1) * s + 0)) := g8
  refine hvC ?_
  refine rqi_7_0 (?_ : qT bs0 c7 [] (R 58))
  intro z E hb hx
  have hb0 := hb
  unfold bs0 at hb
  obtain ⟨z0, z1, ze⟩ := hb
  by_cases c : 39700 * z = b
  · have hh := g0 sq (E - b + s) ⟨by omega, by omega, by omega⟩ (fun x hm => by rw [List.mem_singleton.mp hm]; omega)
    unfold c7 at *
    have w0 := g1 (E - b + 35) (by omega) (by omega)
    rw [show d + (E - b + 35) = E + 35 by omega, show s + (E - b + 35) = E - b + s + 35 by omega] at w0
    have w1 := g1 (E - b + 4) (by omega) (by omega)
    rw [show d + (E - b + 4) = E + 4 by omega, show s + (E - b + 4) = E - b + s + 4 by omega] at w1
    rw [w0, w1]
    exact hh
  · exact g0 z E hb0 (fun x hm => by rw [List.mem_singleton.mp hm]; omega)

theorem tN_137_1_0 : vN rQ 137 hn_137_1_0 := by
  intro R G ps hl
  obtain ⟨e, rfl⟩ := hl1 hl
  refine hv2 (fun y1 hag0 g0 => ?_)
  replace g0 : R 58 ((4 : Int) + (1 * e + 0)) = y1 := g0
  replace hag0 : (0 : Int) ≤ ((4 : Int) + (1 * e + 0)) := hag0
  replace g0 : R 58 (e + 4) = y1 := hF (R := R 58) g0 (ad_1 e)
  show hV _ _ _ _ _ [e, y1]
  refine hv0 (fun g1 => ?_)
  replace g1 : (0 : Int) ≤ ((-172 : Int) + (1 * y1 + 0)) := g1
  refine hvC ?_
  refine rqi_137_1 (?_ : c7 (R 58) e)
  unfold c7
  omega

theorem tN_3_0_0 : vN rQ 3 hn_3_0_0 := by
  intro R G ps hl
  obtain rfl := hl0 hl
  refine hv4 (hm1 (fun b g0 => ?_))
  replace g0 : qB bs3 c3 b (R 58) := rqo_103_1 g0
  refine hmb rfl ?_
  show hmt _ _ _ [b]
  refine hmn ?_
  show hV _ _ _ _ _ [b]
  refine hv4 (hm3 (fun s d k g1 => ?_))
  replace g1 : q60 s d k (R 58) := rqo_60_3 g1
  refine hmb rfl ?_
  show hmt _ _ _ [b, s]
  refine hmb rfl ?_
  show hmt _ _ _ [b, s, d]
  refine hmb rfl ?_
  show hmt _ _ _ [b, s, d, k]
  refine hmn ?_
  show hV _ _ _ _ _ [b, s, d, k]
  refine hv13 (fun g2 => ?_)
  replace g2 : ((0 : Int) + (1 * d + 0)) = ((0 : Int) + (1 * b + 0)) := g2
  refine hv0 (fun g3 => ?_)
  replace g3 : (0 : Int) ≤ ((-39700 : Int) + (1 * k + 0)) := g3
  refine hv8 (fun sq sr g4 g4a g4b => ?_)
  replace g4 : ((0 : Int) + (1 * s + 0)) = ((39700 : Nat) : Int) * sq + sr := g4
  replace g4b : sr < ((39700 : Nat) : Int) := g4b
  show hV _ _ _ _ _ [b, s, d, k, sq, sr]
  refine hv13 (fun g5 => ?_)
  replace g5 : ((0 : Int) + (1 * sr + 0)) = ((0 : Int) + 0) := g5
  refine hv1 (fun g6 => ?_)
  replace g6 : ((0 : Int) + (1 * s + 0)) ≠ ((0 : Int) + (1 * b + 0)) := g6
  refine hv0 (fun g7 => ?_)
  replace g7 : (0 : Int) ≤ ((0 : Int) + (1 * s + 0)) := g7
  refine hv0 (fun g8 => ?_)
  replace g8 : (0 : Int) ≤ ((198500 : Int) + ((-1) * s + 0)) := g8
  refine hvC ?_
  refine rqi_3_0 (?_ : qT bs3 c3 [] (R 58))
  intro z E hb hx
  have hb0 := hb
  unfold bs3 at hb
  obtain ⟨z0, z1, u, w, u0, u1, w0, w1, ze⟩ := hb
  by_cases c : 39700 * z = b
  · have hh := g0 sq (E - b + s) ⟨by omega, by omega, u, w, by omega, by omega, by omega, by omega, by omega⟩ (by omega)
    unfold c3 at *
    have w0 := g1 (E - b + 5) (by omega) (by omega)
    rw [show d + (E - b + 5) = E + 5 by omega, show s + (E - b + 5) = E - b + s + 5 by omega] at w0
    have w1 := g1 (E - b + 6) (by omega) (by omega)
    rw [show d + (E - b + 6) = E + 6 by omega, show s + (E - b + 6) = E - b + s + 6 by omega] at w1
    rw [w0, w1]
    exact hh
  · exact g0 z E hb0 c

theorem tN_3_0_1 : vN rQ 3 hn_3_0_1 := by
  intro R G ps hl
  obtain rfl := hl0 hl
  refine hv4 (hm1 (fun b g0 => ?_))
  replace g0 : qB bs3 c3 b (R 58) := rqo_103_1 g0
  refine hmb rfl ?_
  show hmt _ _ _ [b]
  refine hmn ?_
  show hV _ _ _ _ _ [b]
  refine hv4 (hm1 (fun b2 g1 => ?_))
  replace g1 : q62 b2 (R 58) := rqo_62_1 g1
  refine hmb rfl ?_
  show hmt _ _ _ [b, b2]
  refine hmn ?_
  show hV _ _ _ _ _ [b, b2]
  refine hv13 (fun g2 => ?_)
  replace g2 : ((0 : Int) + (1 * b2 + 0)) = ((0 : Int) + (1 * b + 0)) := g2
  refine hvC ?_
  refine rqi_3_0 (?_ : qT bs3 c3 [] (R 58))
  intro z E hb hx
  have hb0 := hb
  unfold bs3 at hb
  obtain ⟨z0, z1, u, w, u0, u1, w0, w1, ze⟩ := hb
  by_cases c : 39700 * z = b
  · unfold c3
    have t := g1 (E - b + 5) (Or.inr (Or.inl ⟨by omega, by omega⟩))
    rw [show b2 + (E - b + 5) = E + 5 by omega] at t
    omega
  · exact g0 z E hb0 c

theorem tN_4_0_0 : vN rQ 4 hn_4_0_0 := by
  intro R G ps hl
  obtain rfl := hl0 hl
  refine hv4 (hm1 (fun b g0 => ?_))
  replace g0 : qB bs3 c4 b (R 58) := rqo_104_1 g0
  refine hmb rfl ?_
  show hmt _ _ _ [b]
  refine hmn ?_
  show hV _ _ _ _ _ [b]
  refine hv4 (hm3 (fun s d k g1 => ?_))
  replace g1 : q60 s d k (R 58) := rqo_60_3 g1
  refine hmb rfl ?_
  show hmt _ _ _ [b, s]
  refine hmb rfl ?_
  show hmt _ _ _ [b, s, d]
  refine hmb rfl ?_
  show hmt _ _ _ [b, s, d, k]
  refine hmn ?_
  show hV _ _ _ _ _ [b, s, d, k]
  refine hv13 (fun g2 => ?_)
  replace g2 : ((0 : Int) + (1 * d + 0)) = ((0 : Int) + (1 * b + 0)) := g2
  refine hv0 (fun g3 => ?_)
  replace g3 : (0 : Int) ≤ ((-39700 : Int) + (1 * k + 0)) := g3
  refine hv8 (fun sq sr g4 g4a g4b => ?_)
  replace g4 : ((0 : Int) + (1 * s + 0)) = ((39700 : Nat) : Int) * sq + sr := g4
  replace g4b : sr < ((39700 : Nat) : Int) := g4b
  show hV _ _ _ _ _ [b, s, d, k, sq, sr]
  refine hv13 (fun g5 => ?_)
  replace g5 : ((0 : Int) + (1 * sr + 0)) = ((0 : Int) + 0) := g5
  refine hv1 (fun g6 => ?_)
  replace g6 : ((0 : Int) + (1 * s + 0)) ≠ ((0 : Int) + (1 * b + 0)) := g6
  refine hv0 (fun g7 => ?_)
  replace g7 : (0 : Int) ≤ ((0 : Int) + (1 * s + 0)) := g7
  refine hv0 (fun g8 => ?_)
  replace g8 : (0 : Int) ≤ ((198500 : Int) + ((-1) * s + 0)) := g8
  refine hvC ?_
  refine rqi_4_0 (?_ : qT bs3 c4 [] (R 58))
  intro z E hb hx
  have hb0 := hb
  unfold bs3 at hb
  obtain ⟨z0, z1, u, w, u0, u1, w0, w1, ze⟩ := hb
  by_cases c : 39700 * z = b
  · have hh := g0 sq (E - b + s) ⟨by omega, by omega, u, w, by omega, by omega, by omega, by omega, by omega⟩ (by omega)
    unfold c4 at *
    have w0 := g1 (E - b) (by omega) (by omega)
    rw [show d + (E - b) = E by omega, show s + (E - b) = E - b + s by omega] at w0
    have w1 := g1 (E - b + 9) (by omega) (by omega)
    rw [show d + (E - b + 9) = E + 9 by omega, show s + (E - b + 9) = E - b + s + 9 by omega] at w1
    rw [w0, w1]
    exact hh
  · exact g0 z E hb0 c

theorem tN_4_0_1 : vN rQ 4 hn_4_0_1 := by
  intro R G ps hl
  obtain rfl := hl0 hl
  refine hv4 (hm1 (fun b g0 => ?_))
  replace g0 : qB bs3 c4 b (R 58) := rqo_104_1 g0
  refine hmb rfl ?_
  show hmt _ _ _ [b]
  refine hmn ?_
  show hV _ _ _ _ _ [b]
  refine hv4 (hm1 (fun b2 g1 => ?_))
  replace g1 : q62 b2 (R 58) := rqo_62_1 g1
  refine hmb rfl ?_
  show hmt _ _ _ [b, b2]
  refine hmn ?_
  show hV _ _ _ _ _ [b, b2]
  refine hv13 (fun g2 => ?_)
  replace g2 : ((0 : Int) + (1 * b2 + 0)) = ((0 : Int) + (1 * b + 0)) := g2
  refine hvC ?_
  refine rqi_4_0 (?_ : qT bs3 c4 [] (R 58))
  intro z E hb hx
  have hb0 := hb
  unfold bs3 at hb
  obtain ⟨z0, z1, u, w, u0, u1, w0, w1, ze⟩ := hb
  by_cases c : 39700 * z = b
  · unfold c4
    have t := g1 (E - b + 0) (Or.inr (Or.inl ⟨by omega, by omega⟩))
    rw [show b2 + (E - b + 0) = E by omega] at t
    omega
  · exact g0 z E hb0 c

theorem tN_5_0_0 : vN rQ 5 hn_5_0_0 := by
  intro R G ps hl
  obtain rfl := hl0 hl
  refine hv4 (hm1 (fun b g0 => ?_))
  replace g0 : qB bs5 c5 b (R 58) := rqo_105_1 g0
  refine hmb rfl ?_
  show hmt _ _ _ [b]
  refine hmn ?_
  show hV _ _ _ _ _ [b]
  refine hv4 (hm3 (fun s d k g1 => ?_))
  replace g1 : q60 s d k (R 58) := rqo_60_3 g1
  refine hmb rfl ?_
  show hmt _ _ _ [b, s]
  refine hmb rfl ?_
  show hmt _ _ _ [b, s, d]
  refine hmb rfl ?_
  show hmt _ _ _ [b, s, d, k]
  refine hmn ?_
  show hV _ _ _ _ _ [b, s, d, k]
  refine hv13 (fun g2 => ?_)
  replace g2 : ((0 : Int) + (1 * d + 0)) = ((0 : Int) + (1 * b + 0)) := g2
  refine hv0 (fun g3 => ?_)
  replace g3 : (0 : Int) ≤ ((-39700 : Int) + (1 * k + 0)) := g3
  refine hv8 (fun sq sr g4 g4a g4b => ?_)
  replace g4 : ((0 : Int) + (1 * s + 0)) = ((39700 : Nat) : Int) * sq + sr := g4
  replace g4b : sr < ((39700 : Nat) : Int) := g4b
  show hV _ _ _ _ _ [b, s, d, k, sq, sr]
  refine hv13 (fun g5 => ?_)
  replace g5 : ((0 : Int) + (1 * sr + 0)) = ((0 : Int) + 0) := g5
  refine hv1 (fun g6 => ?_)
  replace g6 : ((0 : Int) + (1 * s + 0)) ≠ ((0 : Int) + (1 * b + 0)) := g6
  refine hv0 (fun g7 => ?_)
  replace g7 : (0 : Int) ≤ ((0 : Int) + (1 * s + 0)) := g7
  refine hv0 (fun g8 => ?_)
  replace g8 : (0 : Int) ≤ ((198500 : Int) + ((-1) * s + 0)) := g8
  refine hvC ?_
  refine rqi_5_0 (?_ : qT bs5 c5 [] (R 58))
  intro z E hb hx
  have hb0 := hb
  unfold bs5 at hb
  obtain ⟨z0, z1, u, u0, u1, ze⟩ := hb
  by_cases c : 39700 * z = b
  · have hh := g0 sq (E - b + s) ⟨by omega, by omega, u, by omega, by omega, by omega⟩ (by omega)
    unfold c5 at *
    have w0 := g1 (E - b) (by omega) (by omega)
    rw [show d + (E - b) = E by omega, show s + (E - b) = E - b + s by omega] at w0
    have w1 := g1 (E - b + 7) (by omega) (by omega)
    rw [show d + (E - b + 7) = E + 7 by omega, show s + (E - b + 7) = E - b + s + 7 by omega] at w1
    have w2 := g1 (E - b + 8) (by omega) (by omega)
    rw [show d + (E - b + 8) = E + 8 by omega, show s + (E - b + 8) = E - b + s + 8 by omega] at w2
    rw [w0, w1, w2]
    exact hh
  · exact g0 z E hb0 c

theorem tN_5_0_1 : vN rQ 5 hn_5_0_1 := by
  intro R G ps hl
  obtain rfl := hl0 hl
  refine hv4 (hm1 (fun b g0 => ?_))
  replace g0 : qB bs5 c5 b (R 58) := rqo_105_1 g0
  refine hmb rfl ?_
  show hmt _ _ _ [b]
  refine hmn ?_
  show hV _ _ _ _ _ [b]
  refine hv4 (hm1 (fun b2 g1 => ?_))
  replace g1 : q62 b2 (R 58) := rqo_62_1 g1
  refine hmb rfl ?_
  show hmt _ _ _ [b, b2]
  refine hmn ?_
  show hV _ _ _ _ _ [b, b2]
  refine hv13 (fun g2 => ?_)
  replace g2 : ((0 : Int) + (1 * b2 + 0)) = ((0 : Int) + (1 * b + 0)) := g2
  refine hvC ?_
  refine rqi_5_0 (?_ : qT bs5 c5 [] (R 58))
  intro z E hb hx
  have hb0 := hb
  unfold bs5 at hb
  obtain ⟨z0, z1, u, u0, u1, ze⟩ := hb
  by_cases c : 39700 * z = b
  · unfold c5
    have t := g1 (E - b + 8) (Or.inr (Or.inl ⟨by omega, by omega⟩))
    rw [show b2 + (E - b + 8) = E + 8 by omega] at t
    omega
  · exact g0 z E hb0 c

theorem tN_103_1_0 : vN rQ 103 hn_103_1_0 := by
  intro R G ps hl
  obtain ⟨x0, rfl⟩ := hl1 hl
  refine hv4 (hm0 (fun g0 => ?_))
  replace g0 : qT bs3 c3 [] (R 58) := rqo_3_0 g0
  refine hmn ?_
  show hV _ _ _ _ _ [x0]
  refine hvC ?_
  refine rqi_103_1 (?_ : qB bs3 c3 x0 (R 58))
  intro z E hb hx
  exact g0 z E hb (fun x hm => by cases hm)

theorem tN_104_1_0 : vN rQ 104 hn_104_1_0 := by
  intro R G ps hl
  obtain ⟨x0, rfl⟩ := hl1 hl
  refine hv4 (hm0 (fun g0 => ?_))
  replace g0 : qT bs3 c4 [] (R 58) := rqo_4_0 g0
  refine hmn ?_
  show hV _ _ _ _ _ [x0]
  refine hvC ?_
  refine rqi_104_1 (?_ : qB bs3 c4 x0 (R 58))
  intro z E hb hx
  exact g0 z E hb (fun x hm => by cases hm)

theorem tN_105_1_0 : vN rQ 105 hn_105_1_0 := by
  intro R G ps hl
  obtain ⟨x0, rfl⟩ := hl1 hl
  refine hv4 (hm0 (fun g0 => ?_))
  replace g0 : qT bs5 c5 [] (R 58) := rqo_5_0 g0
  refine hmn ?_
  show hV _ _ _ _ _ [x0]
  refine hvC ?_
  refine rqi_105_1 (?_ : qB bs5 c5 x0 (R 58))
  intro z E hb hx
  exact g0 z E hb (fun x hm => by cases hm)

theorem tN_6_1_0 : vN rQ 6 hn_6_1_0 := by
  intro R G ps hl
  obtain ⟨x, rfl⟩ := hl1 hl
  refine hv4 (hm0 (fun g0 => ?_))
  replace g0 : q6 [] (R 58) := rqo_6_0 g0
  refine hmn ?_
  show hV _ _ _ _ _ [x]
  refine hvC ?_
  refine rqi_6_1 (?_ : q6 [x] (R 58))
  intro z z0 z1 hx
  exact g0 z z0 z1 (fun x hm => by cases hm)

theorem tN_6_0_0 : vN rQ 6 hn_6_0_0 := by
  intro R G ps hl
  obtain rfl := hl0 hl
  refine hv4 (hm1 (fun b g0 => ?_))
  replace g0 : q6 [b] (R 58) := rqo_6_1 g0
  refine hmb rfl ?_
  show hmt _ _ _ [b]
  refine hmn ?_
  show hV _ _ _ _ _ [b]
  refine hv2 (fun k hag1 g1 => ?_)
  replace g1 : R 58 ((12 : Int) + (1 * b + 0)) = k := g1
  replace hag1 : (0 : Int) ≤ ((12 : Int) + (1 * b + 0)) := hag1
  replace g1 : R 58 (b + 12) = k := hF (R := R 58) g1 (ad_2 b)
  show hV _ _ _ _ _ [b, k]
  refine hv0 (fun g2 => ?_)
  replace g2 : (0 : Int) ≤ ((0 : Int) + (1 * k + 0)) := g2
  refine hv0 (fun g3 => ?_)
  replace g3 : (0 : Int) ≤ ((3 : Int) + ((-1) * k + 0)) := g3
  refine hv2 (fun s hag4 g4 => ?_)
  replace g4 : R 58 ((30692 : Int) + (1 * b + (660 * k + 0))) = s := g4
  replace hag4 : (0 : Int) ≤ ((30692 : Int) + (1 * b + (660 * k + 0))) := hag4
  replace g4 : R 58 (b + 660 * k + 30692) = s := hF (R := R 58) g4 (ad_3 b k)
  show hV _ _ _ _ _ [b, k, s]
  refine hv13 (fun g5 => ?_)
  replace g5 : ((0 : Int) + (1 * s + 0)) = ((1 : Int) + 0) := g5
  refine hvC ?_
  refine rqi_6_0 (?_ : q6 [] (R 58))
  intro z z0 z1 hx
  by_cases c : 39700 * z = b
  · refine Or.inr ?_
    rw [c, show R 58 (b + 12) = k by omega]
    exact ⟨by omega, by omega, by rw [show b + 30692 + 660 * k = b + 660 * k + 30692 by omega]; omega⟩
  · exact g0 z z0 z1 (fun x hm => by rw [List.mem_singleton.mp hm]; exact c)

theorem tN_6_0_1 : vN rQ 6 hn_6_0_1 := by
  intro R G ps hl
  obtain rfl := hl0 hl
  refine hv4 (hm1 (fun b g0 => ?_))
  replace g0 : q6 [b] (R 58) := rqo_6_1 g0
  refine hmb rfl ?_
  show hmt _ _ _ [b]
  refine hmn ?_
  show hV _ _ _ _ _ [b]
  refine hv4 (hm3 (fun s d k g1 => ?_))
  replace g1 : q60 s d k (R 58) := rqo_60_3 g1
  refine hmb rfl ?_
  show hmt _ _ _ [b, s]
  refine hmb rfl ?_
  show hmt _ _ _ [b, s, d]
  refine hmb rfl ?_
  show hmt _ _ _ [b, s, d, k]
  refine hmn ?_
  show hV _ _ _ _ _ [b, s, d, k]
  refine hv13 (fun g2 => ?_)
  replace g2 : ((0 : Int) + (1 * d + 0)) = ((0 : Int) + (1 * b + 0)) := g2
  refine hv0 (fun g3 => ?_)
  replace g3 : (0 : Int) ≤ ((-39700 : Int) + (1 * k + 0)) := g3
  refine hv8 (fun sq sr g4 g4a g4b => ?_)
  replace g4 : ((0 : Int) + (1 * s + 0)) = ((39700 : Nat) : Int) * sq + sr := g4
  replace g4b : sr < ((39700 : Nat) : Int) := g4b
  show hV _ _ _ _ _ [b, s, d, k, sq, sr]
  refine hv13 (fun g5 => ?_)
  replace g5 : ((0 : Int) + (1 * sr + 0)) = ((0 : Int) + 0) := g5
  refine hv1 (fun g6 => ?_)
  replace g6 : ((0 : Int) + (1 * s + 0)) ≠ ((0 : Int) + (1 * b + 0)) := g6
  refine hv0 (fun g7 => ?_)
  replace g7 : (0 : Int) ≤ ((0 : Int) + (1 * s + 0)) := g7
  refine hv0 (fun g8 => ?_)
  replace g8 : (0 : Int) ≤ ((158800 : Int) + ((-1) * s + 0)) := g8
  refine hvC ?_
  refine rqi_6_0 (?_ : q6 [] (R 58))
  intro z z0 z1 hx
  by_cases c : 39700 * z = b
  · have hh := g0 sq (by omega) (by omega) (fun x hm => by rw [List.mem_singleton.mp hm]; omega)
    have t1 := g1 12 (by omega) (by omega)
    have t2 := g1 35 (by omega) (by omega)
    rw [show 39700 * sq = s by omega] at hh
    rw [c, show b = d by omega, t1, t2]
    rcases hh with hh | ⟨h1, h2, h3⟩
    · exact Or.inl hh
    · have t3 := g1 (30692 + 660 * R 58 (s + 12)) (by omega) (by omega)
      refine Or.inr ⟨h1, h2, ?_⟩
      rw [show d + 30692 + 660 * R 58 (s + 12) = d + (30692 + 660 * R 58 (s + 12)) by omega, t3, show s + (30692 + 660 * R 58 (s + 12)) = s + 30692 + 660 * R 58 (s + 12) by omega]
      exact h3
  · exact g0 z z0 z1 (fun x hm => by rw [List.mem_singleton.mp hm]; exact c)

theorem tN_32_3_0 : vN rQ 32 hn_32_3_0 := by
  intro R G ps hl
  obtain ⟨a, c, h, rfl⟩ := hl3 hl
  refine hv9 (fun t1_0 e x g0 => ?_)
  replace g0 : hopS 4 t1_0 e x := g0
  refine hmc rfl (fun e1_0 => ?_)
  replace e1_0 : ((0 : Int) + (1 * a + 0)) = t1_0 := e1_0
  refine hmb rfl ?_
  show hmt _ _ _ [a, c, h, e]
  refine hmn ?_
  show hV _ _ _ _ _ [a, c, h, e, x]
  refine hv9 (fun t2_0 e8 y g1 => ?_)
  replace g1 : hopS 5 t2_0 e8 y := g1
  refine hmc rfl (fun e2_0 => ?_)
  replace e2_0 : ((1 : Int) + 0) = t2_0 := e2_0
  refine hmb rfl ?_
  show hmt _ _ _ [a, c, h, e, x, e8]
  refine hmn ?_
  show hV _ _ _ _ _ [a, c, h, e, x, e8, y]
  refine hv13 (fun g2 => ?_)
  replace g2 : ((0 : Int) + (1 * y + 0)) = ((1 : Int) + (1 * e + 0)) := g2
  refine hv13 (fun g3 => ?_)
  replace g3 : ((0 : Int) + (1 * e8 + 0)) = ((0 : Int) + (8 * c + 0)) := g3
  refine hv0 (fun g4 => ?_)
  replace g4 : (0 : Int) ≤ ((0 : Int) + (1 * c + 0)) := g4
  refine hv0 (fun g5 => ?_)
  replace g5 : (0 : Int) ≤ ((7 : Int) + ((-1) * c + 0)) := g5
  refine hv0 (fun g6 => ?_)
  replace g6 : (0 : Int) ≤ ((0 : Int) + (1 * h + ((-1) * x + 0))) := g6
  refine hvC ?_
  refine rqi_32_3 (?_ : q32 a c h )
  have q_ : a = t1_0 := by omega
  subst q_
  have q_ : t2_0 = 1 := by omega
  subst q_
  have q_ : e8 = 8 * c := by omega
  subst q_
  intro c0 c1
  rw [← q32_eq g0 g1 (by omega) c0 c1]
  omega

theorem tN_33_3_0 : vN rQ 33 hn_33_3_0 := by
  intro R G ps hl
  obtain ⟨r, c, w, rfl⟩ := hl3 hl
  refine hv13 (fun g0 => ?_)
  replace g0 : ((0 : Int) + (1 * c + 0)) = ((2 : Int) + 0) := g0
  refine hv9 (fun p f z g1 => ?_)
  replace g1 : hopS 6 p f z := g1
  refine hmb rfl ?_
  show hmt _ _ _ [r, c, w, p]
  refine hmb rfl ?_
  show hmt _ _ _ [r, c, w, p, f]
  refine hmn ?_
  show hV _ _ _ _ _ [r, c, w, p, f, z]
  refine hv13 (fun g2 => ?_)
  replace g2 : ((0 : Int) + (1 * r + 0)) = ((0 : Int) + (1 * z + 0)) := g2
  refine hv13 (fun g3 => ?_)
  replace g3 : ((0 : Int) + (1 * f + 0)) = ((48 : Int) + 0) := g3
  refine hv9 (fun w0 f2 y g4 => ?_)
  replace g4 : hopS 5 w0 f2 y := g4
  refine hmb rfl ?_
  show hmt _ _ _ [r, c, w, p, f, z, w0]
  refine hmb rfl ?_
  show hmt _ _ _ [r, c, w, p, f, z, w0, f2]
  refine hmn ?_
  show hV _ _ _ _ _ [r, c, w, p, f, z, w0, f2, y]
  refine hv13 (fun g5 => ?_)
  replace g5 : ((0 : Int) + (1 * p + 0)) = ((0 : Int) + (1 * y + 0)) := g5
  refine hv13 (fun g6 => ?_)
  replace g6 : ((0 : Int) + (1 * f2 + 0)) = ((48 : Int) + 0) := g6
  refine hv13 (fun g7 => ?_)
  replace g7 : ((0 : Int) + (1 * w0 + 0)) = ((0 : Int) + (1 * w + 0)) := g7
  refine hv0 (fun g8 => ?_)
  replace g8 : (0 : Int) ≤ ((0 : Int) + (1 * w + 0)) := g8
  refine hv0 (fun g9 => ?_)
  replace g9 : (0 : Int) ≤ ((65535 : Int) + ((-1) * w + 0)) := g9
  refine hvC ?_
  refine rqi_33_3 (?_ : q33 r c w )
  have q_ : f = 48 := by omega
  subst q_
  have q_ : y = p := by omega
  subst q_
  have q_ : f2 = 48 := by omega
  subst q_
  have q_ : w = w0 := by omega
  subst q_
  have q_ : c = 2 := by omega
  subst q_
  intro c0 c1
  have t_ := q33_shx (f := 48) (k := 16) g4 g1 rfl (by decide) (by omega) (by omega) (by omega)
  rw [show r = z by omega]
  exact t_

theorem tN_33_3_1 : vN rQ 33 hn_33_3_1 := by
  intro R G ps hl
  obtain ⟨r, c, w, rfl⟩ := hl3 hl
  refine hv13 (fun g0 => ?_)
  replace g0 : ((0 : Int) + (1 * c + 0)) = ((3 : Int) + 0) := g0
  refine hv9 (fun p f z g1 => ?_)
  replace g1 : hopS 6 p f z := g1
  refine hmb rfl ?_
  show hmt _ _ _ [r, c, w, p]
  refine hmb rfl ?_
  show hmt _ _ _ [r, c, w, p, f]
  refine hmn ?_
  show hV _ _ _ _ _ [r, c, w, p, f, z]
  refine hv13 (fun g2 => ?_)
  replace g2 : ((0 : Int) + (1 * r + 0)) = ((0 : Int) + (1 * z + 0)) := g2
  refine hv13 (fun g3 => ?_)
  replace g3 : ((0 : Int) + (1 * f + 0)) = ((40 : Int) + 0) := g3
  refine hv9 (fun w0 f2 y g4 => ?_)
  replace g4 : hopS 5 w0 f2 y := g4
  refine hmb rfl ?_
  show hmt _ _ _ [r, c, w, p, f, z, w0]
  refine hmb rfl ?_
  show hmt _ _ _ [r, c, w, p, f, z, w0, f2]
  refine hmn ?_
  show hV _ _ _ _ _ [r, c, w, p, f, z, w0, f2, y]
  refine hv13 (fun g5 => ?_)
  replace g5 : ((0 : Int) + (1 * p + 0)) = ((0 : Int) + (1 * y + 0)) := g5
  refine hv13 (fun g6 => ?_)
  replace g6 : ((0 : Int) + (1 * f2 + 0)) = ((40 : Int) + 0) := g6
  refine hv13 (fun g7 => ?_)
  replace g7 : ((0 : Int) + (1 * w0 + 0)) = ((0 : Int) + (1 * w + 0)) := g7
  refine hv0 (fun g8 => ?_)
  replace g8 : (0 : Int) ≤ ((0 : Int) + (1 * w + 0)) := g8
  refine hv0 (fun g9 => ?_)
  replace g9 : (0 : Int) ≤ ((16777215 : Int) + ((-1) * w + 0)) := g9
  refine hvC ?_
  refine rqi_33_3 (?_ : q33 r c w )
  have q_ : f = 40 := by omega
  subst q_
  have q_ : y = p := by omega
  subst q_
  have q_ : f2 = 40 := by omega
  subst q_
  have q_ : w = w0 := by omega
  subst q_
  have q_ : c = 3 := by omega
  subst q_
  intro c0 c1
  have t_ := q33_shx (f := 40) (k := 24) g4 g1 rfl (by decide) (by omega) (by omega) (by omega)
  rw [show r = z by omega]
  exact t_

theorem tN_33_3_2 : vN rQ 33 hn_33_3_2 := by
  intro R G ps hl
  obtain ⟨r, c, w, rfl⟩ := hl3 hl
  refine hv13 (fun g0 => ?_)
  replace g0 : ((0 : Int) + (1 * c + 0)) = ((4 : Int) + 0) := g0
  refine hv9 (fun p f z g1 => ?_)
  replace g1 : hopS 6 p f z := g1
  refine hmb rfl ?_
  show hmt _ _ _ [r, c, w, p]
  refine hmb rfl ?_
  show hmt _ _ _ [r, c, w, p, f]
  refine hmn ?_
  show hV _ _ _ _ _ [r, c, w, p, f, z]
  refine hv13 (fun g2 => ?_)
  replace g2 : ((0 : Int) + (1 * r + 0)) = ((0 : Int) + (1 * z + 0)) := g2
  refine hv13 (fun g3 => ?_)
  replace g3 : ((0 : Int) + (1 * f + 0)) = ((32 : Int) + 0) := g3
  refine hv9 (fun w0 f2 y g4 => ?_)
  replace g4 : hopS 5 w0 f2 y := g4
  refine hmb rfl ?_
  show hmt _ _ _ [r, c, w, p, f, z, w0]
  refine hmb rfl ?_
  show hmt _ _ _ [r, c, w, p, f, z, w0, f2]
  refine hmn ?_
  show hV _ _ _ _ _ [r, c, w, p, f, z, w0, f2, y]
  refine hv13 (fun g5 => ?_)
  replace g5 : ((0 : Int) + (1 * p + 0)) = ((0 : Int) + (1 * y + 0)) := g5
  refine hv13 (fun g6 => ?_)
  replace g6 : ((0 : Int) + (1 * f2 + 0)) = ((32 : Int) + 0) := g6
  refine hv13 (fun g7 => ?_)
  replace g7 : ((0 : Int) + (1 * w0 + 0)) = ((0 : Int) + (1 * w + 0)) := g7
  refine hv0 (fun g8 => ?_)
  replace g8 : (0 : Int) ≤ ((0 : Int) + (1 * w + 0)) := g8
  refine hv0 (fun g9 => ?_)
  replace g9 : (0 : Int) ≤ ((4294967295 : Int) + ((-1) * w + 0)) := g9
  refine hvC ?_
  refine rqi_33_3 (?_ : q33 r c w )
  have q_ : f = 32 := by omega
  subst q_
  have q_ : y = p := by omega
  subst q_
  have q_ : f2 = 32 := by omega
  subst q_
  have q_ : w = w0 := by omega
  subst q_
  have q_ : c = 4 := by omega
  subst q_
  intro c0 c1
  have t_ := q33_shx (f := 32) (k := 32) g4 g1 rfl (by decide) (by omega) (by omega) (by omega)
  rw [show r = z by omega]
  exact t_

theorem tN_10_1_0 : vN rQ 10 hn_10_1_0 := by
  intro R G ps hl
  obtain ⟨b, rfl⟩ := hl1 hl
  refine hv4 (hm0 (fun g0 => ?_))
  replace g0 : q10 [] (R 58) := rqo_10_0 g0
  refine hmn ?_
  show hV _ _ _ _ _ [b]
  refine hvC ?_
  refine rqi_10_1 (?_ : q10 [b] (R 58))
  intro z z0 z1 hx
  exact g0 z z0 z1 (fun x hx => by cases hx)

theorem tN_10_0_0 : vN rQ 10 hn_10_0_0 := by
  intro R G ps hl
  obtain rfl := hl0 hl
  refine hv4 (hm1 (fun b g0 => ?_))
  replace g0 : q10 [b] (R 58) := rqo_10_1 g0
  refine hmb rfl ?_
  show hmt _ _ _ [b]
  refine hmn ?_
  show hV _ _ _ _ _ [b]
  refine hv4 (hm8 (fun b2 m2 ic2 un2 pc2 x2 y2 h2 g1 => ?_))
  replace g1 : q12 b2 m2 ic2 un2 pc2 x2 y2 h2 (R 58) := rqo_12_8 g1
  refine hmb rfl ?_
  show hmt _ _ _ [b, b2]
  refine hmb rfl ?_
  show hmt _ _ _ [b, b2, m2]
  refine hmb rfl ?_
  show hmt _ _ _ [b, b2, m2, ic2]
  refine hmb rfl ?_
  show hmt _ _ _ [b, b2, m2, ic2, un2]
  refine hmb rfl ?_
  show hmt _ _ _ [b, b2, m2, ic2, un2, pc2]
  refine hmb rfl ?_
  show hmt _ _ _ [b, b2, m2, ic2, un2, pc2, x2]
  refine hmb rfl ?_
  show hmt _ _ _ [b, b2, m2, ic2, un2, pc2, x2, y2]
  refine hmb rfl ?_
  show hmt _ _ _ [b, b2, m2, ic2, un2, pc2, x2, y2, h2]
  refine hmn ?_
  show hV _ _ _ _ _ [b, b2, m2, ic2, un2, pc2, x2, y2, h2]
  refine hv13 (fun g2 => ?_)
  replace g2 : ((0 : Int) + (1 * b2 + 0)) = ((0 : Int) + (1 * b + 0)) := g2
  refine hv2 (fun many hag3 g3 => ?_)
  replace g3 : R 58 ((4 : Int) + (1 * b + 0)) = many := g3
  replace hag3 : (0 : Int) ≤ ((4 : Int) + (1 * b + 0)) := hag3
  replace g3 : R 58 (b + 4) = many := hF (R := R 58) g3 (ad_4 b)
  show hV _ _ _ _ _ [b, b2, m2, ic2, un2, pc2, x2, y2, h2, many]
  refine hv2 (fun ic hag4 g4 => ?_)
  replace g4 : R 58 ((5 : Int) + (1 * b + 0)) = ic := g4
  replace hag4 : (0 : Int) ≤ ((5 : Int) + (1 * b + 0)) := hag4
  replace g4 : R 58 (b + 5) = ic := hF (R := R 58) g4 (ad_5 b)
  show hV _ _ _ _ _ [b, b2, m2, ic2, un2, pc2, x2, y2, h2, many, ic]
  refine hv2 (fun under hag5 g5 => ?_)
  replace g5 : R 58 ((24 : Int) + (1 * b + 0)) = under := g5
  replace hag5 : (0 : Int) ≤ ((24 : Int) + (1 * b + 0)) := hag5
  replace g5 : R 58 (b + 24) = under := hF (R := R 58) g5 (ad_6 b)
  show hV _ _ _ _ _ [b, b2, m2, ic2, un2, pc2, x2, y2, h2, many, ic, under]
  refine hv2 (fun pc hag6 g6 => ?_)
  replace g6 : R 58 ((17 : Int) + (1 * b + 0)) = pc := g6
  replace hag6 : (0 : Int) ≤ ((17 : Int) + (1 * b + 0)) := hag6
  replace g6 : R 58 (b + 17) = pc := hF (R := R 58) g6 (ad_7 b)
  show hV _ _ _ _ _ [b, b2, m2, ic2, un2, pc2, x2, y2, h2, many, ic, under, pc]
  refine hv5 (fun g7 => ?_)
  replace g7 : q12 ((0 : Int) + (1 * b + 0)) ((0 : Int) + (1 * many + 0)) ((0 : Int) + (1 * ic + 0)) ((0 : Int) + (1 * under + 0)) ((0 : Int) + (1 * pc + 0)) ((-1 : Int) + 0) ((-1 : Int) + 0) ((1 : Int) + 0) (R 58) := rqo_12_8 g7
  simp only [Int.zero_add, Int.one_mul, Int.add_zero] at g7
  refine hvC ?_
  refine rqi_10_0 (?_ : q10 [] (R 58))
  intro z z0 z1 hx
  by_cases c : 39700 * z = b
  · obtain ⟨-, hD, hh⟩ := g7
    rw [c]
    unfold dC
    rw [show R 58 (b + 4) = many by omega, show R 58 (b + 5) = ic by omega, show R 58 (b + 24) = under by omega, show R 58 (b + 17) = pc by omega]
    exact ⟨hD, fun w => hh rfl w⟩
  · exact g0 z z0 z1 (fun x hx => by rw [List.mem_singleton.mp hx]; exact c)

theorem tN_10_0_1 : vN rQ 10 hn_10_0_1 := by
  intro R G ps hl
  obtain rfl := hl0 hl
  refine hv4 (hm1 (fun b g0 => ?_))
  replace g0 : q10 [b] (R 58) := rqo_10_1 g0
  refine hmb rfl ?_
  show hmt _ _ _ [b]
  refine hmn ?_
  show hV _ _ _ _ _ [b]
  refine hv4 (hm3 (fun s d k g1 => ?_))
  replace g1 : q60 s d k (R 58) := rqo_60_3 g1
  refine hmb rfl ?_
  show hmt _ _ _ [b, s]
  refine hmb rfl ?_
  show hmt _ _ _ [b, s, d]
  refine hmb rfl ?_
  show hmt _ _ _ [b, s, d, k]
  refine hmn ?_
  show hV _ _ _ _ _ [b, s, d, k]
  refine hv13 (fun g2 => ?_)
  replace g2 : ((0 : Int) + (1 * d + 0)) = ((0 : Int) + (1 * b + 0)) := g2
  refine hv0 (fun g3 => ?_)
  replace g3 : (0 : Int) ≤ ((-39700 : Int) + (1 * k + 0)) := g3
  refine hv8 (fun sq sr g4 g4a g4b => ?_)
  replace g4 : ((0 : Int) + (1 * s + 0)) = ((39700 : Nat) : Int) * sq + sr := g4
  replace g4b : sr < ((39700 : Nat) : Int) := g4b
  show hV _ _ _ _ _ [b, s, d, k, sq, sr]
  refine hv13 (fun g5 => ?_)
  replace g5 : ((0 : Int) + (1 * sr + 0)) = ((0 : Int) + 0) := g5
  refine hv1 (fun g6 => ?_)
  replace g6 : ((0 : Int) + (1 * s + 0)) ≠ ((0 : Int) + (1 * b + 0)) := g6
  refine hv0 (fun g7 => ?_)
  replace g7 : (0 : Int) ≤ ((0 : Int) + (1 * s + 0)) := g7
  refine hv0 (fun g8 => ?_)
  replace g8 : (0 : Int) ≤ ((198500 : Int) + ((-1) * s + 0)) := g8
  refine hvC ?_
  refine rqi_10_0 (?_ : q10 [] (R 58))
  intro z z0 z1 hx
  by_cases c : 39700 * z = b
  · refine dC_fr (g0 sq (by omega) (by omega) (fun x hx => by rw [List.mem_singleton.mp hx]; omega)) fun o ho => ?_
    have ol := DFo_lt ho
    have t := g1 o (by omega) (by omega)
    rw [show 39700 * z = d by omega, show 39700 * sq = s by omega]
    exact t
  · exact g0 z z0 z1 (fun x hx => by rw [List.mem_singleton.mp hx]; exact c)

theorem tN_10_0_2 : vN rQ 10 hn_10_0_2 := by
  intro R G ps hl
  obtain rfl := hl0 hl
  refine hv4 (hm1 (fun b g0 => ?_))
  replace g0 : q10 [b] (R 58) := rqo_10_1 g0
  refine hmb rfl ?_
  show hmt _ _ _ [b]
  refine hmn ?_
  show hV _ _ _ _ _ [b]
  refine hv4 (hm1 (fun b2 g1 => ?_))
  replace g1 : q62 b2 (R 58) := rqo_62_1 g1
  refine hmb rfl ?_
  show hmt _ _ _ [b, b2]
  refine hmn ?_
  show hV _ _ _ _ _ [b, b2]
  refine hv13 (fun g2 => ?_)
  replace g2 : ((0 : Int) + (1 * b2 + 0)) = ((0 : Int) + (1 * b + 0)) := g2
  refine hv2 (fun many hag3 g3 => ?_)
  replace g3 : R 58 ((4 : Int) + (1 * b + 0)) = many := g3
  replace hag3 : (0 : Int) ≤ ((4 : Int) + (1 * b + 0)) := hag3
  replace g3 : R 58 (b + 4) = many := hF (R := R 58) g3 (ad_4 b)
  show hV _ _ _ _ _ [b, b2, many]
  refine hv13 (fun g4 => ?_)
  replace g4 : ((0 : Int) + (1 * many + 0)) = ((172 : Int) + 0) := g4
  refine hv2 (fun ic hag5 g5 => ?_)
  replace g5 : R 58 ((5 : Int) + (1 * b + 0)) = ic := g5
  replace hag5 : (0 : Int) ≤ ((5 : Int) + (1 * b + 0)) := hag5
  replace g5 : R 58 (b + 5) = ic := hF (R := R 58) g5 (ad_5 b)
  show hV _ _ _ _ _ [b, b2, many, ic]
  refine hv13 (fun g6 => ?_)
  replace g6 : ((0 : Int) + (1 * ic + 0)) = ((0 : Int) + 0) := g6
  refine hv2 (fun under hag7 g7 => ?_)
  replace g7 : R 58 ((24 : Int) + (1 * b + 0)) = under := g7
  replace hag7 : (0 : Int) ≤ ((24 : Int) + (1 * b + 0)) := hag7
  replace g7 : R 58 (b + 24) = under := hF (R := R 58) g7 (ad_6 b)
  show hV _ _ _ _ _ [b, b2, many, ic, under]
  refine hv13 (fun g8 => ?_)
  replace g8 : ((0 : Int) + (1 * under + 0)) = ((0 : Int) + 0) := g8
  refine hv2 (fun pc hag9 g9 => ?_)
  replace g9 : R 58 ((17 : Int) + (1 * b + 0)) = pc := g9
  replace hag9 : (0 : Int) ≤ ((17 : Int) + (1 * b + 0)) := hag9
  replace g9 : R 58 (b + 17) = pc := hF (R := R 58) g9 (ad_7 b)
  show hV _ _ _ _ _ [b, b2, many, ic, under, pc]
  refine hv13 (fun g10 => ?_)
  replace g10 : ((0 : Int) + (1 * pc + 0)) = ((0 : Int) + 0) := g10
  refine hvC ?_
  refine rqi_10_0 (?_ : q10 [] (R 58))
  have q_ : b = b2 := by omega
  subst q_
  intro z z0 z1 hx
  by_cases c : 39700 * z = b
  · rw [c]
    exact zero_dC g1 (by omega) (by omega) (by omega) (by omega)
  · exact g0 z z0 z1 (fun x hx => by rw [List.mem_singleton.mp hx]; exact c)

theorem tN_10_0_3 : vN rQ 10 hn_10_0_3 := by
  intro R G ps hl
  obtain rfl := hl0 hl
  refine hv4 (hm8 (fun b w aT n eN k p old g0 => ?_))
  replace g0 : q72 b w aT n eN k p old (R 58) := rqo_72_8 g0
  refine hmb rfl ?_
  show hmt _ _ _ [b]
  refine hmb rfl ?_
  show hmt _ _ _ [b, w]
  refine hmb rfl ?_
  show hmt _ _ _ [b, w, aT]
  refine hmb rfl ?_
  show hmt _ _ _ [b, w, aT, n]
  refine hmb rfl ?_
  show hmt _ _ _ [b, w, aT, n, eN]
  refine hmb rfl ?_
  show hmt _ _ _ [b, w, aT, n, eN, k]
  refine hmb rfl ?_
  show hmt _ _ _ [b, w, aT, n, eN, k, p]
  refine hmb rfl ?_
  show hmt _ _ _ [b, w, aT, n, eN, k, p, old]
  refine hmn ?_
  show hV _ _ _ _ _ [b, w, aT, n, eN, k, p, old]
  refine hv13 (fun g1 => ?_)
  replace g1 : ((0 : Int) + (1 * p + 0)) = ((0 : Int) + 0) := g1
  refine hv13 (fun g2 => ?_)
  replace g2 : ((0 : Int) + (1 * k + 0)) = ((0 : Int) + ((-1) * n + (1 * eN + 0))) := g2
  refine hv7 (fun i g3 => ?_)
  replace g3 : ((40 : Nat) : Int) * i = ((-8292 : Int) + ((-1) * b + (1 * w + 0))) := g3
  show hV _ _ _ _ _ [b, w, aT, n, eN, k, p, old, i]
  refine hv2 (fun V hag4 g4 => ?_)
  replace g4 : R 58 ((8295 : Int) + (1 * b + (40 * i + 0))) = V := g4
  replace hag4 : (0 : Int) ≤ ((8295 : Int) + (1 * b + (40 * i + 0))) := hag4
  replace g4 : dV (R 58) b (i) = V := hF (R := R 58) g4 (ad_8 b i)
  show hV _ _ _ _ _ [b, w, aT, n, eN, k, p, old, i, V]
  refine hv2 (fun N hag5 g5 => ?_)
  replace g5 : R 58 ((8296 : Int) + (1 * b + (40 * i + 0))) = N := g5
  replace hag5 : (0 : Int) ≤ ((8296 : Int) + (1 * b + (40 * i + 0))) := hag5
  replace g5 : dL (R 58) b (i) = N := hF (R := R 58) g5 (ad_9 b i)
  show hV _ _ _ _ _ [b, w, aT, n, eN, k, p, old, i, V, N]
  refine hv13 (fun g6 => ?_)
  replace g6 : ((0 : Int) + (1 * V + (1 * N + 0))) = ((0 : Int) + ((-1) * n + (1 * eN + 0))) := g6
  refine hv4 (hm1 (fun b2 g7 => ?_))
  replace g7 : q10 [b2] (R 58) := rqo_10_1 g7
  refine hmb rfl ?_
  show hmt _ _ _ [b, w, aT, n, eN, k, p, old, i, V, N, b2]
  refine hmn ?_
  show hV _ _ _ _ _ [b, w, aT, n, eN, k, p, old, i, V, N, b2]
  refine hv13 (fun g8 => ?_)
  replace g8 : ((0 : Int) + (1 * b2 + 0)) = ((0 : Int) + (1 * b + 0)) := g8
  refine hvC ?_
  refine rqi_10_0 (?_ : q10 [] (R 58))
  have q_ : p = 0 := by omega
  subst q_
  have q_ : k = eN - n := by omega
  subst q_
  have q_ : b = b2 := by omega
  subst q_
  subst g4
  subst g5
  intro z z0 z1 hx
  by_cases c : 39700 * z = b
  · rw [c]
    exact q72_dC (i' := i) g0 (by omega) (by omega)
  · exact g7 z z0 z1 (fun x hx => by rw [List.mem_singleton.mp hx]; exact c)

theorem tN_12_8_0 : vN rQ 12 hn_12_8_0 := by
  intro R G ps hl
  obtain ⟨b, many, ic, under, pc, x, y, h, rfl⟩ := hl8 hl
  refine hv4 (hm0 (fun g0 => ?_))
  replace g0 : q10 [] (R 58) := rqo_10_0 g0
  refine hmn ?_
  show hV _ _ _ _ _ [b, many, ic, under, pc, x, y, h]
  refine hv2 (fun m0 hag1 g1 => ?_)
  replace g1 : R 58 ((4 : Int) + (1 * b + 0)) = m0 := g1
  replace hag1 : (0 : Int) ≤ ((4 : Int) + (1 * b + 0)) := hag1
  replace g1 : R 58 (b + 4) = m0 := hF (R := R 58) g1 (ad_4 b)
  show hV _ _ _ _ _ [b, many, ic, under, pc, x, y, h, m0]
  refine hv13 (fun g2 => ?_)
  replace g2 : ((0 : Int) + (1 * m0 + 0)) = ((0 : Int) + (1 * many + 0)) := g2
  refine hv2 (fun i0 hag3 g3 => ?_)
  replace g3 : R 58 ((5 : Int) + (1 * b + 0)) = i0 := g3
  replace hag3 : (0 : Int) ≤ ((5 : Int) + (1 * b + 0)) := hag3
  replace g3 : R 58 (b + 5) = i0 := hF (R := R 58) g3 (ad_5 b)
  show hV _ _ _ _ _ [b, many, ic, under, pc, x, y, h, m0, i0]
  refine hv13 (fun g4 => ?_)
  replace g4 : ((0 : Int) + (1 * i0 + 0)) = ((0 : Int) + (1 * ic + 0)) := g4
  refine hv2 (fun u0 hag5 g5 => ?_)
  replace g5 : R 58 ((24 : Int) + (1 * b + 0)) = u0 := g5
  replace hag5 : (0 : Int) ≤ ((24 : Int) + (1 * b + 0)) := hag5
  replace g5 : R 58 (b + 24) = u0 := hF (R := R 58) g5 (ad_6 b)
  show hV _ _ _ _ _ [b, many, ic, under, pc, x, y, h, m0, i0, u0]
  refine hv13 (fun g6 => ?_)
  replace g6 : ((0 : Int) + (1 * u0 + 0)) = ((0 : Int) + (1 * under + 0)) := g6
  refine hv2 (fun p0 hag7 g7 => ?_)
  replace g7 : R 58 ((17 : Int) + (1 * b + 0)) = p0 := g7
  replace hag7 : (0 : Int) ≤ ((17 : Int) + (1 * b + 0)) := hag7
  replace g7 : R 58 (b + 17) = p0 := hF (R := R 58) g7 (ad_7 b)
  show hV _ _ _ _ _ [b, many, ic, under, pc, x, y, h, m0, i0, u0, p0]
  refine hv13 (fun g8 => ?_)
  replace g8 : ((0 : Int) + (1 * p0 + 0)) = ((0 : Int) + (1 * pc + 0)) := g8
  refine hv13 (fun g9 => ?_)
  replace g9 : ((0 : Int) + (1 * x + 0)) = ((-1 : Int) + 0) := g9
  refine hv13 (fun g10 => ?_)
  replace g10 : ((0 : Int) + (1 * y + 0)) = ((-1 : Int) + 0) := g10
  refine hv8 (fun q r g11 g11a g11b => ?_)
  replace g11 : ((0 : Int) + (1 * b + 0)) = ((39700 : Nat) : Int) * q + r := g11
  replace g11b : r < ((39700 : Nat) : Int) := g11b
  show hV _ _ _ _ _ [b, many, ic, under, pc, x, y, h, m0, i0, u0, p0, q, r]
  refine hv13 (fun g12 => ?_)
  replace g12 : ((0 : Int) + (1 * r + 0)) = ((0 : Int) + 0) := g12
  refine hv0 (fun g13 => ?_)
  replace g13 : (0 : Int) ≤ ((5 : Int) + ((-1) * q + 0)) := g13
  refine hv0 (fun g14 => ?_)
  replace g14 : (0 : Int) ≤ ((0 : Int) + (1 * q + 0)) := g14
  refine hvC ?_
  refine rqi_12_8 (?_ : q12 b many ic under pc x y h (R 58))
  obtain ⟨hD, hH⟩ := g0 q (by omega) (by omega) (fun x hx => by cases hx)
  rw [show 39700 * q = b by omega] at hD hH
  rw [show R 58 (b + 4) = many by omega, show R 58 (b + 5) = ic by omega, show R 58 (b + 24) = under by omega, show R 58 (b + 17) = pc by omega] at hD
  rw [show R 58 (b + 24) = under by omega] at hH
  rw [show x = -1 by omega, show y = -1 by omega]
  exact ⟨⟨q, by omega, by omega, by omega⟩, hD, fun _ c => hH c⟩

theorem tN_18_4_0 : vN rQ 18 hn_18_4_0 := by
  intro R G ps hl
  obtain ⟨b, ic, pc, n, rfl⟩ := hl4 hl
  refine hv13 (fun g0 => ?_)
  replace g0 : ((0 : Int) + (1 * n + 0)) = ((0 : Int) + (1 * ic + 0)) := g0
  refine hvC ?_
  refine rqi_18_4 (?_ : dRs (R 58) b ic pc n)
  exact Or.inl (by omega)

theorem tN_18_4_1 : vN rQ 18 hn_18_4_1 := by
  intro R G ps hl
  obtain ⟨b, ic, pc, n, rfl⟩ := hl4 hl
  refine hv0 (fun g0 => ?_)
  replace g0 : (0 : Int) ≤ ((-1 : Int) + (1 * pc + 0)) := g0
  refine hv2 (fun k hag1 g1 => ?_)
  replace g1 : R 58 ((37414 : Int) + (1 * b + (6 * pc + 0))) = k := g1
  replace hag1 : (0 : Int) ≤ ((37414 : Int) + (1 * b + (6 * pc + 0))) := hag1
  replace g1 : pK (R 58) b (pc - 1) = k := hF (R := R 58) g1 (ad_10 b pc)
  show hV _ _ _ _ _ [b, ic, pc, n, k]
  refine hv13 (fun g2 => ?_)
  replace g2 : ((0 : Int) + (1 * k + 0)) = ((2 : Int) + 0) := g2
  refine hv2 (fun l hag3 g3 => ?_)
  replace g3 : R 58 ((37415 : Int) + (1 * b + (6 * pc + 0))) = l := g3
  replace hag3 : (0 : Int) ≤ ((37415 : Int) + (1 * b + (6 * pc + 0))) := hag3
  replace g3 : pP (R 58) b (pc - 1) = l := hF (R := R 58) g3 (ad_11 b pc)
  show hV _ _ _ _ _ [b, ic, pc, n, k, l]
  refine hv13 (fun g4 => ?_)
  replace g4 : ((0 : Int) + (1 * n + 0)) = ((0 : Int) + (1 * l + 0)) := g4
  refine hvC ?_
  refine rqi_18_4 (?_ : dRs (R 58) b ic pc n)
  exact Or.inr ⟨pc - 1, by omega, by omega, Or.inl ⟨by omega, by omega⟩⟩

theorem tN_18_4_2 : vN rQ 18 hn_18_4_2 := by
  intro R G ps hl
  obtain ⟨b, ic, pc, n, rfl⟩ := hl4 hl
  refine hv0 (fun g0 => ?_)
  replace g0 : (0 : Int) ≤ ((-1 : Int) + (1 * pc + 0)) := g0
  refine hv2 (fun k hag1 g1 => ?_)
  replace g1 : R 58 ((37414 : Int) + (1 * b + (6 * pc + 0))) = k := g1
  replace hag1 : (0 : Int) ≤ ((37414 : Int) + (1 * b + (6 * pc + 0))) := hag1
  replace g1 : pK (R 58) b (pc - 1) = k := hF (R := R 58) g1 (ad_10 b pc)
  show hV _ _ _ _ _ [b, ic, pc, n, k]
  refine hv13 (fun g2 => ?_)
  replace g2 : ((0 : Int) + (1 * k + 0)) = ((3 : Int) + 0) := g2
  refine hv2 (fun l hag3 g3 => ?_)
  replace g3 : R 58 ((37415 : Int) + (1 * b + (6 * pc + 0))) = l := g3
  replace hag3 : (0 : Int) ≤ ((37415 : Int) + (1 * b + (6 * pc + 0))) := hag3
  replace g3 : pP (R 58) b (pc - 1) = l := hF (R := R 58) g3 (ad_11 b pc)
  show hV _ _ _ _ _ [b, ic, pc, n, k, l]
  refine hv13 (fun g4 => ?_)
  replace g4 : ((0 : Int) + (1 * n + 0)) = ((1 : Int) + (1 * l + 0)) := g4
  refine hvC ?_
  refine rqi_18_4 (?_ : dRs (R 58) b ic pc n)
  exact Or.inr ⟨pc - 1, by omega, by omega, Or.inr ⟨by omega, by omega⟩⟩

theorem tN_93_1_0 : vN rQ 93 hn_93_1_0 := by
  intro R G ps hl
  obtain ⟨k, rfl⟩ := hl1 hl
  refine hv0 (fun g0 => ?_)
  replace g0 : (0 : Int) ≤ ((-2 : Int) + (1 * k + 0)) := g0
  refine hv0 (fun g1 => ?_)
  replace g1 : (0 : Int) ≤ ((3 : Int) + ((-1) * k + 0)) := g1
  refine hvC ?_
  refine rqi_93_1 (?_ : ild k)
  unfold ild
  omega

theorem tN_93_1_1 : vN rQ 93 hn_93_1_1 := by
  intro R G ps hl
  obtain ⟨k, rfl⟩ := hl1 hl
  refine hv0 (fun g0 => ?_)
  replace g0 : (0 : Int) ≤ ((-5 : Int) + (1 * k + 0)) := g0
  refine hv0 (fun g1 => ?_)
  replace g1 : (0 : Int) ≤ ((9 : Int) + ((-1) * k + 0)) := g1
  refine hvC ?_
  refine rqi_93_1 (?_ : ild k)
  unfold ild
  omega

theorem tN_94_1_0 : vN rQ 94 hn_94_1_0 := by
  intro R G ps hl
  obtain ⟨k, rfl⟩ := hl1 hl
  refine hv0 (fun g0 => ?_)
  replace g0 : (0 : Int) ≤ ((1 : Int) + ((-1) * k + 0)) := g0
  refine hvC ?_
  refine rqi_94_1 (?_ : ¬ ild k)
  unfold ild
  omega

theorem tN_94_1_1 : vN rQ 94 hn_94_1_1 := by
  intro R G ps hl
  obtain ⟨k, rfl⟩ := hl1 hl
  refine hv0 (fun g0 => ?_)
  replace g0 : (0 : Int) ≤ ((-4 : Int) + (1 * k + 0)) := g0
  refine hv0 (fun g1 => ?_)
  replace g1 : (0 : Int) ≤ ((4 : Int) + ((-1) * k + 0)) := g1
  refine hvC ?_
  refine rqi_94_1 (?_ : ¬ ild k)
  unfold ild
  omega

theorem tN_94_1_2 : vN rQ 94 hn_94_1_2 := by
  intro R G ps hl
  obtain ⟨k, rfl⟩ := hl1 hl
  refine hv0 (fun g0 => ?_)
  replace g0 : (0 : Int) ≤ ((-10 : Int) + (1 * k + 0)) := g0
  refine hvC ?_
  refine rqi_94_1 (?_ : ¬ ild k)
  unfold ild
  omega

theorem tN_19_5_0 : vN rQ 19 hn_19_5_0 := by
  intro R G ps hl
  obtain ⟨b, ic, under, pc, x, rfl⟩ := hl5 hl
  refine hv13 (fun g0 => ?_)
  replace g0 : ((0 : Int) + (1 * x + 0)) = ((-1 : Int) + 0) := g0
  refine hvC ?_
  refine rqi_19_5 (?_ : dNx (R 58) b ic under pc x)
  exact Or.inl (by omega)

theorem tN_19_5_1 : vN rQ 19 hn_19_5_1 := by
  intro R G ps hl
  obtain ⟨b, ic, under, pc, x, rfl⟩ := hl5 hl
  refine hv0 (fun g0 => ?_)
  replace g0 : (0 : Int) ≤ ((-2 : Int) + (1 * under + 0)) := g0
  refine hvC ?_
  refine rqi_19_5 (?_ : dNx (R 58) b ic under pc x)
  exact Or.inr (Or.inl (by omega))

theorem tN_19_5_2 : vN rQ 19 hn_19_5_2 := by
  intro R G ps hl
  obtain ⟨b, ic, under, pc, x, rfl⟩ := hl5 hl
  refine hv2 (fun k hag0 g0 => ?_)
  replace g0 : R 58 ((22692 : Int) + (1 * b + (2 * x + 0))) = k := g0
  replace hag0 : (0 : Int) ≤ ((22692 : Int) + (1 * b + (2 * x + 0))) := hag0
  replace g0 : iK (R 58) b (x) = k := hF (R := R 58) g0 (ad_12 b x)
  show hV _ _ _ _ _ [b, ic, under, pc, x, k]
  refine hv5 (fun g1 => ?_)
  replace g1 : ¬ ild ((0 : Int) + (1 * k + 0)) := rqo_94_1 g1
  simp only [Int.zero_add, Int.one_mul, Int.add_zero] at g1
  refine hvC ?_
  refine rqi_19_5 (?_ : dNx (R 58) b ic under pc x)
  exact Or.inr (Or.inr (Or.inl (by rw [g0]; exact g1)))

theorem tN_19_5_3 : vN rQ 19 hn_19_5_3 := by
  intro R G ps hl
  obtain ⟨b, ic, under, pc, x, rfl⟩ := hl5 hl
  refine hv0 (fun g0 => ?_)
  replace g0 : (0 : Int) ≤ ((-1 : Int) + (1 * pc + 0)) := g0
  refine hv2 (fun k hag1 g1 => ?_)
  replace g1 : R 58 ((37414 : Int) + (1 * b + (6 * pc + 0))) = k := g1
  replace hag1 : (0 : Int) ≤ ((37414 : Int) + (1 * b + (6 * pc + 0))) := hag1
  replace g1 : pK (R 58) b (pc - 1) = k := hF (R := R 58) g1 (ad_10 b pc)
  show hV _ _ _ _ _ [b, ic, under, pc, x, k]
  refine hv10 (fun g2 => ?_)
  replace g2 : ((0 : Int) + (1 * k + 0)) = (1 : Int) ∨ ((0 : Int) + (1 * k + 0)) = (5 : Int) ∨ ((0 : Int) + (1 * k + 0)) = (6 : Int) ∨ ((0 : Int) + (1 * k + 0)) = (3 : Int) := g2
  refine hv2 (fun l hag3 g3 => ?_)
  replace g3 : R 58 ((37415 : Int) + (1 * b + (6 * pc + 0))) = l := g3
  replace hag3 : (0 : Int) ≤ ((37415 : Int) + (1 * b + (6 * pc + 0))) := hag3
  replace g3 : pP (R 58) b (pc - 1) = l := hF (R := R 58) g3 (ad_11 b pc)
  show hV _ _ _ _ _ [b, ic, under, pc, x, k, l]
  refine hv13 (fun g4 => ?_)
  replace g4 : ((0 : Int) + (1 * l + 0)) = ((0 : Int) + (1 * x + 0)) := g4
  refine hvC ?_
  refine rqi_19_5 (?_ : dNx (R 58) b ic under pc x)
  exact Or.inr (Or.inr (Or.inr (Or.inr ⟨pc - 1, by omega, by omega, by omega, by omega⟩)))

theorem tN_25_2_0 : vN rQ 25 hn_25_2_0 := by
  intro R G ps hl
  obtain ⟨b, p, rfl⟩ := hl2 hl
  refine hv2 (fun k hag0 g0 => ?_)
  replace g0 : R 58 ((37420 : Int) + (1 * b + (6 * p + 0))) = k := g0
  replace hag0 : (0 : Int) ≤ ((37420 : Int) + (1 * b + (6 * p + 0))) := hag0
  replace g0 : pK (R 58) b (p) = k := hF (R := R 58) g0 (ad_13 b p)
  show hV _ _ _ _ _ [b, p, k]
  refine hv10 (fun g1 => ?_)
  replace g1 : ((0 : Int) + (1 * k + 0)) = (1 : Int) ∨ ((0 : Int) + (1 * k + 0)) = (5 : Int) ∨ ((0 : Int) + (1 * k + 0)) = (6 : Int) := g1
  refine hvC ?_
  refine rqi_25_2 (?_ : q25 b p (R 58))
  unfold q25
  omega

theorem tN_25_2_1 : vN rQ 25 hn_25_2_1 := by
  intro R G ps hl
  obtain ⟨b, p, rfl⟩ := hl2 hl
  refine hv4 (hm3 (fun b2 l u g0 => ?_))
  replace g0 : q15 b2 l u (R 58) := rqo_15_3 g0
  refine hmb rfl ?_
  show hmt _ _ _ [b, p, b2]
  refine hmb rfl ?_
  show hmt _ _ _ [b, p, b2, l]
  refine hmb rfl ?_
  show hmt _ _ _ [b, p, b2, l, u]
  refine hmn ?_
  show hV _ _ _ _ _ [b, p, b2, l, u]
  refine hv13 (fun g1 => ?_)
  replace g1 : ((0 : Int) + (1 * b2 + 0)) = ((0 : Int) + (1 * b + 0)) := g1
  refine hv0 (fun g2 => ?_)
  replace g2 : (0 : Int) ≤ ((0 : Int) + (1 * p + ((-1) * l + 0))) := g2
  refine hv0 (fun g3 => ?_)
  replace g3 : (0 : Int) ≤ ((-1 : Int) + ((-1) * p + (1 * u + 0))) := g3
  refine hvC ?_
  refine rqi_25_2 (?_ : q25 b p (R 58))
  unfold q25
  rw [← show b2 = b by omega]
  have t := g0 p (by omega) (by omega)
  omega

theorem tN_14_3_0 : vN rQ 14 hn_14_3_0 := by
  intro R G ps hl
  obtain ⟨b, s, k, rfl⟩ := hl3 hl
  refine hv13 (fun g0 => ?_)
  replace g0 : ((0 : Int) + (1 * k + 0)) = ((0 : Int) + 0) := g0
  refine hvC ?_
  refine rqi_14_3 (?_ : q14 b s k (R 58))
  intro i h0 h1
  omega

theorem tN_14_3_1 : vN rQ 14 hn_14_3_1 := by
  intro R G ps hl
  obtain ⟨b, s, k, rfl⟩ := hl3 hl
  refine hv2 (fun c hag0 g0 => ?_)
  replace g0 : R 58 ((8252 : Int) + (1 * b + (40 * k + 0))) = c := g0
  replace hag0 : (0 : Int) ≤ ((8252 : Int) + (1 * b + (40 * k + 0))) := hag0
  replace g0 : dK (R 58) b (k - 1) = c := hF (R := R 58) g0 (ad_14 b k)
  show hV _ _ _ _ _ [b, s, k, c]
  refine hv1 (fun g1 => ?_)
  replace g1 : ((0 : Int) + (1 * c + 0)) ≠ ((6 : Int) + 0) := g1
  refine hv4 (hm3 (fun b2 s2 k2 g2 => ?_))
  replace g2 : q14 b2 s2 k2 (R 58) := rqo_14_3 g2
  refine hmb rfl ?_
  show hmt _ _ _ [b, s, k, c, b2]
  refine hmb rfl ?_
  show hmt _ _ _ [b, s, k, c, b2, s2]
  refine hmb rfl ?_
  show hmt _ _ _ [b, s, k, c, b2, s2, k2]
  refine hmn ?_
  show hV _ _ _ _ _ [b, s, k, c, b2, s2, k2]
  refine hv13 (fun g3 => ?_)
  replace g3 : ((0 : Int) + (1 * b2 + 0)) = ((0 : Int) + (1 * b + 0)) := g3
  refine hv13 (fun g4 => ?_)
  replace g4 : ((0 : Int) + (1 * s2 + 0)) = ((0 : Int) + (1 * s + 0)) := g4
  refine hv13 (fun g5 => ?_)
  replace g5 : ((0 : Int) + (1 * k2 + 0)) = ((-1 : Int) + (1 * k + 0)) := g5
  refine hvC ?_
  refine rqi_14_3 (?_ : q14 b s k (R 58))
  intro i h0 h1
  rcases (show i < k - 1 ∨ i = k - 1 by omega) with d1 | d1
  · rw [← show b2 = b by omega, ← show s2 = s by omega]
    exact g2 i h0 (by omega)
  · rw [d1]
    rintro ⟨w1, w2⟩
    omega

theorem tN_14_3_2 : vN rQ 14 hn_14_3_2 := by
  intro R G ps hl
  obtain ⟨b, s, k, rfl⟩ := hl3 hl
  refine hv2 (fun c hag0 g0 => ?_)
  replace g0 : R 58 ((8255 : Int) + (1 * b + (40 * k + 0))) = c := g0
  replace hag0 : (0 : Int) ≤ ((8255 : Int) + (1 * b + (40 * k + 0))) := hag0
  replace g0 : dV (R 58) b (k - 1) = c := hF (R := R 58) g0 (ad_15 b k)
  show hV _ _ _ _ _ [b, s, k, c]
  refine hv1 (fun g1 => ?_)
  replace g1 : ((0 : Int) + (1 * c + 0)) ≠ ((0 : Int) + (1 * s + 0)) := g1
  refine hv4 (hm3 (fun b2 s2 k2 g2 => ?_))
  replace g2 : q14 b2 s2 k2 (R 58) := rqo_14_3 g2
  refine hmb rfl ?_
  show hmt _ _ _ [b, s, k, c, b2]
  refine hmb rfl ?_
  show hmt _ _ _ [b, s, k, c, b2, s2]
  refine hmb rfl ?_
  show hmt _ _ _ [b, s, k, c, b2, s2, k2]
  refine hmn ?_
  show hV _ _ _ _ _ [b, s, k, c, b2, s2, k2]
  refine hv13 (fun g3 => ?_)
  replace g3 : ((0 : Int) + (1 * b2 + 0)) = ((0 : Int) + (1 * b + 0)) := g3
  refine hv13 (fun g4 => ?_)
  replace g4 : ((0 : Int) + (1 * s2 + 0)) = ((0 : Int) + (1 * s + 0)) := g4
  refine hv13 (fun g5 => ?_)
  replace g5 : ((0 : Int) + (1 * k2 + 0)) = ((-1 : Int) + (1 * k + 0)) := g5
  refine hvC ?_
  refine rqi_14_3 (?_ : q14 b s k (R 58))
  intro i h0 h1
  rcases (show i < k - 1 ∨ i = k - 1 by omega) with d1 | d1
  · rw [← show b2 = b by omega, ← show s2 = s by omega]
    exact g2 i h0 (by omega)
  · rw [d1]
    rintro ⟨w1, w2⟩
    omega

theorem tN_15_3_0 : vN rQ 15 hn_15_3_0 := by
  intro R G ps hl
  obtain ⟨b, l, u, rfl⟩ := hl3 hl
  refine hv13 (fun g0 => ?_)
  replace g0 : ((0 : Int) + (1 * l + 0)) = ((0 : Int) + (1 * u + 0)) := g0
  refine hvC ?_
  refine rqi_15_3 (?_ : q15 b l u (R 58))
  intro p h0 h1
  omega

theorem tN_15_3_1 : vN rQ 15 hn_15_3_1 := by
  intro R G ps hl
  obtain ⟨b, l, u, rfl⟩ := hl3 hl
  refine hv2 (fun k hag0 g0 => ?_)
  replace g0 : R 58 ((37420 : Int) + (1 * b + (6 * l + 0))) = k := g0
  replace hag0 : (0 : Int) ≤ ((37420 : Int) + (1 * b + (6 * l + 0))) := hag0
  replace g0 : pK (R 58) b (l) = k := hF (R := R 58) g0 (ad_16 b l)
  show hV _ _ _ _ _ [b, l, u, k]
  refine hv13 (fun g1 => ?_)
  replace g1 : ((0 : Int) + (1 * k + 0)) = ((6 : Int) + 0) := g1
  refine hv4 (hm3 (fun b2 l2 u2 g2 => ?_))
  replace g2 : q15 b2 l2 u2 (R 58) := rqo_15_3 g2
  refine hmb rfl ?_
  show hmt _ _ _ [b, l, u, k, b2]
  refine hmb rfl ?_
  show hmt _ _ _ [b, l, u, k, b2, l2]
  refine hmb rfl ?_
  show hmt _ _ _ [b, l, u, k, b2, l2, u2]
  refine hmn ?_
  show hV _ _ _ _ _ [b, l, u, k, b2, l2, u2]
  refine hv13 (fun g3 => ?_)
  replace g3 : ((0 : Int) + (1 * b2 + 0)) = ((0 : Int) + (1 * b + 0)) := g3
  refine hv13 (fun g4 => ?_)
  replace g4 : ((0 : Int) + (1 * l2 + 0)) = ((1 : Int) + (1 * l + 0)) := g4
  refine hv13 (fun g5 => ?_)
  replace g5 : ((0 : Int) + (1 * u2 + 0)) = ((0 : Int) + (1 * u + 0)) := g5
  refine hvC ?_
  refine rqi_15_3 (?_ : q15 b l u (R 58))
  intro p h0 h1
  rcases (show p = l ∨ l + 1 ≤ p by omega) with d1 | d1
  · rw [d1]
    omega
  · rw [← show b2 = b by omega]
    exact g2 p (by omega) (by omega)

theorem tN_16_2_0 : vN rQ 16 hn_16_2_0 := by
  intro R G ps hl
  obtain ⟨b, aT, rfl⟩ := hl2 hl
  refine hv13 (fun g0 => ?_)
  replace g0 : ((0 : Int) + (1 * aT + 0)) = ((-1 : Int) + 0) := g0
  refine hvC ?_
  refine rqi_16_2 (?_ : q16 b aT (R 58))
  exact Or.inl (by omega)

theorem tN_16_2_1 : vN rQ 16 hn_16_2_1 := by
  intro R G ps hl
  obtain ⟨b, aT, rfl⟩ := hl2 hl
  refine hv2 (fun pc hag0 g0 => ?_)
  replace g0 : R 58 ((17 : Int) + (1 * b + 0)) = pc := g0
  replace hag0 : (0 : Int) ≤ ((17 : Int) + (1 * b + 0)) := hag0
  replace g0 : R 58 (b + 17) = pc := hF (R := R 58) g0 (ad_7 b)
  show hV _ _ _ _ _ [b, aT, pc]
  refine hv6 (fun p l g1 => ?_)
  replace g1 : R 58 (((37421 : Int) + (1 * b + 0)) + ((6 : Nat) : Int) * p) = l := g1
  replace g1 : pP (R 58) b (p) = l := hF (R := R 58) g1 (ad_17 b p)
  show hV _ _ _ _ _ [b, aT, pc, p, l]
  refine hv13 (fun g2 => ?_)
  replace g2 : ((0 : Int) + (1 * l + 0)) = ((0 : Int) + (1 * aT + 0)) := g2
  refine hv0 (fun g3 => ?_)
  replace g3 : (0 : Int) ≤ ((0 : Int) + (1 * p + 0)) := g3
  refine hv0 (fun g4 => ?_)
  replace g4 : (0 : Int) ≤ ((31 : Int) + ((-1) * p + 0)) := g4
  refine hv0 (fun g5 => ?_)
  replace g5 : (0 : Int) ≤ ((-1 : Int) + (1 * pc + ((-1) * p + 0))) := g5
  refine hv2 (fun k hag6 g6 => ?_)
  replace g6 : R 58 ((37420 : Int) + (1 * b + (6 * p + 0))) = k := g6
  replace hag6 : (0 : Int) ≤ ((37420 : Int) + (1 * b + (6 * p + 0))) := hag6
  replace g6 : pK (R 58) b (p) = k := hF (R := R 58) g6 (ad_13 b p)
  show hV _ _ _ _ _ [b, aT, pc, p, l, k]
  refine hv13 (fun g7 => ?_)
  replace g7 : ((0 : Int) + (1 * k + 0)) = ((3 : Int) + 0) := g7
  refine hvC ?_
  refine rqi_16_2 (?_ : q16 b aT (R 58))
  exact Or.inr ⟨p, by omega, by omega, by omega, by omega, by omega⟩

theorem tN_17_3_0 : vN rQ 17 hn_17_3_0 := by
  intro R G ps hl
  obtain ⟨b, l, u, rfl⟩ := hl3 hl
  refine hv13 (fun g0 => ?_)
  replace g0 : ((0 : Int) + (1 * l + 0)) = ((0 : Int) + (1 * u + 0)) := g0
  refine hvC ?_
  refine rqi_17_3 (?_ : q17 b l u (R 58))
  intro i h0 h1
  omega

theorem tN_17_3_1 : vN rQ 17 hn_17_3_1 := by
  intro R G ps hl
  obtain ⟨b, aT, k, rfl⟩ := hl3 hl
  refine hv2 (fun c hag0 g0 => ?_)
  replace g0 : R 58 ((22690 : Int) + (1 * b + (2 * k + 0))) = c := g0
  replace hag0 : (0 : Int) ≤ ((22690 : Int) + (1 * b + (2 * k + 0))) := hag0
  replace g0 : iK (R 58) b (k - 1) = c := hF (R := R 58) g0 (ad_18 b k)
  show hV _ _ _ _ _ [b, aT, k, c]
  refine hv1 (fun g1 => ?_)
  replace g1 : ((0 : Int) + (1 * c + 0)) ≠ ((8 : Int) + 0) := g1
  refine hv4 (hm3 (fun b2 a2 k2 g2 => ?_))
  replace g2 : q17 b2 a2 k2 (R 58) := rqo_17_3 g2
  refine hmb rfl ?_
  show hmt _ _ _ [b, aT, k, c, b2]
  refine hmb rfl ?_
  show hmt _ _ _ [b, aT, k, c, b2, a2]
  refine hmb rfl ?_
  show hmt _ _ _ [b, aT, k, c, b2, a2, k2]
  refine hmn ?_
  show hV _ _ _ _ _ [b, aT, k, c, b2, a2, k2]
  refine hv13 (fun g3 => ?_)
  replace g3 : ((0 : Int) + (1 * b2 + 0)) = ((0 : Int) + (1 * b + 0)) := g3
  refine hv13 (fun g4 => ?_)
  replace g4 : ((0 : Int) + (1 * a2 + 0)) = ((0 : Int) + (1 * aT + 0)) := g4
  refine hv13 (fun g5 => ?_)
  replace g5 : ((0 : Int) + (1 * k2 + 0)) = ((-1 : Int) + (1 * k + 0)) := g5
  refine hvC ?_
  refine rqi_17_3 (?_ : q17 b aT k (R 58))
  intro i h0 h1 h2
  rcases (show i < k - 1 ∨ i = k - 1 by omega) with d1 | d1
  · rw [← show b2 = b by omega, ← show a2 = aT by omega]
    rw [← show b2 = b by omega] at h2
    exact g2 i (by omega) (by omega) h2
  · rw [d1] at h2 ⊢
    omega

theorem tN_17_3_2 : vN rQ 17 hn_17_3_2 := by
  intro R G ps hl
  obtain ⟨b, aT, k, rfl⟩ := hl3 hl
  refine hv2 (fun c hag0 g0 => ?_)
  replace g0 : R 58 ((22691 : Int) + (1 * b + (2 * k + 0))) = c := g0
  replace hag0 : (0 : Int) ≤ ((22691 : Int) + (1 * b + (2 * k + 0))) := hag0
  replace g0 : iN (R 58) b (k - 1) = c := hF (R := R 58) g0 (ad_19 b k)
  show hV _ _ _ _ _ [b, aT, k, c]
  refine hv1 (fun g1 => ?_)
  replace g1 : ((0 : Int) + (1 * c + 0)) ≠ ((-2 : Int) + ((-1) * aT + 0)) := g1
  refine hv4 (hm3 (fun b2 a2 k2 g2 => ?_))
  replace g2 : q17 b2 a2 k2 (R 58) := rqo_17_3 g2
  refine hmb rfl ?_
  show hmt _ _ _ [b, aT, k, c, b2]
  refine hmb rfl ?_
  show hmt _ _ _ [b, aT, k, c, b2, a2]
  refine hmb rfl ?_
  show hmt _ _ _ [b, aT, k, c, b2, a2, k2]
  refine hmn ?_
  show hV _ _ _ _ _ [b, aT, k, c, b2, a2, k2]
  refine hv13 (fun g3 => ?_)
  replace g3 : ((0 : Int) + (1 * b2 + 0)) = ((0 : Int) + (1 * b + 0)) := g3
  refine hv13 (fun g4 => ?_)
  replace g4 : ((0 : Int) + (1 * a2 + 0)) = ((0 : Int) + (1 * aT + 0)) := g4
  refine hv13 (fun g5 => ?_)
  replace g5 : ((0 : Int) + (1 * k2 + 0)) = ((-1 : Int) + (1 * k + 0)) := g5
  refine hvC ?_
  refine rqi_17_3 (?_ : q17 b aT k (R 58))
  intro i h0 h1 h2
  rcases (show i < k - 1 ∨ i = k - 1 by omega) with d1 | d1
  · rw [← show b2 = b by omega, ← show a2 = aT by omega]
    rw [← show b2 = b by omega] at h2
    exact g2 i (by omega) (by omega) h2
  · rw [d1] at h2 ⊢
    omega

theorem tN_40_3_0 : vN rQ 40 hn_40_3_0 := by
  intro R G ps hl
  obtain ⟨t, c, u, rfl⟩ := hl3 hl
  refine hv0 (fun g0 => ?_)
  replace g0 : (0 : Int) ≤ ((-1 : Int) + (1 * c + 0)) := g0
  refine hv0 (fun g1 => ?_)
  replace g1 : (0 : Int) ≤ ((-1 : Int) + (1 * u + 0)) := g1
  refine hvC ?_
  refine rqi_40_3 (?_ : q40 t c u )
  intro ho
  unfold only at ho
  omega

theorem tN_40_3_1 : vN rQ 40 hn_40_3_1 := by
  intro R G ps hl
  obtain ⟨t, c, u, rfl⟩ := hl3 hl
  refine hv0 (fun g0 => ?_)
  replace g0 : (0 : Int) ≤ ((1000000 : Int) + (1 * t + 0)) := g0
  refine hv0 (fun g1 => ?_)
  replace g1 : (0 : Int) ≤ ((100 : Int) + ((-1) * t + 0)) := g1
  refine hvC ?_
  refine rqi_40_3 (?_ : q40 t c u )
  intro ho
  unfold only at ho
  omega

