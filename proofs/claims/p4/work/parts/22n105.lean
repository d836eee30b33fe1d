/-! RULES: theorems (printed by tools/t63.py) -/
theorem tK_83_5_0 : vK rQ 83 hk_83_5_0 := by
  intro R R' G ps lo hi hl r1 r2 hq
  obtain ⟨b, p, i, k, e, rfl⟩ := hl5 hl
  replace hq : q83 b p i k e (R 58) (R 67) (R 68) (R 60) := rqo_83_5 hq
  replace r2 : ∀ i, i < lo ∨ hi < i → R' 67 i = R 67 i := r2
  refine hv0 (fun g0 => ?_)
  replace g0 : (0 : Int) ≤ ((-1 : Int) + ((-1) * p + (1 * lo + 0))) := g0
  refine hvC ?_
  refine rqi_83_5 (?_ : q83 b p i k e (R' 58) (R' 67) (R' 68) (R' 60))
  rw [r1 58 (by decide), r1 68 (by decide), r1 60 (by decide)]
  exact q83_P hq (r2 _ (Or.inl (by omega)))

theorem tK_84_2_0 : vK rQ 84 hk_84_2_0 := by
  intro R R' G ps lo hi hl r1 r2 hq
  obtain ⟨t, k, rfl⟩ := hl2 hl
  replace hq : q84 t k (R 58) (R 67) := rqo_84_2 hq
  replace r2 : ∀ i, i < lo ∨ hi < i → R' 67 i = R 67 i := r2
  refine hv0 (fun g0 => ?_)
  replace g0 : (0 : Int) ≤ ((0 : Int) + ((-1) * k + (1 * lo + 0))) := g0
  refine hvC ?_
  refine rqi_84_2 (?_ : q84 t k (R' 58) (R' 67))
  rw [r1 58 (by decide)]
  exact q84_P hq (fun x hx => r2 x (Or.inl (by omega)))

theorem tK_86_3_0 : vK rQ 86 hk_86_3_0 := by
  intro R R' G ps lo hi hl r1 r2 hq
  obtain ⟨b, q0, n, rfl⟩ := hl3 hl
  replace hq : q86 b q0 n (R 58) (R 67) := rqo_86_3 hq
  replace r2 : ∀ i, i < lo ∨ hi < i → R' 67 i = R 67 i := r2
  refine hv0 (fun g0 => ?_)
  replace g0 : (0 : Int) ≤ ((0 : Int) + ((-1) * n + (1 * lo + 0))) := g0
  refine hv0 (fun g1 => ?_)
  replace g1 : (0 : Int) ≤ ((0 : Int) + ((-1) * q0 + (1 * lo + 0))) := g1
  refine hvC ?_
  refine rqi_86_3 (?_ : q86 b q0 n (R' 58) (R' 67))
  rw [r1 58 (by decide)]
  exact q86_P hq (fun x hx => r2 x (Or.inl (by omega))) (fun x hx => r2 x (Or.inl (by omega)))

theorem tK_87_4_0 : vK rQ 87 hk_87_4_0 := by
  intro R R' G ps lo hi hl r1 r2 hq
  obtain ⟨b, i, k, n, rfl⟩ := hl4 hl
  replace hq : q87 b i k n (R 58) (R 67) := rqo_87_4 hq
  replace r2 : ∀ i, i < lo ∨ hi < i → R' 67 i = R 67 i := r2
  refine hv0 (fun g0 => ?_)
  replace g0 : (0 : Int) ≤ ((0 : Int) + ((-1) * n + (1 * lo + 0))) := g0
  refine hvC ?_
  refine rqi_87_4 (?_ : q87 b i k n (R' 58) (R' 67))
  rw [r1 58 (by decide)]
  exact q87_P hq (fun x hx => r2 x (Or.inl (by omega)))

theorem tK_80_1_0 : vK rQ 80 hk_80_1_0 := by
  intro R R' G ps lo hi hl r1 r2 hq
  obtain ⟨n, rfl⟩ := hl1 hl
  replace hq : q80 n (R 67) := rqo_80_1 hq
  replace r2 : ∀ i, i < lo ∨ hi < i → R' 67 i = R 67 i := r2
  refine hv0 (fun g0 => ?_)
  replace g0 : (0 : Int) ≤ ((0 : Int) + ((-1) * n + (1 * lo + 0))) := g0
  refine hvC ?_
  refine rqi_80_1 (?_ : q80 n (R' 67))
  exact q80_P hq (fun x hx => r2 x (Or.inl (by omega)))

theorem tK_81_2_0 : vK rQ 81 hk_81_2_0 := by
  intro R R' G ps lo hi hl r1 r2 hq
  obtain ⟨t, k, rfl⟩ := hl2 hl
  replace hq : q81 t k (R 67) := rqo_81_2 hq
  replace r2 : ∀ i, i < lo ∨ hi < i → R' 67 i = R 67 i := r2
  refine hv0 (fun g0 => ?_)
  replace g0 : (0 : Int) ≤ ((0 : Int) + ((-1) * k + (1 * lo + 0))) := g0
  refine hvC ?_
  refine rqi_81_2 (?_ : q81 t k (R' 67))
  exact q81_P hq (fun x hx => r2 x (Or.inl (by omega)))

theorem tK_22_1_0 : vK rQ 22 hk_22_1_0 := by
  intro R R' G ps lo hi hl r1 r2 hq
  obtain ⟨f, rfl⟩ := hl1 hl
  replace hq : q22 f (R 66) (R 58) := rqo_22_1 hq
  replace r2 : ∀ i, i < lo ∨ hi < i → R' 58 i = R 58 i := r2
  refine hv11 (fun g0 => ?_)
  obtain ⟨f0, -⟩ := g0
  replace f0 : ∀ i j : Int, 0 ≤ i → i < ((0 : Int) + (1 * f + 0)) → 0 ≤ j → j < 1 → ((229441 : Int) + 0) + 10 * i + 10 * j < ((0 : Int) + (1 * lo + 0)) ∨ ((0 : Int) + (1 * hi + 0)) < ((229441 : Int) + 0) + 10 * i + 10 * j := f0
  refine hvC ?_
  refine rqi_22_1 (?_ : q22 f (R' 66) (R' 58))
  intro i h0 h1
  have t := f0 i 0 (by omega) (by omega) (by omega) (by omega)
  have w : R' 58 (229441 + 10 * i) = R 58 (229441 + 10 * i) := r2 _ (by omega)
  have e : R' 66 = R 66 := r1 66 (by decide)
  rw [w, e]
  exact hq i h0 h1

theorem tK_23_0_0 : vK rQ 23 hk_23_0_0 := by
  intro R R' G ps lo hi hl r1 r2 hq
  obtain rfl := hl0 hl
  replace hq : q23 (G 27) (G 28) (R 66) (R 58) := rqo_23_0 hq
  replace r2 : ∀ i, i < lo ∨ hi < i → R' 58 i = R 58 i := r2
  refine hv0 (fun g0 => ?_)
  replace g0 : (0 : Int) ≤ ((198499 : Int) + ((-1) * hi + 0)) := g0
  refine hvC ?_
  refine rqi_23_0 (?_ : q23 (G 27) (G 28) (R' 66) (R' 58))
  obtain ⟨k1, k2⟩ := hq
  refine ⟨k1, ?_⟩
  rcases k2 with k2 | ⟨h1, h2, h3, h4⟩
  · exact Or.inl k2
  · have e1 : R' 66 = R 66 := r1 66 (by decide)
    have e2 : R' 58 229198 = R 58 229198 := r2 _ (by omega)
    rw [e1, e2]
    refine Or.inr ⟨h1, h2, fun j_ j0 j1 => ?_, h4⟩
    rw [show R' 58 (229441 + 10 * j_) = R 58 (229441 + 10 * j_) from r2 _ (by omega)]
    exact h3 j_ j0 j1

theorem tK_23_0_1 : vK rQ 23 hk_23_0_1 := by
  intro R R' G ps lo hi hl r1 r2 hq
  obtain rfl := hl0 hl
  replace hq : q23 (G 27) (G 28) (R 66) (R 58) := rqo_23_0 hq
  replace r2 : ∀ i, i < lo ∨ hi < i → R' 58 i = R 58 i := r2
  refine hv11 (fun g0 => ?_)
  obtain ⟨f0, f1, -⟩ := g0
  replace f0 : ∀ i j : Int, 0 ≤ i → i < ((40 : Int) + 0) → 0 ≤ j → j < 1 → ((229441 : Int) + 0) + 10 * i + 10 * j < ((0 : Int) + (1 * lo + 0)) ∨ ((0 : Int) + (1 * hi + 0)) < ((229441 : Int) + 0) + 10 * i + 10 * j := f0
  replace f1 : ∀ i j : Int, 0 ≤ i → i < ((1 : Int) + 0) → 0 ≤ j → j < 1 → ((229198 : Int) + 0) + 1 * i + 1 * j < ((0 : Int) + (1 * lo + 0)) ∨ ((0 : Int) + (1 * hi + 0)) < ((229198 : Int) + 0) + 1 * i + 1 * j := f1
  refine hvC ?_
  refine rqi_23_0 (?_ : q23 (G 27) (G 28) (R' 66) (R' 58))
  obtain ⟨k1, k2⟩ := hq
  refine ⟨k1, ?_⟩
  rcases k2 with k2 | ⟨h1, h2, h3, h4⟩
  · exact Or.inl k2
  · have e1 : R' 66 = R 66 := r1 66 (by decide)
    have e2 : R' 58 229198 = R 58 229198 := r2 _ (by have u_ := f1 (0) 0 (by omega) (by omega) (by omega) (by omega); omega)
    rw [e1, e2]
    refine Or.inr ⟨h1, h2, fun j_ j0 j1 => ?_, h4⟩
    rw [show R' 58 (229441 + 10 * j_) = R 58 (229441 + 10 * j_) from r2 _ (by have u_ := f0 (j_) 0 (by omega) (by omega) (by omega) (by omega); omega)]
    exact h3 j_ j0 j1

theorem tK_24_0_0 : vK rQ 24 hk_24_0_0 := by
  intro R R' G ps lo hi hl r1 r2 hq
  obtain rfl := hl0 hl
  replace hq : G 27 ≤ 0 ∨ 2 ≤ R 58 198501 := rqo_24_0 hq
  replace r2 : ∀ i, i < lo ∨ hi < i → R' 58 i = R 58 i := r2
  refine hv11 (fun g0 => ?_)
  obtain ⟨f0, -⟩ := g0
  replace f0 : ∀ i j : Int, 0 ≤ i → i < ((1 : Int) + 0) → 0 ≤ j → j < 1 → ((198501 : Int) + 0) + 1 * i + 1 * j < ((0 : Int) + (1 * lo + 0)) ∨ ((0 : Int) + (1 * hi + 0)) < ((198501 : Int) + 0) + 1 * i + 1 * j := f0
  refine hvC ?_
  refine rqi_24_0 (?_ : G 27 ≤ 0 ∨ 2 ≤ R' 58 198501)
  have t := f0 0 0 (by omega) (by omega) (by omega) (by omega)
  have w : R' 58 198501 = R 58 198501 := r2 _ (by omega)
  rw [w]
  exact hq

theorem tL_1_0_0 : vL rQ 1 hl_1_0_0 := by
  intro R G ps idx hl hq
  obtain rfl := hl0 hl
  replace hq : qT bs0 c1 [] (R 58) := rqo_1_0 hq
  refine hv8 (fun q r g0 g0a g0b => ?_)
  replace g0 : ((-1 : Int) + (1 * idx + 0)) = ((39700 : Nat) : Int) * q + r := g0
  replace g0b : r < ((39700 : Nat) : Int) := g0b
  show hV _ _ _ _ _ [idx, q, r]
  refine hv0 (fun g1 => ?_)
  replace g1 : (0 : Int) ≤ ((5 : Int) + ((-1) * q + 0)) := g1
  refine hv0 (fun g2 => ?_)
  replace g2 : (0 : Int) ≤ ((0 : Int) + (1 * q + 0)) := g2
  refine hv13 (fun g3 => ?_)
  replace g3 : ((0 : Int) + (1 * r + 0)) = ((0 : Int) + 0) := g3
  refine hv2 (fun y0 hag4 g4 => ?_)
  replace g4 : R 58 ((34 : Int) + (1 * idx + 0)) = y0 := g4
  replace hag4 : (0 : Int) ≤ ((34 : Int) + (1 * idx + 0)) := hag4
  replace g4 : R 58 (idx + 34) = y0 := hF (R := R 58) g4 (ad_110 idx)
  show hV _ _ _ _ _ [idx, q, r, y0]
  refine hv2 (fun y1 hag5 g5 => ?_)
  replace g5 : R 58 ((0 : Int) + (1 * idx + 0)) = y1 := g5
  replace hag5 : (0 : Int) ≤ ((0 : Int) + (1 * idx + 0)) := hag5
  replace g5 : R 58 (idx) = y1 := hF (R := R 58) g5 (ad_99 idx)
  show hV _ _ _ _ _ [idx, q, r, y0, y1]
  refine hv0 (fun g6 => ?_)
  replace g6 : (0 : Int) ≤ ((-1 : Int) + (1 * y0 + 0)) := g6
  refine hvC ?_
  show (0 : Int) ≤ ((-2 : Int) + (1 * y1 + 0)) ∧ True
  have hh := hq q (idx - 1) ⟨by omega, by omega, by omega⟩ (fun x hm => by cases hm)
  unfold c1 at hh
  have w0 := hF (R := R 58) (a' := idx - 1 + 35) g4 (by omega)
  have w1 := hF (R := R 58) (a' := idx - 1 + 1) g5 (by omega)
  exact ⟨by omega, trivial⟩

theorem tL_2_0_0 : vL rQ 2 hl_2_0_0 := by
  intro R G ps idx hl hq
  obtain rfl := hl0 hl
  replace hq : qT bs0 c2 [] (R 58) := rqo_2_0 hq
  refine hv8 (fun q r g0 g0a g0b => ?_)
  replace g0 : ((-24 : Int) + (1 * idx + 0)) = ((39700 : Nat) : Int) * q + r := g0
  replace g0b : r < ((39700 : Nat) : Int) := g0b
  show hV _ _ _ _ _ [idx, q, r]
  refine hv0 (fun g1 => ?_)
  replace g1 : (0 : Int) ≤ ((5 : Int) + ((-1) * q + 0)) := g1
  refine hv0 (fun g2 => ?_)
  replace g2 : (0 : Int) ≤ ((0 : Int) + (1 * q + 0)) := g2
  refine hv13 (fun g3 => ?_)
  replace g3 : ((0 : Int) + (1 * r + 0)) = ((0 : Int) + 0) := g3
  refine hv2 (fun y0 hag4 g4 => ?_)
  replace g4 : R 58 ((-16 : Int) + (1 * idx + 0)) = y0 := g4
  replace hag4 : (0 : Int) ≤ ((-16 : Int) + (1 * idx + 0)) := hag4
  replace g4 : R 58 (idx - 16) = y0 := hF (R := R 58) g4 (ad_85 idx)
  show hV _ _ _ _ _ [idx, q, r, y0]
  refine hv2 (fun y1 hag5 g5 => ?_)
  replace g5 : R 58 ((0 : Int) + (1 * idx + 0)) = y1 := g5
  replace hag5 : (0 : Int) ≤ ((0 : Int) + (1 * idx + 0)) := hag5
  replace g5 : R 58 (idx) = y1 := hF (R := R 58) g5 (ad_99 idx)
  show hV _ _ _ _ _ [idx, q, r, y0, y1]
  refine hv0 (fun g6 => ?_)
  replace g6 : (0 : Int) ≤ ((-1 : Int) + (1 * y0 + 0)) := g6
  refine hvC ?_
  show (0 : Int) ≤ ((-1 : Int) + (1 * y1 + 0)) ∧ True
  have hh := hq q (idx - 24) ⟨by omega, by omega, by omega⟩ (fun x hm => by cases hm)
  unfold c2 at hh
  have w0 := hF (R := R 58) (a' := idx - 24 + 8) g4 (by omega)
  have w1 := hF (R := R 58) (a' := idx - 24 + 24) g5 (by omega)
  exact ⟨by omega, trivial⟩

theorem tL_2_0_1 : vL rQ 2 hl_2_0_1 := by
  intro R G ps idx hl hq
  obtain rfl := hl0 hl
  replace hq : qT bs0 c2 [] (R 58) := rqo_2_0 hq
  refine hv6 (fun z y g0 => ?_)
  replace g0 : R 58 (((8 : Int) + 0) + ((39700 : Nat) : Int) * z) = y := g0
  replace g0 : R 58 ((39700 * z) + 8) = y := hF (R := R 58) g0 (ad_111 z)
  show hV _ _ _ _ _ [z, y]
  refine hv8 (fun q r g1 g1a g1b => ?_)
  replace g1 : ((0 : Int) + (39700 * z + 0)) = ((39700 : Nat) : Int) * q + r := g1
  replace g1b : r < ((39700 : Nat) : Int) := g1b
  show hV _ _ _ _ _ [z, y, q, r]
  refine hv0 (fun g2 => ?_)
  replace g2 : (0 : Int) ≤ ((5 : Int) + ((-1) * q + 0)) := g2
  refine hv0 (fun g3 => ?_)
  replace g3 : (0 : Int) ≤ ((0 : Int) + (1 * q + 0)) := g3
  refine hv13 (fun g4 => ?_)
  replace g4 : ((0 : Int) + (1 * r + 0)) = ((0 : Int) + 0) := g4
  refine hv2 (fun y0 hag5 g5 => ?_)
  replace g5 : R 58 ((8 : Int) + (39700 * z + 0)) = y0 := g5
  replace hag5 : (0 : Int) ≤ ((8 : Int) + (39700 * z + 0)) := hag5
  replace g5 : R 58 ((39700 * z) + 8) = y0 := hF (R := R 58) g5 (ad_112 z)
  show hV _ _ _ _ _ [z, y, q, r, y0]
  refine hv2 (fun y1 hag6 g6 => ?_)
  replace g6 : R 58 ((24 : Int) + (39700 * z + 0)) = y1 := g6
  replace hag6 : (0 : Int) ≤ ((24 : Int) + (39700 * z + 0)) := hag6
  replace g6 : R 58 ((39700 * z) + 24) = y1 := hF (R := R 58) g6 (ad_113 z)
  show hV _ _ _ _ _ [z, y, q, r, y0, y1]
  refine hv0 (fun g7 => ?_)
  replace g7 : (0 : Int) ≤ ((0 : Int) + ((-1) * y1 + 0)) := g7
  refine hvC ?_
  show (0 : Int) ≤ ((0 : Int) + ((-1) * y0 + 0)) ∧ True
  have hh := hq q (39700 * z) ⟨by omega, by omega, by omega⟩ (fun x hm => by cases hm)
  unfold c2 at hh
  exact ⟨by omega, trivial⟩

theorem tL_2_0_2 : vL rQ 2 hl_2_0_2 := by
  intro R G ps idx hl hq
  obtain rfl := hl0 hl
  replace hq : qT bs0 c2 [] (R 58) := rqo_2_0 hq
  refine hv6 (fun z y g0 => ?_)
  replace g0 : R 58 (((8 : Int) + 0) + ((39700 : Nat) : Int) * z) = y := g0
  replace g0 : R 58 ((39700 * z) + 8) = y := hF (R := R 58) g0 (ad_111 z)
  show hV _ _ _ _ _ [z, y]
  refine hv8 (fun q r g1 g1a g1b => ?_)
  replace g1 : ((0 : Int) + (39700 * z + 0)) = ((39700 : Nat) : Int) * q + r := g1
  replace g1b : r < ((39700 : Nat) : Int) := g1b
  show hV _ _ _ _ _ [z, y, q, r]
  refine hv0 (fun g2 => ?_)
  replace g2 : (0 : Int) ≤ ((5 : Int) + ((-1) * q + 0)) := g2
  refine hv0 (fun g3 => ?_)
  replace g3 : (0 : Int) ≤ ((0 : Int) + (1 * q + 0)) := g3
  refine hv13 (fun g4 => ?_)
  replace g4 : ((0 : Int) + (1 * r + 0)) = ((0 : Int) + 0) := g4
  refine hv2 (fun y0 hag5 g5 => ?_)
  replace g5 : R 58 ((8 : Int) + (39700 * z + 0)) = y0 := g5
  replace hag5 : (0 : Int) ≤ ((8 : Int) + (39700 * z + 0)) := hag5
  replace g5 : R 58 ((39700 * z) + 8) = y0 := hF (R := R 58) g5 (ad_112 z)
  show hV _ _ _ _ _ [z, y, q, r, y0]
  refine hv2 (fun y1 hag6 g6 => ?_)
  replace g6 : R 58 ((24 : Int) + (39700 * z + 0)) = y1 := g6
  replace hag6 : (0 : Int) ≤ ((24 : Int) + (39700 * z + 0)) := hag6
  replace g6 : R 58 ((39700 * z) + 24) = y1 := hF (R := R 58) g6 (ad_113 z)
  show hV _ _ _ _ _ [z, y, q, r, y0, y1]
  refine hv0 (fun g7 => ?_)
  replace g7 : (0 : Int) ≤ ((-1 : Int) + (1 * y0 + 0)) := g7
  refine hvC ?_
  show (0 : Int) ≤ ((-1 : Int) + (1 * y1 + 0)) ∧ True
  have hh := hq q (39700 * z) ⟨by omega, by omega, by omega⟩ (fun x hm => by cases hm)
  unfold c2 at hh
  exact ⟨by omega, trivial⟩

theorem tL_8_0_0 : vL rQ 8 hl_8_0_0 := by
  intro R G ps idx hl hq
  obtain rfl := hl0 hl
  replace hq : qT bs0 c8 [] (R 58) := rqo_8_0 hq
  refine hv8 (fun q r g0 g0a g0b => ?_)
  replace g0 : ((-33 : Int) + (1 * idx + 0)) = ((39700 : Nat) : Int) * q + r := g0
  replace g0b : r < ((39700 : Nat) : Int) := g0b
  show hV _ _ _ _ _ [idx, q, r]
  refine hv0 (fun g1 => ?_)
  replace g1 : (0 : Int) ≤ ((5 : Int) + ((-1) * q + 0)) := g1
  refine hv0 (fun g2 => ?_)
  replace g2 : (0 : Int) ≤ ((0 : Int) + (1 * q + 0)) := g2
  refine hv13 (fun g3 => ?_)
  replace g3 : ((0 : Int) + (1 * r + 0)) = ((0 : Int) + 0) := g3
  refine hv2 (fun y0 hag4 g4 => ?_)
  replace g4 : R 58 ((2 : Int) + (1 * idx + 0)) = y0 := g4
  replace hag4 : (0 : Int) ≤ ((2 : Int) + (1 * idx + 0)) := hag4
  replace g4 : R 58 (idx + 2) = y0 := hF (R := R 58) g4 (ad_114 idx)
  show hV _ _ _ _ _ [idx, q, r, y0]
  refine hv2 (fun y1 hag5 g5 => ?_)
  replace g5 : R 58 ((0 : Int) + (1 * idx + 0)) = y1 := g5
  replace hag5 : (0 : Int) ≤ ((0 : Int) + (1 * idx + 0)) := hag5
  replace g5 : R 58 (idx) = y1 := hF (R := R 58) g5 (ad_99 idx)
  show hV _ _ _ _ _ [idx, q, r, y0, y1]
  refine hv0 (fun g6 => ?_)
  replace g6 : (0 : Int) ≤ ((-1 : Int) + (1 * y0 + 0)) := g6
  refine hvC ?_
  show (0 : Int) ≤ ((-16 : Int) + (1 * y1 + 0)) ∧ True
  have hh := hq q (idx - 33) ⟨by omega, by omega, by omega⟩ (fun x hm => by cases hm)
  unfold c8 at hh
  have w0 := hF (R := R 58) (a' := idx - 33 + 35) g4 (by omega)
  have w1 := hF (R := R 58) (a' := idx - 33 + 33) g5 (by omega)
  exact ⟨by omega, trivial⟩

theorem tL_8_0_1 : vL rQ 8 hl_8_0_1 := by
  intro R G ps idx hl hq
  obtain rfl := hl0 hl
  replace hq : qT bs0 c8 [] (R 58) := rqo_8_0 hq
  refine hv6 (fun z y g0 => ?_)
  replace g0 : R 58 (((35 : Int) + 0) + ((39700 : Nat) : Int) * z) = y := g0
  replace g0 : R 58 ((39700 * z) + 35) = y := hF (R := R 58) g0 (ad_115 z)
  show hV _ _ _ _ _ [z, y]
  refine hv8 (fun q r g1 g1a g1b => ?_)
  replace g1 : ((0 : Int) + (39700 * z + 0)) = ((39700 : Nat) : Int) * q + r := g1
  replace g1b : r < ((39700 : Nat) : Int) := g1b
  show hV _ _ _ _ _ [z, y, q, r]
  refine hv0 (fun g2 => ?_)
  replace g2 : (0 : Int) ≤ ((5 : Int) + ((-1) * q + 0)) := g2
  refine hv0 (fun g3 => ?_)
  replace g3 : (0 : Int) ≤ ((0 : Int) + (1 * q + 0)) := g3
  refine hv13 (fun g4 => ?_)
  replace g4 : ((0 : Int) + (1 * r + 0)) = ((0 : Int) + 0) := g4
  refine hv2 (fun y0 hag5 g5 => ?_)
  replace g5 : R 58 ((35 : Int) + (39700 * z + 0)) = y0 := g5
  replace hag5 : (0 : Int) ≤ ((35 : Int) + (39700 * z + 0)) := hag5
  replace g5 : R 58 ((39700 * z) + 35) = y0 := hF (R := R 58) g5 (ad_116 z)
  show hV _ _ _ _ _ [z, y, q, r, y0]
  refine hv2 (fun y1 hag6 g6 => ?_)
  replace g6 : R 58 ((33 : Int) + (39700 * z + 0)) = y1 := g6
  replace hag6 : (0 : Int) ≤ ((33 : Int) + (39700 * z + 0)) := hag6
  replace g6 : R 58 ((39700 * z) + 33) = y1 := hF (R := R 58) g6 (ad_117 z)
  show hV _ _ _ _ _ [z, y, q, r, y0, y1]
  refine hv0 (fun g7 => ?_)
  replace g7 : (0 : Int) ≤ ((-1 : Int) + (1 * y0 + 0)) := g7
  refine hvC ?_
  show (0 : Int) ≤ ((-16 : Int) + (1 * y1 + 0)) ∧ True
  have hh := hq q (39700 * z) ⟨by omega, by omega, by omega⟩ (fun x hm => by cases hm)
  unfold c8 at hh
  exact ⟨by omega, trivial⟩

theorem tL_7_0_0 : vL rQ 7 hl_7_0_0 := by
  intro R G ps idx hl hq
  obtain rfl := hl0 hl
  replace hq : qT bs0 c7 [] (R 58) := rqo_7_0 hq
  refine hv8 (fun q r g0 g0a g0b => ?_)
  replace g0 : ((-4 : Int) + (1 * idx + 0)) = ((39700 : Nat) : Int) * q + r := g0
  replace g0b : r < ((39700 : Nat) : Int) := g0b
  show hV _ _ _ _ _ [idx, q, r]
  refine hv0 (fun g1 => ?_)
  replace g1 : (0 : Int) ≤ ((5 : Int) + ((-1) * q + 0)) := g1
  refine hv0 (fun g2 => ?_)
  replace g2 : (0 : Int) ≤ ((0 : Int) + (1 * q + 0)) := g2
  refine hv13 (fun g3 => ?_)
  replace g3 : ((0 : Int) + (1 * r + 0)) = ((0 : Int) + 0) := g3
  refine hv2 (fun y0 hag4 g4 => ?_)
  replace g4 : R 58 ((31 : Int) + (1 * idx + 0)) = y0 := g4
  replace hag4 : (0 : Int) ≤ ((31 : Int) + (1 * idx + 0)) := hag4
  replace g4 : R 58 (idx + 31) = y0 := hF (R := R 58) g4 (ad_118 idx)
  show hV _ _ _ _ _ [idx, q, r, y0]
  refine hv2 (fun y1 hag5 g5 => ?_)
  replace g5 : R 58 ((0 : Int) + (1 * idx + 0)) = y1 := g5
  replace hag5 : (0 : Int) ≤ ((0 : Int) + (1 * idx + 0)) := hag5
  replace g5 : R 58 (idx) = y1 := hF (R := R 58) g5 (ad_99 idx)
  show hV _ _ _ _ _ [idx, q, r, y0, y1]
  refine hv0 (fun g6 => ?_)
  replace g6 : (0 : Int) ≤ ((-1 : Int) + (1 * y0 + 0)) := g6
  refine hvC ?_
  show (0 : Int) ≤ ((-172 : Int) + (1 * y1 + 0)) ∧ True
  have hh := hq q (idx - 4) ⟨by omega, by omega, by omega⟩ (fun x hm => by cases hm)
  unfold c7 at hh
  have w0 := hF (R := R 58) (a' := idx - 4 + 35) g4 (by omega)
  have w1 := hF (R := R 58) (a' := idx - 4 + 4) g5 (by omega)
  exact ⟨by omega, trivial⟩

theorem tL_7_0_1 : vL rQ 7 hl_7_0_1 := by
  intro R G ps idx hl hq
  obtain rfl := hl0 hl
  replace hq : qT bs0 c7 [] (R 58) := rqo_7_0 hq
  refine hv6 (fun z y g0 => ?_)
  replace g0 : R 58 (((35 : Int) + 0) + ((39700 : Nat) : Int) * z) = y := g0
  replace g0 : R 58 ((39700 * z) + 35) = y := hF (R := R 58) g0 (ad_115 z)
  show hV _ _ _ _ _ [z, y]
  refine hv8 (fun q r g1 g1a g1b => ?_)
  replace g1 : ((0 : Int) + (39700 * z + 0)) = ((39700 : Nat) : Int) * q + r := g1
  replace g1b : r < ((39700 : Nat) : Int) := g1b
  show hV _ _ _ _ _ [z, y, q, r]
  refine hv0 (fun g2 => ?_)
  replace g2 : (0 : Int) ≤ ((5 : Int) + ((-1) * q + 0)) := g2
  refine hv0 (fun g3 => ?_)
  replace g3 : (0 : Int) ≤ ((0 : Int) + (1 * q + 0)) := g3
  refine hv13 (fun g4 => ?_)
  replace g4 : ((0 : Int) + (1 * r + 0)) = ((0 : Int) + 0) := g4
  refine hv2 (fun y0 hag5 g5 => ?_)
  replace g5 : R 58 ((35 : Int) + (39700 * z + 0)) = y0 := g5
  replace hag5 : (0 : Int) ≤ ((35 : Int) + (39700 * z + 0)) := hag5
  replace g5 : R 58 ((39700 * z) + 35) = y0 := hF (R := R 58) g5 (ad_116 z)
  show hV _ _ _ _ _ [z, y, q, r, y0]
  refine hv2 (fun y1 hag6 g6 => ?_)
  replace g6 : R 58 ((4 : Int) + (39700 * z + 0)) = y1 := g6
  replace hag6 : (0 : Int) ≤ ((4 : Int) + (39700 * z + 0)) := hag6
  replace g6 : R 58 ((39700 * z) + 4) = y1 := hF (R := R 58) g6 (ad_119 z)
  show hV _ _ _ _ _ [z, y, q, r, y0, y1]
  refine hv0 (fun g7 => ?_)
  replace g7 : (0 : Int) ≤ ((-1 : Int) + (1 * y0 + 0)) := g7
  refine hvC ?_
  show (0 : Int) ≤ ((-172 : Int) + (1 * y1 + 0)) ∧ True
  have hh := hq q (39700 * z) ⟨by omega, by omega, by omega⟩ (fun x hm => by cases hm)
  unfold c7 at hh
  exact ⟨by omega, trivial⟩

theorem tL_3_0_0 : vL rQ 3 hl_3_0_0 := by
  intro R G ps idx hl hq
  obtain rfl := hl0 hl
  replace hq : qT bs3 c3 [] (R 58) := rqo_3_0 hq
  refine hv8 (fun q r g0 g0a g0b => ?_)
  replace g0 : ((-6 : Int) + (1 * idx + 0)) = ((39700 : Nat) : Int) * q + r := g0
  replace g0b : r < ((39700 : Nat) : Int) := g0b
  show hV _ _ _ _ _ [idx, q, r]
  refine hv0 (fun g1 => ?_)
  replace g1 : (0 : Int) ≤ ((5 : Int) + ((-1) * q + 0)) := g1
  refine hv0 (fun g2 => ?_)
  replace g2 : (0 : Int) ≤ ((0 : Int) + (1 * q + 0)) := g2
  refine hv8 (fun u s g3 g3a g3b => ?_)
  replace g3 : ((-30940 : Int) + (1 * r + 0)) = ((660 : Nat) : Int) * u + s := g3
  replace g3b : s < ((660 : Nat) : Int) := g3b
  show hV _ _ _ _ _ [idx, q, r, u, s]
  refine hv0 (fun g4 => ?_)
  replace g4 : (0 : Int) ≤ ((0 : Int) + (1 * u + 0)) := g4
  refine hv0 (fun g5 => ?_)
  replace g5 : (0 : Int) ≤ ((3 : Int) + ((-1) * u + 0)) := g5
  refine hv7 (fun w g6 => ?_)
  replace g6 : ((10 : Nat) : Int) * w = ((0 : Int) + (1 * s + 0)) := g6
  show hV _ _ _ _ _ [idx, q, r, u, s, w]
  refine hv0 (fun g7 => ?_)
  replace g7 : (0 : Int) ≤ ((0 : Int) + (1 * w + 0)) := g7
  refine hv0 (fun g8 => ?_)
  replace g8 : (0 : Int) ≤ ((39 : Int) + ((-1) * w + 0)) := g8
  refine hv2 (fun y0 hag9 g9 => ?_)
  replace g9 : R 58 ((-1 : Int) + (1 * idx + 0)) = y0 := g9
  replace hag9 : (0 : Int) ≤ ((-1 : Int) + (1 * idx + 0)) := hag9
  replace g9 : R 58 (idx - 1) = y0 := hF (R := R 58) g9 (ad_86 idx)
  show hV _ _ _ _ _ [idx, q, r, u, s, w, y0]
  refine hv2 (fun y1 hag10 g10 => ?_)
  replace g10 : R 58 ((0 : Int) + (1 * idx + 0)) = y1 := g10
  replace hag10 : (0 : Int) ≤ ((0 : Int) + (1 * idx + 0)) := hag10
  replace g10 : R 58 (idx) = y1 := hF (R := R 58) g10 (ad_99 idx)
  show hV _ _ _ _ _ [idx, q, r, u, s, w, y0, y1]
  refine hv0 (fun g11 => ?_)
  replace g11 : (0 : Int) ≤ ((-1 : Int) + (1 * y0 + 0)) := g11
  refine hvC ?_
  show (0 : Int) ≤ ((7 : Int) + ((-1) * y1 + 0)) ∧ True
  have hh := hq q (idx - 6) ⟨by omega, by omega, u, w, by omega, by omega, by omega, by omega, by omega⟩ (fun x hm => by cases hm)
  unfold c3 at hh
  have w0 := hF (R := R 58) (a' := idx - 6 + 5) g9 (by omega)
  have w1 := hF (R := R 58) (a' := idx - 6 + 6) g10 (by omega)
  exact ⟨by omega, trivial⟩

theorem tL_4_0_0 : vL rQ 4 hl_4_0_0 := by
  intro R G ps idx hl hq
  obtain rfl := hl0 hl
  replace hq : qT bs3 c4 [] (R 58) := rqo_4_0 hq
  refine hv8 (fun q r g0 g0a g0b => ?_)
  replace g0 : ((-9 : Int) + (1 * idx + 0)) = ((39700 : Nat) : Int) * q + r := g0
  replace g0b : r < ((39700 : Nat) : Int) := g0b
  show hV _ _ _ _ _ [idx, q, r]
  refine hv0 (fun g1 => ?_)
  replace g1 : (0 : Int) ≤ ((5 : Int) + ((-1) * q + 0)) := g1
  refine hv0 (fun g2 => ?_)
  replace g2 : (0 : Int) ≤ ((0 : Int) + (1 * q + 0)) := g2
  refine hv8 (fun u s g3 g3a g3b => ?_)
  replace g3 : ((-30940 : Int) + (1 * r + 0)) = ((660 : Nat) : Int) * u + s := g3
  replace g3b : s < ((660 : Nat) : Int) := g3b
  show hV _ _ _ _ _ [idx, q, r, u, s]
  refine hv0 (fun g4 => ?_)
  replace g4 : (0 : Int) ≤ ((0 : Int) + (1 * u + 0)) := g4
  refine hv0 (fun g5 => ?_)
  replace g5 : (0 : Int) ≤ ((3 : Int) + ((-1) * u + 0)) := g5
  refine hv7 (fun w g6 => ?_)
  replace g6 : ((10 : Nat) : Int) * w = ((0 : Int) + (1 * s + 0)) := g6
  show hV _ _ _ _ _ [idx, q, r, u, s, w]
  refine hv0 (fun g7 => ?_)
  replace g7 : (0 : Int) ≤ ((0 : Int) + (1 * w + 0)) := g7
  refine hv0 (fun g8 => ?_)
  replace g8 : (0 : Int) ≤ ((39 : Int) + ((-1) * w + 0)) := g8
  refine hv2 (fun y0 hag9 g9 => ?_)
  replace g9 : R 58 ((-9 : Int) + (1 * idx + 0)) = y0 := g9
  replace hag9 : (0 : Int) ≤ ((-9 : Int) + (1 * idx + 0)) := hag9
  replace g9 : R 58 (idx - 9) = y0 := hF (R := R 58) g9 (ad_87 idx)
  show hV _ _ _ _ _ [idx, q, r, u, s, w, y0]
  refine hv2 (fun y1 hag10 g10 => ?_)
  replace g10 : R 58 ((0 : Int) + (1 * idx + 0)) = y1 := g10
  replace hag10 : (0 : Int) ≤ ((0 : Int) + (1 * idx + 0)) := hag10
  replace g10 : R 58 (idx) = y1 := hF (R := R 58) g10 (ad_99 idx)
  show hV _ _ _ _ _ [idx, q, r, u, s, w, y0, y1]
  refine hv0 (fun g11 => ?_)
  replace g11 : (0 : Int) ≤ ((-2 : Int) + (1 * y0 + 0)) := g11
  refine hvC ?_
  show (0 : Int) ≤ ((63 : Int) + ((-1) * y1 + 0)) ∧ True
  have hh := hq q (idx - 9) ⟨by omega, by omega, u, w, by omega, by omega, by omega, by omega, by omega⟩ (fun x hm => by cases hm)
  unfold c4 at hh
  have w0 := hF (R := R 58) (a' := idx - 9) g9 (by omega)
  have w1 := hF (R := R 58) (a' := idx - 9 + 9) g10 (by omega)
  exact ⟨by omega, trivial⟩

theorem tL_5_0_0 : vL rQ 5 hl_5_0_0 := by
  intro R G ps idx hl hq
  obtain rfl := hl0 hl
  replace hq : qT bs5 c5 [] (R 58) := rqo_5_0 hq
  refine hv6 (fun z y g0 => ?_)
  replace g0 : R 58 (((30692 : Int) + 0) + ((20 : Nat) : Int) * z) = y := g0
  replace g0 : R 58 (20 * z + 30692) = y := hF (R := R 58) g0 (ad_120 z)
  show hV _ _ _ _ _ [z, y]
  refine hv8 (fun q r g1 g1a g1b => ?_)
  replace g1 : ((30692 : Int) + (20 * z + 0)) = ((39700 : Nat) : Int) * q + r := g1
  replace g1b : r < ((39700 : Nat) : Int) := g1b
  show hV _ _ _ _ _ [z, y, q, r]
  refine hv0 (fun g2 => ?_)
  replace g2 : (0 : Int) ≤ ((5 : Int) + ((-1) * q + 0)) := g2
  refine hv0 (fun g3 => ?_)
  replace g3 : (0 : Int) ≤ ((0 : Int) + (1 * q + 0)) := g3
  refine hv7 (fun u g4 => ?_)
  replace g4 : ((660 : Nat) : Int) * u = ((-30692 : Int) + (1 * r + 0)) := g4
  show hV _ _ _ _ _ [z, y, q, r, u]
  refine hv0 (fun g5 => ?_)
  replace g5 : (0 : Int) ≤ ((0 : Int) + (1 * u + 0)) := g5
  refine hv0 (fun g6 => ?_)
  replace g6 : (0 : Int) ≤ ((3 : Int) + ((-1) * u + 0)) := g6
  refine hv2 (fun y0 hag7 g7 => ?_)
  replace g7 : R 58 ((30692 : Int) + (20 * z + 0)) = y0 := g7
  replace hag7 : (0 : Int) ≤ ((30692 : Int) + (20 * z + 0)) := hag7
  replace g7 : R 58 (20 * z + 30692) = y0 := hF (R := R 58) g7 (ad_121 z)
  show hV _ _ _ _ _ [z, y, q, r, u, y0]
  refine hv2 (fun y1 hag8 g8 => ?_)
  replace g8 : R 58 ((30699 : Int) + (20 * z + 0)) = y1 := g8
  replace hag8 : (0 : Int) ≤ ((30699 : Int) + (20 * z + 0)) := hag8
  replace g8 : R 58 (20 * z + 30699) = y1 := hF (R := R 58) g8 (ad_122 z)
  show hV _ _ _ _ _ [z, y, q, r, u, y0, y1]
  refine hv2 (fun y2 hag9 g9 => ?_)
  replace g9 : R 58 ((30700 : Int) + (20 * z + 0)) = y2 := g9
  replace hag9 : (0 : Int) ≤ ((30700 : Int) + (20 * z + 0)) := hag9
  replace g9 : R 58 (20 * z + 30700) = y2 := hF (R := R 58) g9 (ad_123 z)
  show hV _ _ _ _ _ [z, y, q, r, u, y0, y1, y2]
  refine hv0 (fun g10 => ?_)
  replace g10 : (0 : Int) ≤ ((-1 : Int) + (1 * y2 + 0)) := g10
  refine hv0 (fun g11 => ?_)
  replace g11 : (0 : Int) ≤ ((1 : Int) + ((-1) * y0 + 0)) := g11
  refine hvC ?_
  show (0 : Int) ≤ ((-1 : Int) + (1 * y1 + 0)) ∧ True
  have hh := hq q (20 * z + 30692) ⟨by omega, by omega, u, by omega, by omega, by omega⟩ (fun x hm => by cases hm)
  unfold c5 at hh
  have w0 := hF (R := R 58) (a' := 20 * z + 30692) g0 (by omega)
  have w1 := hF (R := R 58) (a' := 20 * z + 30692 + 7) g8 (by omega)
  have w2 := hF (R := R 58) (a' := 20 * z + 30692 + 8) g9 (by omega)
  exact ⟨by omega, trivial⟩

theorem tL_6_0_0 : vL rQ 6 hl_6_0_0 := by
  intro R G ps idx hl hq
  obtain rfl := hl0 hl
  replace hq : q6 [] (R 58) := rqo_6_0 hq
  refine hv8 (fun q r g0 g0a g0b => ?_)
  replace g0 : ((0 : Int) + (1 * idx + 0)) = ((39700 : Nat) : Int) * q + r := g0
  replace g0b : r < ((39700 : Nat) : Int) := g0b
  show hV _ _ _ _ _ [idx, q, r]
  refine hv0 (fun g1 => ?_)
  replace g1 : (0 : Int) ≤ ((4 : Int) + ((-1) * q + 0)) := g1
  refine hv0 (fun g2 => ?_)
  replace g2 : (0 : Int) ≤ ((0 : Int) + (1 * q + 0)) := g2
  refine hv2 (fun k hag3 g3 => ?_)
  replace g3 : R 58 ((12 : Int) + (39700 * q + 0)) = k := g3
  replace hag3 : (0 : Int) ≤ ((12 : Int) + (39700 * q + 0)) := hag3
  replace g3 : R 58 ((39700 * q) + 12) = k := hF (R := R 58) g3 (ad_124 q)
  show hV _ _ _ _ _ [idx, q, r, k]
  refine hv2 (fun u hag4 g4 => ?_)
  replace g4 : R 58 ((35 : Int) + (39700 * q + 0)) = u := g4
  replace hag4 : (0 : Int) ≤ ((35 : Int) + (39700 * q + 0)) := hag4
  replace g4 : R 58 ((39700 * q) + 35) = u := hF (R := R 58) g4 (ad_125 q)
  show hV _ _ _ _ _ [idx, q, r, k, u]
  refine hv0 (fun g5 => ?_)
  replace g5 : (0 : Int) ≤ ((-1 : Int) + (1 * u + 0)) := g5
  refine hv13 (fun g6 => ?_)
  replace g6 : ((0 : Int) + (1 * r + 0)) = ((30692 : Int) + (660 * k + 0)) := g6
  refine hv2 (fun w hag7 g7 => ?_)
  replace g7 : R 58 ((0 : Int) + (1 * idx + 0)) = w := g7
  replace hag7 : (0 : Int) ≤ ((0 : Int) + (1 * idx + 0)) := hag7
  replace g7 : R 58 (idx) = w := hF (R := R 58) g7 (ad_99 idx)
  show hV _ _ _ _ _ [idx, q, r, k, u, w]
  refine hvC ?_
  show (0 : Int) ≤ ((1 : Int) + ((-1) * w + 0)) ∧ (0 : Int) ≤ ((-1 : Int) + (1 * w + 0)) ∧ True
  have hh := hq q (by omega) (by omega) (fun x hm => by cases hm)
  rw [show R 58 (39700 * q + 12) = k by omega, show R 58 (39700 * q + 35) = u by omega, show 39700 * q + 30692 + 660 * k = idx by omega] at hh
  have e : R 58 idx = w := by assumption
  rw [e] at hh
  exact ⟨by omega, by omega, trivial⟩

theorem tL_32_3_0 : vL rQ 32 hl_32_3_0 := by
  intro R G ps idx hl hq
  obtain ⟨a, c, h, rfl⟩ := hl3 hl
  replace hq : q32 a c h  := rqo_32_3 hq
  refine hv9 (fun t1_0 e x g0 => ?_)
  replace g0 : hopS 4 t1_0 e x := g0
  refine hmc rfl (fun e1_0 => ?_)
  replace e1_0 : ((0 : Int) + (1 * a + 0)) = t1_0 := e1_0
  refine hmb rfl ?_
  show hmt _ _ _ [a, c, h, e]
  refine hmn ?_
  show hV _ _ _ _ _ [a, c, h, e, x]
  refine hv9 (fun t2_0 e8 y g1 => ?_)
  replace g1 : hopS 5 t2_0 e8 y := g1
  refine hmc rfl (fun e2_0 => ?_)
  replace e2_0 : ((1 : Int) + 0) = t2_0 := e2_0
  refine hmb rfl ?_
  show hmt _ _ _ [a, c, h, e, x, e8]
  refine hmn ?_
  show hV _ _ _ _ _ [a, c, h, e, x, e8, y]
  refine hv13 (fun g2 => ?_)
  replace g2 : ((0 : Int) + (1 * y + 0)) = ((1 : Int) + (1 * e + 0)) := g2
  refine hv13 (fun g3 => ?_)
  replace g3 : ((0 : Int) + (1 * e8 + 0)) = ((0 : Int) + (8 * c + 0)) := g3
  refine hv0 (fun g4 => ?_)
  replace g4 : (0 : Int) ≤ ((0 : Int) + (1 * c + 0)) := g4
  refine hv0 (fun g5 => ?_)
  replace g5 : (0 : Int) ≤ ((7 : Int) + ((-1) * c + 0)) := g5
  refine hvC ?_
  show (0 : Int) ≤ ((0 : Int) + (1 * h + ((-1) * x + 0))) ∧ True
  have q_ : a = t1_0 := by omega
  subst q_
  have q_ : t2_0 = 1 := by omega
  subst q_
  have q_ : e8 = 8 * c := by omega
  subst q_
  have t_ := hq (by omega) (by omega)
  rw [← q32_eq g0 g1 (by omega) (by omega) (by omega)] at t_
  exact ⟨by omega, trivial⟩

theorem tL_33_3_0 : vL rQ 33 hl_33_3_0 := by
  intro R G ps idx hl hq
  obtain ⟨r, c, w, rfl⟩ := hl3 hl
  replace hq : q33 r c w  := rqo_33_3 hq
  refine hv13 (fun g0 => ?_)
  replace g0 : ((0 : Int) + (1 * c + 0)) = ((2 : Int) + 0) := g0
  refine hv9 (fun t2_0 t2_1 x g1 => ?_)
  replace g1 : hopS 4 t2_0 t2_1 x := g1
  refine hmc rfl (fun e2_0 => ?_)
  replace e2_0 : ((0 : Int) + (1 * r + 0)) = t2_0 := e2_0
  refine hmc rfl (fun e2_1 => ?_)
  replace e2_1 : ((65535 : Int) + 0) = t2_1 := e2_1
  refine hmn ?_
  show hV _ _ _ _ _ [r, c, w, x]
  refine hvC ?_
  show (0 : Int) ≤ ((0 : Int) + ((-1) * w + (1 * x + 0))) ∧ (0 : Int) ≤ ((0 : Int) + (1 * w + ((-1) * x + 0))) ∧ True
  have q_ : r = t2_0 := by omega
  subst q_
  have q_ : t2_1 = 65535 := by omega
  subst q_
  have q_ : c = 2 := by omega
  subst q_
  have t_ := hq (by omega) (by omega)
  obtain ⟨j_, h_⟩ := land_M (k := 16) (by decide) g1
  have t_ : r % 65536 = w := t_
  have h_ : x = (r + 18446744073709551616 * j_) % 65536 := h_
  exact ⟨by omega, by omega, trivial⟩

theorem tL_33_3_1 : vL rQ 33 hl_33_3_1 := by
  intro R G ps idx hl hq
  obtain ⟨r, c, w, rfl⟩ := hl3 hl
  replace hq : q33 r c w  := rqo_33_3 hq
  refine hv13 (fun g0 => ?_)
  replace g0 : ((0 : Int) + (1 * c + 0)) = ((3 : Int) + 0) := g0
  refine hv9 (fun t2_0 t2_1 x g1 => ?_)
  replace g1 : hopS 4 t2_0 t2_1 x := g1
  refine hmc rfl (fun e2_0 => ?_)
  replace e2_0 : ((0 : Int) + (1 * r + 0)) = t2_0 := e2_0
  refine hmc rfl (fun e2_1 => ?_)
  replace e2_1 : ((16777215 : Int) + 0) = t2_1 := e2_1
  refine hmn ?_
  show hV _ _ _ _ _ [r, c, w, x]
  refine hvC ?_
  show (0 : Int) ≤ ((0 : Int) + ((-1) * w + (1 * x + 0))) ∧ (0 : Int) ≤ ((0 : Int) + (1 * w + ((-1) * x + 0))) ∧ True
  have q_ : r = t2_0 := by omega
  subst q_
  have q_ : t2_1 = 16777215 := by omega
  subst q_
  have q_ : c = 3 := by omega
  subst q_
  have t_ := hq (by omega) (by omega)
  obtain ⟨j_, h_⟩ := land_M (k := 24) (by decide) g1
  have t_ : r % 16777216 = w := t_
  have h_ : x = (r + 18446744073709551616 * j_) % 16777216 := h_
  exact ⟨by omega, by omega, trivial⟩

theorem tL_33_3_2 : vL rQ 33 hl_33_3_2 := by
  intro R G ps idx hl hq
  obtain ⟨r, c, w, rfl⟩ := hl3 hl
  replace hq : q33 r c w  := rqo_33_3 hq
  refine hv13 (fun g0 => ?_)
  replace g0 : ((0 : Int) + (1 * c + 0)) = ((4 : Int) + 0) := g0
  refine hv9 (fun t2_0 t2_1 x g1 => ?_)
  replace g1 : hopS 4 t2_0 t2_1 x := g1
  refine hmc rfl (fun e2_0 => ?_)
  replace e2_0 : ((0 : Int) + (1 * r + 0)) = t2_0 := e2_0
  refine hmc rfl (fun e2_1 => ?_)
  replace e2_1 : ((4294967295 : Int) + 0) = t2_1 := e2_1
  refine hmn ?_
  show hV _ _ _ _ _ [r, c, w, x]
  refine hvC ?_
  show (0 : Int) ≤ ((0 : Int) + ((-1) * w + (1 * x + 0))) ∧ (0 : Int) ≤ ((0 : Int) + (1 * w + ((-1) * x + 0))) ∧ True
  have q_ : r = t2_0 := by omega
  subst q_
  have q_ : t2_1 = 4294967295 := by omega
  subst q_
  have q_ : c = 4 := by omega
  subst q_
  have t_ := hq (by omega) (by omega)
  obtain ⟨j_, h_⟩ := land_M (k := 32) (by decide) g1
  have t_ : r % 4294967296 = w := t_
  have h_ : x = (r + 18446744073709551616 * j_) % 4294967296 := h_
  exact ⟨by omega, by omega, trivial⟩

theorem tL_12_8_0 : vL rQ 12 hl_12_8_0 := by
  intro R G ps idx hl hq
  obtain ⟨b, many, ic, under, pc, x, y, h, rfl⟩ := hl8 hl
  replace hq : q12 b many ic under pc x y h (R 58) := rqo_12_8 hq
  refine hv8 (fun q r g0 g0a g0b => ?_)
  replace g0 : ((0 : Int) + (1 * idx + 0)) = ((39700 : Nat) : Int) * q + r := g0
  replace g0b : r < ((39700 : Nat) : Int) := g0b
  show hV _ _ _ _ _ [b, many, ic, under, pc, x, y, h, idx, q, r]
  refine hv13 (fun g1 => ?_)
  replace g1 : ((0 : Int) + (39700 * q + 0)) = ((0 : Int) + (1 * b + 0)) := g1
  refine hv7 (fun i g2 => ?_)
  replace g2 : ((40 : Nat) : Int) * i = ((-8295 : Int) + (1 * r + 0)) := g2
  show hV _ _ _ _ _ [b, many, ic, under, pc, x, y, h, idx, q, r, i]
  refine hv0 (fun g3 => ?_)
  replace g3 : (0 : Int) ≤ ((0 : Int) + (1 * i + 0)) := g3
  refine hv0 (fun g4 => ?_)
  replace g4 : (0 : Int) ≤ ((-1 : Int) + (1 * many + ((-1) * i + 0))) := g4
  refine hv2 (fun kk hag5 g5 => ?_)
  replace g5 : R 58 ((8292 : Int) + (1 * b + (40 * i + 0))) = kk := g5
  replace hag5 : (0 : Int) ≤ ((8292 : Int) + (1 * b + (40 * i + 0))) := hag5
  replace g5 : dK (R 58) b (i) = kk := hF (R := R 58) g5 (ad_27 b i)
  show hV _ _ _ _ _ [b, many, ic, under, pc, x, y, h, idx, q, r, i, kk]
  refine hv13 (fun g6 => ?_)
  replace g6 : ((0 : Int) + (1 * kk + 0)) = ((1 : Int) + 0) := g6
  refine hv2 (fun V hag7 g7 => ?_)
  replace g7 : R 58 ((8295 : Int) + (1 * b + (40 * i + 0))) = V := g7
  replace hag7 : (0 : Int) ≤ ((8295 : Int) + (1 * b + (40 * i + 0))) := hag7
  replace g7 : dV (R 58) b (i) = V := hF (R := R 58) g7 (ad_8 b i)
  show hV _ _ _ _ _ [b, many, ic, under, pc, x, y, h, idx, q, r, i, kk, V]
  refine hvC ?_
  show (0 : Int) ≤ ((0 : Int) + (1 * V + 0)) ∧ (0 : Int) ≤ ((0 : Int) + (1 * ic + ((-1) * V + 0))) ∧ True
  obtain ⟨-, hD, -⟩ := hq
  first
    | (have t := lw hD (i := i) (by omega) (by omega) (by omega)
       exact ⟨by omega, by omega, trivial⟩)
    | (have t := lk0 hD (i := i) (by omega) (by omega)
       exact ⟨by omega, by omega, trivial⟩)
    | (have t := lm hD (i := i) (by omega) (by omega) (by omega)
       exact ⟨by omega, by omega, trivial⟩)

theorem tL_12_8_1 : vL rQ 12 hl_12_8_1 := by
  intro R G ps idx hl hq
  obtain ⟨b, many, ic, under, pc, x, y, h, rfl⟩ := hl8 hl
  replace hq : q12 b many ic under pc x y h (R 58) := rqo_12_8 hq
  refine hv8 (fun q r g0 g0a g0b => ?_)
  replace g0 : ((0 : Int) + (1 * idx + 0)) = ((39700 : Nat) : Int) * q + r := g0
  replace g0b : r < ((39700 : Nat) : Int) := g0b
  show hV _ _ _ _ _ [b, many, ic, under, pc, x, y, h, idx, q, r]
  refine hv13 (fun g1 => ?_)
  replace g1 : ((0 : Int) + (39700 * q + 0)) = ((0 : Int) + (1 * b + 0)) := g1
  refine hv7 (fun i g2 => ?_)
  replace g2 : ((40 : Nat) : Int) * i = ((-8295 : Int) + (1 * r + 0)) := g2
  show hV _ _ _ _ _ [b, many, ic, under, pc, x, y, h, idx, q, r, i]
  refine hv0 (fun g3 => ?_)
  replace g3 : (0 : Int) ≤ ((0 : Int) + (1 * i + 0)) := g3
  refine hv0 (fun g4 => ?_)
  replace g4 : (0 : Int) ≤ ((-1 : Int) + (1 * many + ((-1) * i + 0))) := g4
  refine hv2 (fun kk hag5 g5 => ?_)
  replace g5 : R 58 ((8292 : Int) + (1 * b + (40 * i + 0))) = kk := g5
  replace hag5 : (0 : Int) ≤ ((8292 : Int) + (1 * b + (40 * i + 0))) := hag5
  replace g5 : dK (R 58) b (i) = kk := hF (R := R 58) g5 (ad_27 b i)
  show hV _ _ _ _ _ [b, many, ic, under, pc, x, y, h, idx, q, r, i, kk]
  refine hv13 (fun g6 => ?_)
  replace g6 : ((0 : Int) + (1 * kk + 0)) = ((1 : Int) + 0) := g6
  refine hv2 (fun V hag7 g7 => ?_)
  replace g7 : R 58 ((8295 : Int) + (1 * b + (40 * i + 0))) = V := g7
  replace hag7 : (0 : Int) ≤ ((8295 : Int) + (1 * b + (40 * i + 0))) := hag7
  replace g7 : dV (R 58) b (i) = V := hF (R := R 58) g7 (ad_8 b i)
  show hV _ _ _ _ _ [b, many, ic, under, pc, x, y, h, idx, q, r, i, kk, V]
  refine hv2 (fun N hag8 g8 => ?_)
  replace g8 : R 58 ((8296 : Int) + (1 * b + (40 * i + 0))) = N := g8
  replace hag8 : (0 : Int) ≤ ((8296 : Int) + (1 * b + (40 * i + 0))) := hag8
  replace g8 : dL (R 58) b (i) = N := hF (R := R 58) g8 (ad_9 b i)
  show hV _ _ _ _ _ [b, many, ic, under, pc, x, y, h, idx, q, r, i, kk, V, N]
  refine hvC ?_
  show (0 : Int) ≤ ((0 : Int) + (1 * ic + ((-1) * V + ((-1) * N + 0)))) ∧ True
  obtain ⟨-, hD, -⟩ := hq
  first
    | (have t := lw hD (i := i) (by omega) (by omega) (by omega)
       exact ⟨by omega, trivial⟩)
    | (have t := lk0 hD (i := i) (by omega) (by omega)
       exact ⟨by omega, trivial⟩)
    | (have t := lm hD (i := i) (by omega) (by omega) (by omega)
       exact ⟨by omega, trivial⟩)

theorem tL_12_8_2 : vL rQ 12 hl_12_8_2 := by
  intro R G ps idx hl hq
  obtain ⟨b, many, ic, under, pc, x, y, h, rfl⟩ := hl8 hl
  replace hq : q12 b many ic under pc x y h (R 58) := rqo_12_8 hq
  refine hv8 (fun q r g0 g0a g0b => ?_)
  replace g0 : ((0 : Int) + (1 * idx + 0)) = ((39700 : Nat) : Int) * q + r := g0
  replace g0b : r < ((39700 : Nat) : Int) := g0b
  show hV _ _ _ _ _ [b, many, ic, under, pc, x, y, h, idx, q, r]
  refine hv13 (fun g1 => ?_)
  replace g1 : ((0 : Int) + (39700 * q + 0)) = ((0 : Int) + (1 * b + 0)) := g1
  refine hv7 (fun i g2 => ?_)
  replace g2 : ((40 : Nat) : Int) * i = ((-8292 : Int) + (1 * r + 0)) := g2
  show hV _ _ _ _ _ [b, many, ic, under, pc, x, y, h, idx, q, r, i]
  refine hv0 (fun g3 => ?_)
  replace g3 : (0 : Int) ≤ ((0 : Int) + (1 * i + 0)) := g3
  refine hv0 (fun g4 => ?_)
  replace g4 : (0 : Int) ≤ ((-1 : Int) + (1 * under + 0)) := g4
  refine hv2 (fun w hag5 g5 => ?_)
  replace g5 : R 58 ((37312 : Int) + (1 * b + (300 * under + 0))) = w := g5
  replace hag5 : (0 : Int) ≤ ((37312 : Int) + (1 * b + (300 * under + 0))) := hag5
  replace g5 : fT (R 58) b (under - 1) = w := hF (R := R 58) g5 (ad_69 b under)
  show hV _ _ _ _ _ [b, many, ic, under, pc, x, y, h, idx, q, r, i, w]
  refine hv13 (fun g6 => ?_)
  replace g6 : ((0 : Int) + (1 * w + 0)) = ((0 : Int) + (1 * i + 0)) := g6
  refine hv2 (fun K hag7 g7 => ?_)
  replace g7 : R 58 ((0 : Int) + (1 * idx + 0)) = K := g7
  replace hag7 : (0 : Int) ≤ ((0 : Int) + (1 * idx + 0)) := hag7
  replace g7 : R 58 (idx) = K := hF (R := R 58) g7 (ad_99 idx)
  show hV _ _ _ _ _ [b, many, ic, under, pc, x, y, h, idx, q, r, i, w, K]
  refine hvC ?_
  show (0 : Int) ≤ ((-1 : Int) + (1 * K + 0)) ∧ (0 : Int) ≤ ((1 : Int) + ((-1) * K + 0)) ∧ True
  obtain ⟨-, hD, -⟩ := hq
  rw [show R 58 (idx) = dK (R 58) b (i) from congrArg (R 58) (by omega)] at g7
  first
    | (have e : fT (R 58) b (under - 1) = i := by omega
       have t := lI hD (by omega)
       rw [e] at t
       have t2 := t.1
       have t3 := t.2
       exact ⟨by omega, by omega, trivial⟩)
    | (have e : fT (R 58) b (under - 1) = i := by omega
       obtain ⟨t1, t2, t3, t4, t5, t6, -⟩ := lj hD (j := under - 1) (by omega) (by omega)
       rw [e] at t1 t2 t3 t4 t5 t6
       exact ⟨by omega, by omega, trivial⟩)

theorem tL_12_8_3 : vL rQ 12 hl_12_8_3 := by
  intro R G ps idx hl hq
  obtain ⟨b, many, ic, under, pc, x, y, h, rfl⟩ := hl8 hl
  replace hq : q12 b many ic under pc x y h (R 58) := rqo_12_8 hq
  refine hv8 (fun q r g0 g0a g0b => ?_)
  replace g0 : ((0 : Int) + (1 * idx + 0)) = ((39700 : Nat) : Int) * q + r := g0
  replace g0b : r < ((39700 : Nat) : Int) := g0b
  show hV _ _ _ _ _ [b, many, ic, under, pc, x, y, h, idx, q, r]
  refine hv13 (fun g1 => ?_)
  replace g1 : ((0 : Int) + (39700 * q + 0)) = ((0 : Int) + (1 * b + 0)) := g1
  refine hv7 (fun p g2 => ?_)
  replace g2 : ((6 : Nat) : Int) * p = ((-37421 : Int) + (1 * r + 0)) := g2
  show hV _ _ _ _ _ [b, many, ic, under, pc, x, y, h, idx, q, r, p]
  refine hv0 (fun g3 => ?_)
  replace g3 : (0 : Int) ≤ ((0 : Int) + (1 * p + 0)) := g3
  refine hv0 (fun g4 => ?_)
  replace g4 : (0 : Int) ≤ ((-1 : Int) + (1 * pc + ((-1) * p + 0))) := g4
  refine hv5 (fun g5 => ?_)
  replace g5 : q25 ((0 : Int) + (1 * b + 0)) ((0 : Int) + (1 * p + 0)) (R 58) := rqo_25_2 g5
  simp only [Int.zero_add, Int.one_mul, Int.add_zero] at g5
  refine hv2 (fun w hag6 g6 => ?_)
  replace g6 : R 58 ((0 : Int) + (1 * idx + 0)) = w := g6
  replace hag6 : (0 : Int) ≤ ((0 : Int) + (1 * idx + 0)) := hag6
  replace g6 : R 58 (idx) = w := hF (R := R 58) g6 (ad_99 idx)
  show hV _ _ _ _ _ [b, many, ic, under, pc, x, y, h, idx, q, r, p, w]
  refine hvC ?_
  show (0 : Int) ≤ ((-1 : Int) + (1 * ic + ((-1) * w + 0))) ∧ True
  obtain ⟨-, hD, -⟩ := hq
  rw [show R 58 (idx) = pP (R 58) b (p) from congrArg (R 58) (by omega)] at g6
  first
    | (obtain ⟨t1, t2, t3, -⟩ := lp hD (p := p) (by omega) (by omega)
       exact ⟨by omega, trivial⟩)
    | (obtain ⟨t1, t2, t3, -⟩ := lp hD (p := p) (by omega) (by omega)
       have t4 := t3 (by unfold q25 at *; omega)
       exact ⟨by omega, trivial⟩)
    | (obtain ⟨t1, t2, t3, -⟩ := lp hD (p := p) (by omega) (by omega)
       have t4 := t3 (by omega)
       exact ⟨by omega, trivial⟩)

theorem tL_12_8_4 : vL rQ 12 hl_12_8_4 := by
  intro R G ps idx hl hq
  obtain ⟨b, many, ic, under, pc, x, y, h, rfl⟩ := hl8 hl
  replace hq : q12 b many ic under pc x y h (R 58) := rqo_12_8 hq
  refine hv8 (fun q r g0 g0a g0b => ?_)
  replace g0 : ((0 : Int) + (1 * idx + 0)) = ((39700 : Nat) : Int) * q + r := g0
  replace g0b : r < ((39700 : Nat) : Int) := g0b
  show hV _ _ _ _ _ [b, many, ic, under, pc, x, y, h, idx, q, r]
  refine hv13 (fun g1 => ?_)
  replace g1 : ((0 : Int) + (39700 * q + 0)) = ((0 : Int) + (1 * b + 0)) := g1
  refine hv7 (fun p g2 => ?_)
  replace g2 : ((6 : Nat) : Int) * p = ((-37421 : Int) + (1 * r + 0)) := g2
  show hV _ _ _ _ _ [b, many, ic, under, pc, x, y, h, idx, q, r, p]
  refine hv0 (fun g3 => ?_)
  replace g3 : (0 : Int) ≤ ((0 : Int) + (1 * p + 0)) := g3
  refine hv0 (fun g4 => ?_)
  replace g4 : (0 : Int) ≤ ((-1 : Int) + (1 * pc + ((-1) * p + 0))) := g4
  refine hv2 (fun w hag5 g5 => ?_)
  replace g5 : R 58 ((0 : Int) + (1 * idx + 0)) = w := g5
  replace hag5 : (0 : Int) ≤ ((0 : Int) + (1 * idx + 0)) := hag5
  replace g5 : R 58 (idx) = w := hF (R := R 58) g5 (ad_99 idx)
  show hV _ _ _ _ _ [b, many, ic, under, pc, x, y, h, idx, q, r, p, w]
  refine hvC ?_
  show (0 : Int) ≤ ((0 : Int) + (1 * ic + ((-1) * w + 0))) ∧ True
  obtain ⟨-, hD, -⟩ := hq
  rw [show R 58 (idx) = pP (R 58) b (p) from congrArg (R 58) (by omega)] at g5
  first
    | (obtain ⟨t1, t2, t3, -⟩ := lp hD (p := p) (by omega) (by omega)
       exact ⟨by omega, trivial⟩)
    | (obtain ⟨t1, t2, t3, -⟩ := lp hD (p := p) (by omega) (by omega)
       have t4 := t3 (by unfold q25 at *; omega)
       exact ⟨by omega, trivial⟩)
    | (obtain ⟨t1, t2, t3, -⟩ := lp hD (p := p) (by omega) (by omega)
       have t4 := t3 (by omega)
       exact ⟨by omega, trivial⟩)

theorem tL_12_8_5 : vL rQ 12 hl_12_8_5 := by
  intro R G ps idx hl hq
  obtain ⟨b, many, ic, under, pc, x, y, h, rfl⟩ := hl8 hl
  replace hq : q12 b many ic under pc x y h (R 58) := rqo_12_8 hq
  refine hv8 (fun q r g0 g0a g0b => ?_)
  replace g0 : ((0 : Int) + (1 * idx + 0)) = ((39700 : Nat) : Int) * q + r := g0
  replace g0b : r < ((39700 : Nat) : Int) := g0b
  show hV _ _ _ _ _ [b, many, ic, under, pc, x, y, h, idx, q, r]
  refine hv13 (fun g1 => ?_)
  replace g1 : ((0 : Int) + (39700 * q + 0)) = ((0 : Int) + (1 * b + 0)) := g1
  refine hv7 (fun j g2 => ?_)
  replace g2 : ((300 : Nat) : Int) * j = ((-37612 : Int) + (1 * r + 0)) := g2
  show hV _ _ _ _ _ [b, many, ic, under, pc, x, y, h, idx, q, r, j]
  refine hv0 (fun g3 => ?_)
  replace g3 : (0 : Int) ≤ ((0 : Int) + (1 * j + 0)) := g3
  refine hv0 (fun g4 => ?_)
  replace g4 : (0 : Int) ≤ ((-1 : Int) + (1 * under + ((-1) * j + 0))) := g4
  refine hv2 (fun w hag5 g5 => ?_)
  replace g5 : R 58 ((0 : Int) + (1 * idx + 0)) = w := g5
  replace hag5 : (0 : Int) ≤ ((0 : Int) + (1 * idx + 0)) := hag5
  replace g5 : R 58 (idx) = w := hF (R := R 58) g5 (ad_99 idx)
  show hV _ _ _ _ _ [b, many, ic, under, pc, x, y, h, idx, q, r, j, w]
  refine hvC ?_
  show (0 : Int) ≤ ((-1 : Int) + (1 * many + ((-1) * w + 0))) ∧ (0 : Int) ≤ ((-172 : Int) + (1 * w + 0)) ∧ True
  obtain ⟨-, hD, -⟩ := hq
  rw [show R 58 (idx) = fT (R 58) b (j) from congrArg (R 58) (by omega)] at g5
  first
    | (obtain ⟨t1, t2, t3, t4, t5, t6, -⟩ := lj hD (j := j) (by omega) (by omega)
       exact ⟨by omega, by omega, trivial⟩)
    | (obtain ⟨-, -, -, -, -, -, t⟩ := lj hD (j := j) (by omega) (by omega)
       have t2 := t (by omega)
       exact ⟨by omega, by omega, trivial⟩)

theorem tL_12_8_6 : vL rQ 12 hl_12_8_6 := by
  intro R G ps idx hl hq
  obtain ⟨b, many, ic, under, pc, x, y, h, rfl⟩ := hl8 hl
  replace hq : q12 b many ic under pc x y h (R 58) := rqo_12_8 hq
  refine hv8 (fun q r g0 g0a g0b => ?_)
  replace g0 : ((0 : Int) + (1 * idx + 0)) = ((39700 : Nat) : Int) * q + r := g0
  replace g0b : r < ((39700 : Nat) : Int) := g0b
  show hV _ _ _ _ _ [b, many, ic, under, pc, x, y, h, idx, q, r]
  refine hv13 (fun g1 => ?_)
  replace g1 : ((0 : Int) + (39700 * q + 0)) = ((0 : Int) + (1 * b + 0)) := g1
  refine hv7 (fun j g2 => ?_)
  replace g2 : ((300 : Nat) : Int) * j = ((-37619 : Int) + (1 * r + 0)) := g2
  show hV _ _ _ _ _ [b, many, ic, under, pc, x, y, h, idx, q, r, j]
  refine hv0 (fun g3 => ?_)
  replace g3 : (0 : Int) ≤ ((0 : Int) + (1 * j + 0)) := g3
  refine hv0 (fun g4 => ?_)
  replace g4 : (0 : Int) ≤ ((-1 : Int) + (1 * under + ((-1) * j + 0))) := g4
  refine hv0 (fun g5 => ?_)
  replace g5 : (0 : Int) ≤ ((-1 : Int) + (1 * j + 0)) := g5
  refine hv2 (fun w hag6 g6 => ?_)
  replace g6 : R 58 ((0 : Int) + (1 * idx + 0)) = w := g6
  replace hag6 : (0 : Int) ≤ ((0 : Int) + (1 * idx + 0)) := hag6
  replace g6 : R 58 (idx) = w := hF (R := R 58) g6 (ad_99 idx)
  show hV _ _ _ _ _ [b, many, ic, under, pc, x, y, h, idx, q, r, j, w]
  refine hvC ?_
  show (0 : Int) ≤ ((0 : Int) + (1 * w + 0)) ∧ (0 : Int) ≤ ((-1 : Int) + (1 * ic + ((-1) * w + 0))) ∧ True
  obtain ⟨-, hD, -⟩ := hq
  rw [show R 58 (idx) = fJ (R 58) b (j) from congrArg (R 58) (by omega)] at g6
  first
    | (obtain ⟨t1, t2, t3, t4, t5, t6, -⟩ := lj hD (j := j) (by omega) (by omega)
       exact ⟨by omega, by omega, trivial⟩)
    | (obtain ⟨-, -, -, -, -, -, t⟩ := lj hD (j := j) (by omega) (by omega)
       have t2 := t (by omega)
       exact ⟨by omega, by omega, trivial⟩)

theorem tL_12_8_7 : vL rQ 12 hl_12_8_7 := by
  intro R G ps idx hl hq
  obtain ⟨b, many, ic, under, pc, x, y, h, rfl⟩ := hl8 hl
  replace hq : q12 b many ic under pc x y h (R 58) := rqo_12_8 hq
  refine hv8 (fun q r g0 g0a g0b => ?_)
  replace g0 : ((0 : Int) + (1 * idx + 0)) = ((39700 : Nat) : Int) * q + r := g0
  replace g0b : r < ((39700 : Nat) : Int) := g0b
  show hV _ _ _ _ _ [b, many, ic, under, pc, x, y, h, idx, q, r]
  refine hv13 (fun g1 => ?_)
  replace g1 : ((0 : Int) + (39700 * q + 0)) = ((0 : Int) + (1 * b + 0)) := g1
  refine hv7 (fun k g2 => ?_)
  replace g2 : ((2 : Nat) : Int) * k = ((-22692 : Int) + (1 * r + 0)) := g2
  show hV _ _ _ _ _ [b, many, ic, under, pc, x, y, h, idx, q, r, k]
  refine hv0 (fun g3 => ?_)
  replace g3 : (0 : Int) ≤ ((0 : Int) + (1 * k + 0)) := g3
  refine hv0 (fun g4 => ?_)
  replace g4 : (0 : Int) ≤ ((-1 : Int) + (1 * pc + 0)) := g4
  refine hv2 (fun pk hag5 g5 => ?_)
  replace g5 : R 58 ((37414 : Int) + (1 * b + (6 * pc + 0))) = pk := g5
  replace hag5 : (0 : Int) ≤ ((37414 : Int) + (1 * b + (6 * pc + 0))) := hag5
  replace g5 : pK (R 58) b (pc - 1) = pk := hF (R := R 58) g5 (ad_10 b pc)
  show hV _ _ _ _ _ [b, many, ic, under, pc, x, y, h, idx, q, r, k, pk]
  refine hv13 (fun g6 => ?_)
  replace g6 : ((0 : Int) + (1 * pk + 0)) = ((3 : Int) + 0) := g6
  refine hv2 (fun pl hag7 g7 => ?_)
  replace g7 : R 58 ((37415 : Int) + (1 * b + (6 * pc + 0))) = pl := g7
  replace hag7 : (0 : Int) ≤ ((37415 : Int) + (1 * b + (6 * pc + 0))) := hag7
  replace g7 : pP (R 58) b (pc - 1) = pl := hF (R := R 58) g7 (ad_11 b pc)
  show hV _ _ _ _ _ [b, many, ic, under, pc, x, y, h, idx, q, r, k, pk, pl]
  refine hv13 (fun g8 => ?_)
  replace g8 : ((0 : Int) + (1 * pl + 0)) = ((0 : Int) + (1 * k + 0)) := g8
  refine hv2 (fun w hag9 g9 => ?_)
  replace g9 : R 58 ((0 : Int) + (1 * idx + 0)) = w := g9
  replace hag9 : (0 : Int) ≤ ((0 : Int) + (1 * idx + 0)) := hag9
  replace g9 : R 58 (idx) = w := hF (R := R 58) g9 (ad_99 idx)
  show hV _ _ _ _ _ [b, many, ic, under, pc, x, y, h, idx, q, r, k, pk, pl, w]
  refine hvC ?_
  show (0 : Int) ≤ ((-4 : Int) + (1 * w + 0)) ∧ (0 : Int) ≤ ((5 : Int) + ((-1) * w + 0)) ∧ True
  obtain ⟨-, hD, -⟩ := hq
  rw [show R 58 (idx) = iK (R 58) b (k) from congrArg (R 58) (by omega)] at g9
  first
    | (obtain ⟨t1, t2, t3, t4, t5, t6, t7⟩ := lp hD (p := pc - 1) (by omega) (by omega)
       rw [show pP (R 58) b (pc - 1) = k by omega] at t4 t5 t6 t7
       have t8 := t5 (by omega)
       exact ⟨by omega, by omega, trivial⟩)

theorem tL_12_8_8 : vL rQ 12 hl_12_8_8 := by
  intro R G ps idx hl hq
  obtain ⟨b, many, ic, under, pc, x, y, h, rfl⟩ := hl8 hl
  replace hq : q12 b many ic under pc x y h (R 58) := rqo_12_8 hq
  refine hv8 (fun q r g0 g0a g0b => ?_)
  replace g0 : ((0 : Int) + (1 * idx + 0)) = ((39700 : Nat) : Int) * q + r := g0
  replace g0b : r < ((39700 : Nat) : Int) := g0b
  show hV _ _ _ _ _ [b, many, ic, under, pc, x, y, h, idx, q, r]
  refine hv13 (fun g1 => ?_)
  replace g1 : ((0 : Int) + (39700 * q + 0)) = ((0 : Int) + (1 * b + 0)) := g1
  refine hv7 (fun k g2 => ?_)
  replace g2 : ((2 : Nat) : Int) * k = ((-22693 : Int) + (1 * r + 0)) := g2
  show hV _ _ _ _ _ [b, many, ic, under, pc, x, y, h, idx, q, r, k]
  refine hv0 (fun g3 => ?_)
  replace g3 : (0 : Int) ≤ ((0 : Int) + (1 * k + 0)) := g3
  refine hv0 (fun g4 => ?_)
  replace g4 : (0 : Int) ≤ ((-1 : Int) + (1 * ic + ((-1) * k + 0))) := g4
  refine hv2 (fun kk hag5 g5 => ?_)
  replace g5 : R 58 ((22692 : Int) + (1 * b + (2 * k + 0))) = kk := g5
  replace hag5 : (0 : Int) ≤ ((22692 : Int) + (1 * b + (2 * k + 0))) := hag5
  replace g5 : iK (R 58) b (k) = kk := hF (R := R 58) g5 (ad_38 b k)
  show hV _ _ _ _ _ [b, many, ic, under, pc, x, y, h, idx, q, r, k, kk]
  refine hv13 (fun g6 => ?_)
  replace g6 : ((0 : Int) + (1 * kk + 0)) = ((0 : Int) + 0) := g6
  refine hv2 (fun n hag7 g7 => ?_)
  replace g7 : R 58 ((0 : Int) + (1 * idx + 0)) = n := g7
  replace hag7 : (0 : Int) ≤ ((0 : Int) + (1 * idx + 0)) := hag7
  replace g7 : R 58 (idx) = n := hF (R := R 58) g7 (ad_99 idx)
  show hV _ _ _ _ _ [b, many, ic, under, pc, x, y, h, idx, q, r, k, kk, n]
  refine hvC ?_
  show (0 : Int) ≤ ((0 : Int) + (1 * n + 0)) ∧ (0 : Int) ≤ ((-1 : Int) + (1 * many + ((-1) * n + 0))) ∧ True
  obtain ⟨-, hD, -⟩ := hq
  rw [show R 58 (idx) = iN (R 58) b (k) from congrArg (R 58) (by omega)] at g7
  first
    | (have t := li0 hD (k := k) (by omega) (by omega) (by omega)
       exact ⟨by omega, by omega, trivial⟩)
    | (have t := li11 hD (k := k) (by omega) (by omega) (by omega)
       exact ⟨by omega, by omega, trivial⟩)

theorem tL_12_8_9 : vL rQ 12 hl_12_8_9 := by
  intro R G ps idx hl hq
  obtain ⟨b, many, ic, under, pc, x, y, h, rfl⟩ := hl8 hl
  replace hq : q12 b many ic under pc x y h (R 58) := rqo_12_8 hq
  refine hv6 (fun i f g0 => ?_)
  replace g0 : R 58 (((8292 : Int) + (1 * b + 0)) + ((40 : Nat) : Int) * i) = f := g0
  replace g0 : dK (R 58) b (i) = f := hF (R := R 58) g0 (ad_79 b i)
  show hV _ _ _ _ _ [b, many, ic, under, pc, x, y, h, i, f]
  refine hv0 (fun g1 => ?_)
  replace g1 : (0 : Int) ≤ ((0 : Int) + (1 * i + 0)) := g1
  refine hv0 (fun g2 => ?_)
  replace g2 : (0 : Int) ≤ ((0 : Int) + ((-1) * f + 0)) := g2
  refine hv0 (fun g3 => ?_)
  replace g3 : (0 : Int) ≤ ((-1 : Int) + (1 * many + ((-1) * i + 0))) := g3
  refine hvC ?_
  show (0 : Int) ≤ ((171 : Int) + ((-1) * i + 0)) ∧ True
  obtain ⟨-, hD, -⟩ := hq
  first
    | (have t := lw hD (i := i) (by omega) (by omega) (by omega)
       exact ⟨by omega, trivial⟩)
    | (have t := lk0 hD (i := i) (by omega) (by omega)
       exact ⟨by omega, trivial⟩)
    | (have t := lm hD (i := i) (by omega) (by omega) (by omega)
       exact ⟨by omega, trivial⟩)

theorem tL_12_8_10 : vL rQ 12 hl_12_8_10 := by
  intro R G ps idx hl hq
  obtain ⟨b, many, ic, under, pc, x, y, h, rfl⟩ := hl8 hl
  replace hq : q12 b many ic under pc x y h (R 58) := rqo_12_8 hq
  refine hv6 (fun k f g0 => ?_)
  replace g0 : R 58 (((22692 : Int) + (1 * b + 0)) + ((2 : Nat) : Int) * k) = f := g0
  replace g0 : iK (R 58) b (k) = f := hF (R := R 58) g0 (ad_32 b k)
  show hV _ _ _ _ _ [b, many, ic, under, pc, x, y, h, k, f]
  refine hv13 (fun g1 => ?_)
  replace g1 : ((0 : Int) + (1 * f + 0)) = ((0 : Int) + 0) := g1
  refine hv0 (fun g2 => ?_)
  replace g2 : (0 : Int) ≤ ((0 : Int) + (1 * k + 0)) := g2
  refine hv0 (fun g3 => ?_)
  replace g3 : (0 : Int) ≤ ((-1 : Int) + (1 * ic + ((-1) * k + 0))) := g3
  refine hv2 (fun n hag4 g4 => ?_)
  replace g4 : R 58 ((22693 : Int) + (1 * b + (2 * k + 0))) = n := g4
  replace hag4 : (0 : Int) ≤ ((22693 : Int) + (1 * b + (2 * k + 0))) := hag4
  replace g4 : iN (R 58) b (k) = n := hF (R := R 58) g4 (ad_33 b k)
  show hV _ _ _ _ _ [b, many, ic, under, pc, x, y, h, k, f, n]
  refine hvC ?_
  show (0 : Int) ≤ ((0 : Int) + (1 * n + 0)) ∧ (0 : Int) ≤ ((-1 : Int) + (1 * many + ((-1) * n + 0))) ∧ True
  obtain ⟨-, hD, -⟩ := hq
  first
    | (have t := li0 hD (k := k) (by omega) (by omega) (by omega)
       exact ⟨by omega, by omega, trivial⟩)
    | (have t := li11 hD (k := k) (by omega) (by omega) (by omega)
       exact ⟨by omega, by omega, trivial⟩)

theorem tL_12_8_11 : vL rQ 12 hl_12_8_11 := by
  intro R G ps idx hl hq
  obtain ⟨b, many, ic, under, pc, x, y, h, rfl⟩ := hl8 hl
  replace hq : q12 b many ic under pc x y h (R 58) := rqo_12_8 hq
  refine hv6 (fun k f g0 => ?_)
  replace g0 : R 58 (((22692 : Int) + (1 * b + 0)) + ((2 : Nat) : Int) * k) = f := g0
  replace g0 : iK (R 58) b (k) = f := hF (R := R 58) g0 (ad_32 b k)
  show hV _ _ _ _ _ [b, many, ic, under, pc, x, y, h, k, f]
  refine hv0 (fun g1 => ?_)
  replace g1 : (0 : Int) ≤ ((-11 : Int) + (1 * f + 0)) := g1
  refine hv0 (fun g2 => ?_)
  replace g2 : (0 : Int) ≤ ((13 : Int) + ((-1) * f + 0)) := g2
  refine hv0 (fun g3 => ?_)
  replace g3 : (0 : Int) ≤ ((0 : Int) + (1 * k + 0)) := g3
  refine hv0 (fun g4 => ?_)
  replace g4 : (0 : Int) ≤ ((-1 : Int) + (1 * ic + ((-1) * k + 0))) := g4
  refine hv2 (fun n hag5 g5 => ?_)
  replace g5 : R 58 ((22693 : Int) + (1 * b + (2 * k + 0))) = n := g5
  replace hag5 : (0 : Int) ≤ ((22693 : Int) + (1 * b + (2 * k + 0))) := hag5
  replace g5 : iN (R 58) b (k) = n := hF (R := R 58) g5 (ad_33 b k)
  show hV _ _ _ _ _ [b, many, ic, under, pc, x, y, h, k, f, n]
  refine hvC ?_
  show (0 : Int) ≤ ((0 : Int) + (1 * n + 0)) ∧ (0 : Int) ≤ ((1048576 : Int) + ((-1) * n + 0)) ∧ True
  obtain ⟨-, hD, -⟩ := hq
  first
    | (have t := li0 hD (k := k) (by omega) (by omega) (by omega)
       exact ⟨by omega, by omega, trivial⟩)
    | (have t := li11 hD (k := k) (by omega) (by omega) (by omega)
       exact ⟨by omega, by omega, trivial⟩)

theorem tL_12_8_12 : vL rQ 12 hl_12_8_12 := by
  intro R G ps idx hl hq
  obtain ⟨b, many, ic, under, pc, x, y, h, rfl⟩ := hl8 hl
  replace hq : q12 b many ic under pc x y h (R 58) := rqo_12_8 hq
  refine hv6 (fun k f g0 => ?_)
  replace g0 : R 58 (((22692 : Int) + (1 * b + 0)) + ((2 : Nat) : Int) * k) = f := g0
  replace g0 : iK (R 58) b (k) = f := hF (R := R 58) g0 (ad_32 b k)
  show hV _ _ _ _ _ [b, many, ic, under, pc, x, y, h, k, f]
  refine hv0 (fun g1 => ?_)
  replace g1 : (0 : Int) ≤ ((-4 : Int) + (1 * f + 0)) := g1
  refine hv0 (fun g2 => ?_)
  replace g2 : (0 : Int) ≤ ((4 : Int) + ((-1) * f + 0)) := g2
  refine hv0 (fun g3 => ?_)
  replace g3 : (0 : Int) ≤ ((0 : Int) + (1 * k + 0)) := g3
  refine hv0 (fun g4 => ?_)
  replace g4 : (0 : Int) ≤ ((-1 : Int) + (1 * ic + ((-1) * k + 0))) := g4
  refine hv2 (fun n hag5 g5 => ?_)
  replace g5 : R 58 ((22693 : Int) + (1 * b + (2 * k + 0))) = n := g5
  replace hag5 : (0 : Int) ≤ ((22693 : Int) + (1 * b + (2 * k + 0))) := hag5
  replace g5 : iN (R 58) b (k) = n := hF (R := R 58) g5 (ad_33 b k)
  show hV _ _ _ _ _ [b, many, ic, under, pc, x, y, h, k, f, n]
  refine hvC ?_
  show (0 : Int) ≤ ((0 : Int) + (1 * n + 0)) ∧ (0 : Int) ≤ ((1048576 : Int) + ((-1) * n + 0)) ∧ True
  obtain ⟨-, hD, -⟩ := hq
  first
    | (have t := li0 hD (k := k) (by omega) (by omega) (by omega)
       exact ⟨by omega, by omega, trivial⟩)
    | (have t := li11 hD (k := k) (by omega) (by omega) (by omega)
       exact ⟨by omega, by omega, trivial⟩)

theorem tL_10_0_0 : vL rQ 10 hl_10_0_0 := by
  intro R G ps idx hl hq
  obtain rfl := hl0 hl
  replace hq : q10 [] (R 58) := rqo_10_0 hq
  refine hv8 (fun q r g0 g0a g0b => ?_)
  replace g0 : ((0 : Int) + (1 * idx + 0)) = ((39700 : Nat) : Int) * q + r := g0
  replace g0b : r < ((39700 : Nat) : Int) := g0b
  show hV _ _ _ _ _ [idx, q, r]
  refine hv0 (fun g1 => ?_)
  replace g1 : (0 : Int) ≤ ((5 : Int) + ((-1) * q + 0)) := g1
  refine hv0 (fun g2 => ?_)
  replace g2 : (0 : Int) ≤ ((0 : Int) + (1 * q + 0)) := g2
  refine hv2 (fun many hag3 g3 => ?_)
  replace g3 : R 58 ((4 : Int) + (39700 * q + 0)) = many := g3
  replace hag3 : (0 : Int) ≤ ((4 : Int) + (39700 * q + 0)) := hag3
  replace g3 : R 58 ((39700 * q) + 4) = many := hF (R := R 58) g3 (ad_80 q)
  show hV _ _ _ _ _ [idx, q, r, many]
  refine hv2 (fun ic hag4 g4 => ?_)
  replace g4 : R 58 ((5 : Int) + (39700 * q + 0)) = ic := g4
  replace hag4 : (0 : Int) ≤ ((5 : Int) + (39700 * q + 0)) := hag4
  replace g4 : R 58 ((39700 * q) + 5) = ic := hF (R := R 58) g4 (ad_81 q)
  show hV _ _ _ _ _ [idx, q, r, many, ic]
  refine hv7 (fun i g5 => ?_)
  replace g5 : ((40 : Nat) : Int) * i = ((-8295 : Int) + (1 * r + 0)) := g5
  show hV _ _ _ _ _ [idx, q, r, many, ic, i]
  refine hv0 (fun g6 => ?_)
  replace g6 : (0 : Int) ≤ ((0 : Int) + (1 * i + 0)) := g6
  refine hv0 (fun g7 => ?_)
  replace g7 : (0 : Int) ≤ ((-1 : Int) + (1 * many + ((-1) * i + 0))) := g7
  refine hv2 (fun kk hag8 g8 => ?_)
  replace g8 : R 58 ((8292 : Int) + (39700 * q + (40 * i + 0))) = kk := g8
  replace hag8 : (0 : Int) ≤ ((8292 : Int) + (39700 * q + (40 * i + 0))) := hag8
  replace g8 : dK (R 58) (39700 * q) (i) = kk := hF (R := R 58) g8 (ad_126 q i)
  show hV _ _ _ _ _ [idx, q, r, many, ic, i, kk]
  refine hv13 (fun g9 => ?_)
  replace g9 : ((0 : Int) + (1 * kk + 0)) = ((1 : Int) + 0) := g9
  refine hv2 (fun V hag10 g10 => ?_)
  replace g10 : R 58 ((8295 : Int) + (39700 * q + (40 * i + 0))) = V := g10
  replace hag10 : (0 : Int) ≤ ((8295 : Int) + (39700 * q + (40 * i + 0))) := hag10
  replace g10 : dV (R 58) (39700 * q) (i) = V := hF (R := R 58) g10 (ad_127 q i)
  show hV _ _ _ _ _ [idx, q, r, many, ic, i, kk, V]
  refine hvC ?_
  show (0 : Int) ≤ ((0 : Int) + (1 * V + 0)) ∧ (0 : Int) ≤ ((0 : Int) + (1 * ic + ((-1) * V + 0))) ∧ True
  obtain ⟨hD, -⟩ := hq q (by omega) (by omega) (fun x hx => by cases hx)
  rw [g3] at hD
  rw [g4] at hD
  first
    | (have t := lw hD (i := i) (by omega) (by omega) (by omega)
       exact ⟨by omega, by omega, trivial⟩)
    | (have t := lk0 hD (i := i) (by omega) (by omega)
       exact ⟨by omega, by omega, trivial⟩)
    | (have t := lm hD (i := i) (by omega) (by omega) (by omega)
       exact ⟨by omega, by omega, trivial⟩)

theorem tL_10_0_1 : vL rQ 10 hl_10_0_1 := by
  intro R G ps idx hl hq
  obtain rfl := hl0 hl
  replace hq : q10 [] (R 58) := rqo_10_0 hq
  refine hv8 (fun q r g0 g0a g0b => ?_)
  replace g0 : ((0 : Int) + (1 * idx + 0)) = ((39700 : Nat) : Int) * q + r := g0
  replace g0b : r < ((39700 : Nat) : Int) := g0b
  show hV _ _ _ _ _ [idx, q, r]
  refine hv0 (fun g1 => ?_)
  replace g1 : (0 : Int) ≤ ((5 : Int) + ((-1) * q + 0)) := g1
  refine hv0 (fun g2 => ?_)
  replace g2 : (0 : Int) ≤ ((0 : Int) + (1 * q + 0)) := g2
  refine hv2 (fun many hag3 g3 => ?_)
  replace g3 : R 58 ((4 : Int) + (39700 * q + 0)) = many := g3
  replace hag3 : (0 : Int) ≤ ((4 : Int) + (39700 * q + 0)) := hag3
  replace g3 : R 58 ((39700 * q) + 4) = many := hF (R := R 58) g3 (ad_80 q)
  show hV _ _ _ _ _ [idx, q, r, many]
  refine hv2 (fun ic hag4 g4 => ?_)
  replace g4 : R 58 ((5 : Int) + (39700 * q + 0)) = ic := g4
  replace hag4 : (0 : Int) ≤ ((5 : Int) + (39700 * q + 0)) := hag4
  replace g4 : R 58 ((39700 * q) + 5) = ic := hF (R := R 58) g4 (ad_81 q)
  show hV _ _ _ _ _ [idx, q, r, many, ic]
  refine hv7 (fun i g5 => ?_)
  replace g5 : ((40 : Nat) : Int) * i = ((-8295 : Int) + (1 * r + 0)) := g5
  show hV _ _ _ _ _ [idx, q, r, many, ic, i]
  refine hv0 (fun g6 => ?_)
  replace g6 : (0 : Int) ≤ ((0 : Int) + (1 * i + 0)) := g6
  refine hv0 (fun g7 => ?_)
  replace g7 : (0 : Int) ≤ ((-1 : Int) + (1 * many + ((-1) * i + 0))) := g7
  refine hv2 (fun kk hag8 g8 => ?_)
  replace g8 : R 58 ((8292 : Int) + (39700 * q + (40 * i + 0))) = kk := g8
  replace hag8 : (0 : Int) ≤ ((8292 : Int) + (39700 * q + (40 * i + 0))) := hag8
  replace g8 : dK (R 58) (39700 * q) (i) = kk := hF (R := R 58) g8 (ad_126 q i)
  show hV _ _ _ _ _ [idx, q, r, many, ic, i, kk]
  refine hv13 (fun g9 => ?_)
  replace g9 : ((0 : Int) + (1 * kk + 0)) = ((1 : Int) + 0) := g9
  refine hv2 (fun V hag10 g10 => ?_)
  replace g10 : R 58 ((8295 : Int) + (39700 * q + (40 * i + 0))) = V := g10
  replace hag10 : (0 : Int) ≤ ((8295 : Int) + (39700 * q + (40 * i + 0))) := hag10
  replace g10 : dV (R 58) (39700 * q) (i) = V := hF (R := R 58) g10 (ad_127 q i)
  show hV _ _ _ _ _ [idx, q, r, many, ic, i, kk, V]
  refine hv2 (fun N hag11 g11 => ?_)
  replace g11 : R 58 ((8296 : Int) + (39700 * q + (40 * i + 0))) = N := g11
  replace hag11 : (0 : Int) ≤ ((8296 : Int) + (39700 * q + (40 * i + 0))) := hag11
  replace g11 : dL (R 58) (39700 * q) (i) = N := hF (R := R 58) g11 (ad_128 q i)
  show hV _ _ _ _ _ [idx, q, r, many, ic, i, kk, V, N]
  refine hvC ?_
  show (0 : Int) ≤ ((0 : Int) + (1 * ic + ((-1) * V + ((-1) * N + 0)))) ∧ True
  obtain ⟨hD, -⟩ := hq q (by omega) (by omega) (fun x hx => by cases hx)
  rw [g3] at hD
  rw [g4] at hD
  first
    | (have t := lw hD (i := i) (by omega) (by omega) (by omega)
       exact ⟨by omega, trivial⟩)
    | (have t := lk0 hD (i := i) (by omega) (by omega)
       exact ⟨by omega, trivial⟩)
    | (have t := lm hD (i := i) (by omega) (by omega) (by omega)
       exact ⟨by omega, trivial⟩)

theorem tL_10_0_2 : vL rQ 10 hl_10_0_2 := by
  intro R G ps idx hl hq
  obtain rfl := hl0 hl
  replace hq : q10 [] (R 58) := rqo_10_0 hq
  refine hv8 (fun q r g0 g0a g0b => ?_)
  replace g0 : ((0 : Int) + (1 * idx + 0)) = ((39700 : Nat) : Int) * q + r := g0
  replace g0b : r < ((39700 : Nat) : Int) := g0b
  show hV _ _ _ _ _ [idx, q, r]
  refine hv0 (fun g1 => ?_)
  replace g1 : (0 : Int) ≤ ((5 : Int) + ((-1) * q + 0)) := g1
  refine hv0 (fun g2 => ?_)
  replace g2 : (0 : Int) ≤ ((0 : Int) + (1 * q + 0)) := g2
  refine hv2 (fun many hag3 g3 => ?_)
  replace g3 : R 58 ((4 : Int) + (39700 * q + 0)) = many := g3
  replace hag3 : (0 : Int) ≤ ((4 : Int) + (39700 * q + 0)) := hag3
  replace g3 : R 58 ((39700 * q) + 4) = many := hF (R := R 58) g3 (ad_80 q)
  show hV _ _ _ _ _ [idx, q, r, many]
  refine hv7 (fun i g4 => ?_)
  replace g4 : ((40 : Nat) : Int) * i = ((-8295 : Int) + (1 * r + 0)) := g4
  show hV _ _ _ _ _ [idx, q, r, many, i]
  refine hv0 (fun g5 => ?_)
  replace g5 : (0 : Int) ≤ ((0 : Int) + (1 * i + 0)) := g5
  refine hv0 (fun g6 => ?_)
  replace g6 : (0 : Int) ≤ ((-1 : Int) + (1 * many + ((-1) * i + 0))) := g6
  refine hv2 (fun kk hag7 g7 => ?_)
  replace g7 : R 58 ((8292 : Int) + (39700 * q + (40 * i + 0))) = kk := g7
  replace hag7 : (0 : Int) ≤ ((8292 : Int) + (39700 * q + (40 * i + 0))) := hag7
  replace g7 : dK (R 58) (39700 * q) (i) = kk := hF (R := R 58) g7 (ad_126 q i)
  show hV _ _ _ _ _ [idx, q, r, many, i, kk]
  refine hv13 (fun g8 => ?_)
  replace g8 : ((0 : Int) + (1 * kk + 0)) = ((6 : Int) + 0) := g8
  refine hv2 (fun w hag9 g9 => ?_)
  replace g9 : R 58 ((0 : Int) + (1 * idx + 0)) = w := g9
  replace hag9 : (0 : Int) ≤ ((0 : Int) + (1 * idx + 0)) := hag9
  replace g9 : R 58 (idx) = w := hF (R := R 58) g9 (ad_99 idx)
  show hV _ _ _ _ _ [idx, q, r, many, i, kk, w]
  refine hvC ?_
  show (0 : Int) ≤ ((0 : Int) + (1 * w + 0)) ∧ (0 : Int) ≤ ((31 : Int) + ((-1) * w + 0)) ∧ True
  obtain ⟨hD, -⟩ := hq q (by omega) (by omega) (fun x hx => by cases hx)
  rw [g3] at hD
  rw [show R 58 (idx) = dV (R 58) (39700 * q) (i) from congrArg (R 58) (by omega)] at g9
  first
    | (have t := lw hD (i := i) (by omega) (by omega) (by omega)
       exact ⟨by omega, by omega, trivial⟩)
    | (have t := lk0 hD (i := i) (by omega) (by omega)
       exact ⟨by omega, by omega, trivial⟩)
    | (have t := lm hD (i := i) (by omega) (by omega) (by omega)
       exact ⟨by omega, by omega, trivial⟩)

theorem tL_10_0_3 : vL rQ 10 hl_10_0_3 := by
  intro R G ps idx hl hq
  obtain rfl := hl0 hl
  replace hq : q10 [] (R 58) := rqo_10_0 hq
  refine hv8 (fun q r g0 g0a g0b => ?_)
  replace g0 : ((0 : Int) + (1 * idx + 0)) = ((39700 : Nat) : Int) * q + r := g0
  replace g0b : r < ((39700 : Nat) : Int) := g0b
  show hV _ _ _ _ _ [idx, q, r]
  refine hv0 (fun g1 => ?_)
  replace g1 : (0 : Int) ≤ ((5 : Int) + ((-1) * q + 0)) := g1
  refine hv0 (fun g2 => ?_)
  replace g2 : (0 : Int) ≤ ((0 : Int) + (1 * q + 0)) := g2
  refine hv2 (fun under hag3 g3 => ?_)
  replace g3 : R 58 ((24 : Int) + (39700 * q + 0)) = under := g3
  replace hag3 : (0 : Int) ≤ ((24 : Int) + (39700 * q + 0)) := hag3
  replace g3 : R 58 ((39700 * q) + 24) = under := hF (R := R 58) g3 (ad_82 q)
  show hV _ _ _ _ _ [idx, q, r, under]
  refine hv2 (fun ic hag4 g4 => ?_)
  replace g4 : R 58 ((5 : Int) + (39700 * q + 0)) = ic := g4
  replace hag4 : (0 : Int) ≤ ((5 : Int) + (39700 * q + 0)) := hag4
  replace g4 : R 58 ((39700 * q) + 5) = ic := hF (R := R 58) g4 (ad_81 q)
  show hV _ _ _ _ _ [idx, q, r, under, ic]
  refine hv7 (fun i g5 => ?_)
  replace g5 : ((40 : Nat) : Int) * i = ((-8295 : Int) + (1 * r + 0)) := g5
  show hV _ _ _ _ _ [idx, q, r, under, ic, i]
  refine hv0 (fun g6 => ?_)
  replace g6 : (0 : Int) ≤ ((0 : Int) + (1 * i + 0)) := g6
  refine hv0 (fun g7 => ?_)
  replace g7 : (0 : Int) ≤ ((-1 : Int) + (1 * under + 0)) := g7
  refine hv2 (fun w hag8 g8 => ?_)
  replace g8 : R 58 ((37312 : Int) + (39700 * q + (300 * under + 0))) = w := g8
  replace hag8 : (0 : Int) ≤ ((37312 : Int) + (39700 * q + (300 * under + 0))) := hag8
  replace g8 : fT (R 58) (39700 * q) (under - 1) = w := hF (R := R 58) g8 (ad_129 q under)
  show hV _ _ _ _ _ [idx, q, r, under, ic, i, w]
  refine hv13 (fun g9 => ?_)
  replace g9 : ((0 : Int) + (1 * w + 0)) = ((0 : Int) + (1 * i + 0)) := g9
  refine hv2 (fun V hag10 g10 => ?_)
  replace g10 : R 58 ((0 : Int) + (1 * idx + 0)) = V := g10
  replace hag10 : (0 : Int) ≤ ((0 : Int) + (1 * idx + 0)) := hag10
  replace g10 : R 58 (idx) = V := hF (R := R 58) g10 (ad_99 idx)
  show hV _ _ _ _ _ [idx, q, r, under, ic, i, w, V]
  refine hvC ?_
  show (0 : Int) ≤ ((0 : Int) + (1 * V + 0)) ∧ (0 : Int) ≤ ((0 : Int) + (1 * ic + ((-1) * V + 0))) ∧ True
  obtain ⟨hD, -⟩ := hq q (by omega) (by omega) (fun x hx => by cases hx)
  rw [g4] at hD
  rw [g3] at hD
  rw [show R 58 (idx) = dV (R 58) (39700 * q) (i) from congrArg (R 58) (by omega)] at g10
  first
    | (have e : fT (R 58) (39700 * q) (under - 1) = i := by omega
       have t := lI hD (by omega)
       rw [e] at t
       have t2 := t.1
       have t3 := t.2
       exact ⟨by omega, by omega, trivial⟩)
    | (have e : fT (R 58) (39700 * q) (under - 1) = i := by omega
       obtain ⟨t1, t2, t3, t4, t5, t6, -⟩ := lj hD (j := under - 1) (by omega) (by omega)
       rw [e] at t1 t2 t3 t4 t5 t6
       exact ⟨by omega, by omega, trivial⟩)

theorem tL_10_0_4 : vL rQ 10 hl_10_0_4 := by
  intro R G ps idx hl hq
  obtain rfl := hl0 hl
  replace hq : q10 [] (R 58) := rqo_10_0 hq
  refine hv8 (fun q r g0 g0a g0b => ?_)
  replace g0 : ((0 : Int) + (1 * idx + 0)) = ((39700 : Nat) : Int) * q + r := g0
  replace g0b : r < ((39700 : Nat) : Int) := g0b
  show hV _ _ _ _ _ [idx, q, r]
  refine hv0 (fun g1 => ?_)
  replace g1 : (0 : Int) ≤ ((5 : Int) + ((-1) * q + 0)) := g1
  refine hv0 (fun g2 => ?_)
  replace g2 : (0 : Int) ≤ ((0 : Int) + (1 * q + 0)) := g2
  refine hv2 (fun pc hag3 g3 => ?_)
  replace g3 : R 58 ((17 : Int) + (39700 * q + 0)) = pc := g3
  replace hag3 : (0 : Int) ≤ ((17 : Int) + (39700 * q + 0)) := hag3
  replace g3 : R 58 ((39700 * q) + 17) = pc := hF (R := R 58) g3 (ad_83 q)
  show hV _ _ _ _ _ [idx, q, r, pc]
  refine hv2 (fun ic hag4 g4 => ?_)
  replace g4 : R 58 ((5 : Int) + (39700 * q + 0)) = ic := g4
  replace hag4 : (0 : Int) ≤ ((5 : Int) + (39700 * q + 0)) := hag4
  replace g4 : R 58 ((39700 * q) + 5) = ic := hF (R := R 58) g4 (ad_81 q)
  show hV _ _ _ _ _ [idx, q, r, pc, ic]
  refine hv7 (fun p g5 => ?_)
  replace g5 : ((6 : Nat) : Int) * p = ((-37421 : Int) + (1 * r + 0)) := g5
  show hV _ _ _ _ _ [idx, q, r, pc, ic, p]
  refine hv0 (fun g6 => ?_)
  replace g6 : (0 : Int) ≤ ((0 : Int) + (1 * p + 0)) := g6
  refine hv0 (fun g7 => ?_)
  replace g7 : (0 : Int) ≤ ((-1 : Int) + (1 * pc + ((-1) * p + 0))) := g7
  refine hv5 (fun g8 => ?_)
  replace g8 : q25 ((0 : Int) + (39700 * q + 0)) ((0 : Int) + (1 * p + 0)) (R 58) := rqo_25_2 g8
  simp only [Int.zero_add, Int.one_mul, Int.add_zero] at g8
  refine hv2 (fun w hag9 g9 => ?_)
  replace g9 : R 58 ((0 : Int) + (1 * idx + 0)) = w := g9
  replace hag9 : (0 : Int) ≤ ((0 : Int) + (1 * idx + 0)) := hag9
  replace g9 : R 58 (idx) = w := hF (R := R 58) g9 (ad_99 idx)
  show hV _ _ _ _ _ [idx, q, r, pc, ic, p, w]
  refine hvC ?_
  show (0 : Int) ≤ ((-1 : Int) + (1 * ic + ((-1) * w + 0))) ∧ True
  obtain ⟨hD, -⟩ := hq q (by omega) (by omega) (fun x hx => by cases hx)
  rw [g4] at hD
  rw [g3] at hD
  rw [show R 58 (idx) = pP (R 58) (39700 * q) (p) from congrArg (R 58) (by omega)] at g9
  first
    | (obtain ⟨t1, t2, t3, -⟩ := lp hD (p := p) (by omega) (by omega)
       exact ⟨by omega, trivial⟩)
    | (obtain ⟨t1, t2, t3, -⟩ := lp hD (p := p) (by omega) (by omega)
       have t4 := t3 (by unfold q25 at *; omega)
       exact ⟨by omega, trivial⟩)
    | (obtain ⟨t1, t2, t3, -⟩ := lp hD (p := p) (by omega) (by omega)
       have t4 := t3 (by omega)
       exact ⟨by omega, trivial⟩)

theorem tL_10_0_5 : vL rQ 10 hl_10_0_5 := by
  intro R G ps idx hl hq
  obtain rfl := hl0 hl
  replace hq : q10 [] (R 58) := rqo_10_0 hq
  refine hv8 (fun q r g0 g0a g0b => ?_)
  replace g0 : ((0 : Int) + (1 * idx + 0)) = ((39700 : Nat) : Int) * q + r := g0
  replace g0b : r < ((39700 : Nat) : Int) := g0b
  show hV _ _ _ _ _ [idx, q, r]
  refine hv0 (fun g1 => ?_)
  replace g1 : (0 : Int) ≤ ((5 : Int) + ((-1) * q + 0)) := g1
  refine hv0 (fun g2 => ?_)
  replace g2 : (0 : Int) ≤ ((0 : Int) + (1 * q + 0)) := g2
  refine hv2 (fun pc hag3 g3 => ?_)
  replace g3 : R 58 ((17 : Int) + (39700 * q + 0)) = pc := g3
  replace hag3 : (0 : Int) ≤ ((17 : Int) + (39700 * q + 0)) := hag3
  replace g3 : R 58 ((39700 * q) + 17) = pc := hF (R := R 58) g3 (ad_83 q)
  show hV _ _ _ _ _ [idx, q, r, pc]
  refine hv2 (fun ic hag4 g4 => ?_)
  replace g4 : R 58 ((5 : Int) + (39700 * q + 0)) = ic := g4
  replace hag4 : (0 : Int) ≤ ((5 : Int) + (39700 * q + 0)) := hag4
  replace g4 : R 58 ((39700 * q) + 5) = ic := hF (R := R 58) g4 (ad_81 q)
  show hV _ _ _ _ _ [idx, q, r, pc, ic]
  refine hv7 (fun p g5 => ?_)
  replace g5 : ((6 : Nat) : Int) * p = ((-37421 : Int) + (1 * r + 0)) := g5
  show hV _ _ _ _ _ [idx, q, r, pc, ic, p]
  refine hv0 (fun g6 => ?_)
  replace g6 : (0 : Int) ≤ ((0 : Int) + (1 * p + 0)) := g6
  refine hv0 (fun g7 => ?_)
  replace g7 : (0 : Int) ≤ ((-1 : Int) + (1 * pc + ((-1) * p + 0))) := g7
  refine hv2 (fun k hag8 g8 => ?_)
  replace g8 : R 58 ((37420 : Int) + (39700 * q + (6 * p + 0))) = k := g8
  replace hag8 : (0 : Int) ≤ ((37420 : Int) + (39700 * q + (6 * p + 0))) := hag8
  replace g8 : pK (R 58) (39700 * q) (p) = k := hF (R := R 58) g8 (ad_130 q p)
  show hV _ _ _ _ _ [idx, q, r, pc, ic, p, k]
  refine hv13 (fun g9 => ?_)
  replace g9 : ((0 : Int) + (1 * k + 0)) = ((3 : Int) + 0) := g9
  refine hv2 (fun w hag10 g10 => ?_)
  replace g10 : R 58 ((0 : Int) + (1 * idx + 0)) = w := g10
  replace hag10 : (0 : Int) ≤ ((0 : Int) + (1 * idx + 0)) := hag10
  replace g10 : R 58 (idx) = w := hF (R := R 58) g10 (ad_99 idx)
  show hV _ _ _ _ _ [idx, q, r, pc, ic, p, k, w]
  refine hvC ?_
  show (0 : Int) ≤ ((-1 : Int) + (1 * ic + ((-1) * w + 0))) ∧ True
  obtain ⟨hD, -⟩ := hq q (by omega) (by omega) (fun x hx => by cases hx)
  rw [g4] at hD
  rw [g3] at hD
  rw [show R 58 (idx) = pP (R 58) (39700 * q) (p) from congrArg (R 58) (by omega)] at g10
  first
    | (obtain ⟨t1, t2, t3, -⟩ := lp hD (p := p) (by omega) (by omega)
       exact ⟨by omega, trivial⟩)
    | (obtain ⟨t1, t2, t3, -⟩ := lp hD (p := p) (by omega) (by omega)
       have t4 := t3 (by unfold q25 at *; omega)
       exact ⟨by omega, trivial⟩)
    | (obtain ⟨t1, t2, t3, -⟩ := lp hD (p := p) (by omega) (by omega)
       have t4 := t3 (by omega)
       exact ⟨by omega, trivial⟩)

theorem tL_10_0_6 : vL rQ 10 hl_10_0_6 := by
  intro R G ps idx hl hq
  obtain rfl := hl0 hl
  replace hq : q10 [] (R 58) := rqo_10_0 hq
  refine hv8 (fun q r g0 g0a g0b => ?_)
  replace g0 : ((0 : Int) + (1 * idx + 0)) = ((39700 : Nat) : Int) * q + r := g0
  replace g0b : r < ((39700 : Nat) : Int) := g0b
  show hV _ _ _ _ _ [idx, q, r]
  refine hv0 (fun g1 => ?_)
  replace g1 : (0 : Int) ≤ ((5 : Int) + ((-1) * q + 0)) := g1
  refine hv0 (fun g2 => ?_)
  replace g2 : (0 : Int) ≤ ((0 : Int) + (1 * q + 0)) := g2
  refine hv2 (fun pc hag3 g3 => ?_)
  replace g3 : R 58 ((17 : Int) + (39700 * q + 0)) = pc := g3
  replace hag3 : (0 : Int) ≤ ((17 : Int) + (39700 * q + 0)) := hag3
  replace g3 : R 58 ((39700 * q) + 17) = pc := hF (R := R 58) g3 (ad_83 q)
  show hV _ _ _ _ _ [idx, q, r, pc]
  refine hv2 (fun ic hag4 g4 => ?_)
  replace g4 : R 58 ((5 : Int) + (39700 * q + 0)) = ic := g4
  replace hag4 : (0 : Int) ≤ ((5 : Int) + (39700 * q + 0)) := hag4
  replace g4 : R 58 ((39700 * q) + 5) = ic := hF (R := R 58) g4 (ad_81 q)
  show hV _ _ _ _ _ [idx, q, r, pc, ic]
  refine hv7 (fun p g5 => ?_)
  replace g5 : ((6 : Nat) : Int) * p = ((-37421 : Int) + (1 * r + 0)) := g5
  show hV _ _ _ _ _ [idx, q, r, pc, ic, p]
  refine hv0 (fun g6 => ?_)
  replace g6 : (0 : Int) ≤ ((0 : Int) + (1 * p + 0)) := g6
  refine hv0 (fun g7 => ?_)
  replace g7 : (0 : Int) ≤ ((-1 : Int) + (1 * pc + ((-1) * p + 0))) := g7
  refine hv2 (fun w hag8 g8 => ?_)
  replace g8 : R 58 ((0 : Int) + (1 * idx + 0)) = w := g8
  replace hag8 : (0 : Int) ≤ ((0 : Int) + (1 * idx + 0)) := hag8
  replace g8 : R 58 (idx) = w := hF (R := R 58) g8 (ad_99 idx)
  show hV _ _ _ _ _ [idx, q, r, pc, ic, p, w]
  refine hvC ?_
  show (0 : Int) ≤ ((0 : Int) + (1 * ic + ((-1) * w + 0))) ∧ True
  obtain ⟨hD, -⟩ := hq q (by omega) (by omega) (fun x hx => by cases hx)
  rw [g4] at hD
  rw [g3] at hD
  rw [show R 58 (idx) = pP (R 58) (39700 * q) (p) from congrArg (R 58) (by omega)] at g8
  first
    | (obtain ⟨t1, t2, t3, -⟩ := lp hD (p := p) (by omega) (by omega)
       exact ⟨by omega, trivial⟩)
    | (obtain ⟨t1, t2, t3, -⟩ := lp hD (p := p) (by omega) (by omega)
       have t4 := t3 (by unfold q25 at *; omega)
       exact ⟨by omega, trivial⟩)
    | (obtain ⟨t1, t2, t3, -⟩ := lp hD (p := p) (by omega) (by omega)
       have t4 := t3 (by omega)
       exact ⟨by omega, trivial⟩)

theorem tL_10_0_7 : vL rQ 10 hl_10_0_7 := by
  intro R G ps idx hl hq
  obtain rfl := hl0 hl
  replace hq : q10 [] (R 58) := rqo_10_0 hq
  refine hv8 (fun q r g0 g0a g0b => ?_)
  replace g0 : ((0 : Int) + (1 * idx + 0)) = ((39700 : Nat) : Int) * q + r := g0
  replace g0b : r < ((39700 : Nat) : Int) := g0b
  show hV _ _ _ _ _ [idx, q, r]
  refine hv0 (fun g1 => ?_)
  replace g1 : (0 : Int) ≤ ((5 : Int) + ((-1) * q + 0)) := g1
  refine hv0 (fun g2 => ?_)
  replace g2 : (0 : Int) ≤ ((0 : Int) + (1 * q + 0)) := g2
  refine hv2 (fun under hag3 g3 => ?_)
  replace g3 : R 58 ((24 : Int) + (39700 * q + 0)) = under := g3
  replace hag3 : (0 : Int) ≤ ((24 : Int) + (39700 * q + 0)) := hag3
  replace g3 : R 58 ((39700 * q) + 24) = under := hF (R := R 58) g3 (ad_82 q)
  show hV _ _ _ _ _ [idx, q, r, under]
  refine hv2 (fun many hag4 g4 => ?_)
  replace g4 : R 58 ((4 : Int) + (39700 * q + 0)) = many := g4
  replace hag4 : (0 : Int) ≤ ((4 : Int) + (39700 * q + 0)) := hag4
  replace g4 : R 58 ((39700 * q) + 4) = many := hF (R := R 58) g4 (ad_80 q)
  show hV _ _ _ _ _ [idx, q, r, under, many]
  refine hv7 (fun j g5 => ?_)
  replace g5 : ((300 : Nat) : Int) * j = ((-37612 : Int) + (1 * r + 0)) := g5
  show hV _ _ _ _ _ [idx, q, r, under, many, j]
  refine hv0 (fun g6 => ?_)
  replace g6 : (0 : Int) ≤ ((0 : Int) + (1 * j + 0)) := g6
  refine hv0 (fun g7 => ?_)
  replace g7 : (0 : Int) ≤ ((-1 : Int) + (1 * under + ((-1) * j + 0))) := g7
  refine hv2 (fun w hag8 g8 => ?_)
  replace g8 : R 58 ((0 : Int) + (1 * idx + 0)) = w := g8
  replace hag8 : (0 : Int) ≤ ((0 : Int) + (1 * idx + 0)) := hag8
  replace g8 : R 58 (idx) = w := hF (R := R 58) g8 (ad_99 idx)
  show hV _ _ _ _ _ [idx, q, r, under, many, j, w]
  refine hvC ?_
  show (0 : Int) ≤ ((-1 : Int) + (1 * many + ((-1) * w + 0))) ∧ (0 : Int) ≤ ((-172 : Int) + (1 * w + 0)) ∧ True
  obtain ⟨hD, -⟩ := hq q (by omega) (by omega) (fun x hx => by cases hx)
  rw [g4] at hD
  rw [g3] at hD
  rw [show R 58 (idx) = fT (R 58) (39700 * q) (j) from congrArg (R 58) (by omega)] at g8
  first
    | (obtain ⟨t1, t2, t3, t4, t5, t6, -⟩ := lj hD (j := j) (by omega) (by omega)
       exact ⟨by omega, by omega, trivial⟩)
    | (obtain ⟨-, -, -, -, -, -, t⟩ := lj hD (j := j) (by omega) (by omega)
       have t2 := t (by omega)
       exact ⟨by omega, by omega, trivial⟩)

theorem tL_10_0_8 : vL rQ 10 hl_10_0_8 := by
  intro R G ps idx hl hq
  obtain rfl := hl0 hl
  replace hq : q10 [] (R 58) := rqo_10_0 hq
  refine hv8 (fun q r g0 g0a g0b => ?_)
  replace g0 : ((0 : Int) + (1 * idx + 0)) = ((39700 : Nat) : Int) * q + r := g0
  replace g0b : r < ((39700 : Nat) : Int) := g0b
  show hV _ _ _ _ _ [idx, q, r]
  refine hv0 (fun g1 => ?_)
  replace g1 : (0 : Int) ≤ ((5 : Int) + ((-1) * q + 0)) := g1
  refine hv0 (fun g2 => ?_)
  replace g2 : (0 : Int) ≤ ((0 : Int) + (1 * q + 0)) := g2
  refine hv2 (fun many hag3 g3 => ?_)
  replace g3 : R 58 ((4 : Int) + (39700 * q + 0)) = many := g3
  replace hag3 : (0 : Int) ≤ ((4 : Int) + (39700 * q + 0)) := hag3
  replace g3 : R 58 ((39700 * q) + 4) = many := hF (R := R 58) g3 (ad_80 q)
  show hV _ _ _ _ _ [idx, q, r, many]
  refine hv7 (fun s g4 => ?_)
  replace g4 : ((16 : Nat) : Int) * s = ((-39112 : Int) + (1 * r + 0)) := g4
  show hV _ _ _ _ _ [idx, q, r, many, s]
  refine hv6 (fun i vv g5 => ?_)
  replace g5 : R 58 (((8295 : Int) + (39700 * q + 0)) + ((40 : Nat) : Int) * i) = vv := g5
  replace g5 : dV (R 58) (39700 * q) (i) = vv := hF (R := R 58) g5 (ad_131 q i)
  show hV _ _ _ _ _ [idx, q, r, many, s, i, vv]
  refine hv13 (fun g6 => ?_)
  replace g6 : ((0 : Int) + (1 * vv + 0)) = ((0 : Int) + (1 * s + 0)) := g6
  refine hv0 (fun g7 => ?_)
  replace g7 : (0 : Int) ≤ ((0 : Int) + (1 * i + 0)) := g7
  refine hv0 (fun g8 => ?_)
  replace g8 : (0 : Int) ≤ ((-1 : Int) + (1 * many + ((-1) * i + 0))) := g8
  refine hv2 (fun kk hag9 g9 => ?_)
  replace g9 : R 58 ((8292 : Int) + (39700 * q + (40 * i + 0))) = kk := g9
  replace hag9 : (0 : Int) ≤ ((8292 : Int) + (39700 * q + (40 * i + 0))) := hag9
  replace g9 : dK (R 58) (39700 * q) (i) = kk := hF (R := R 58) g9 (ad_126 q i)
  show hV _ _ _ _ _ [idx, q, r, many, s, i, vv, kk]
  refine hv13 (fun g10 => ?_)
  replace g10 : ((0 : Int) + (1 * kk + 0)) = ((6 : Int) + 0) := g10
  refine hv2 (fun w hag11 g11 => ?_)
  replace g11 : R 58 ((0 : Int) + (1 * idx + 0)) = w := g11
  replace hag11 : (0 : Int) ≤ ((0 : Int) + (1 * idx + 0)) := hag11
  replace g11 : R 58 (idx) = w := hF (R := R 58) g11 (ad_99 idx)
  show hV _ _ _ _ _ [idx, q, r, many, s, i, vv, kk, w]
  refine hvC ?_
  show (0 : Int) ≤ ((-172 : Int) + (1 * w + 0)) ∧ True
  obtain ⟨hD, -⟩ := hq q (by omega) (by omega) (fun x hx => by cases hx)
  rw [g3] at hD
  rw [show R 58 (idx) = mM (R 58) (39700 * q) (s) from congrArg (R 58) (by omega)] at g11
  first
    | (obtain ⟨t1, t2, t3, t4⟩ := lm hD (i := i) (by omega) (by omega) (by omega)
       rw [show dV (R 58) (39700 * q) i = s by omega] at t3
       exact ⟨by omega, trivial⟩)

theorem tL_10_0_9 : vL rQ 10 hl_10_0_9 := by
  intro R G ps idx hl hq
  obtain rfl := hl0 hl
  replace hq : q10 [] (R 58) := rqo_10_0 hq
  refine hv8 (fun q r g0 g0a g0b => ?_)
  replace g0 : ((0 : Int) + (1 * idx + 0)) = ((39700 : Nat) : Int) * q + r := g0
  replace g0b : r < ((39700 : Nat) : Int) := g0b
  show hV _ _ _ _ _ [idx, q, r]
  refine hv0 (fun g1 => ?_)
  replace g1 : (0 : Int) ≤ ((5 : Int) + ((-1) * q + 0)) := g1
  refine hv0 (fun g2 => ?_)
  replace g2 : (0 : Int) ≤ ((0 : Int) + (1 * q + 0)) := g2
  refine hv2 (fun ic hag3 g3 => ?_)
  replace g3 : R 58 ((5 : Int) + (39700 * q + 0)) = ic := g3
  replace hag3 : (0 : Int) ≤ ((5 : Int) + (39700 * q + 0)) := hag3
  replace g3 : R 58 ((39700 * q) + 5) = ic := hF (R := R 58) g3 (ad_81 q)
  show hV _ _ _ _ _ [idx, q, r, ic]
  refine hv2 (fun many hag4 g4 => ?_)
  replace g4 : R 58 ((4 : Int) + (39700 * q + 0)) = many := g4
  replace hag4 : (0 : Int) ≤ ((4 : Int) + (39700 * q + 0)) := hag4
  replace g4 : R 58 ((39700 * q) + 4) = many := hF (R := R 58) g4 (ad_80 q)
  show hV _ _ _ _ _ [idx, q, r, ic, many]
  refine hv7 (fun k g5 => ?_)
  replace g5 : ((2 : Nat) : Int) * k = ((-22693 : Int) + (1 * r + 0)) := g5
  show hV _ _ _ _ _ [idx, q, r, ic, many, k]
  refine hv0 (fun g6 => ?_)
  replace g6 : (0 : Int) ≤ ((0 : Int) + (1 * k + 0)) := g6
  refine hv0 (fun g7 => ?_)
  replace g7 : (0 : Int) ≤ ((-1 : Int) + (1 * ic + ((-1) * k + 0))) := g7
  refine hv2 (fun kk hag8 g8 => ?_)
  replace g8 : R 58 ((22692 : Int) + (39700 * q + (2 * k + 0))) = kk := g8
  replace hag8 : (0 : Int) ≤ ((22692 : Int) + (39700 * q + (2 * k + 0))) := hag8
  replace g8 : iK (R 58) (39700 * q) (k) = kk := hF (R := R 58) g8 (ad_132 q k)
  show hV _ _ _ _ _ [idx, q, r, ic, many, k, kk]
  refine hv13 (fun g9 => ?_)
  replace g9 : ((0 : Int) + (1 * kk + 0)) = ((0 : Int) + 0) := g9
  refine hv2 (fun n hag10 g10 => ?_)
  replace g10 : R 58 ((0 : Int) + (1 * idx + 0)) = n := g10
  replace hag10 : (0 : Int) ≤ ((0 : Int) + (1 * idx + 0)) := hag10
  replace g10 : R 58 (idx) = n := hF (R := R 58) g10 (ad_99 idx)
  show hV _ _ _ _ _ [idx, q, r, ic, many, k, kk, n]
  refine hvC ?_
  show (0 : Int) ≤ ((0 : Int) + (1 * n + 0)) ∧ (0 : Int) ≤ ((-1 : Int) + (1 * many + ((-1) * n + 0))) ∧ True
  obtain ⟨hD, -⟩ := hq q (by omega) (by omega) (fun x hx => by cases hx)
  rw [g4] at hD
  rw [g3] at hD
  rw [show R 58 (idx) = iN (R 58) (39700 * q) (k) from congrArg (R 58) (by omega)] at g10
  first
    | (have t := li0 hD (k := k) (by omega) (by omega) (by omega)
       exact ⟨by omega, by omega, trivial⟩)
    | (have t := li11 hD (k := k) (by omega) (by omega) (by omega)
       exact ⟨by omega, by omega, trivial⟩)

theorem tL_10_0_10 : vL rQ 10 hl_10_0_10 := by
  intro R G ps idx hl hq
  obtain rfl := hl0 hl
  replace hq : q10 [] (R 58) := rqo_10_0 hq
  refine hv6 (fun z f g0 => ?_)
  replace g0 : R 58 (((8292 : Int) + 0) + ((20 : Nat) : Int) * z) = f := g0
  replace g0 : R 58 (20 * z + 8292) = f := hF (R := R 58) g0 (ad_133 z)
  show hV _ _ _ _ _ [z, f]
  refine hv8 (fun q r g1 g1a g1b => ?_)
  replace g1 : ((8292 : Int) + (20 * z + 0)) = ((39700 : Nat) : Int) * q + r := g1
  replace g1b : r < ((39700 : Nat) : Int) := g1b
  show hV _ _ _ _ _ [z, f, q, r]
  refine hv0 (fun g2 => ?_)
  replace g2 : (0 : Int) ≤ ((5 : Int) + ((-1) * q + 0)) := g2
  refine hv0 (fun g3 => ?_)
  replace g3 : (0 : Int) ≤ ((0 : Int) + (1 * q + 0)) := g3
  refine hv7 (fun i g4 => ?_)
  replace g4 : ((40 : Nat) : Int) * i = ((-8292 : Int) + (1 * r + 0)) := g4
  show hV _ _ _ _ _ [z, f, q, r, i]
  refine hv2 (fun many hag5 g5 => ?_)
  replace g5 : R 58 ((4 : Int) + (39700 * q + 0)) = many := g5
  replace hag5 : (0 : Int) ≤ ((4 : Int) + (39700 * q + 0)) := hag5
  replace g5 : R 58 ((39700 * q) + 4) = many := hF (R := R 58) g5 (ad_80 q)
  show hV _ _ _ _ _ [z, f, q, r, i, many]
  refine hv0 (fun g6 => ?_)
  replace g6 : (0 : Int) ≤ ((0 : Int) + (1 * i + 0)) := g6
  refine hv0 (fun g7 => ?_)
  replace g7 : (0 : Int) ≤ ((0 : Int) + ((-1) * f + 0)) := g7
  refine hv0 (fun g8 => ?_)
  replace g8 : (0 : Int) ≤ ((-1 : Int) + ((-1) * i + (1 * many + 0))) := g8
  refine hvC ?_
  show (0 : Int) ≤ ((171 : Int) + ((-1) * i + 0)) ∧ True
  obtain ⟨hD, -⟩ := hq q (by omega) (by omega) (fun x hx => by cases hx)
  rw [g5] at hD
  rw [show R 58 (20 * z + 8292) = dK (R 58) (39700 * q) (i) from congrArg (R 58) (by omega)] at g0
  first
    | (have t := lw hD (i := i) (by omega) (by omega) (by omega)
       exact ⟨by omega, trivial⟩)
    | (have t := lk0 hD (i := i) (by omega) (by omega)
       exact ⟨by omega, trivial⟩)
    | (have t := lm hD (i := i) (by omega) (by omega) (by omega)
       exact ⟨by omega, trivial⟩)

theorem tL_10_0_11 : vL rQ 10 hl_10_0_11 := by
  intro R G ps idx hl hq
  obtain rfl := hl0 hl
  replace hq : q10 [] (R 58) := rqo_10_0 hq
  refine hv6 (fun z f g0 => ?_)
  replace g0 : R 58 (((8305 : Int) + 0) + ((20 : Nat) : Int) * z) = f := g0
  replace g0 : R 58 (20 * z + 8305) = f := hF (R := R 58) g0 (ad_134 z)
  show hV _ _ _ _ _ [z, f]
  refine hv8 (fun q r g1 g1a g1b => ?_)
  replace g1 : ((8305 : Int) + (20 * z + 0)) = ((39700 : Nat) : Int) * q + r := g1
  replace g1b : r < ((39700 : Nat) : Int) := g1b
  show hV _ _ _ _ _ [z, f, q, r]
  refine hv0 (fun g2 => ?_)
  replace g2 : (0 : Int) ≤ ((5 : Int) + ((-1) * q + 0)) := g2
  refine hv0 (fun g3 => ?_)
  replace g3 : (0 : Int) ≤ ((0 : Int) + (1 * q + 0)) := g3
  refine hv7 (fun i g4 => ?_)
  replace g4 : ((40 : Nat) : Int) * i = ((-8305 : Int) + (1 * r + 0)) := g4
  show hV _ _ _ _ _ [z, f, q, r, i]
  refine hv2 (fun under hag5 g5 => ?_)
  replace g5 : R 58 ((24 : Int) + (39700 * q + 0)) = under := g5
  replace hag5 : (0 : Int) ≤ ((24 : Int) + (39700 * q + 0)) := hag5
  replace g5 : R 58 ((39700 * q) + 24) = under := hF (R := R 58) g5 (ad_82 q)
  show hV _ _ _ _ _ [z, f, q, r, i, under]
  refine hv0 (fun g6 => ?_)
  replace g6 : (0 : Int) ≤ ((0 : Int) + ((-1) * f + 0)) := g6
  refine hv0 (fun g7 => ?_)
  replace g7 : (0 : Int) ≤ ((-1 : Int) + (1 * under + 0)) := g7
  refine hv2 (fun w hag8 g8 => ?_)
  replace g8 : R 58 ((37312 : Int) + (39700 * q + (300 * under + 0))) = w := g8
  replace hag8 : (0 : Int) ≤ ((37312 : Int) + (39700 * q + (300 * under + 0))) := hag8
  replace g8 : fT (R 58) (39700 * q) (under - 1) = w := hF (R := R 58) g8 (ad_129 q under)
  show hV _ _ _ _ _ [z, f, q, r, i, under, w]
  refine hv13 (fun g9 => ?_)
  replace g9 : ((0 : Int) + (1 * w + 0)) = ((0 : Int) + (1 * i + 0)) := g9
  refine hvC ?_
  show (0 : Int) ≤ ((1 : Int) + ((-1) * under + 0)) ∧ True
  obtain ⟨hD, -⟩ := hq q (by omega) (by omega) (fun x hx => by cases hx)
  rw [g5] at hD
  rw [show R 58 (20 * z + 8305) = dI (R 58) (39700 * q) (i) from congrArg (R 58) (by omega)] at g0
  first
    | (have e : fT (R 58) (39700 * q) (under - 1) = i := by omega
       have t := lI hD (by omega)
       rw [e] at t
       have t2 := t.1
       have t3 := t.2
       exact ⟨by omega, trivial⟩)
    | (have e : fT (R 58) (39700 * q) (under - 1) = i := by omega
       obtain ⟨t1, t2, t3, t4, t5, t6, -⟩ := lj hD (j := under - 1) (by omega) (by omega)
       rw [e] at t1 t2 t3 t4 t5 t6
       exact ⟨by omega, trivial⟩)

theorem tL_10_0_12 : vL rQ 10 hl_10_0_12 := by
  intro R G ps idx hl hq
  obtain rfl := hl0 hl
  replace hq : q10 [] (R 58) := rqo_10_0 hq
  refine hv6 (fun z f g0 => ?_)
  replace g0 : R 58 (((8305 : Int) + 0) + ((20 : Nat) : Int) * z) = f := g0
  replace g0 : R 58 (20 * z + 8305) = f := hF (R := R 58) g0 (ad_134 z)
  show hV _ _ _ _ _ [z, f]
  refine hv8 (fun q r g1 g1a g1b => ?_)
  replace g1 : ((8305 : Int) + (20 * z + 0)) = ((39700 : Nat) : Int) * q + r := g1
  replace g1b : r < ((39700 : Nat) : Int) := g1b
  show hV _ _ _ _ _ [z, f, q, r]
  refine hv0 (fun g2 => ?_)
  replace g2 : (0 : Int) ≤ ((5 : Int) + ((-1) * q + 0)) := g2
  refine hv0 (fun g3 => ?_)
  replace g3 : (0 : Int) ≤ ((0 : Int) + (1 * q + 0)) := g3
  refine hv7 (fun i g4 => ?_)
  replace g4 : ((40 : Nat) : Int) * i = ((-8305 : Int) + (1 * r + 0)) := g4
  show hV _ _ _ _ _ [z, f, q, r, i]
  refine hv2 (fun under hag5 g5 => ?_)
  replace g5 : R 58 ((24 : Int) + (39700 * q + 0)) = under := g5
  replace hag5 : (0 : Int) ≤ ((24 : Int) + (39700 * q + 0)) := hag5
  replace g5 : R 58 ((39700 * q) + 24) = under := hF (R := R 58) g5 (ad_82 q)
  show hV _ _ _ _ _ [z, f, q, r, i, under]
  refine hv0 (fun g6 => ?_)
  replace g6 : (0 : Int) ≤ ((-1 : Int) + (1 * f + 0)) := g6
  refine hv0 (fun g7 => ?_)
  replace g7 : (0 : Int) ≤ ((-1 : Int) + (1 * under + 0)) := g7
  refine hv2 (fun w hag8 g8 => ?_)
  replace g8 : R 58 ((37312 : Int) + (39700 * q + (300 * under + 0))) = w := g8
  replace hag8 : (0 : Int) ≤ ((37312 : Int) + (39700 * q + (300 * under + 0))) := hag8
  replace g8 : fT (R 58) (39700 * q) (under - 1) = w := hF (R := R 58) g8 (ad_129 q under)
  show hV _ _ _ _ _ [z, f, q, r, i, under, w]
  refine hv13 (fun g9 => ?_)
  replace g9 : ((0 : Int) + (1 * w + 0)) = ((0 : Int) + (1 * i + 0)) := g9
  refine hvC ?_
  show (0 : Int) ≤ ((-2 : Int) + (1 * under + 0)) ∧ True
  obtain ⟨hD, -⟩ := hq q (by omega) (by omega) (fun x hx => by cases hx)
  rw [g5] at hD
  rw [show R 58 (20 * z + 8305) = dI (R 58) (39700 * q) (i) from congrArg (R 58) (by omega)] at g0
  first
    | (have e : fT (R 58) (39700 * q) (under - 1) = i := by omega
       have t := lI hD (by omega)
       rw [e] at t
       have t2 := t.1
       have t3 := t.2
       exact ⟨by omega, trivial⟩)
    | (have e : fT (R 58) (39700 * q) (under - 1) = i := by omega
       obtain ⟨t1, t2, t3, t4, t5, t6, -⟩ := lj hD (j := under - 1) (by omega) (by omega)
       rw [e] at t1 t2 t3 t4 t5 t6
       exact ⟨by omega, trivial⟩)

theorem tL_10_0_13 : vL rQ 10 hl_10_0_13 := by
  intro R G ps idx hl hq
  obtain rfl := hl0 hl
  replace hq : q10 [] (R 58) := rqo_10_0 hq
  refine hv6 (fun z f g0 => ?_)
  replace g0 : R 58 (((22692 : Int) + 0) + ((2 : Nat) : Int) * z) = f := g0
  replace g0 : R 58 (2 * z + 22692) = f := hF (R := R 58) g0 (ad_135 z)
  show hV _ _ _ _ _ [z, f]
  refine hv8 (fun q r g1 g1a g1b => ?_)
  replace g1 : ((22692 : Int) + (2 * z + 0)) = ((39700 : Nat) : Int) * q + r := g1
  replace g1b : r < ((39700 : Nat) : Int) := g1b
  show hV _ _ _ _ _ [z, f, q, r]
  refine hv0 (fun g2 => ?_)
  replace g2 : (0 : Int) ≤ ((5 : Int) + ((-1) * q + 0)) := g2
  refine hv0 (fun g3 => ?_)
  replace g3 : (0 : Int) ≤ ((0 : Int) + (1 * q + 0)) := g3
  refine hv7 (fun k g4 => ?_)
  replace g4 : ((2 : Nat) : Int) * k = ((-22692 : Int) + (1 * r + 0)) := g4
  show hV _ _ _ _ _ [z, f, q, r, k]
  refine hv2 (fun ic hag5 g5 => ?_)
  replace g5 : R 58 ((5 : Int) + (39700 * q + 0)) = ic := g5
  replace hag5 : (0 : Int) ≤ ((5 : Int) + (39700 * q + 0)) := hag5
  replace g5 : R 58 ((39700 * q) + 5) = ic := hF (R := R 58) g5 (ad_81 q)
  show hV _ _ _ _ _ [z, f, q, r, k, ic]
  refine hv2 (fun many hag6 g6 => ?_)
  replace g6 : R 58 ((4 : Int) + (39700 * q + 0)) = many := g6
  replace hag6 : (0 : Int) ≤ ((4 : Int) + (39700 * q + 0)) := hag6
  replace g6 : R 58 ((39700 * q) + 4) = many := hF (R := R 58) g6 (ad_80 q)
  show hV _ _ _ _ _ [z, f, q, r, k, ic, many]
  refine hv13 (fun g7 => ?_)
  replace g7 : ((0 : Int) + (1 * f + 0)) = ((0 : Int) + 0) := g7
  refine hv0 (fun g8 => ?_)
  replace g8 : (0 : Int) ≤ ((0 : Int) + (1 * k + 0)) := g8
  refine hv0 (fun g9 => ?_)
  replace g9 : (0 : Int) ≤ ((-1 : Int) + ((-1) * k + (1 * ic + 0))) := g9
  refine hv2 (fun n hag10 g10 => ?_)
  replace g10 : R 58 ((22693 : Int) + (39700 * q + (2 * k + 0))) = n := g10
  replace hag10 : (0 : Int) ≤ ((22693 : Int) + (39700 * q + (2 * k + 0))) := hag10
  replace g10 : iN (R 58) (39700 * q) (k) = n := hF (R := R 58) g10 (ad_136 q k)
  show hV _ _ _ _ _ [z, f, q, r, k, ic, many, n]
  refine hvC ?_
  show (0 : Int) ≤ ((0 : Int) + (1 * n + 0)) ∧ (0 : Int) ≤ ((-1 : Int) + (1 * many + ((-1) * n + 0))) ∧ True
  obtain ⟨hD, -⟩ := hq q (by omega) (by omega) (fun x hx => by cases hx)
  rw [g6] at hD
  rw [g5] at hD
  rw [show R 58 (2 * z + 22692) = iK (R 58) (39700 * q) (k) from congrArg (R 58) (by omega)] at g0
  first
    | (have t := li0 hD (k := k) (by omega) (by omega) (by omega)
       exact ⟨by omega, by omega, trivial⟩)
    | (have t := li11 hD (k := k) (by omega) (by omega) (by omega)
       exact ⟨by omega, by omega, trivial⟩)

theorem tL_10_0_14 : vL rQ 10 hl_10_0_14 := by
  intro R G ps idx hl hq
  obtain rfl := hl0 hl
  replace hq : q10 [] (R 58) := rqo_10_0 hq
  refine hv8 (fun q r g0 g0a g0b => ?_)
  replace g0 : ((0 : Int) + (1 * idx + 0)) = ((39700 : Nat) : Int) * q + r := g0
  replace g0b : r < ((39700 : Nat) : Int) := g0b
  show hV _ _ _ _ _ [idx, q, r]
  refine hv0 (fun g1 => ?_)
  replace g1 : (0 : Int) ≤ ((5 : Int) + ((-1) * q + 0)) := g1
  refine hv0 (fun g2 => ?_)
  replace g2 : (0 : Int) ≤ ((0 : Int) + (1 * q + 0)) := g2
  refine hv2 (fun many hag3 g3 => ?_)
  replace g3 : R 58 ((4 : Int) + (39700 * q + 0)) = many := g3
  replace hag3 : (0 : Int) ≤ ((4 : Int) + (39700 * q + 0)) := hag3
  replace g3 : R 58 ((39700 * q) + 4) = many := hF (R := R 58) g3 (ad_80 q)
  show hV _ _ _ _ _ [idx, q, r, many]
  refine hv2 (fun under hag4 g4 => ?_)
  replace g4 : R 58 ((24 : Int) + (39700 * q + 0)) = under := g4
  replace hag4 : (0 : Int) ≤ ((24 : Int) + (39700 * q + 0)) := hag4
  replace g4 : R 58 ((39700 * q) + 24) = under := hF (R := R 58) g4 (ad_82 q)
  show hV _ _ _ _ _ [idx, q, r, many, under]
  refine hv7 (fun i g5 => ?_)
  replace g5 : ((40 : Nat) : Int) * i = ((-8295 : Int) + (1 * r + 0)) := g5
  show hV _ _ _ _ _ [idx, q, r, many, under, i]
  refine hv0 (fun g6 => ?_)
  replace g6 : (0 : Int) ≤ ((0 : Int) + (1 * i + 0)) := g6
  refine hv13 (fun g7 => ?_)
  replace g7 : ((0 : Int) + (1 * under + 0)) = ((0 : Int) + 0) := g7
  refine hv2 (fun wk hag8 g8 => ?_)
  replace g8 : R 58 ((8292 : Int) + (39700 * q + (40 * i + 0))) = wk := g8
  replace hag8 : (0 : Int) ≤ ((8292 : Int) + (39700 * q + (40 * i + 0))) := hag8
  replace g8 : dK (R 58) (39700 * q) (i) = wk := hF (R := R 58) g8 (ad_126 q i)
  show hV _ _ _ _ _ [idx, q, r, many, under, i, wk]
  refine hv13 (fun g9 => ?_)
  replace g9 : ((0 : Int) + (1 * wk + 0)) = ((1 : Int) + 0) := g9
  refine hv2 (fun wi hag10 g10 => ?_)
  replace g10 : R 58 ((8305 : Int) + (39700 * q + (40 * i + 0))) = wi := g10
  replace hag10 : (0 : Int) ≤ ((8305 : Int) + (39700 * q + (40 * i + 0))) := hag10
  replace g10 : dI (R 58) (39700 * q) (i) = wi := hF (R := R 58) g10 (ad_137 q i)
  show hV _ _ _ _ _ [idx, q, r, many, under, i, wk, wi]
  refine hv13 (fun g11 => ?_)
  replace g11 : ((0 : Int) + (1 * wi + 0)) = ((0 : Int) + 0) := g11
  refine hv2 (fun wj hag12 g12 => ?_)
  replace g12 : R 58 ((8306 : Int) + (39700 * q + (40 * i + 0))) = wj := g12
  replace hag12 : (0 : Int) ≤ ((8306 : Int) + (39700 * q + (40 * i + 0))) := hag12
  replace g12 : dJ (R 58) (39700 * q) (i) = wj := hF (R := R 58) g12 (ad_138 q i)
  show hV _ _ _ _ _ [idx, q, r, many, under, i, wk, wi, wj]
  refine hv13 (fun g13 => ?_)
  replace g13 : ((0 : Int) + (1 * wj + 0)) = ((0 : Int) + 0) := g13
  refine hv0 (fun g14 => ?_)
  replace g14 : (0 : Int) ≤ ((-1 : Int) + (1 * many + ((-1) * i + 0))) := g14
  refine hv0 (fun g15 => ?_)
  replace g15 : (0 : Int) ≤ ((0 : Int) + (1 * i + 0)) := g15
  refine hv2 (fun N hag16 g16 => ?_)
  replace g16 : R 58 ((8296 : Int) + (39700 * q + (40 * i + 0))) = N := g16
  replace hag16 : (0 : Int) ≤ ((8296 : Int) + (39700 * q + (40 * i + 0))) := hag16
  replace g16 : dL (R 58) (39700 * q) (i) = N := hF (R := R 58) g16 (ad_128 q i)
  show hV _ _ _ _ _ [idx, q, r, many, under, i, wk, wi, wj, N]
  refine hvC ?_
  show (0 : Int) ≤ ((-1 : Int) + (1 * N + 0)) ∧ True
  obtain ⟨hD, -⟩ := hq q (by omega) (by omega) (fun x hx => by cases hx)
  rw [g3] at hD
  rw [g4] at hD
  first
    | (have hu : under = 0 := by omega
       rw [hu] at hD
       have t := le hD (i := i) (by omega) (by omega) (by omega) (by omega) (by omega)
       have t2 := t.1
       exact ⟨by omega, trivial⟩)

theorem tL_10_0_15 : vL rQ 10 hl_10_0_15 := by
  intro R G ps idx hl hq
  obtain rfl := hl0 hl
  replace hq : q10 [] (R 58) := rqo_10_0 hq
  refine hv8 (fun q r g0 g0a g0b => ?_)
  replace g0 : ((0 : Int) + (1 * idx + 0)) = ((39700 : Nat) : Int) * q + r := g0
  replace g0b : r < ((39700 : Nat) : Int) := g0b
  show hV _ _ _ _ _ [idx, q, r]
  refine hv0 (fun g1 => ?_)
  replace g1 : (0 : Int) ≤ ((5 : Int) + ((-1) * q + 0)) := g1
  refine hv0 (fun g2 => ?_)
  replace g2 : (0 : Int) ≤ ((0 : Int) + (1 * q + 0)) := g2
  refine hv2 (fun many hag3 g3 => ?_)
  replace g3 : R 58 ((4 : Int) + (39700 * q + 0)) = many := g3
  replace hag3 : (0 : Int) ≤ ((4 : Int) + (39700 * q + 0)) := hag3
  replace g3 : R 58 ((39700 * q) + 4) = many := hF (R := R 58) g3 (ad_80 q)
  show hV _ _ _ _ _ [idx, q, r, many]
  refine hv2 (fun under hag4 g4 => ?_)
  replace g4 : R 58 ((24 : Int) + (39700 * q + 0)) = under := g4
  replace hag4 : (0 : Int) ≤ ((24 : Int) + (39700 * q + 0)) := hag4
  replace g4 : R 58 ((39700 * q) + 24) = under := hF (R := R 58) g4 (ad_82 q)
  show hV _ _ _ _ _ [idx, q, r, many, under]
  refine hv7 (fun i g5 => ?_)
  replace g5 : ((40 : Nat) : Int) * i = ((-8296 : Int) + (1 * r + 0)) := g5
  show hV _ _ _ _ _ [idx, q, r, many, under, i]
  refine hv0 (fun g6 => ?_)
  replace g6 : (0 : Int) ≤ ((0 : Int) + (1 * i + 0)) := g6
  refine hv13 (fun g7 => ?_)
  replace g7 : ((0 : Int) + (1 * under + 0)) = ((0 : Int) + 0) := g7
  refine hv2 (fun wk hag8 g8 => ?_)
  replace g8 : R 58 ((8292 : Int) + (39700 * q + (40 * i + 0))) = wk := g8
  replace hag8 : (0 : Int) ≤ ((8292 : Int) + (39700 * q + (40 * i + 0))) := hag8
  replace g8 : dK (R 58) (39700 * q) (i) = wk := hF (R := R 58) g8 (ad_126 q i)
  show hV _ _ _ _ _ [idx, q, r, many, under, i, wk]
  refine hv13 (fun g9 => ?_)
  replace g9 : ((0 : Int) + (1 * wk + 0)) = ((1 : Int) + 0) := g9
  refine hv2 (fun wi hag10 g10 => ?_)
  replace g10 : R 58 ((8305 : Int) + (39700 * q + (40 * i + 0))) = wi := g10
  replace hag10 : (0 : Int) ≤ ((8305 : Int) + (39700 * q + (40 * i + 0))) := hag10
  replace g10 : dI (R 58) (39700 * q) (i) = wi := hF (R := R 58) g10 (ad_137 q i)
  show hV _ _ _ _ _ [idx, q, r, many, under, i, wk, wi]
  refine hv13 (fun g11 => ?_)
  replace g11 : ((0 : Int) + (1 * wi + 0)) = ((0 : Int) + 0) := g11
  refine hv2 (fun wj hag12 g12 => ?_)
  replace g12 : R 58 ((8306 : Int) + (39700 * q + (40 * i + 0))) = wj := g12
  replace hag12 : (0 : Int) ≤ ((8306 : Int) + (39700 * q + (40 * i + 0))) := hag12
  replace g12 : dJ (R 58) (39700 * q) (i) = wj := hF (R := R 58) g12 (ad_138 q i)
  show hV _ _ _ _ _ [idx, q, r, many, under, i, wk, wi, wj]
  refine hv13 (fun g13 => ?_)
  replace g13 : ((0 : Int) + (1 * wj + 0)) = ((0 : Int) + 0) := g13
  refine hv0 (fun g14 => ?_)
  replace g14 : (0 : Int) ≤ ((-1 : Int) + (1 * many + ((-1) * i + 0))) := g14
  refine hv0 (fun g15 => ?_)
  replace g15 : (0 : Int) ≤ ((0 : Int) + (1 * i + 0)) := g15
  refine hv2 (fun N hag16 g16 => ?_)
  replace g16 : R 58 ((8296 : Int) + (39700 * q + (40 * i + 0))) = N := g16
  replace hag16 : (0 : Int) ≤ ((8296 : Int) + (39700 * q + (40 * i + 0))) := hag16
  replace g16 : dL (R 58) (39700 * q) (i) = N := hF (R := R 58) g16 (ad_128 q i)
  show hV _ _ _ _ _ [idx, q, r, many, under, i, wk, wi, wj, N]
  refine hvC ?_
  show (0 : Int) ≤ ((-1 : Int) + (1 * N + 0)) ∧ True
  obtain ⟨hD, -⟩ := hq q (by omega) (by omega) (fun x hx => by cases hx)
  rw [g3] at hD
  rw [g4] at hD
  first
    | (have hu : under = 0 := by omega
       rw [hu] at hD
       have t := le hD (i := i) (by omega) (by omega) (by omega) (by omega) (by omega)
       have t2 := t.1
       exact ⟨by omega, trivial⟩)

theorem tL_10_0_16 : vL rQ 10 hl_10_0_16 := by
  intro R G ps idx hl hq
  obtain rfl := hl0 hl
  replace hq : q10 [] (R 58) := rqo_10_0 hq
  refine hv6 (fun z f g0 => ?_)
  replace g0 : R 58 (((22692 : Int) + 0) + ((2 : Nat) : Int) * z) = f := g0
  replace g0 : R 58 (2 * z + 22692) = f := hF (R := R 58) g0 (ad_135 z)
  show hV _ _ _ _ _ [z, f]
  refine hv8 (fun q r g1 g1a g1b => ?_)
  replace g1 : ((22692 : Int) + (2 * z + 0)) = ((39700 : Nat) : Int) * q + r := g1
  replace g1b : r < ((39700 : Nat) : Int) := g1b
  show hV _ _ _ _ _ [z, f, q, r]
  refine hv0 (fun g2 => ?_)
  replace g2 : (0 : Int) ≤ ((5 : Int) + ((-1) * q + 0)) := g2
  refine hv0 (fun g3 => ?_)
  replace g3 : (0 : Int) ≤ ((0 : Int) + (1 * q + 0)) := g3
  refine hv7 (fun k g4 => ?_)
  replace g4 : ((2 : Nat) : Int) * k = ((-22692 : Int) + (1 * r + 0)) := g4
  show hV _ _ _ _ _ [z, f, q, r, k]
  refine hv0 (fun g5 => ?_)
  replace g5 : (0 : Int) ≤ ((0 : Int) + (1 * k + 0)) := g5
  refine hv0 (fun g6 => ?_)
  replace g6 : (0 : Int) ≤ ((3999 : Int) + ((-1) * k + 0)) := g6
  refine hv0 (fun g7 => ?_)
  replace g7 : (0 : Int) ≤ ((-1 : Int) + (1 * f + 0)) := g7
  refine hv2 (fun many hag8 g8 => ?_)
  replace g8 : R 58 ((4 : Int) + (39700 * q + 0)) = many := g8
  replace hag8 : (0 : Int) ≤ ((4 : Int) + (39700 * q + 0)) := hag8
  replace g8 : R 58 ((39700 * q) + 4) = many := hF (R := R 58) g8 (ad_80 q)
  show hV _ _ _ _ _ [z, f, q, r, k, many]
  refine hv2 (fun under hag9 g9 => ?_)
  replace g9 : R 58 ((24 : Int) + (39700 * q + 0)) = under := g9
  replace hag9 : (0 : Int) ≤ ((24 : Int) + (39700 * q + 0)) := hag9
  replace g9 : R 58 ((39700 * q) + 24) = under := hF (R := R 58) g9 (ad_82 q)
  show hV _ _ _ _ _ [z, f, q, r, k, many, under]
  refine hv13 (fun g10 => ?_)
  replace g10 : ((0 : Int) + (1 * under + 0)) = ((0 : Int) + 0) := g10
  refine hv6 (fun i wj g11 => ?_)
  replace g11 : R 58 (((8306 : Int) + (39700 * q + 0)) + ((40 : Nat) : Int) * i) = wj := g11
  replace g11 : dJ (R 58) (39700 * q) (i) = wj := hF (R := R 58) g11 (ad_139 q i)
  show hV _ _ _ _ _ [z, f, q, r, k, many, under, i, wj]
  refine hv13 (fun g12 => ?_)
  replace g12 : ((0 : Int) + (1 * wj + 0)) = ((0 : Int) + 0) := g12
  refine hv0 (fun g13 => ?_)
  replace g13 : (0 : Int) ≤ ((0 : Int) + (1 * i + 0)) := g13
  refine hv0 (fun g14 => ?_)
  replace g14 : (0 : Int) ≤ ((359 : Int) + ((-1) * i + 0)) := g14
  refine hv2 (fun wk hag15 g15 => ?_)
  replace g15 : R 58 ((8292 : Int) + (39700 * q + (40 * i + 0))) = wk := g15
  replace hag15 : (0 : Int) ≤ ((8292 : Int) + (39700 * q + (40 * i + 0))) := hag15
  replace g15 : dK (R 58) (39700 * q) (i) = wk := hF (R := R 58) g15 (ad_126 q i)
  show hV _ _ _ _ _ [z, f, q, r, k, many, under, i, wj, wk]
  refine hv13 (fun g16 => ?_)
  replace g16 : ((0 : Int) + (1 * wk + 0)) = ((1 : Int) + 0) := g16
  refine hv2 (fun wi hag17 g17 => ?_)
  replace g17 : R 58 ((8305 : Int) + (39700 * q + (40 * i + 0))) = wi := g17
  replace hag17 : (0 : Int) ≤ ((8305 : Int) + (39700 * q + (40 * i + 0))) := hag17
  replace g17 : dI (R 58) (39700 * q) (i) = wi := hF (R := R 58) g17 (ad_137 q i)
  show hV _ _ _ _ _ [z, f, q, r, k, many, under, i, wj, wk, wi]
  refine hv13 (fun g18 => ?_)
  replace g18 : ((0 : Int) + (1 * wi + 0)) = ((0 : Int) + 0) := g18
  refine hv0 (fun g19 => ?_)
  replace g19 : (0 : Int) ≤ ((-1 : Int) + (1 * many + ((-1) * i + 0))) := g19
  refine hv2 (fun V hag20 g20 => ?_)
  replace g20 : R 58 ((8295 : Int) + (39700 * q + (40 * i + 0))) = V := g20
  replace hag20 : (0 : Int) ≤ ((8295 : Int) + (39700 * q + (40 * i + 0))) := hag20
  replace g20 : dV (R 58) (39700 * q) (i) = V := hF (R := R 58) g20 (ad_127 q i)
  show hV _ _ _ _ _ [z, f, q, r, k, many, under, i, wj, wk, wi, V]
  refine hv2 (fun N hag21 g21 => ?_)
  replace g21 : R 58 ((8296 : Int) + (39700 * q + (40 * i + 0))) = N := g21
  replace hag21 : (0 : Int) ≤ ((8296 : Int) + (39700 * q + (40 * i + 0))) := hag21
  replace g21 : dL (R 58) (39700 * q) (i) = N := hF (R := R 58) g21 (ad_128 q i)
  show hV _ _ _ _ _ [z, f, q, r, k, many, under, i, wj, wk, wi, V, N]
  refine hv0 (fun g22 => ?_)
  replace g22 : (0 : Int) ≤ ((0 : Int) + (1 * k + ((-1) * V + 0))) := g22
  refine hv0 (fun g23 => ?_)
  replace g23 : (0 : Int) ≤ ((-1 : Int) + ((-1) * k + (1 * V + (1 * N + 0)))) := g23
  refine hvC ?_
  show (0 : Int) ≤ ((-2 : Int) + ((-1) * k + (1 * V + (1 * N + 0)))) ∧ True
  obtain ⟨hD, -⟩ := hq q (by omega) (by omega) (fun x hx => by cases hx)
  rw [g8] at hD
  rw [g9] at hD
  rw [show R 58 (2 * z + 22692) = iK (R 58) (39700 * q) (k) from congrArg (R 58) (by omega)] at g0
  first
    | (have hu : under = 0 := by omega
       rw [hu] at hD
       have t := le hD (i := i) (by omega) (by omega) (by omega) (by omega) (by omega)
       have t2 := leK t (k := k) (by omega) (by omega)
       exact ⟨by omega, trivial⟩)
    | (have hu : under = 0 := by omega
       rw [hu] at hD
       have t := le hD (i := i) (by omega) (by omega) (by omega) (by omega) (by omega)
       have t2 := t.2.2.2 k (by omega) (by omega) (by rw [rfl]; assumption)
       exact ⟨by omega, trivial⟩)

theorem tL_10_0_17 : vL rQ 10 hl_10_0_17 := by
  intro R G ps idx hl hq
  obtain rfl := hl0 hl
  replace hq : q10 [] (R 58) := rqo_10_0 hq
  refine hv6 (fun z f g0 => ?_)
  replace g0 : R 58 (((22693 : Int) + 0) + ((2 : Nat) : Int) * z) = f := g0
  replace g0 : R 58 (2 * z + 22693) = f := hF (R := R 58) g0 (ad_140 z)
  show hV _ _ _ _ _ [z, f]
  refine hv8 (fun q r g1 g1a g1b => ?_)
  replace g1 : ((22692 : Int) + (2 * z + 0)) = ((39700 : Nat) : Int) * q + r := g1
  replace g1b : r < ((39700 : Nat) : Int) := g1b
  show hV _ _ _ _ _ [z, f, q, r]
  refine hv0 (fun g2 => ?_)
  replace g2 : (0 : Int) ≤ ((5 : Int) + ((-1) * q + 0)) := g2
  refine hv0 (fun g3 => ?_)
  replace g3 : (0 : Int) ≤ ((0 : Int) + (1 * q + 0)) := g3
  refine hv7 (fun k g4 => ?_)
  replace g4 : ((2 : Nat) : Int) * k = ((-22692 : Int) + (1 * r + 0)) := g4
  show hV _ _ _ _ _ [z, f, q, r, k]
  refine hv0 (fun g5 => ?_)
  replace g5 : (0 : Int) ≤ ((0 : Int) + (1 * k + 0)) := g5
  refine hv0 (fun g6 => ?_)
  replace g6 : (0 : Int) ≤ ((3999 : Int) + ((-1) * k + 0)) := g6
  refine hv1 (fun g7 => ?_)
  replace g7 : ((0 : Int) + (1 * f + 0)) ≠ ((150 : Int) + 0) := g7
  refine hv2 (fun many hag8 g8 => ?_)
  replace g8 : R 58 ((4 : Int) + (39700 * q + 0)) = many := g8
  replace hag8 : (0 : Int) ≤ ((4 : Int) + (39700 * q + 0)) := hag8
  replace g8 : R 58 ((39700 * q) + 4) = many := hF (R := R 58) g8 (ad_80 q)
  show hV _ _ _ _ _ [z, f, q, r, k, many]
  refine hv2 (fun under hag9 g9 => ?_)
  replace g9 : R 58 ((24 : Int) + (39700 * q + 0)) = under := g9
  replace hag9 : (0 : Int) ≤ ((24 : Int) + (39700 * q + 0)) := hag9
  replace g9 : R 58 ((39700 * q) + 24) = under := hF (R := R 58) g9 (ad_82 q)
  show hV _ _ _ _ _ [z, f, q, r, k, many, under]
  refine hv13 (fun g10 => ?_)
  replace g10 : ((0 : Int) + (1 * under + 0)) = ((0 : Int) + 0) := g10
  refine hv6 (fun i wj g11 => ?_)
  replace g11 : R 58 (((8306 : Int) + (39700 * q + 0)) + ((40 : Nat) : Int) * i) = wj := g11
  replace g11 : dJ (R 58) (39700 * q) (i) = wj := hF (R := R 58) g11 (ad_139 q i)
  show hV _ _ _ _ _ [z, f, q, r, k, many, under, i, wj]
  refine hv13 (fun g12 => ?_)
  replace g12 : ((0 : Int) + (1 * wj + 0)) = ((0 : Int) + 0) := g12
  refine hv0 (fun g13 => ?_)
  replace g13 : (0 : Int) ≤ ((0 : Int) + (1 * i + 0)) := g13
  refine hv0 (fun g14 => ?_)
  replace g14 : (0 : Int) ≤ ((359 : Int) + ((-1) * i + 0)) := g14
  refine hv2 (fun wk hag15 g15 => ?_)
  replace g15 : R 58 ((8292 : Int) + (39700 * q + (40 * i + 0))) = wk := g15
  replace hag15 : (0 : Int) ≤ ((8292 : Int) + (39700 * q + (40 * i + 0))) := hag15
  replace g15 : dK (R 58) (39700 * q) (i) = wk := hF (R := R 58) g15 (ad_126 q i)
  show hV _ _ _ _ _ [z, f, q, r, k, many, under, i, wj, wk]
  refine hv13 (fun g16 => ?_)
  replace g16 : ((0 : Int) + (1 * wk + 0)) = ((1 : Int) + 0) := g16
  refine hv2 (fun wi hag17 g17 => ?_)
  replace g17 : R 58 ((8305 : Int) + (39700 * q + (40 * i + 0))) = wi := g17
  replace hag17 : (0 : Int) ≤ ((8305 : Int) + (39700 * q + (40 * i + 0))) := hag17
  replace g17 : dI (R 58) (39700 * q) (i) = wi := hF (R := R 58) g17 (ad_137 q i)
  show hV _ _ _ _ _ [z, f, q, r, k, many, under, i, wj, wk, wi]
  refine hv13 (fun g18 => ?_)
  replace g18 : ((0 : Int) + (1 * wi + 0)) = ((0 : Int) + 0) := g18
  refine hv0 (fun g19 => ?_)
  replace g19 : (0 : Int) ≤ ((-1 : Int) + (1 * many + ((-1) * i + 0))) := g19
  refine hv2 (fun V hag20 g20 => ?_)
  replace g20 : R 58 ((8295 : Int) + (39700 * q + (40 * i + 0))) = V := g20
  replace hag20 : (0 : Int) ≤ ((8295 : Int) + (39700 * q + (40 * i + 0))) := hag20
  replace g20 : dV (R 58) (39700 * q) (i) = V := hF (R := R 58) g20 (ad_127 q i)
  show hV _ _ _ _ _ [z, f, q, r, k, many, under, i, wj, wk, wi, V]
  refine hv2 (fun N hag21 g21 => ?_)
  replace g21 : R 58 ((8296 : Int) + (39700 * q + (40 * i + 0))) = N := g21
  replace hag21 : (0 : Int) ≤ ((8296 : Int) + (39700 * q + (40 * i + 0))) := hag21
  replace g21 : dL (R 58) (39700 * q) (i) = N := hF (R := R 58) g21 (ad_128 q i)
  show hV _ _ _ _ _ [z, f, q, r, k, many, under, i, wj, wk, wi, V, N]
  refine hv0 (fun g22 => ?_)
  replace g22 : (0 : Int) ≤ ((0 : Int) + (1 * k + ((-1) * V + 0))) := g22
  refine hv0 (fun g23 => ?_)
  replace g23 : (0 : Int) ≤ ((-1 : Int) + ((-1) * k + (1 * V + (1 * N + 0)))) := g23
  refine hvC ?_
  show (0 : Int) ≤ ((-2 : Int) + ((-1) * k + (1 * V + (1 * N + 0)))) ∧ True
  obtain ⟨hD, -⟩ := hq q (by omega) (by omega) (fun x hx => by cases hx)
  rw [g8] at hD
  rw [g9] at hD
  rw [show R 58 (2 * z + 22693) = iN (R 58) (39700 * q) (k) from congrArg (R 58) (by omega)] at g0
  first
    | (have hu : under = 0 := by omega
       rw [hu] at hD
       have t := le hD (i := i) (by omega) (by omega) (by omega) (by omega) (by omega)
       have t2 := leK t (k := k) (by omega) (by omega)
       exact ⟨by omega, trivial⟩)
    | (have hu : under = 0 := by omega
       rw [hu] at hD
       have t := le hD (i := i) (by omega) (by omega) (by omega) (by omega) (by omega)
       have t2 := t.2.2.2 k (by omega) (by omega) (by rw [rfl]; assumption)
       exact ⟨by omega, trivial⟩)

theorem tL_40_3_0 : vL rQ 40 hl_40_3_0 := by
  intro R G ps idx hl hq
  obtain ⟨t, c, u, rfl⟩ := hl3 hl
  replace hq : q40 t c u  := rqo_40_3 hq
  refine hv0 (fun g0 => ?_)
  replace g0 : (0 : Int) ≤ ((-101 : Int) + (1 * t + 0)) := g0
  refine hv0 (fun g1 => ?_)
  replace g1 : (0 : Int) ≤ ((101 : Int) + ((-1) * t + 0)) := g1
  refine hvC ?_
  show (0 : Int) ≤ ((-1 : Int) + (1 * c + 0)) ∧ (0 : Int) ≤ ((-1 : Int) + (1 * u + 0)) ∧ True
  have t := hq (by unfold only; omega)
  exact ⟨by omega, by omega, trivial⟩

theorem tL_40_3_1 : vL rQ 40 hl_40_3_1 := by
  intro R G ps idx hl hq
  obtain ⟨t, c, u, rfl⟩ := hl3 hl
  replace hq : q40 t c u  := rqo_40_3 hq
  refine hv0 (fun g0 => ?_)
  replace g0 : (0 : Int) ≤ ((-111 : Int) + (1 * t + 0)) := g0
  refine hv0 (fun g1 => ?_)
  replace g1 : (0 : Int) ≤ ((111 : Int) + ((-1) * t + 0)) := g1
  refine hvC ?_
  show (0 : Int) ≤ ((-1 : Int) + (1 * c + 0)) ∧ (0 : Int) ≤ ((-1 : Int) + (1 * u + 0)) ∧ True
  have t := hq (by unfold only; omega)
  exact ⟨by omega, by omega, trivial⟩

theorem tL_40_3_2 : vL rQ 40 hl_40_3_2 := by
  intro R G ps idx hl hq
  obtain ⟨t, c, u, rfl⟩ := hl3 hl
  replace hq : q40 t c u  := rqo_40_3 hq
  refine hv0 (fun g0 => ?_)
  replace g0 : (0 : Int) ≤ ((-113 : Int) + (1 * t + 0)) := g0
  refine hv0 (fun g1 => ?_)
  replace g1 : (0 : Int) ≤ ((113 : Int) + ((-1) * t + 0)) := g1
  refine hvC ?_
  show (0 : Int) ≤ ((-1 : Int) + (1 * c + 0)) ∧ (0 : Int) ≤ ((-1 : Int) + (1 * u + 0)) ∧ True
  have t := hq (by unfold only; omega)
  exact ⟨by omega, by omega, trivial⟩

