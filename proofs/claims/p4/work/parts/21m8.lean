/-! THE REFERENCE'S PREDICATES, 3: moves of words, items -/
section DW
variable {F : Int → Int} {b many ic under pc x y : Int}
theorem dMark_more {i : Int} (h : dMark F b many ic i) (hn : dK F b many = 1 → ic ≤ dV F b many) : dMark F b (many + 1) ic i := by
  obtain ⟨m1, m2, m3, m4, m5, m6, m7, m8, m9⟩ := h
  refine ⟨m1, m2, m3, m4, m5, m6, fun j j0 j1 hj => ?_, m8, m9⟩
  rcases (show j < many ∨ j = many by omega) with e | e
  · exact m7 j j0 e hj
  · rw [e] at hj ⊢
    have := hn hj
    omega
/-- a word more that is no definition -/
theorem dm_word (h : dD F b many ic under pc x y) (h0 : 172 ≤ many) (h1 : many ≤ 359) (hk : (2 ≤ dK F b many ∧ dK F b many ≤ 5) ∨ 7 ≤ dK F b many ∨ (dK F b many = 6 ∧ under = 0 ∧ 0 ≤ dV F b many ∧ dV F b many ≤ 31 ∧ mM F b (dV F b many) = many ∧ mI F b (dV F b many) = ic)) : dD F b (many + 1) ic under pc x y := by
  obtain ⟨⟨a1, a2, a3, a4, a5, a6, a7, a8, a9⟩, ka, kb, k1, k6, or, en, i0, i14, i11, u0, u1⟩ := h
  have sp : ∀ i, i < many + 1 → i < many ∨ i = many := fun i _ => by omega
  have n1 : dK F b many ≠ 1 := by omega
  refine ⟨⟨by omega, by omega, by omega, a4, a5, a6, a7, a8, a9⟩, fun i q0 q1 q2 => ka i q0 (by omega) q2, fun i q0 q1 => ?_, fun i q0 q1 hi => ?_, fun i q0 q1 hi => ?_, fun i j q0 q1 q2 hi hj => ?_, fun i q0 q1 hi => ?_, fun k q0 q1 hi => ?_, fun k q0 q1 hi => ?_, i11, u0, fun hu => ?_⟩
  · rcases sp i q1 with e | e
    · exact kb i q0 e
    · rw [e]
      omega
  · rcases sp i q1 with e | e
    · exact k1 i q0 e hi
    · rw [e] at hi
      exact absurd hi n1
  · rcases sp i q1 with e | e
    · exact dMark_more (k6 i q0 e hi) fun w => absurd w n1
    · rw [e] at hi ⊢
      have hm : under = 0 ∧ 0 ≤ dV F b many ∧ dV F b many ≤ 31 ∧ mM F b (dV F b many) = many ∧ mI F b (dV F b many) = ic := by omega
      obtain ⟨v0, v1, v2, v3, v4⟩ := hm
      refine ⟨v1, v2, v3, by omega, by omega, fun j j0 j1 hj => ?_, fun j j0 j1 hj => ?_, fun k k0 k1' hk2 => ?_, fun j j0 j1 hj => ?_⟩
      · have := k1 j j0 j1 hj
        omega
      · omega
      · rw [v4] at k1'
        rcases hk2 with hk2 | hk2
        · exact (i0 k k0 k1' hk2).2
        · exact (i14 k k0 k1' hk2).2.1
      · obtain ⟨-, -, -, -, w, -⟩ := k6 j j0 j1 hj
        omega
  · rcases sp i (by omega) with e | e
    · rcases sp j q2 with e2 | e2
      · exact or i j q0 q1 e2 hi hj
      · rw [e2] at hj
        exact absurd hj n1
    · rw [e] at hi
      exact absurd hi n1
  · rcases sp i q1 with e | e
    · exact en i q0 e hi
    · rw [e] at hi
      exact absurd hi n1
  · have := i0 k q0 q1 hi
    omega
  · obtain ⟨w1, w2, w3⟩ := i14 k q0 q1 hi
    exact ⟨w1, by omega, w3⟩
  · obtain ⟨o, ab, bl, it, df, u2, pr, ld, xs, ys⟩ := u1 hu
    obtain ⟨o1, o2, o3⟩ := o
    refine ⟨⟨o1, by omega, o3⟩, fun i q0 q1 => ?_, bl, it, fun j q0 q1 => ?_, u2, pr, ld, xs, ys⟩
    · rcases sp i q1 with e | e
      · exact ab i q0 e
      · rw [e]
        refine ⟨by omega, fun w => absurd w n1⟩
    · obtain ⟨d1, d2, d3⟩ := df j q0 q1
      exact ⟨d1, by omega, d3⟩
/-- a definition begins -/
theorem dm_begin (h : dD F b many ic 0 pc x y) (h0 : 172 ≤ many) (h1 : many ≤ 359) (w0 : dK F b many = 1) (w3 : dV F b many = ic) (w4 : dL F b many = 0) (w13 : dI F b many = 0) (d0 : fT F b 0 = many) (d1 : fS F b 0 = ic) (d5 : fP F b 0 = pc) : dD F b (many + 1) ic 1 pc (-1) (-1) := by
  obtain ⟨⟨a1, a2, a3, a4, a5, a6, a7, a8, a9⟩, ka, kb, k1, k6, or, en, i0, i14, i11, u0, u1⟩ := h
  have sp : ∀ i, i < many + 1 → i < many ∨ i = many := fun i _ => by omega
  have p0 := u0 rfl
  refine ⟨⟨by omega, by omega, by omega, a4, a5, by omega, by omega, a8, a9⟩, fun i q0 q1 q2 => ka i q0 (by omega) q2, fun i q0 q1 => ?_, fun i q0 q1 hi => ?_, fun i q0 q1 hi => ?_, fun i j q0 q1 q2 hi hj ti tj => ?_, fun i q0 q1 hi hi2 hj hn => ?_, fun k q0 q1 hi => ?_, fun k q0 q1 hi => ?_, i11, by omega, fun hu => ?_⟩
  · rcases sp i q1 with e | e
    · exact kb i q0 e
    · rw [e]
      omega
  · rcases sp i q1 with e | e
    · exact k1 i q0 e hi
    · rw [e]
      omega
  · rcases sp i q1 with e | e
    · exact dMark_more (k6 i q0 e hi) fun _ => by omega
    · rw [e] at hi
      omega
  · rcases sp i (by omega) with e | e
    · rcases sp j q2 with e2 | e2
      · exact or i j q0 q1 e2 hi hj ti tj
      · rw [e2]
        have := k1 i q0 e hi
        omega
    · omega
  · rcases sp i q1 with e | e
    · exact en i q0 e hi hi2 hj (by omega)
    · exact absurd ⟨by omega, by rw [d0]; exact e⟩ hn
  · have := i0 k q0 q1 hi
    omega
  · obtain ⟨w1, w2, w3⟩ := i14 k q0 q1 hi
    exact ⟨w1, by omega, w3⟩
  · rw [d0, d1]
    refine ⟨⟨a1, by omega, w0, w13, w3, by omega, a4, by omega⟩, fun i q0 q1 => by omega, fun i q0 q1 hi => (k1 i q0 q1 hi).2.2, fun k q0 q1 hk => ?_, fun j q0 q1 => ?_, by omega, fun p q0 q1 => by omega, fun _ _ k q0 q1 => by omega, Or.inl rfl, Or.inl rfl⟩
    · rcases hk with hk | hk
      · exact (i0 k q0 q1 hk).2
      · exact (i14 k q0 q1 hk).2.1
    · have e : j = 0 := by omega
      rw [e]
      refine ⟨by omega, by omega, by rw [d0]; exact w0, by rw [d0]; omega, by omega⟩
/-- one within another begins -/
theorem dm_inner (h : dD F b many ic under pc x y) (hu : 1 ≤ under) (hu4 : under ≤ 4) (h0 : 172 ≤ many) (h1 : many ≤ 359) (w0 : dK F b many = 1) (w3 : dV F b many = ic) (w4 : dL F b many = 0) (w13 : dI F b many = 1) (d0 : fT F b under = many) (d7 : fJ F b under = ic - 1) (hx : x = ic - 1) (x0 : 0 ≤ x) (xk : iK F b x = 2) (e14 : dJ F b (fT F b (under - 1)) = 1) : dD F b (many + 1) ic (under + 1) pc (-1) (-1) := by
  obtain ⟨⟨a1, a2, a3, a4, a5, a6, a7, a8, a9⟩, ka, kb, k1, k6, or, en, i0, i14, i11, u0, u1⟩ := h
  have sp : ∀ i, i < many + 1 → i < many ∨ i = many := fun i _ => by omega
  refine ⟨⟨by omega, by omega, by omega, a4, a5, by omega, by omega, a8, a9⟩, fun i q0 q1 q2 => ka i q0 (by omega) q2, fun i q0 q1 => ?_, fun i q0 q1 hi => ?_, fun i q0 q1 hi => ?_, fun i j q0 q1 q2 hi hj ti tj => ?_, fun i q0 q1 hi hi2 hj hn => ?_, fun k q0 q1 hi => ?_, fun k q0 q1 hi => ?_, i11, by omega, fun _ => ?_⟩
  · rcases sp i q1 with e | e
    · exact kb i q0 e
    · rw [e]
      omega
  · rcases sp i q1 with e | e
    · exact k1 i q0 e hi
    · rw [e]
      omega
  · rcases sp i q1 with e | e
    · exact dMark_more (k6 i q0 e hi) fun _ => by omega
    · rw [e] at hi
      omega
  · rcases sp i (by omega) with e | e
    · rcases sp j q2 with e2 | e2
      · exact or i j q0 q1 e2 hi hj ti tj
      · rw [e2] at tj
        omega
    · omega
  · rcases sp i q1 with e | e
    · exact en i q0 e hi hi2 hj fun w => hn ⟨by omega, w.2⟩
    · rw [e] at hi2
      omega
  · have := i0 k q0 q1 hi
    omega
  · obtain ⟨w1, w2, w3⟩ := i14 k q0 q1 hi
    exact ⟨w1, by omega, w3⟩
  · obtain ⟨o, ab, bl, it, df, u2, pr, ld, xs, ys⟩ := u1 hu
    obtain ⟨o1, o2, o3⟩ := o
    refine ⟨⟨o1, by omega, o3⟩, fun i q0 q1 => ?_, bl, it, fun j q0 q1 => ?_, fun _ => ?_, pr, by omega, Or.inl rfl, Or.inl rfl⟩
    · rcases sp i q1 with e | e
      · exact ab i q0 e
      · rw [e]
        refine ⟨by omega, fun w => ⟨w13, ?_⟩⟩
        have := o3.2.2.2.2.2
        omega
    · rcases (show j < under ∨ j = under by omega) with e | e
      · obtain ⟨d1, d2, d3⟩ := df j q0 e
        exact ⟨d1, by omega, d3⟩
      · rw [e]
        unfold dFr
        rw [d0, d7, ← hx]
        exact ⟨a1, by omega, w0, by omega, fun _ => ⟨o2, w13, by omega, by omega, xk⟩⟩
    · rcases (show under = 1 ∨ 2 ≤ under by omega) with e | e
      · rw [e] at e14
        exact e14
      · exact u2 e
theorem dm_endi (h : dD F b many ic under pc x y) (hu : 2 ≤ under) : dD F b many ic (under - 1) pc x y := by
  obtain ⟨⟨a1, a2, a3, a4, a5, a6, a7, a8, a9⟩, ka, kb, k1, k6, or, en, i0, i14, i11, u0, u1⟩ := h
  obtain ⟨o, ab, bl, it, df, u2, pr, ld, xs, ys⟩ := u1 (by omega)
  refine ⟨⟨a1, a2, a3, a4, a5, by omega, by omega, a8, a9⟩, ka, kb, k1, k6, or, fun i q0 q1 hi hi2 hj hn => en i q0 q1 hi hi2 hj fun w => hn ⟨by omega, w.2⟩, i0, i14, i11, by omega, fun _ => ⟨o, ab, bl, it, fun j q0 q1 => df j q0 (by omega), fun _ => u2 hu, pr, fun _ c2 => ?_, xs, ys⟩⟩
  have := u2 hu
  omega
/-- the definition ends -/
theorem dm_end (h : dD F b many ic 1 pc x y) (d5 : fP F b 0 = pc) (hx : x = ic - 1) (x0 : 0 ≤ x) (hvn : dV F b (fT F b 0) + dL F b (fT F b 0) = ic) (xk : iK F b x = 0) (xn : iN F b x = 150) : dD F b many ic 0 pc (-1) (-1) := by
  obtain ⟨⟨a1, a2, a3, a4, a5, a6, a7, a8, a9⟩, ka, kb, k1, k6, or, en, i0, i14, i11, u0, u1⟩ := h
  obtain ⟨⟨o1, o2, o3, o4, o5, o6, o7, o8⟩, ab, bl, it, df, u2, pr, ld, xs, ys⟩ := u1 (by omega)
  refine ⟨⟨a1, a2, a3, a4, a5, by omega, by omega, a8, a9⟩, ka, kb, k1, k6, or, fun i q0 q1 hi hi2 hj _ => ?_, i0, i14, i11, by omega, by omega⟩
  by_cases e : i = fT F b 0
  · rw [e] at hj ⊢
    unfold dEnd
    rw [hvn]
    have e3 : ic - 1 = x := hx.symm
    refine ⟨by omega, by rw [e3]; exact xk, by rw [e3]; exact xn, fun k c1 c2 c3 => ?_⟩
    have hz : dZb F b ic x = ic - 1 := by
      unfold dZb
      rw [if_pos ⟨hx, xk⟩]
    rcases (show k = x ∨ k ≠ x by omega) with t | t
    · rw [t, xk] at c3
      unfold ild at c3
      omega
    · have hl := ld rfl hj k (by omega) c2 t c3
      rw [hz] at hl
      have hp : pc = 0 := by omega
      rcases hl with g | ⟨p, p0, p1, -⟩ | ⟨-, p, p0, p1, -⟩
      · omega
      · omega
      · omega
  · exact en i q0 q1 hi hi2 hj (by omega)
/-- out of it -/
theorem dm_out (h : dD F b many ic under pc x y) (hu : 1 ≤ under) : dD F b (fT F b 0) (fS F b 0) 0 0 (-1) (-1) := by
  obtain ⟨⟨a1, a2, a3, a4, a5, a6, a7, a8, a9⟩, ka, kb, k1, k6, or, en, i0, i14, i11, u0, u1⟩ := h
  obtain ⟨⟨o1, o2, o3, o4, o5, o6, o7, o8⟩, ab, bl, it, df, u2, pr, ld, xs, ys⟩ := u1 hu
  have w172 : 172 ≤ fT F b 0 := by
    rcases (show fT F b 0 < 172 ∨ 172 ≤ fT F b 0 by omega) with e | e
    · have := ka _ o1 o2 e
      omega
    · exact e
  refine ⟨⟨o1, by omega, by omega, o7, by omega, by omega, by omega, by omega, by omega⟩, fun i q0 q1 q2 => ka i q0 (by omega) q2, fun i q0 q1 => kb i q0 (by omega), fun i q0 q1 hi => ?_, fun i q0 q1 hi => ?_, fun i j q0 q1 q2 => or i j q0 q1 (by omega), fun i q0 q1 hi hi2 hj _ => en i q0 (by omega) hi hi2 hj (by omega), fun k q0 q1 hk => ?_, fun k q0 q1 hk => ?_, fun k q0 q1 => i11 k q0 (by omega), by omega, by omega⟩
  · obtain ⟨v1, v2, v3⟩ := k1 i q0 (by omega) hi
    exact ⟨v1, v2, bl i q0 q1 hi⟩
  · obtain ⟨m1, m2, m3, m4, m5, m6, m7, m8, m9⟩ := k6 i q0 (by omega) hi
    have := m7 _ q1 o2 o3
    refine ⟨m1, m2, m3, m4, by omega, m6, fun j j0 j1 => m7 j j0 (by omega), m8, m9⟩
  · exact ⟨(i0 k q0 (by omega) hk).1, it k q0 q1 (Or.inl hk)⟩
  · obtain ⟨w1, w2, w3⟩ := i14 k q0 (by omega) hk
    exact ⟨w1, it k q0 q1 (Or.inr hk), w3⟩
/-- back to a marker -/
theorem dm_mark (h : dD F b many ic 0 pc x y) {i : Int} (i0' : 0 ≤ i) (i1 : i < many) (hk : dK F b i = 6) : dD F b (mM F b (dV F b i)) (mI F b (dV F b i)) 0 pc (-1) (-1) := by
  obtain ⟨⟨a1, a2, a3, a4, a5, a6, a7, a8, a9⟩, ka, kb, k1, k6, or, en, i0, i14, i11, u0, u1⟩ := h
  obtain ⟨m1, m2, m3, m4, m5, m6, m7, m8, m9⟩ := k6 i i0' i1 hk
  have w172 : 172 ≤ i := by
    rcases (show i < 172 ∨ 172 ≤ i by omega) with e | e
    · have := ka _ i0' i1 e
      omega
    · exact e
  rw [m3]
  refine ⟨⟨by omega, by omega, by omega, m4, by omega, by omega, by omega, a8, a9⟩, fun j q0 q1 q2 => ka j q0 (by omega) q2, fun j q0 q1 => kb j q0 (by omega), fun j q0 q1 hj => ?_, fun j q0 q1 hj => ?_, fun j l q0 q1 q2 => or j l q0 q1 (by omega), fun j q0 q1 hj hi2 hj2 _ => en j q0 (by omega) hj hi2 hj2 (by omega), fun k q0 q1 hk => ?_, fun k q0 q1 hk => ?_, fun k q0 q1 => i11 k q0 (by omega), u0, by omega⟩
  · obtain ⟨v1, v2, v3⟩ := k1 j q0 (by omega) hj
    exact ⟨v1, v2, m6 j q0 q1 hj⟩
  · obtain ⟨n1, n2, n3, n4, n5, n6, n7, n8, n9⟩ := k6 j q0 (by omega) hj
    exact ⟨n1, n2, n3, n4, m9 j q0 q1 hj, n6, fun l l0 l1 => n7 l l0 (by omega), n8, n9⟩
  · exact ⟨(i0 k q0 (by omega) hk).1, m8 k q0 q1 (Or.inl hk)⟩
  · obtain ⟨w1, w2, w3⟩ := i14 k q0 (by omega) hk
    exact ⟨w1, m8 k q0 q1 (Or.inr hk), w3⟩
/-- an item more -/
theorem dm_item {x' : Int} (h : dD F b many ic under pc x y) (hu : 1 ≤ under) (hi : ic ≤ 3999) (hn : dNx F b ic under pc x) (h0 : iK F b ic = 0 → 0 ≤ iN F b ic ∧ (iN F b ic < many ∨ iN F b ic ≤ 171)) (h14 : iK F b ic = 14 → 0 ≤ iN F b ic ∧ iN F b ic < many ∧ (dK F b (iN F b ic) = 4 ∨ dK F b (iN F b ic) = 5)) (h11 : iK F b ic = 4 ∨ (11 ≤ iK F b ic ∧ iK F b ic ≤ 13) → 0 ≤ iN F b ic ∧ iN F b ic ≤ 1048576) (hx : x' = ic ∨ (x' = -1 ∧ (dRs F b ic pc (iN F b ic) ∨ (iK F b ic = 8 ∧ ∃ p, 0 ≤ p ∧ p < pc ∧ pK F b p = 3 ∧ iN F b ic = -2 - pP F b p)))) : dD F b many (ic + 1) under pc x' y := by
  obtain ⟨⟨a1, a2, a3, a4, a5, a6, a7, a8, a9⟩, ka, kb, k1, k6, or, en, i0, i14, i11, u0, u1⟩ := dm_x h hn
  obtain ⟨⟨o1, o2, o3, o4, o5, o6, o7, o8⟩, ab, bl, it, df, u2, pr, ld, xs, ys⟩ := u1 hu
  have m172 : 172 ≤ many := by omega
  have sp : ∀ i, i < ic + 1 → i < ic ∨ i = ic := fun i _ => by omega
  refine ⟨⟨a1, a2, a3, by omega, by omega, a6, a7, a8, a9⟩, ka, kb, fun i q0 q1 hk => ?_, fun i q0 q1 hk => ?_, or, en, fun k q0 q1 hk => ?_, fun k q0 q1 hk => ?_, fun k q0 q1 hk => ?_, u0, fun _ => ⟨⟨o1, o2, o3, o4, o5, o6, o7, by omega⟩, ab, bl, it, fun j q0 q1 => ?_, u2, fun p q0 q1 => ?_, fun c1 c2 k q0 q1 q2 hk => ?_, ?_, by omega⟩⟩
  · obtain ⟨v1, v2, v3⟩ := k1 i q0 q1 hk
    exact ⟨v1, v2, by omega⟩
  · obtain ⟨m1, m2, m3, m4, m5, m6⟩ := k6 i q0 q1 hk
    exact ⟨m1, m2, m3, m4, by omega, m6⟩
  · rcases sp k q1 with e | e
    · exact i0 k q0 e hk
    · rw [e] at hk ⊢
      have := h0 hk
      omega
  · rcases sp k q1 with e | e
    · exact i14 k q0 e hk
    · rw [e] at hk ⊢
      exact h14 hk
  · rcases sp k q1 with e | e
    · exact i11 k q0 e hk
    · rw [e] at hk ⊢
      exact h11 hk
  · obtain ⟨d1, d2, d3, d4, d5⟩ := df j q0 q1
    refine ⟨d1, d2, d3, by omega, fun c => ?_⟩
    obtain ⟨e1, e2, e3, e4, e5⟩ := d5 c
    exact ⟨e1, e2, e3, by omega, e5⟩
  · obtain ⟨e1, e2, e3, e4, e5, e6⟩ := pr p q0 q1
    refine ⟨e1, by omega, fun c => ?_, fun c => ?_, fun c => ?_, fun c => ?_⟩
    · have := e3 c
      exact ⟨by omega, this.2⟩
    · have := e4 c
      exact ⟨by omega, this.2⟩
    · have := e5 c
      exact ⟨by omega, this.2⟩
    · have := e6 c
      exact ⟨by omega, this.2⟩
  · have hz : ic ≤ dZb F b (ic + 1) x' := by
      unfold dZb
      split <;> omega
    rcases sp k q1 with e | e
    · have g := ld c1 c2 k q0 e (by omega) hk
      rw [dZb_no (by omega)] at g
      exact dLead_le g hz
    · rw [e] at hk ⊢
      rcases hx with hx | ⟨hx, hx2⟩
      · omega
      · rcases hx2 with g | ⟨g1, p, p0, p1, p2, p3⟩
        · have := dRs_in g o8 pr
          exact Or.inl (by omega)
        · refine Or.inr (Or.inr ⟨g1, p, p0, p1, p2, p3, ?_⟩)
          have := (pr p p0 p1).2.1
          exact this
  · rcases hx with hx | ⟨hx, -⟩
    · exact Or.inr (by omega)
    · exact Or.inl hx
end DW
