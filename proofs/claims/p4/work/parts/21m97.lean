/-! THE REFERENCE'S PREDICATES, 6: what is learnt of a region -/
section LD
variable {F : Int → Int} {b many ic under pc x y : Int}
theorem lw (h : dD F b many ic under pc x y) {i : Int} (h0 : 0 ≤ i) (h1 : i < many) (hk : dK F b i = 1) : 0 ≤ dV F b i ∧ dV F b i ≤ ic ∧ 0 ≤ dL F b i ∧ dV F b i + dL F b i ≤ ic := by
  obtain ⟨a, ka, kb, k1, -⟩ := h
  have := k1 i h0 h1 hk
  omega
theorem lk0 (h : dD F b many ic under pc x y) {i : Int} (h1 : i < many) (hk : dK F b i ≤ 0) : i ≤ 171 := by
  obtain ⟨a, ka, kb, -⟩ := h
  rcases (show i ≤ 171 ∨ 172 ≤ i by omega) with c | c
  · exact c
  · have := kb i c h1
    omega
theorem l172 (h : dD F b many ic under pc x y) {i : Int} (h0 : 0 ≤ i) (h1 : i < many) (hk : dK F b i ≠ 0) : 172 ≤ i := by
  obtain ⟨a, ka, -⟩ := h
  rcases (show 172 ≤ i ∨ i < 172 by omega) with c | c
  · exact c
  · exact absurd (ka i h0 h1 c) hk
theorem lm (h : dD F b many ic under pc x y) {i : Int} (h0 : 0 ≤ i) (h1 : i < many) (hk : dK F b i = 6) : 0 ≤ dV F b i ∧ dV F b i ≤ 31 ∧ mM F b (dV F b i) = i ∧ 172 ≤ i := by
  have h2 := l172 h h0 h1 (by omega)
  obtain ⟨a, ka, kb, k1, k6, -⟩ := h
  obtain ⟨m1, m2, m3, -⟩ := k6 i h0 h1 hk
  exact ⟨m1, m2, m3, h2⟩
theorem lj (h : dD F b many ic under pc x y) {j : Int} (h0 : 0 ≤ j) (h1 : j < under) : 0 ≤ fT F b j ∧ fT F b j < many ∧ 172 ≤ fT F b j ∧ dK F b (fT F b j) = 1 ∧ 0 ≤ dV F b (fT F b j) ∧ dV F b (fT F b j) ≤ ic ∧ (1 ≤ j → 0 ≤ fJ F b j ∧ fJ F b j < ic ∧ dI F b (fT F b j) = 1) := by
  have hD := h
  obtain ⟨a, ka, kb, k1, k6, or, en, i0, i14, i11, u0, u1⟩ := h
  obtain ⟨⟨o1, o2, o3, o4, o5, o6, o7, o8⟩, ab, bl, it, df, u2, pr, ld, xs, ys⟩ := u1 (by omega)
  obtain ⟨d1, d2, d3, d4, d5⟩ := df j h0 h1
  have h2 := l172 hD d1 d2 (by omega)
  have h3 := lw hD d1 d2 d3
  refine ⟨d1, d2, h2, d3, h3.1, d4, fun c => ?_⟩
  obtain ⟨e1, e2, e3, e4, e5⟩ := d5 c
  exact ⟨by omega, e4, e2⟩
theorem lI (h : dD F b many ic under pc x y) (hu : 1 ≤ under) : (dI F b (fT F b (under - 1)) ≤ 0 → under ≤ 1) ∧ (1 ≤ dI F b (fT F b (under - 1)) → 2 ≤ under) := by
  have h2 := lj h (j := under - 1) (by omega) (by omega)
  obtain ⟨a, ka, kb, k1, k6, or, en, i0, i14, i11, u0, u1⟩ := h
  obtain ⟨⟨o1, o2, o3, o4, -⟩, -⟩ := u1 hu
  refine ⟨fun c => ?_, fun c => ?_⟩
  · rcases (show under ≤ 1 ∨ 1 ≤ under - 1 by omega) with d | d
    · exact d
    · have := (h2.2.2.2.2.2.2 d).2.2
      omega
  · rcases (show under = 1 ∨ 2 ≤ under by omega) with d | d
    · rw [show under - 1 = 0 by omega] at c
      omega
    · exact d
theorem lp (h : dD F b many ic under pc x y) {p : Int} (h0 : 0 ≤ p) (h1 : p < pc) : 0 ≤ pP F b p ∧ pP F b p ≤ ic ∧ (pK F b p = 1 ∨ pK F b p = 3 ∨ pK F b p = 5 ∨ pK F b p = 6 → pP F b p < ic) ∧ (pK F b p = 1 → 2 ≤ iK F b (pP F b p) ∧ iK F b (pP F b p) ≤ 3) ∧ (pK F b p = 3 → 4 ≤ iK F b (pP F b p) ∧ iK F b (pP F b p) ≤ 5) ∧ (pK F b p = 5 → iK F b (pP F b p) = 9) ∧ (pK F b p = 6 → iK F b (pP F b p) = 2) := by
  obtain ⟨a, ka, kb, k1, k6, or, en, i0, i14, i11, u0, u1⟩ := h
  have hu : 1 ≤ under := by
    rcases (show under = 0 ∨ 1 ≤ under by omega) with c | c
    · have := u0 c
      omega
    · exact c
  obtain ⟨⟨o1, o2, o3, o4, o5, o6, o7, o8⟩, ab, bl, it, df, u2, pr, ld, xs, ys⟩ := u1 hu
  obtain ⟨p1, p2, p3, p4, p5, p6⟩ := pr p h0 h1
  refine ⟨by omega, p2, fun c => ?_, fun c => ?_, fun c => ?_, fun c => (p5 c).2, fun c => (p6 c).2⟩
  · rcases c with c | c | c | c
    · exact (p3 c).1
    · exact (p4 c).1
    · exact (p5 c).1
    · exact (p6 c).1
  · have := (p3 c).2
    omega
  · have := (p4 c).2
    omega
theorem li0 (h : dD F b many ic under pc x y) {k : Int} (h0 : 0 ≤ k) (h1 : k < ic) (hk : iK F b k = 0) : 0 ≤ iN F b k ∧ iN F b k < many := h.2.2.2.2.2.2.2.1 k h0 h1 hk
theorem li11 (h : dD F b many ic under pc x y) {k : Int} (h0 : 0 ≤ k) (h1 : k < ic) (hk : iK F b k = 4 ∨ (11 ≤ iK F b k ∧ iK F b k ≤ 13)) : 0 ≤ iN F b k ∧ iN F b k ≤ 1048576 := h.2.2.2.2.2.2.2.2.2.1 k h0 h1 hk
/-- a word that is done, nothing under way -/
theorem le (h : dD F b many ic 0 pc x y) {i : Int} (h0 : 0 ≤ i) (h1 : i < many) (hk : dK F b i = 1) (hi : dI F b i = 0) (hj : dJ F b i = 0) : dEnd F b i := h.2.2.2.2.2.2.1 i h0 h1 hk hi hj (by omega)
theorem leK {i : Int} (h : dEnd F b i) {k : Int} (hk : k ≤ dV F b i + dL F b i - 1) (hn : iK F b k ≠ 0 ∨ iN F b k ≠ 150) : k ≤ dV F b i + dL F b i - 2 := by
  obtain ⟨l1, l2, l3, -⟩ := h
  rcases (show k = dV F b i + dL F b i - 1 ∨ k ≤ dV F b i + dL F b i - 2 by omega) with c | c
  · rw [← c] at l2 l3
    omega
  · exact c
end LD
