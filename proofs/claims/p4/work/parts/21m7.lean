/-! THE REFERENCE'S PREDICATES, 2: what a definition's cells are; moves in place -/
section DM
variable {F F' : Int → Int} {b many ic under pc x y : Int}
theorem dLead_le {st k z : Int} (h : dLead F b ic pc st k) (hz : ic ≤ z) : dLead F b z pc st k := by
  rcases h with h | h | h
  · exact Or.inl ⟨h.1, by omega⟩
  · exact Or.inr (Or.inl h)
  · exact Or.inr (Or.inr h)
theorem dZb_le {x : Int} : dZb F b ic x ≤ ic := by
  unfold dZb
  split <;> omega
theorem dZb_no {x : Int} (h : x = ic - 1 → iK F b x ≠ 0) : dZb F b ic x = ic := by
  unfold dZb
  rw [if_neg]
  exact fun w => h w.1 w.2
theorem dLead_fr {b' st k : Int} (h : dLead F b ic pc st k) (eK : iK F' b' k = iK F b k) (eN : iN F' b' k = iN F b k) (eP : ∀ p, 0 ≤ p → p < pc → pK F' b' p = pK F b p ∧ pP F' b' p = pP F b p) : dLead F' b' ic pc st k := by
  unfold dLead at *
  rw [eK, eN]
  rcases h with h | ⟨p, p0, p1, p2, p3⟩ | ⟨h1, p, p0, p1, p2, p3, p4⟩
  · exact Or.inl h
  · obtain ⟨e1, e2⟩ := eP p p0 p1
    exact Or.inr (Or.inl ⟨p, p0, p1, by rw [e2]; exact p2, by rw [e1]; exact p3⟩)
  · obtain ⟨e1, e2⟩ := eP p p0 p1
    exact Or.inr (Or.inr ⟨h1, p, p0, p1, by rw [e1]; exact p2, by rw [e2]; exact p3, by rw [e2]; exact p4⟩)
theorem dPair_fr {b' st p : Int} (h : dPair F b ic st p) (h0 : 0 ≤ st) (eP : pK F' b' p = pK F b p ∧ pP F' b' p = pP F b p) (eI : ∀ k, 0 ≤ k → k < ic → iK F' b' k = iK F b k) : dPair F' b' ic st p := by
  unfold dPair at *
  rw [eP.1, eP.2]
  obtain ⟨h1, h2, h3, h4, h5, h6⟩ := h
  refine ⟨h1, h2, fun c => ?_, fun c => ?_, fun c => ?_, fun c => ?_⟩
  · obtain ⟨q1, q2⟩ := h3 c
    rw [eI _ (by omega) q1]
    exact ⟨q1, q2⟩
  · obtain ⟨q1, q2⟩ := h4 c
    rw [eI _ (by omega) q1]
    exact ⟨q1, q2⟩
  · obtain ⟨q1, q2⟩ := h5 c
    rw [eI _ (by omega) q1]
    exact ⟨q1, q2⟩
  · obtain ⟨q1, q2⟩ := h6 c
    rw [eI _ (by omega) q1]
    exact ⟨q1, q2⟩
/-- only these cells count, and not in every way -/
theorem dD_fr {b' : Int} (h : dD F b many ic under pc x y)
    (eK : ∀ i, 0 ≤ i → i < many → dK F' b' i = dK F b i)
    (eV : ∀ i, 0 ≤ i → i < many → dK F b i = 1 ∨ dK F b i = 6 → dV F' b' i = dV F b i)
    (eL : ∀ i, 0 ≤ i → i < many → dK F b i = 1 → (dL F' b' i = dL F b i ∨ (1 ≤ under ∧ i = fT F b (under - 1) ∧ 0 ≤ dL F' b' i ∧ dV F b i + dL F' b' i ≤ ic)) ∧ dI F' b' i = dI F b i ∧ (dJ F' b' i = dJ F b i ∨ dJ F' b' i = 1))
    (eI : ∀ k, 0 ≤ k → k < ic → iK F' b' k = iK F b k ∧ (iN F' b' k = iN F b k ∨ iK F b k = 1 ∨ (ild (iK F b k) ∧ 1 ≤ under ∧ fS F b 0 ≤ k ∧ iN F' b' k = ic ∧ (under = 1 → x = ic - 1 → iK F b x ≠ 0))))
    (eP : ∀ p, 0 ≤ p → p < pc → pK F' b' p = pK F b p ∧ pP F' b' p = pP F b p)
    (eF : ∀ j, 0 ≤ j → j < under → fT F' b' j = fT F b j ∧ fS F' b' j = fS F b j ∧ fP F' b' j = fP F b j ∧ fJ F' b' j = fJ F b j)
    (eM : ∀ i, 0 ≤ i → i < many → dK F b i = 6 → 0 ≤ dV F b i → dV F b i ≤ 31 → mM F' b' (dV F b i) = mM F b (dV F b i) ∧ mI F' b' (dV F b i) = mI F b (dV F b i)) : dD F' b' many ic under pc x y := by
  obtain ⟨⟨a1, a2, a3, a4, a5, a6, a7, a8, a9⟩, ka, kb, k1, k6, or, en, i0, i14, i11, u0, u1⟩ := h
  -- the definition at hand lies at or above the outermost
  have cur : 1 ≤ under → fT F b 0 ≤ fT F b (under - 1) ∧ (fT F b (under - 1) = fT F b 0 ∨ dI F b (fT F b (under - 1)) = 1) := fun hu => by
    obtain ⟨⟨o1, o2, o3, o4, o5, o6, o7, o8⟩, ab, bl, it, df, -⟩ := u1 hu
    rcases (show under - 1 = 0 ∨ 1 ≤ under - 1 by omega) with e | e
    · rw [e]
      omega
    · obtain ⟨-, -, -, -, d5⟩ := df (under - 1) (by omega) (by omega)
      have := d5 e
      omega
  -- numbers of items that neither lead nor are literals
  have eN : ∀ k, 0 ≤ k → k < ic → iK F b k ≠ 1 → ¬ ild (iK F b k) → iN F' b' k = iN F b k := fun k q0 q1 n1 n2 => by
    rcases (eI k q0 q1).2 with e | e | e
    · exact e
    · exact absurd e n1
    · exact absurd e.1 n2
  have nl : ∀ {z : Int}, z = 0 ∨ z = 14 ∨ z = 4 ∨ (11 ≤ z ∧ z ≤ 13) → z ≠ 1 ∧ ¬ ild z := fun hz => by
    unfold ild
    omega
  refine ⟨⟨a1, a2, a3, a4, a5, a6, a7, a8, a9⟩, ?_, ?_, ?_, ?_, ?_, ?_, ?_, ?_, ?_, u0, ?_⟩
  · intro i q0 q1 q2
    rw [eK i q0 q1]
    exact ka i q0 q1 q2
  · intro i q0 q1
    rw [eK i (by omega) q1]
    exact kb i q0 q1
  · intro i q0 q1 hk
    rw [eK i q0 q1] at hk
    rw [eV i q0 q1 (Or.inl hk)]
    have := k1 i q0 q1 hk
    rcases (eL i q0 q1 hk).1 with e | ⟨-, -, e1, e2⟩
    · rw [e]
      exact this
    · exact ⟨this.1, e1, e2⟩
  · intro i q0 q1 hk
    rw [eK i q0 q1] at hk
    obtain ⟨m1, m2, m3, m4, m5, m6, m7, m8, m9⟩ := k6 i q0 q1 hk
    obtain ⟨e1, e2⟩ := eM i q0 q1 hk m1 m2
    unfold dMark
    rw [eV i q0 q1 (Or.inr hk), e1, e2]
    refine ⟨m1, m2, m3, m4, m5, ?_, ?_, ?_, ?_⟩
    · intro j j0 j1 hj
      rw [eK j j0 (by omega)] at hj
      rw [eV j j0 (by omega) (Or.inl hj)]
      rcases (eL j j0 (by omega) hj).1 with e | ⟨e0, e3, -, -⟩
      · rw [e]
        exact m6 j j0 j1 hj
      · obtain ⟨o, ab, -⟩ := u1 e0
        have := (cur e0).1
        exact absurd hk (ab i (by omega) q1).1
    · intro j j0 j1 hj
      rw [eK j (by omega) j1] at hj
      rw [eV j (by omega) j1 (Or.inl hj)]
      exact m7 j j0 j1 hj
    · intro k k0 kl hk2
      obtain ⟨f1, f2⟩ := eI k k0 (by omega)
      rw [f1] at hk2
      have := nl (z := iK F b k) (by omega)
      rw [eN k k0 (by omega) this.1 this.2]
      exact m8 k k0 kl hk2
    · intro j j0 j1 hj
      rw [eK j j0 (by omega)] at hj
      obtain ⟨n1, n2, -⟩ := k6 j j0 (by omega) hj
      rw [eV j j0 (by omega) (Or.inr hj), (eM j j0 (by omega) hj n1 n2).2]
      exact m9 j j0 j1 hj
  · intro i j q0 q1 q2 hi hj ti tj
    rw [eK i q0 (by omega)] at hi
    rw [eK j (by omega) q2] at hj
    obtain ⟨x1, x2, -⟩ := eL i q0 (by omega) hi
    obtain ⟨-, y2, -⟩ := eL j (by omega) q2 hj
    rw [x2] at ti
    rw [y2] at tj
    rw [eV i q0 (by omega) (Or.inl hi), eV j (by omega) q2 (Or.inl hj)]
    rcases x1 with e | ⟨e0, e3, -, -⟩
    · rw [e]
      exact or i j q0 q1 q2 hi hj ti tj
    · obtain ⟨o, ab, -⟩ := u1 e0
      obtain ⟨c1, c2⟩ := cur e0
      have := (ab j (by omega) q2).2 hj
      omega
  · intro i q0 q1 hk hi hj hu
    rw [eK i q0 q1] at hk
    obtain ⟨x1, x2, x3⟩ := eL i q0 q1 hk
    rw [x2] at hi
    have hj : dJ F b i = 0 := by omega
    have hu : ¬ (1 ≤ under ∧ i = fT F b 0) := fun w => hu ⟨w.1, by rw [(eF 0 (by omega) (by omega)).1]; exact w.2⟩
    have x1 : dL F' b' i = dL F b i := by
      rcases x1 with e | ⟨e0, e3, -, -⟩
      · exact e
      · exfalso
        obtain ⟨c1, c2⟩ := cur e0
        rw [← e3] at c2
        rcases c2 with c2 | c2
        · exact hu ⟨e0, c2⟩
        · omega
    obtain ⟨v1, v2, v3⟩ := k1 i q0 q1 hk
    obtain ⟨l1, l2, l3, l4⟩ := en i q0 q1 hk hi hj hu
    unfold dEnd
    rw [eV i q0 q1 (Or.inl hk), x1]
    obtain ⟨f1, f2⟩ := eI (dV F b i + dL F b i - 1) (by omega) (by omega)
    have := nl (z := iK F b (dV F b i + dL F b i - 1)) (by omega)
    refine ⟨l1, by rw [f1]; exact l2, by rw [eN _ (by omega) (by omega) this.1 this.2]; exact l3, fun k c1 c2 c3 => ?_⟩
    obtain ⟨f1, f2⟩ := eI k (by omega) (by omega)
    rw [f1] at c3
    rcases f2 with e | e | ⟨-, e0, e1, -⟩
    · rw [e]
      exact l4 k c1 c2 c3
    · rw [e] at c3
      unfold ild at c3
      omega
    · exfalso
      obtain ⟨o, ab, bl, -⟩ := u1 e0
      rcases (show i < fT F b 0 ∨ i = fT F b 0 ∨ fT F b 0 < i by omega) with t | t | t
      · have := bl i q0 t hk
        omega
      · exact hu ⟨e0, t⟩
      · have := (ab i t q1).2 hk
        omega
  · intro k q0 q1 hk
    obtain ⟨f1, f2⟩ := eI k q0 q1
    rw [f1] at hk
    have := nl (z := iK F b k) (by omega)
    rw [eN k q0 q1 this.1 this.2]
    exact i0 k q0 q1 hk
  · intro k q0 q1 hk
    obtain ⟨f1, f2⟩ := eI k q0 q1
    rw [f1] at hk
    have := nl (z := iK F b k) (by omega)
    obtain ⟨n1, n2, n3⟩ := i14 k q0 q1 hk
    rw [eN k q0 q1 this.1 this.2, eK _ n1 n2]
    exact ⟨n1, n2, n3⟩
  · intro k q0 q1 hk
    obtain ⟨f1, f2⟩ := eI k q0 q1
    rw [f1] at hk
    have := nl (z := iK F b k) (by omega)
    rw [eN k q0 q1 this.1 this.2]
    exact i11 k q0 q1 hk
  · intro hu
    obtain ⟨e1, e2, e3, -⟩ := eF 0 (by omega) (by omega)
    rw [e1, e2]
    obtain ⟨⟨o1, o2, o3, o4, o5, o6, o7, o8⟩, ab, bl, it, df, u2, pr, ld, xs, ys⟩ := u1 hu
    obtain ⟨g1, g2, g3⟩ := eL _ o1 o2 o3
    refine ⟨⟨o1, o2, by rw [eK _ o1 o2]; exact o3, by rw [g2]; exact o4, by rw [eV _ o1 o2 (Or.inl o3)]; exact o5, by rw [e3]; exact o6, o7, o8⟩, ?_, ?_, ?_, ?_, ?_, ?_, ?_, xs, ys⟩
    · intro i q0 q1
      rw [eK i (by omega) q1]
      refine ⟨(ab i q0 q1).1, fun hk => ?_⟩
      rw [(eL i (by omega) q1 hk).2.1, eV i (by omega) q1 (Or.inl hk)]
      exact (ab i q0 q1).2 hk
    · intro i q0 q1 hk
      rw [eK i q0 (by omega)] at hk
      rw [eV i q0 (by omega) (Or.inl hk)]
      rcases (eL i q0 (by omega) hk).1 with e | ⟨e0, e3, -, -⟩
      · rw [e]
        exact bl i q0 q1 hk
      · have := (cur e0).1
        omega
    · intro k q0 q1 hk
      obtain ⟨f1, f2⟩ := eI k q0 (by omega)
      rw [f1] at hk
      have := nl (z := iK F b k) (by omega)
      rw [eN k q0 (by omega) this.1 this.2]
      exact it k q0 q1 hk
    · intro j q0 q1
      obtain ⟨d1, d2, d3, d4, d5⟩ := df j q0 q1
      obtain ⟨f1, -, -, f4⟩ := eF j q0 q1
      unfold dFr
      rw [f1, eK _ d1 d2, eV _ d1 d2 (Or.inl d3), (eL _ d1 d2 d3).2.1, f4]
      refine ⟨d1, d2, d3, d4, fun c => ?_⟩
      obtain ⟨h1, h2, h3, h4, h5⟩ := d5 c
      rw [(eI _ (by omega) h4).1]
      exact ⟨h1, h2, h3, h4, h5⟩
    · intro c
      have := u2 c
      omega
    · intro p q0 q1
      exact dPair_fr (pr p q0 q1) o7 (eP p q0 q1) fun k c0 c1 => (eI k c0 c1).1
    · intro c1 c2 k q0 q1 q2 hk
      have c2 : dJ F b (fT F b 0) = 0 := by omega
      obtain ⟨f1, f2⟩ := eI k (by omega) q1
      rw [f1] at hk
      have e : dZb F' b' ic x = dZb F b ic x := by
        unfold dZb
        by_cases c : x = ic - 1
        · rw [(eI x (by omega) (by omega)).1]
        · rw [if_neg (fun w => c w.1), if_neg (fun w => c w.1)]
      rw [e]
      rcases f2 with f2 | f2 | ⟨-, -, -, f3, f4⟩
      · exact dLead_fr (ld c1 c2 k q0 q1 q2 hk) f1 f2 eP
      · rw [f2] at hk
        unfold ild at hk
        omega
      · rw [dZb_no (f4 c1)]
        exact Or.inl (by omega)
/-- nothing is wrong with x -/
def dNx (F : Int → Int) (b ic under pc x : Int) : Prop := x = -1 ∨ 2 ≤ under ∨ ¬ ild (iK F b x) ∨ (iN F b x = ic ∨ ∃ p, 0 ≤ p ∧ p < pc ∧ ((pK F b p = 2 ∧ pP F b p = iN F b x) ∨ (pK F b p = 3 ∧ pP F b p + 1 = iN F b x))) ∨ ∃ p, 0 ≤ p ∧ p < pc ∧ pP F b p = x ∧ (pK F b p = 1 ∨ pK F b p = 3 ∨ pK F b p = 5 ∨ pK F b p = 6)
/-- a number that leads into what is under way -/
def dRs (F : Int → Int) (b ic pc n : Int) : Prop := n = ic ∨ ∃ p, 0 ≤ p ∧ p < pc ∧ ((pK F b p = 2 ∧ pP F b p = n) ∨ (pK F b p = 3 ∧ pP F b p + 1 = n))
theorem dRs_in {st n : Int} (h : dRs F b ic pc n) (hs : st ≤ ic) (pr : ∀ p, 0 ≤ p → p < pc → dPair F b ic st p) : st ≤ n ∧ n ≤ ic := by
  rcases h with h | ⟨p, p0, p1, h | h⟩
  · omega
  · obtain ⟨h1, h2, -⟩ := pr p p0 p1
    omega
  · obtain ⟨h1, h2, -, h4, -⟩ := pr p p0 p1
    have := (h4 h.1).1
    omega
theorem dm_x (h : dD F b many ic under pc x y) (hn : dNx F b ic under pc x) : dD F b many ic under pc (-1) y := by
  obtain ⟨a, ka, kb, k1, k6, or, en, i0, i14, i11, u0, u1⟩ := h
  refine ⟨a, ka, kb, k1, k6, or, en, i0, i14, i11, u0, fun hu => ?_⟩
  obtain ⟨o, ab, bl, it, df, u2, pr, ld, xs, ys⟩ := u1 hu
  refine ⟨o, ab, bl, it, df, u2, pr, fun c1 c2 k q0 q1 q2 hk => ?_, Or.inl rfl, ys⟩
  by_cases e : k = x
  · subst e
    rcases hn with w | w | w | w | ⟨p, p0, p1, p2, p3⟩
    · omega
    · omega
    · exact absurd hk w
    · rw [dZb_no (by omega)]
      exact Or.inl (dRs_in w o.2.2.2.2.2.2.2 pr)
    · refine Or.inr (Or.inl ⟨p, p0, p1, p2, ?_⟩)
      rcases p3 with p3 | p3 | p3 | p3
      · exact Or.inl p3
      · obtain ⟨-, -, -, g, -⟩ := pr p p0 p1
        have := (g p3).2
        rw [p2] at this
        rcases this with t | t
        · rw [t] at hk
          unfold ild at hk
          omega
        · exact Or.inr (Or.inr (Or.inr ⟨p3, t⟩))
      · exact Or.inr (Or.inl p3)
      · exact Or.inr (Or.inr (Or.inl p3))
  · rw [dZb_no (by omega)]
    exact dLead_le (ld c1 c2 k q0 q1 e hk) dZb_le
theorem dm_y (h : dD F b many ic under pc x y) : dD F b many ic under pc x (-1) := by
  obtain ⟨a, ka, kb, k1, k6, or, en, i0, i14, i11, u0, u1⟩ := h
  refine ⟨a, ka, kb, k1, k6, or, en, i0, i14, i11, u0, fun hu => ?_⟩
  obtain ⟨o, ab, bl, it, df, u2, pr, ld, xs, ys⟩ := u1 hu
  exact ⟨o, ab, bl, it, df, u2, pr, ld, xs, Or.inl rfl⟩
theorem dLead_pc {st k pc' : Int} (h : dLead F b ic pc st k) (hp : pc ≤ pc') : dLead F b ic pc' st k := by
  rcases h with h | ⟨p, p0, p1, p2⟩ | ⟨h1, p, p0, p1, p2⟩
  · exact Or.inl h
  · exact Or.inr (Or.inl ⟨p, p0, by omega, p2⟩)
  · exact Or.inr (Or.inr ⟨h1, p, p0, by omega, p2⟩)
theorem dZb_c {x z : Int} (hx : x = -1) (h0 : 0 ≤ z) (h1 : z < ic) : dZb F b ic x = ic := dZb_no (by omega)
/-- a pair more -/
theorem dm_push (h : dD F b many ic under pc x y) (hu : 1 ≤ under) (hp : pc ≤ 31) (hn : dPair F b ic (fS F b 0) pc) : dD F b many ic under (pc + 1) x y := by
  obtain ⟨⟨a1, a2, a3, a4, a5, a6, a7, a8, a9⟩, ka, kb, k1, k6, or, en, i0, i14, i11, u0, u1⟩ := h
  refine ⟨⟨a1, a2, a3, a4, a5, a6, a7, by omega, by omega⟩, ka, kb, k1, k6, or, en, i0, i14, i11, by omega, fun hu => ?_⟩
  obtain ⟨o, ab, bl, it, df, u2, pr, ld, xs, ys⟩ := u1 hu
  refine ⟨o, ab, bl, it, df, u2, fun p p0 p1 => ?_, fun c1 c2 k q0 q1 q2 hk => dLead_pc (ld c1 c2 k q0 q1 q2 hk) (by omega), xs, ys⟩
  rcases (show p < pc ∨ p = pc by omega) with e | e
  · exact pr p p0 e
  · rw [e]
    exact hn
/-- the pair on top goes -/
theorem dm_drop {y' : Int} (h : dD F b many ic under pc x y) (hp : 1 ≤ pc) (hl : ∀ st, 0 ≤ st → (∀ p, 0 ≤ p → p < pc → dPair F b ic st p) → st ≤ ic → under = 1 → ∀ k, st ≤ k → k < ic → k ≠ x → ild (iK F b k) → dLead F b (dZb F b ic x) pc st k → dLead F b (dZb F b ic x) (pc - 1) st k) (hy : y' = y ∨ y' = -1 ∨ y' = pP F b (pc - 1)) : dD F b many ic under (pc - 1) x y' := by
  obtain ⟨⟨a1, a2, a3, a4, a5, a6, a7, a8, a9⟩, ka, kb, k1, k6, or, en, i0, i14, i11, u0, u1⟩ := h
  refine ⟨⟨a1, a2, a3, a4, a5, a6, a7, by omega, by omega⟩, ka, kb, k1, k6, or, en, i0, i14, i11, by omega, fun hu => ?_⟩
  obtain ⟨o, ab, bl, it, df, u2, pr, ld, xs, ys⟩ := u1 hu
  have hs : fS F b 0 ≤ ic := o.2.2.2.2.2.2.2
  refine ⟨o, ab, bl, it, df, u2, fun p p0 p1 => pr p p0 (by omega), fun c1 c2 k q0 q1 q2 hk => hl _ o.2.2.2.2.2.2.1 pr hs c1 k q0 q1 q2 hk (ld c1 c2 k q0 q1 q2 hk), xs, ?_⟩
  rcases hy with hy | hy | hy
  · rw [hy]
    exact ys
  · exact Or.inl hy
  · obtain ⟨h1, h2, -⟩ := pr (pc - 1) (by omega) (by omega)
    exact Or.inr (by omega)
/-- what a pair that goes must not have kept -/
theorem dLead_drop {st k z : Int} (h : dLead F b z pc st k) (hp : 1 ≤ pc) (h1 : pP F b (pc - 1) = k → (pK F b (pc - 1) = 1 ∨ pK F b (pc - 1) = 5 ∨ pK F b (pc - 1) = 6 ∨ (pK F b (pc - 1) = 3 ∧ iK F b k = 5)) → st ≤ iN F b k ∧ iN F b k ≤ z) (h2 : iK F b k = 8 → pK F b (pc - 1) = 3 → pP F b (pc - 1) ≤ k → iN F b k ≠ -2 - pP F b (pc - 1)) : dLead F b z (pc - 1) st k := by
  rcases h with h | ⟨p, p0, p1, p2, p3⟩ | ⟨hk, p, p0, p1, p2, p3, p4⟩
  · exact Or.inl h
  · rcases (show p < pc - 1 ∨ p = pc - 1 by omega) with e | e
    · exact Or.inr (Or.inl ⟨p, p0, e, p2, p3⟩)
    · rw [e] at p2 p3
      exact Or.inl (h1 p2 p3)
  · rcases (show p < pc - 1 ∨ p = pc - 1 by omega) with e | e
    · exact Or.inr (Or.inr ⟨hk, p, p0, e, p2, p3, p4⟩)
    · rw [e] at p2 p3 p4
      exact absurd p3 (h2 hk p2 p4)
end DM
