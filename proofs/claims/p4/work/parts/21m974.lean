/-! THE REFERENCE'S PREDICATES, 9: a word is made leaner -/
section LN
variable {F F' F0 : Int → Int} {b w a n e i k p : Int}
theorem lst_ic (h : lst F0 b w a n e i) : 0 ≤ dV F0 b i ∧ e ≤ F0 (b + 5) ∧ F0 (b + 5) ≤ 4000 ∧ F0 (b + 4) ≤ 360 := by
  obtain ⟨z, hw, hC, i0, i1, hu, k1, hi, hj, he, hva, hae, hn⟩ := h
  obtain ⟨hD, -⟩ := hC
  have t := lw hD i0 i1 k1
  obtain ⟨⟨a1, a2, a3, a4, a5, -⟩, -⟩ := hD
  omega
theorem frm_refl : frm F F b i := ⟨fun _ _ => rfl, fun _ _ _ => ⟨rfl, rfl, fun _ => rfl, rfl, rfl, rfl⟩, fun _ _ _ => ⟨rfl, rfl, rfl, rfl⟩, fun _ _ _ => ⟨rfl, rfl, rfl, rfl⟩⟩
theorem frm_up (h : frm F0 F b i) (h0 : 0 ≤ i) (h1 : i < 360) (hx : ∀ x, x < b + 22692 ∨ b + 30692 ≤ x → x ≠ b + 8296 + 40 * i → F' x = F x) : frm F0 F' b i := by
  obtain ⟨f1, f2, f3, f4⟩ := h
  refine ⟨fun o ho => ?_, fun j j0 j1 => ?_, fun j j0 j1 => ?_, fun j j0 j1 => ?_⟩
  · rw [hx (b + o) (by omega) (by omega)]
    exact f1 o ho
  · obtain ⟨g1, g2, g3, g4, g5, g6⟩ := f2 j j0 j1
    rw [show dK F' b j = dK F b j from hx _ (by omega) (by omega), show dV F' b j = dV F b j from hx _ (by omega) (by omega), show dH F' b j = dH F b j from hx _ (by omega) (by omega), show dI F' b j = dI F b j from hx _ (by omega) (by omega), show dJ F' b j = dJ F b j from hx _ (by omega) (by omega)]
    refine ⟨g1, g2, fun c => ?_, g4, g5, g6⟩
    rw [show dL F' b j = dL F b j from hx _ (by omega) (by omega)]
    exact g3 c
  · rw [show pK F' b j = pK F b j from hx _ (by omega) (by omega), show pP F' b j = pP F b j from hx _ (by omega) (by omega), show mM F' b j = mM F b j from hx _ (by omega) (by omega), show mI F' b j = mI F b j from hx _ (by omega) (by omega)]
    exact f3 j j0 j1
  · rw [show fT F' b j = fT F b j from hx _ (by omega) (by omega), show fS F' b j = fS F b j from hx _ (by omega) (by omega), show fP F' b j = fP F b j from hx _ (by omega) (by omega), show fJ F' b j = fJ F b j from hx _ (by omega) (by omega)]
    exact f4 j j0 j1
theorem q71_0 (h : lst F b w a n e i) : q71 b w a n e (a + n) 0 F := by
  have h' := h
  obtain ⟨z, hw, hC, i0, i1, hu, k1, hi, hj, he, hva, hae, hn⟩ := h'
  exact ⟨F, i, h, Int.le_refl _, by omega, frm_refl, fun j _ _ _ _ => ⟨rfl, rfl⟩, fun j _ c => by omega⟩
theorem q71_s {p' : Int} (h : q71 b w a n e (k - 1) p' F) (hk : k ≤ e) (h0 : iK F b (k - 1 - n) = iK F b (k - 1)) (h1 : iN F b (k - 1 - n) = iN F b (k - 1)) : q71 b w a n e k 0 F := by
  obtain ⟨F0, i, hl, ha, he, hf, h2, h3⟩ := h
  have t := lst_ic hl
  have hl' := hl
  obtain ⟨z, hw, hC, i0, i1, hu, k1, hi, hj, hve, hva, hae, hn⟩ := hl'
  refine ⟨F0, i, hl, by omega, hk, hf, fun j j0 j1 _ jc => h2 j j0 j1 (fun _ => by omega) (by omega), fun j j0 j1 => ?_⟩
  rcases (show j < k - 1 - n ∨ j = k - 1 - n by omega) with c | c
  · exact h3 j j0 c
  · have u := h2 (k - 1) (by omega) (by omega) (fun _ => by omega) (Or.inr (by omega))
    rw [c, show k - 1 - n + n = k - 1 by omega]
    exact ⟨h0.trans u.1, h1.trans u.2⟩
theorem q71_len (h : q71 b w a n e k p F) (hx : ∀ x, x ≠ w + 4 → F' x = F x) : q71 b w a n e k p F' := by
  obtain ⟨F0, i, hl, ha, he, hf, h2, h3⟩ := h
  have t := lst_ic hl
  have hl' := hl
  obtain ⟨z, hw, hC, i0, i1, hu, k1, hi, hj, hve, hva, hae, hn⟩ := hl'
  have eK : ∀ j, 0 ≤ j → iK F' b j = iK F b j := fun j _ => hx _ (by omega)
  have eN : ∀ j, 0 ≤ j → iN F' b j = iN F b j := fun j _ => hx _ (by omega)
  refine ⟨F0, i, hl, ha, he, frm_up hf i0 (by omega) (fun x _ q2 => hx x (by omega)), fun j j0 j1 jp jc => ?_, fun j j0 j1 => ?_⟩
  · rw [eK j j0, eN j j0]
    exact h2 j j0 j1 jp jc
  · rw [eK j (by omega), eN j (by omega)]
    exact h3 j j0 j1
theorem q71_st {c : Int} (h : q71 b w a n e k p F) (hc : c = b + 22692 + 2 * (k - n) ∨ c = b + 22693 + 2 * (k - n)) (hx : ∀ x, x ≠ c → F' x = F x) : q71 b w a n e k 1 F' := by
  obtain ⟨F0, i, hl, ha, he, hf, h2, h3⟩ := h
  have t := lst_ic hl
  have hl' := hl
  obtain ⟨z, hw, hC, i0, i1, hu, k1, hi, hj, hve, hva, hae, hn⟩ := hl'
  refine ⟨F0, i, hl, ha, he, frm_up hf i0 (by omega) (fun x q1 q2 => hx x (by omega)), fun j j0 j1 jp jc => ?_, fun j j0 j1 => ?_⟩
  · have hne := jp rfl
    rw [show iK F' b j = iK F b j from hx _ (by omega), show iN F' b j = iN F b j from hx _ (by omega)]
    exact h2 j j0 j1 (fun _ => hne) jc
  · rw [show iK F' b j = iK F b j from hx _ (by omega), show iN F' b j = iN F b j from hx _ (by omega)]
    exact h3 j j0 j1
theorem srcn_in {V j : Int} (h0 : V ≤ j) (h1 : j < e - n) (hn : 1 ≤ n) : j ≤ srcn a n j ∧ srcn a n j < e := by
  unfold srcn
  split <;> omega
theorem q72_0 {i' old : Int} (h : q71 b w a n e e 0 F) (hw : w = b + 8292 + 40 * i') (hk : k = dV F b i') : q72 b w a n e k 0 old F := by
  obtain ⟨F0, i, hl, ha, he, hf, h2, h3⟩ := h
  have t := lst_ic hl
  have hl' := hl
  obtain ⟨z, hw', hC, i0, i1, hu, k1, hi, hj, hve, hva, hae, hn⟩ := hl'
  have ei : i' = i := by omega
  have ev : k = dV F0 b i := by
    rw [hk, ei]
    exact (hf.2.1 i i0 (by omega)).2.1
  refine ⟨F0, i, hl, by omega, by omega, hf, fun j j0 j1 jc => h2 j j0 j1 (fun c => by omega) (by omega), fun j j0 j1 => ?_, fun c => by omega⟩
  have u : iK F b j = iK F0 b (srcn a n j) ∧ iN F b j = iN F0 b (srcn a n j) := by
    unfold srcn
    split
    · exact h2 j (by omega) (by omega) (fun c => by omega) (by omega)
    · exact h3 j (by omega) (by omega)
  exact ⟨u.1, fun _ => ⟨fun c => by omega, fun _ => u.2⟩⟩
theorem q72_s {p' old old' : Int} (h : q72 b w a n e (k - 1) p' old' F) (hk : k ≤ e - n) (hc : ∀ s o : Int, iK F b (k - 1) = s → (p' = 0 → iN F b (k - 1) = o) → (p' = 1 → old' = o) → 1 ≤ n → (ild s → iN F b (k - 1) = adjn a n o) ∧ (¬ ild s → iN F b (k - 1) = o)) : q72 b w a n e k 0 old F := by
  obtain ⟨F0, i, hl, hv, he, hf, h2, h3, h4⟩ := h
  have t := lst_ic hl
  have hl' := hl
  obtain ⟨z, hw, hC, i0, i1, hu, k1, hi, hj, hve, hva, hae, hn⟩ := hl'
  refine ⟨F0, i, hl, by omega, hk, hf, h2, fun j j0 j1 => ?_, fun c => by omega⟩
  refine ⟨(h3 j j0 j1).1, fun _ => ?_⟩
  rcases (show j = k - 1 ∨ j ≠ k - 1 by omega) with c | c
  · rw [c]
    have u := h3 (k - 1) (by omega) (by omega)
    have v := hc _ (iN F0 b (srcn a n (k - 1))) u.1 (fun q => (u.2 (fun q2 => by omega)).2 (Or.inl (Int.le_refl _))) (fun q => h4 q) hn
    refine ⟨fun _ => v.1, fun q => v.2 ?_⟩
    rcases q with q | q
    · omega
    · exact q
  · have u := (h3 j j0 j1).2 (fun _ => c)
    refine ⟨fun q => u.1 (by omega), fun q => u.2 ?_⟩
    rcases q with q | q
    · exact Or.inl (by omega)
    · exact Or.inr q
theorem q72_st {c old : Int} (h : q72 b w a n e k 0 old F) (hk : k ≤ e - n - 1) (hc : c = b + 22693 + 2 * k) (hx : ∀ x, x ≠ c → F' x = F x) : q72 b w a n e k 1 (F c) F' := by
  obtain ⟨F0, i, hl, hv, he, hf, h2, h3, h4⟩ := h
  have t := lst_ic hl
  have hl' := hl
  obtain ⟨z, hw, hC, i0, i1, hu, k1, hi, hj, hve, hva, hae, hn⟩ := hl'
  refine ⟨F0, i, hl, hv, he, frm_up hf i0 (by omega) (fun x q1 q2 => hx x (by omega)), fun j j0 j1 jc => ?_, fun j j0 j1 => ?_, fun _ => ?_⟩
  · rw [show iK F' b j = iK F b j from hx _ (by omega), show iN F' b j = iN F b j from hx _ (by omega)]
    exact h2 j j0 j1 jc
  · rw [show iK F' b j = iK F b j from hx _ (by omega)]
    refine ⟨(h3 j j0 j1).1, fun q => ?_⟩
    have hne := q rfl
    rw [show iN F' b j = iN F b j from hx _ (by omega)]
    exact (h3 j j0 j1).2 (fun _ => hne)
  · rw [hc]
    exact ((h3 k hv (by omega)).2 (fun q => by omega)).2 (Or.inl (Int.le_refl _))
/-- the word is leaner: all definitions are as they should -/
theorem q72_dC {i' old : Int} (h : q72 b w a n e (e - n) 0 old F) (hw : w = b + 8292 + 40 * i') (hl : dV F b i' + dL F b i' = e - n) : dC F b := by
  obtain ⟨F0, i, hls, hv, he, hf, h2, h3, h4⟩ := h
  have t := lst_ic hls
  obtain ⟨z, hw', hC, i0, i1, hu, k1, hi, hj, hve, hva, hae, hn⟩ := hls
  have ei : i' = i := by omega
  rw [ei] at hl
  clear ei hw hw'
  obtain ⟨f1, f2, f3, f4⟩ := hf
  obtain ⟨hD, -⟩ := hC
  have e4 := f1 4 (Or.inl rfl)
  have e5 := f1 5 (Or.inr (Or.inl rfl))
  have e17 := f1 17 (Or.inr (Or.inr (Or.inl rfl)))
  have e24 := f1 24 (Or.inr (Or.inr (Or.inr rfl)))
  rw [hu] at hD e24
  unfold dC
  rw [e4, e5, e17, e24]
  refine ⟨?_, fun c => by omega⟩
  clear e4 e5 e17 e24 f1 f4 hu
  generalize F0 (b + 4) = many at *
  generalize F0 (b + 5) = ic at *
  generalize F0 (b + 17) = pc at *
  obtain ⟨⟨a1, a2, a3, a4, a5, a6, a7, a8, a9⟩, ka, kb, kw, k6, or, en, i0', i14, i11, u0, u1⟩ := hD
  have eK : ∀ j, 0 ≤ j → j < many → dK F b j = dK F0 b j := fun j j0 j1 => (f2 j j0 (by omega)).1
  have eV : ∀ j, 0 ≤ j → j < many → dV F b j = dV F0 b j := fun j j0 j1 => (f2 j j0 (by omega)).2.1
  have eL : ∀ j, 0 ≤ j → j < many → j ≠ i → dL F b j = dL F0 b j := fun j j0 j1 jn => (f2 j j0 (by omega)).2.2.1 jn
  have eI : ∀ j, 0 ≤ j → j < many → dI F b j = dI F0 b j := fun j j0 j1 => (f2 j j0 (by omega)).2.2.2.2.1
  have eJ : ∀ j, 0 ≤ j → j < many → dJ F b j = dJ F0 b j := fun j j0 j1 => (f2 j j0 (by omega)).2.2.2.2.2
  have eLi : dL F b i = dL F0 b i - n := by
    have := eV i i0 i1
    omega
  -- never longer
  have leL : ∀ j, 0 ≤ j → j < many → dL F b j ≤ dL F0 b j := fun j j0 j1 => by
    rcases (show j = i ∨ j ≠ i by omega) with c | c
    · rw [c, eLi]
      omega
    · rw [eL j j0 j1 c]
      exact Int.le_refl _
  -- where an item comes from
  have sr : ∀ k, 0 ≤ k → k < ic → ∃ s, 0 ≤ s ∧ s < ic ∧ iK F b k = iK F0 b s ∧ (¬ ild (iK F b k) → iN F b k = iN F0 b s) ∧ ((k < dV F0 b i ∨ e - n ≤ k) → s = k ∧ iN F b k = iN F0 b k) ∧ (dV F0 b i ≤ k → k < e - n → dV F0 b i ≤ s ∧ s < e ∧ (ild (iK F b k) → iN F b k = adjn a n (iN F0 b s)) ∧ (a ≤ k → s = k + n)) := fun k k0 kc => by
    rcases (show (k < dV F0 b i ∨ e - n ≤ k) ∨ (dV F0 b i ≤ k ∧ k < e - n) by omega) with c | c
    · have u := h2 k k0 (by omega) c
      exact ⟨k, k0, kc, u.1, fun _ => u.2, fun _ => ⟨rfl, u.2⟩, fun c1 c2 => by omega⟩
    · have u := h3 k c.1 c.2
      have v := u.2 (fun q => by omega)
      have s := srcn_in (a := a) c.1 c.2 hn
      refine ⟨srcn a n k, by omega, by omega, u.1, fun q => v.2 (Or.inr (by rw [← u.1]; exact q)), fun q => by omega, fun _ _ => ⟨by omega, s.2, fun q => v.1 c.2 (by rw [← u.1]; exact q), fun q => ?_⟩⟩
      unfold srcn
      rw [if_neg (by omega)]
  have nl : ∀ {z : Int}, z = 0 ∨ z = 14 ∨ z = 4 ∨ (11 ≤ z ∧ z ≤ 13) → ¬ ild z := fun hz => by
    unfold ild
    omega
  refine ⟨⟨a1, a2, a3, a4, a5, a6, a7, a8, a9⟩, ?_, ?_, ?_, ?_, ?_, ?_, ?_, ?_, ?_, u0, by omega⟩
  · intro j q0 q1 q2
    rw [eK j q0 q1]
    exact ka j q0 q1 q2
  · intro j q0 q1
    rw [eK j (by omega) q1]
    exact kb j q0 q1
  · intro j q0 q1 hk
    rw [eK j q0 q1] at hk
    have u := kw j q0 q1 hk
    rw [eV j q0 q1]
    have v := leL j q0 q1
    refine ⟨u.1, ?_, by omega⟩
    rcases (show j = i ∨ j ≠ i by omega) with c | c
    · rw [c, eLi]
      omega
    · rw [eL j q0 q1 c]
      exact u.2.1
  · intro j q0 q1 hk
    rw [eK j q0 q1] at hk
    obtain ⟨m1, m2, m3, m4, m5, m6, m7, m8, m9⟩ := k6 j q0 q1 hk
    have ej : j ≠ i := fun w => by
      rw [w] at hk
      omega
    obtain ⟨-, -, g3, g4⟩ := f3 (dV F0 b j) m1 (by omega)
    unfold dMark
    rw [eV j q0 q1, g3, g4]
    refine ⟨m1, m2, m3, m4, m5, ?_, ?_, ?_, ?_⟩
    · intro l l0 l1 hl2
      rw [eK l l0 (by omega)] at hl2
      rw [eV l l0 (by omega)]
      have u := m6 l l0 l1 hl2
      have v := leL l l0 (by omega)
      omega
    · intro l l0 l1 hl2
      rw [eK l (by omega) l1] at hl2
      rw [eV l (by omega) l1]
      exact m7 l l0 l1 hl2
    · intro l l0 l1 hl2
      obtain ⟨s, s0, s1, s2, s3, s4, s5⟩ := sr l l0 (by omega)
      rw [s2] at hl2
      rw [s3 (by rw [s2]; exact nl (by omega))]
      refine m8 s s0 ?_ hl2
      rcases (show (l < dV F0 b i ∨ e - n ≤ l) ∨ (dV F0 b i ≤ l ∧ l < e - n) by omega) with c | c
      · rw [(s4 c).1]
        exact l1
      · have u := (s5 c.1 c.2).2.1
        rcases (show j < i ∨ i < j by omega) with d | d
        · have := m7 i d i1 k1
          omega
        · have := m6 i i0 d k1
          omega
    · intro l l0 l1 hl2
      rw [eK l l0 (by omega)] at hl2
      obtain ⟨n1, n2, -⟩ := k6 l l0 (by omega) hl2
      rw [eV l l0 (by omega), (f3 (dV F0 b l) n1 (by omega)).2.2.2]
      exact m9 l l0 l1 hl2
  · intro j l q0 q1 q2 hj2 hl2 tj tl
    rw [eK j q0 (by omega)] at hj2
    rw [eK l (by omega) q2] at hl2
    rw [eI j q0 (by omega)] at tj
    rw [eI l (by omega) q2] at tl
    rw [eV j q0 (by omega), eV l (by omega) q2]
    have u := or j l q0 q1 q2 hj2 hl2 tj tl
    have v := leL j q0 (by omega)
    omega
  · intro j q0 q1 hk hjI hjJ _
    rw [eK j q0 q1] at hk
    rw [eI j q0 q1] at hjI
    rw [eJ j q0 q1] at hjJ
    obtain ⟨l1, l2, l3, l4⟩ := en j q0 q1 hk hjI hjJ (by omega)
    have kj := kw j q0 q1 hk
    rcases (show j = i ∨ j ≠ i by omega) with c | c
    · rw [c] at l1 l2 l3 l4 ⊢
      unfold dEnd
      rw [eV i i0 i1, eLi]
      rw [show dV F0 b i + dL F0 b i = e from hve] at l2 l3 l4
      have ee : dV F0 b i + (dL F0 b i - n) = e - n := by omega
      rw [ee]
      obtain ⟨s, s0, s1, s2, s3, s4, s5⟩ := sr (e - n - 1) (by omega) (by omega)
      obtain ⟨t1, t2, t3, t4⟩ := s5 (by omega) (by omega)
      have es : s = e - 1 := by
        have := t4 (by omega)
        omega
      rw [es] at s2 s3
      refine ⟨by omega, s2.trans l2, ?_, fun k q2 q3 q4 => ?_⟩
      · rw [s3 (by rw [s2]; exact nl (Or.inl l2))]
        exact l3
      · obtain ⟨s, s0, s1, s2, s3, s4, s5⟩ := sr k (by omega) (by omega)
        obtain ⟨t1, t2, t3, t4⟩ := s5 q2 q3
        rw [t3 q4]
        have v := l4 s t1 t2 (by rw [← s2]; exact q4)
        unfold adjn
        split
        · split <;> omega
        · omega
    · have sm : ∀ k, dV F0 b j ≤ k → k < dV F0 b j + dL F0 b j → iK F b k = iK F0 b k ∧ iN F b k = iN F0 b k := fun k q2 q3 => by
        have o : k < dV F0 b i ∨ e - n ≤ k := by
          rcases (show j < i ∨ i < j by omega) with d | d
          · have := or j i q0 d i1 hk k1 hjI hi
            omega
          · have := or i j i0 d q1 k1 hk hi hjI
            omega
        obtain ⟨s, s0, s1, s2, s3, s4, s5⟩ := sr k (by omega) (by omega)
        have u := s4 o
        rw [u.1] at s2
        exact ⟨s2, u.2⟩
      unfold dEnd
      rw [eV j q0 q1, eL j q0 q1 c]
      have u := sm (dV F0 b j + dL F0 b j - 1) (by omega) (by omega)
      refine ⟨l1, u.1.trans l2, u.2.trans l3, fun k q2 q3 q4 => ?_⟩
      have v := sm k q2 q3
      rw [v.1] at q4
      rw [v.2]
      exact l4 k q2 q3 q4
  · intro k q0 q1 hk
    obtain ⟨s, s0, s1, s2, s3, -⟩ := sr k q0 q1
    rw [s3 (nl (Or.inl hk))]
    exact i0' s s0 s1 (s2.symm.trans hk)
  · intro k q0 q1 hk
    obtain ⟨s, s0, s1, s2, s3, -⟩ := sr k q0 q1
    have u := i14 s s0 s1 (s2.symm.trans hk)
    rw [s3 (nl (Or.inr (Or.inl hk))), eK _ u.1 u.2.1]
    exact u
  · intro k q0 q1 hk
    obtain ⟨s, s0, s1, s2, s3, -⟩ := sr k q0 q1
    rw [s3 (nl (by omega))]
    exact i11 s s0 s1 (by rw [← s2]; exact hk)
end LN
