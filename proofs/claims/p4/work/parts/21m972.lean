/-! THE REFERENCE'S PREDICATES, 7: pairs that go, stores -/
section DS
variable {F F' : Int → Int} {b many ic under pc x y h : Int}
theorem u1of (h : dD F b many ic under pc x y) (hp : 1 ≤ pc) : 1 ≤ under := by
  obtain ⟨a, ka, kb, k1, k6, or, en, i0, i14, i11, u0, -⟩ := h
  rcases (show under = 0 ∨ 1 ≤ under by omega) with c | c
  · have := u0 c
    omega
  · exact c
/-- a pair that keeps nothing -/
theorem dm_drop0 {y' : Int} (h : dD F b many ic under pc x y) (hp : 1 ≤ pc) (hk : pK F b (pc - 1) = 2 ∨ pK F b (pc - 1) = 4) (hy : y' = y ∨ y' = -1 ∨ y' = pP F b (pc - 1)) : dD F b many ic under (pc - 1) x y' :=
  dm_drop h hp (fun st _ _ _ _ k _ _ _ _ g => dLead_drop g hp (fun _ w => by omega) fun _ w => by omega) hy
/-- what it keeps is x -/
theorem dm_dropx (h : dD F b many ic under pc x y) (hp : 1 ≤ pc) (hk : pK F b (pc - 1) ≠ 3) (hx : x = pP F b (pc - 1)) : dD F b many ic under (pc - 1) x y :=
  dm_drop h hp (fun st _ _ _ _ k _ _ c _ g => dLead_drop g hp (fun w _ => by omega) fun _ w => absurd w hk) (Or.inl rfl)
/-- what it keeps leads in by now -/
theorem dm_dropr (h : dD F b many ic under pc x y) (hp : 1 ≤ pc) (hk : pK F b (pc - 1) ≠ 3) (hn : dRs F b ic (pc - 1) (iN F b (pP F b (pc - 1)))) (hz : x = -1 ∨ (x = ic - 1 → iK F b x ≠ 0)) : dD F b many ic under (pc - 1) x y :=
  dm_drop h hp (fun st s0 pr hs _ k kst kc _ _ g => dLead_drop g hp (fun w _ => by
    rw [show dZb F b ic x = ic from dZb_no (by omega), ← w]
    exact dRs_in hn hs fun p p0 p1 => pr p p0 (by omega)) fun _ w => absurd w hk) (Or.inl rfl)
/-- a loop: nothing leaves it any more -/
theorem dm_drop3 (h : dD F b many ic under pc x y) (hp : 1 ≤ pc) (hk : pK F b (pc - 1) = 3) (h17 : q17 b (pP F b (pc - 1)) ic F) (hn : iK F b (pP F b (pc - 1)) ≤ 4 ∨ (dRs F b ic (pc - 1) (iN F b (pP F b (pc - 1))) ∧ (x = -1 ∨ (x = ic - 1 → iK F b x ≠ 0)))) : dD F b many ic under (pc - 1) x y :=
  dm_drop h hp (fun st s0 pr hs _ k kst kc _ _ g => dLead_drop g hp (fun w c => by
    rcases hn with e | ⟨e, hz⟩
    · rw [w] at e
      omega
    · rw [show dZb F b ic x = ic from dZb_no (by omega), ← w]
      exact dRs_in e hs fun p p0 p1 => pr p p0 (by omega)) fun c1 _ c3 => h17 k c3 kc c1) (Or.inl rfl)
theorem dm_pushA (h : dD F b many ic under pc x y) (hu : 1 ≤ under) (hp : pc ≤ 31) (hk : pK F b pc = 2 ∨ pK F b pc = 4) (hl : pP F b pc = ic ∨ (pP F b pc = y ∧ 0 ≤ y)) : dD F b many ic under (pc + 1) x y := by
  refine dm_push h hu hp ?_
  obtain ⟨a, ka, kb, k1, k6, or, en, i0, i14, i11, u0, u1⟩ := h
  obtain ⟨⟨o1, o2, o3, o4, o5, o6, o7, o8⟩, ab, bl, it, df, u2, pr, ld, xs, ys⟩ := u1 hu
  exact ⟨by omega, by omega, fun c => by omega, fun c => by omega, fun c => by omega, fun c => by omega⟩
theorem dm_pushB (h : dD F b many ic under pc x y) (hu : 1 ≤ under) (hp : pc ≤ 31) (hl : pP F b pc = x) (hx : 0 ≤ x) (hk : (pK F b pc = 1 ∧ (iK F b x = 2 ∨ iK F b x = 3)) ∨ (pK F b pc = 3 ∧ (iK F b x = 4 ∨ iK F b x = 5)) ∨ (pK F b pc = 5 ∧ iK F b x = 9) ∨ (pK F b pc = 6 ∧ iK F b x = 2)) : dD F b many ic under (pc + 1) x y := by
  refine dm_push h hu hp ?_
  obtain ⟨a, ka, kb, k1, k6, or, en, i0, i14, i11, u0, u1⟩ := h
  obtain ⟨⟨o1, o2, o3, o4, o5, o6, o7, o8⟩, ab, bl, it, df, u2, pr, ld, xs, ys⟩ := u1 hu
  unfold dPair
  rw [hl]
  exact ⟨by omega, by omega, fun c => ⟨by omega, by omega⟩, fun c => ⟨by omega, by omega⟩, fun c => ⟨by omega, by omega⟩, fun c => ⟨by omega, by omega⟩⟩
/-- what lies ahead of the words does not count -/
theorem q12_hd (hq : q12 b many ic under pc x y h F) (e : ∀ a, b + 8292 ≤ a → F' a = F a) : q12 b many ic under pc x y h F' := by
  obtain ⟨z, hD, hh⟩ := hq
  refine ⟨z, dD_fr (b' := b) hD (fun i q0 _ => e _ (by omega)) (fun i q0 _ _ => e _ (by omega)) (fun i q0 _ _ => ⟨Or.inl (e _ (by omega)), e _ (by omega), Or.inl (e _ (by omega))⟩) (fun k q0 _ => ⟨e _ (by omega), Or.inl (e _ (by omega))⟩) (fun p q0 _ => ⟨e _ (by omega), e _ (by omega)⟩) (fun j q0 _ => ⟨e _ (by omega), e _ (by omega), e _ (by omega), e _ (by omega)⟩) (fun i _ _ _ v0 _ => ⟨e _ (by omega), e _ (by omega)⟩), fun c1 c2 => ?_⟩
  have t := lj hD (j := 0) (by omega) (by omega)
  have e1 : fT F' b 0 = fT F b 0 := e _ (by omega)
  rw [e1, show dH F' b (fT F b 0) = dH F b (fT F b 0) from e _ (by omega)]
  exact hh c1 c2
theorem hup58 {R : Nat → Int → Int} {r : Nat} {a v i : Int} : hupR R r a v r i = if i = a then v else R r i := by
  unfold hupR
  by_cases c : i = a
  · rw [if_pos ⟨rfl, c⟩, if_pos c]
  · rw [if_neg (fun w => c w.2), if_neg c]
theorem hup_n {R : Nat → Int → Int} {r : Nat} {a v i : Int} (h : i ≠ a) : hupR R r a v r i = R r i := by rw [hup58, if_neg h]
theorem hup_y {R : Nat → Int → Int} {r : Nat} {a v i : Int} (h : i = a) : hupR R r a v r i = v := by rw [hup58, if_pos h]
/-- a store into the words: (what is asked of it) -/
theorem q12_w {R : Nat → Int → Int} {i o v h' : Int} (hq : q12 b many ic under pc x y h (R 58)) (i0 : 0 ≤ i) (i1 : i < many) (ho : (o = 3 ∧ dK (R 58) b i ≠ 1 ∧ dK (R 58) b i ≠ 6 ∧ h' = h) ∨ (o = 14 ∧ v = 1 ∧ h' = h) ∨ (o = 7 ∧ (h' = 0 ∨ (h' = h ∧ 2 ≤ under ∧ i = fT (R 58) b (under - 1)))) ∨ (o = 4 ∧ h' = h ∧ 1 ≤ under ∧ i = fT (R 58) b (under - 1) ∧ 0 ≤ v ∧ dV (R 58) b i + v ≤ ic)) : q12 b many ic under pc x y h' (hupR R 58 (b + 8292 + o + 40 * i) v 58) := by
  obtain ⟨z, hD, hh⟩ := hq
  have hD0 := hD
  obtain ⟨⟨a1, a2, a3, a4, a5, a6, a7, a8, a9⟩, -⟩ := hD0
  have n : ∀ a : Int, a ≠ b + 8292 + o + 40 * i → hupR R 58 (b + 8292 + o + 40 * i) v 58 a = R 58 a := fun a ha => hup_n ha
  refine ⟨z, dD_fr (b' := b) hD (fun j q0 q1 => n _ (by omega)) (fun j q0 q1 hk => ?_) (fun j q0 q1 hk => ⟨?_, n _ (by omega), ?_⟩) (fun k q0 q1 => ⟨n _ (by omega), Or.inl (n _ (by omega))⟩) (fun p q0 q1 => ⟨n _ (by omega), n _ (by omega)⟩) (fun j q0 q1 => ⟨n _ (by omega), n _ (by omega), n _ (by omega), n _ (by omega)⟩) (fun j q0 q1 _ v0 v1 => ⟨n _ (by omega), n _ (by omega)⟩), fun c1 c2 => ?_⟩
  · refine n _ fun w => ?_
    have e : j = i := by omega
    rw [e] at hk
    omega
  · by_cases c : j = i ∧ o = 4
    · refine Or.inr ⟨by omega, by omega, ?_, ?_⟩
      · rw [show dL (hupR R 58 (b + 8292 + o + 40 * i) v 58) b j = v from hup_y (by omega)]
        omega
      · rw [show dL (hupR R 58 (b + 8292 + o + 40 * i) v 58) b j = v from hup_y (by omega), c.1]
        omega
    · exact Or.inl (n _ (by omega))
  · by_cases c : j = i ∧ o = 14
    · refine Or.inr ?_
      rw [show dJ (hupR R 58 (b + 8292 + o + 40 * i) v 58) b j = v from hup_y (by omega)]
      omega
    · exact Or.inl (n _ (by omega))
  · have t := lj hD (j := 0) (by omega) (by omega)
    rw [show fT (hupR R 58 (b + 8292 + o + 40 * i) v 58) b 0 = fT (R 58) b 0 from n _ (by omega)]
    rw [show dH (hupR R 58 (b + 8292 + o + 40 * i) v 58) b (fT (R 58) b 0) = dH (R 58) b (fT (R 58) b 0) from n _ ?_]
    · exact hh (by omega) c2
    · intro w
      have e : fT (R 58) b 0 = i ∧ o = 7 := by omega
      obtain ⟨-, -, -, -, -, -, t2⟩ := lj hD (j := under - 1) (by omega) (by omega)
      obtain ⟨-, -, -, -, -, -, -, -, -, -, -, u1⟩ := hD
      obtain ⟨⟨-, -, -, o4, -⟩, -⟩ := u1 c2
      have hu : 2 ≤ under ∧ i = fT (R 58) b (under - 1) := by omega
      have := (t2 (by omega)).2.2
      rw [← hu.2, ← e.1] at this
      omega
/-- a store into an item's number -/
theorem q12_n {R : Nat → Int → Int} {k v : Int} (hq : q12 b many ic under pc x y h (R 58)) (k0 : 0 ≤ k) (k1 : k < ic) (hk : iK (R 58) b k = 1 ∨ (ild (iK (R 58) b k) ∧ 1 ≤ under ∧ fS (R 58) b 0 ≤ k ∧ v = ic ∧ (under = 1 → x = ic - 1 → iK (R 58) b x ≠ 0))) : q12 b many ic under pc x y h (hupR R 58 (b + 22693 + 2 * k) v 58) := by
  obtain ⟨z, hD, hh⟩ := hq
  have hD0 := hD
  obtain ⟨⟨a1, a2, a3, a4, a5, a6, a7, a8, a9⟩, -⟩ := hD0
  have n : ∀ a : Int, a ≠ b + 22693 + 2 * k → hupR R 58 (b + 22693 + 2 * k) v 58 a = R 58 a := fun a ha => hup_n ha
  refine ⟨z, dD_fr (b' := b) hD (fun j q0 q1 => n _ (by omega)) (fun j q0 q1 _ => n _ (by omega)) (fun j q0 q1 _ => ⟨Or.inl (n _ (by omega)), n _ (by omega), Or.inl (n _ (by omega))⟩) (fun j q0 q1 => ⟨n _ (by omega), ?_⟩) (fun p q0 q1 => ⟨n _ (by omega), n _ (by omega)⟩) (fun j q0 q1 => ⟨n _ (by omega), n _ (by omega), n _ (by omega), n _ (by omega)⟩) (fun j q0 q1 _ v0 v1 => ⟨n _ (by omega), n _ (by omega)⟩), fun c1 c2 => ?_⟩
  · by_cases c : j = k
    · rw [c]
      rcases hk with hk | ⟨h1, h2, h3, h4, h5⟩
      · exact Or.inr (Or.inl hk)
      · exact Or.inr (Or.inr ⟨h1, h2, h3, by rw [show iN (hupR R 58 (b + 22693 + 2 * k) v 58) b k = v from hup_y rfl]; exact h4, h5⟩)
    · exact Or.inl (n _ (by omega))
  · have t := lj hD (j := 0) (by omega) (by omega)
    rw [show fT (hupR R 58 (b + 22693 + 2 * k) v 58) b 0 = fT (R 58) b 0 from n _ (by omega), show dH (hupR R 58 (b + 22693 + 2 * k) v 58) b (fT (R 58) b 0) = dH (R 58) b (fT (R 58) b 0) from n _ (by omega)]
    exact hh c1 c2
theorem pairlead (hD : dD F b many ic under pc x y) (hp : 1 ≤ pc) (hk : pK F b (pc - 1) = 1 ∨ pK F b (pc - 1) = 5 ∨ pK F b (pc - 1) = 6 ∨ (pK F b (pc - 1) = 3 ∧ iK F b (pP F b (pc - 1)) = 5)) : ild (iK F b (pP F b (pc - 1))) ∧ 1 ≤ under ∧ fS F b 0 ≤ pP F b (pc - 1) := by
  have hu := u1of hD hp
  obtain ⟨a, ka, kb, k1, k6, or, en, i0, i14, i11, u0, u1⟩ := hD
  obtain ⟨o, ab, bl, it, df, u2, pr, -⟩ := u1 hu
  obtain ⟨p1, p2, p3, p4, p5, p6⟩ := pr (pc - 1) (by omega) (by omega)
  refine ⟨?_, hu, p1⟩
  unfold ild
  rcases hk with c | c | c | c
  · have := (p3 c).2
    omega
  · have := (p5 c).2
    omega
  · have := (p6 c).2
    omega
  · omega
/-- a store into the row of a marker that is none -/
theorem q12_m {R : Nat → Int → Int} {s o v k : Int} (hq : q12 b many ic under pc x y h (R 58)) (hs : q14 b s k (R 58)) (hk : many ≤ k) (s0 : 0 ≤ s) (o0 : 0 ≤ o) (o1 : o < 16) (s1 : s ≤ 31) : q12 b many ic under pc x y h (hupR R 58 (b + 39112 + o + 16 * s) v 58) := by
  obtain ⟨z, hD, hh⟩ := hq
  have hD0 := hD
  obtain ⟨⟨a1, a2, a3, a4, a5, a6, a7, a8, a9⟩, -⟩ := hD0
  have n : ∀ a : Int, a ≠ b + 39112 + o + 16 * s → hupR R 58 (b + 39112 + o + 16 * s) v 58 a = R 58 a := fun a ha => hup_n ha
  refine ⟨z, dD_fr (b' := b) hD (fun j q0 q1 => n _ (by omega)) (fun j q0 q1 _ => n _ (by omega)) (fun j q0 q1 _ => ⟨Or.inl (n _ (by omega)), n _ (by omega), Or.inl (n _ (by omega))⟩) (fun j q0 q1 => ⟨n _ (by omega), Or.inl (n _ (by omega))⟩) (fun p q0 q1 => ⟨n _ (by omega), n _ (by omega)⟩) (fun j q0 q1 => ⟨n _ (by omega), n _ (by omega), n _ (by omega), n _ (by omega)⟩) (fun j q0 q1 hk6 v0 v1 => ?_), fun c1 c2 => ?_⟩
  · have ne : dV (R 58) b j ≠ s := fun w => hs j q0 (by omega) ⟨hk6, w⟩
    exact ⟨n _ (by omega), n _ (by omega)⟩
  · have t := lj hD (j := 0) (by omega) (by omega)
    rw [show fT (hupR R 58 (b + 39112 + o + 16 * s) v 58) b 0 = fT (R 58) b 0 from n _ (by omega), show dH (hupR R 58 (b + 39112 + o + 16 * s) v 58) b (fT (R 58) b 0) = dH (R 58) b (fT (R 58) b 0) from n _ (by omega)]
    exact hh c1 c2
end DS
