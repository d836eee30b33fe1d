/-! RULES AS DATA, 5: families of cells; what is found -/
section HFR
variable {ρ : Nat → Int} {K : sK}
theorem hgd_sv {d : Nat} {e : sE} : ∃ z, sv ρ e.2 = (hgd d e : Int) * z := by
  obtain ⟨-, h⟩ := hgd_dvd e.2 d
  exact sv_dvd fun t ht => Int.ofNat_dvd_left.mpr (h t ht)
theorem hgd_d {d : Nat} {e : sE} : (hgd d e : Int) ∣ (d : Int) := Int.natCast_dvd_natCast.mpr (hgd_dvd e.2 d).1
theorem hfr_ok (h : skok ρ K) {p q st cnt s2 c2 : sE} (h0 : 1 ≤ st.1) (h2 : 1 ≤ s2.1) (h3 : 1 ≤ c2.1) (hs : hfr K p q st cnt s2 c2 = true) (i j : Int) (i0 : 0 ≤ i) (i1 : i < se ρ cnt) (j0 : 0 ≤ j) (j1 : j < c2.1) : st.1 * i + s2.1 * j < se ρ p ∨ se ρ q < st.1 * i + s2.1 * j := by
  have m1 := hmulm (st := st.1) (i := 0) (j := i) (by omega) i0
  have m2 := hmulm (st := s2.1) (i := 0) (j := j) (by omega) j0
  have m3 := hmulm (st := st.1) (i := i) (j := se ρ cnt - 1) (by omega) (by omega)
  have m4 := hmulm (st := s2.1) (i := j) (j := c2.1 - 1) (by omega) (by omega)
  rw [Int.mul_zero] at m1 m2
  rw [Int.mul_sub, Int.mul_one] at m3
  unfold hfr at hs
  simp only [Bool.or_eq_true, Bool.and_eq_true] at hs
  rcases hs with ⟨hs, hd⟩ | hs | hs | ⟨⟨a0, a1, a2⟩, ⟨b1, b2⟩, c, d⟩
  · have e := sSm_ok h.1 hs
    rcases (show st.1 * i + s2.1 * j < se ρ p ∨ se ρ q < st.1 * i + s2.1 * j ∨ st.1 * i + s2.1 * j = se ρ p by omega) with r | r | r
    · exact Or.inl r
    · exact Or.inr r
    · exfalso
      have hz : siz (p.1 % (hgd (Nat.gcd st.1.natAbs s2.1.natAbs) p : Int)) = true := by
        obtain ⟨z, hz⟩ := hgd_sv (ρ := ρ) (d := Nat.gcd st.1.natAbs s2.1.natAbs) (e := p)
        have g0 := hgd_d (d := Nat.gcd st.1.natAbs s2.1.natAbs) (e := p)
        have g1 : (hgd (Nat.gcd st.1.natAbs s2.1.natAbs) p : Int) ∣ st.1 := Int.dvd_trans g0 (Int.ofNat_dvd_left.mpr (Nat.gcd_dvd_left _ _))
        have g2 : (hgd (Nat.gcd st.1.natAbs s2.1.natAbs) p : Int) ∣ s2.1 := Int.dvd_trans g0 (Int.ofNat_dvd_left.mpr (Nat.gcd_dvd_right _ _))
        have e2 : p.1 = st.1 * i + s2.1 * j - (hgd (Nat.gcd st.1.natAbs s2.1.natAbs) p : Int) * z := by
          unfold se at r
          omega
        have g3 : (hgd (Nat.gcd st.1.natAbs s2.1.natAbs) p : Int) ∣ p.1 := by
          rw [e2]
          exact Int.dvd_sub (Int.dvd_add (Int.dvd_mul_of_dvd_left g1) (Int.dvd_mul_of_dvd_left g2)) (Int.dvd_mul_right _ _)
        rw [Int.emod_eq_zero_of_dvd g3]
        rfl
      rw [hz] at hd
      cases hd
  · have := sge0_ok h hs
    rw [se_M1] at this
    exact Or.inr (by omega)
  · have := sge0_ok h hs
    rw [se_add, se_sub, se_mul, se_C] at this
    exact Or.inl (by omega)
  · have a1 := spos_ok a1
    have b1 := spos_ok b1
    have c := sSm_ok h.1 c
    rw [se_sub, se_sub] at c
    obtain ⟨z, hz⟩ := srem_ok (ρ := ρ) (B := K.1) (p := st.1.toNat) (e := p)
    obtain ⟨z2, hz2⟩ := srem_ok (ρ := ρ) (B := K.1) (p := st.1.toNat) (e := q)
    have l1 := slb_ok h.1 (srem K.1 st.1.toNat p)
    have l3 := slb_ok h.1 (srem K.1 st.1.toNat q)
    have u1 : se ρ (srem K.1 st.1.toNat p) < st.1 := by
      rcases a2 with a2 | a2
      · have l2 := sub_ok h.1 (srem K.1 st.1.toNat p)
        have := spos_ok a2
        omega
      · have := sge0_ok h a2
        rw [se_sub, se_C] at this
        omega
    have u2 : se ρ (srem K.1 st.1.toNat q) < st.1 := by
      rcases b2 with b2 | b2
      · have l2 := sub_ok h.1 (srem K.1 st.1.toNat q)
        have := spos_ok b2
        omega
      · have := sge0_ok h b2
        rw [se_sub, se_C] at this
        omega
    have e : (st.1.toNat : Int) = st.1 := Int.toNat_of_nonneg (by omega)
    have d := hfr1_ok h h2 d j j0 j1
    rw [e] at hz hz2
    generalize se ρ (srem K.1 st.1.toNat p) = x at *
    generalize se ρ (srem K.1 st.1.toNat q) = y at *
    -- the place is st * i + s2 * j; p is st * z + x, q is st * z + y
    have a0 := spos_ok a0
    rcases (show i < z ∨ i = z ∨ z < i by omega) with r | r | r
    · have := hmulm (st := st.1) (i := i) (j := z - 1) (by omega) (by omega)
      rw [Int.mul_sub, Int.mul_one] at this
      exact Or.inl (by omega)
    · rw [r]
      rw [r] at m1
      omega
    · have := hmulm (st := st.1) (i := z + 1) (j := i) (by omega) (by omega)
      rw [Int.mul_add, Int.mul_one] at this
      exact Or.inr (by omega)
theorem hfree_ok (h : skok ρ K) {env : List sE} {lo hi : sE} : ∀ l : List sE, hfree K env lo hi l = true → hfrS (env.map (se ρ)) (se ρ lo) (se ρ hi) l
  | [], _ => trivial
  | [_], hs => by cases hs
  | [_, _], hs => by cases hs
  | [_, _, _], hs => by cases hs
  | [_, _, _, _], hs => by cases hs
  | b :: st :: cnt :: s2 :: c2 :: l, hs => by
    unfold hfree at hs
    obtain ⟨h1, hs⟩ : (spos (st.1 - 1) && (spos (s2.1 - 1) && spos (c2.1 - 1))) = true ∧ cond (hfr K (ssub lo (tsb env b)) (ssub hi (tsb env b)) st (tsb env cnt) s2 c2) (hfree K env lo hi l) false = true := by
      cases hq : (spos (st.1 - 1) && (spos (s2.1 - 1) && spos (c2.1 - 1))) with
      | true => rw [hq] at hs; exact ⟨rfl, hs⟩
      | false => rw [hq] at hs; cases hs
    cases hq : hfr K (ssub lo (tsb env b)) (ssub hi (tsb env b)) st (tsb env cnt) s2 c2 with
    | false => rw [hq] at hs; cases hs
    | true =>
      rw [hq, cond_true] at hs
      simp only [Bool.and_eq_true] at h1
      have h2 := spos_ok h1.1
      have h3 := spos_ok h1.2.1
      have h4 := spos_ok h1.2.2
      refine ⟨fun i j i0 i1 j0 j1 => ?_, hfree_ok h l hs⟩
      have := hfr_ok h (by omega) (by omega) (by omega) hq i j i0 (by rw [hev]; exact i1) j0 j1
      rw [se_sub, se_sub, hev] at this
      omega
end HFR
/-! what is found -/
section HRN
variable {Qs : Nat → List Int → zM → Prop} {ρ : Nat → Int} {ls : zL} {st : List Value} {M : zM} {A : sA}
theorem hsv0 {z : Int} {v : Value} {t q : Nat} (h : sValE z v t q) (ht : Nat.beq t 0 = true) : ∃ x : Int32, v = .int x ∧ x.toInt = z := by
  have := Nat.eq_of_beq_eq_true ht
  subst this
  exact h
theorem hcellF (h : sR Qs ρ A ls st M) {r : Nat} {j : Nat} {o i : sE} {x : sV} (hf : (1, r, j, o, i, x) ∈ A.2.2.1) (ho : se ρ o = 474) (hx : Nat.beq x.1 0 = true) : hR M r (se ρ i) = se ρ x.2.2 ∧ 0 ≤ se ρ i ∧ se ρ i < srln r ∧ swE A.1.1.length i ∧ swE A.1.1.length x.2.2 := by
  have h1 := h.2.2.1 _ hf
  have w := h.2.2.2.2.2.2.2.2.2.1 _ hf
  have h1 : sFacE (se ρ o) (se ρ i) (se ρ x.2.2) M 1 r j x.1 x.2.1 := h1
  have e := cvM_fac h1 (Or.inl (Nat.eq_of_beq_eq_true hx)) (Or.inr rfl)
  obtain ⟨k, q, -, k2, -, k4, -⟩ := h1
  refine ⟨?_, by omega, by omega, w.2.1, w.2.2⟩
  rw [← e, ho]
  exact cvM_row _ _ _ _ _ _
theorem hfldF (h : sR Qs ρ A ls st M) {j : Nat} {o i : sE} {x : sV} (hf : (0, 12, j, o, i, x) ∈ A.2.2.1) (ho : se ρ o = 474) (hx : Nat.beq x.1 0 = true) : hG M j = se ρ x.2.2 ∧ swE A.1.1.length x.2.2 := by
  have h1 := h.2.2.1 _ hf
  have w := h.2.2.2.2.2.2.2.2.2.1 _ hf
  have h1 : sFacE (se ρ o) (se ρ i) (se ρ x.2.2) M 0 12 j x.1 x.2.1 := h1
  have e := cvM_fac h1 (Or.inl (Nat.eq_of_beq_eq_true hx)) (Or.inl rfl)
  refine ⟨?_, w.2.2⟩
  rw [← e, ho]
  exact cvM_fld _ _ _ _ _ _
theorem hC474 : se ρ (sC 474) = 474 := se_C _
theorem hwsb {n : Nat} {env : List sE} (w : ∀ e ∈ env, swE n e) (x : sE) : swE n (tsb env x) := swE_sb w x
theorem hin_ok {v : Int} : ∀ {l : List sE}, (l.any fun e => siz (v - e.1)) = true → hin v l
  | [], h => by cases h
  | [c], h => by
    have h : (siz (v - c.1) || false) = true := h
    rw [Bool.or_false] at h
    have := siz_0 h
    show v = c.1
    omega
  | c :: d :: l, h => by
    rw [List.any_cons, Bool.or_eq_true] at h
    rcases h with h | h
    · exact Or.inl (by have := siz_0 h; omega)
    · exact Or.inr (hin_ok h)
theorem hrun_ok (h : sR Qs ρ A ls st M) {q : Nat → List Int → Prop} (hq : ∀ x ∈ A.2.2.2.1, q x.1 (x.2.map (se ρ))) {der : sQ → Bool} (hd : ∀ x : sQ, der x = true → q x.1 (x.2.map (se ρ))) : ∀ (l : List hP) (env env' : List sE), env' ∈ hrun der A l env → (∀ C, hV q (hR M) (hG M) C l (env.map (se ρ)) → C (env'.map (se ρ))) ∧ ((∀ e ∈ env, swE A.1.1.length e) → ∀ e ∈ env', swE A.1.1.length e)
  | [], env, env', hm => by
    have e := List.mem_singleton.mp hm
    rw [e]
    exact ⟨fun C hC => hC, fun w => w⟩
  | (0, a, b, es) :: l, env, env', hm => by
    obtain ⟨c, m⟩ := hcnd (b := sge0 A.1 (tsb env (hx (0, a, b, es) 0))) hm
    obtain ⟨i1, i2⟩ := hrun_ok h hq hd l _ _ m
    have c := sge0_ok h.1 c
    rw [hev] at c
    exact ⟨fun C hC => i1 C (hC c), i2⟩
  | (1, a, b, es) :: l, env, env', hm => by
    obtain ⟨c, m⟩ := hcnd (b := sDf A.1 (tsb env (hx (1, a, b, es) 0)) (tsb env (hx (1, a, b, es) 1))) hm
    obtain ⟨i1, i2⟩ := hrun_ok h hq hd l _ _ m
    have c := sDf_ok h.1 c
    rw [hev, hev] at c
    exact ⟨fun C hC => i1 C (hC c), i2⟩
  | (2, a, b, es) :: l, env, env', hm => by
    have hm : env' ∈ (match sffR A.1.1 a (sC 474) (tsb env (hx (2, a, b, es) 0)) A.2.2.1 with
      | some x => cond (Nat.beq x.1 0) (hrun der A l (env ++ [x.2.2])) []
      | none => []) := hm
    split at hm
    · rename_i x hx0
      obtain ⟨c, m⟩ := hcnd hm
      obtain ⟨j', o', i', m1, m2, m3⟩ := sffR_ok hx0
      have e1 := (sSm_ok h.1.1 m2).trans hC474
      have e2 := sSm_ok h.1.1 m3
      obtain ⟨k1, k2, k3, -, k5⟩ := hcellF h m1 e1 c
      obtain ⟨i1, i2⟩ := hrun_ok h hq hd l _ _ m
      rw [e2, hev] at k1 k2 k3
      refine ⟨fun C hC => i1 C ?_, fun w => i2 (hwfa w (hwf1 k5))⟩
      rw [List.map_append]
      exact hC _ k2 k3 k1
    · cases hm
  | (3, a, b, es) :: l, env, env', hm => by
    have hm : env' ∈ (match sffF A.1.1 12 a (sC 474) A.2.2.1 with
      | some x => cond (Nat.beq x.1 0) (hrun der A l (env ++ [x.2.2])) []
      | none => []) := hm
    split at hm
    · rename_i x hx0
      obtain ⟨c, m⟩ := hcnd hm
      obtain ⟨o', i', m1, m2⟩ := sffF_ok hx0
      have e1 := (sSm_ok h.1.1 m2).trans hC474
      obtain ⟨k1, k5⟩ := hfldF h m1 e1 c
      obtain ⟨i1, i2⟩ := hrun_ok h hq hd l _ _ m
      refine ⟨fun C hC => i1 C ?_, fun w => i2 (hwfa w (hwf1 k5))⟩
      rw [List.map_append]
      exact hC _ k1
    · cases hm
  | (4, a, b, es) :: l, env, env', hm => by
    obtain ⟨x, hx1, hm⟩ := List.mem_flatMap.mp hm
    obtain ⟨c, m⟩ := hcnd (b := Nat.beq x.1 a) hm
    split at m
    · rename_i e he
      have hw := h.2.2.2.2.2.2.2.2.2.2.1 x hx1
      obtain ⟨j1, j2⟩ := hmat_ok h.1 _ _ _ _ he hw
      obtain ⟨i1, i2⟩ := hrun_ok h hq hd l _ _ m
      have hqx := hq x hx1
      rw [Nat.eq_of_beq_eq_true c] at hqx
      exact ⟨fun C hC => i1 C (j1 _ (hC _ hqx)), fun w => i2 (j2 w)⟩
    · cases m
  | (5, a, b, es) :: l, env, env', hm => by
    obtain ⟨c, m⟩ := hcnd (b := der (a, es.map (tsb env))) hm
    obtain ⟨i1, i2⟩ := hrun_ok h hq hd l _ _ m
    have c := hd _ c
    rw [List.map_map, show se ρ ∘ tsb env = se (lget (env.map (se ρ))) from funext (hev env)] at c
    exact ⟨fun C hC => i1 C (hC c), i2⟩
  | (6, a, b, es) :: l, env, env', hm => by
    obtain ⟨g, hg, hm⟩ := List.mem_flatMap.mp hm
    obtain ⟨c, m⟩ := hcnd (b := Nat.beq g.1 1 && (Nat.beq g.2.1 a && (Nat.beq g.2.2.2.2.2.1 0 && sSm A.1.1 g.2.2.2.1 (sC 474)))) hm
    simp only [Bool.and_eq_true] at c
    split at m
    · rename_i x hx0
      obtain ⟨g1, g2, g3, g4, g5, g6⟩ := g
      have c1 : g1 = 1 := Nat.eq_of_beq_eq_true c.1
      have c2 : g2 = a := Nat.eq_of_beq_eq_true c.2.1
      rw [c1, c2] at hg
      have e1 := (sSm_ok h.1.1 c.2.2.2).trans hC474
      obtain ⟨k1, k2, k3, k4, k5⟩ := hcellF h hg e1 c.2.2.1
      obtain ⟨t1, t2⟩ := tdv_ok (ρ := ρ) hx0
      rw [se_sub, hev] at t1
      obtain ⟨i1, i2⟩ := hrun_ok h hq hd l _ _ m
      have e : se (lget (env.map (se ρ))) (hx (6, a, b, es) 0) + (b : Int) * se ρ x = se ρ g5 := by
        have t1 : (b : Int) * se ρ x = se ρ g5 - se (lget (env.map (se ρ))) (hx (6, a, b, es) 0) := t1
        omega
      refine ⟨fun C hC => i1 C ?_, fun w => i2 (hwfa w (hwf2 (t2 A.1.1.length (swE_sub k4 (hwsb w _))) k5))⟩
      rw [List.map_append]
      have hC : ∀ x v : Int, 0 ≤ se (lget (env.map (se ρ))) (hx (6, a, b, es) 0) + (b : Int) * x → se (lget (env.map (se ρ))) (hx (6, a, b, es) 0) + (b : Int) * x < srln a → hR M a (se (lget (env.map (se ρ))) (hx (6, a, b, es) 0) + (b : Int) * x) = v → hV q (hR M) (hG M) C l (env.map (se ρ) ++ [x, v]) := hC
      exact hC (se ρ x) (se ρ g6.2.2) (by rw [e]; exact k2) (by rw [e]; exact k3) (by rw [e]; exact k1)
    · cases m
  | (7, a, b, es) :: l, env, env', hm => by
    have hm : env' ∈ (match tdv (a : Int) (tsb env (hx (7, a, b, es) 0)) with
      | some x => hrun der A l (env ++ [x])
      | none => []) := hm
    split at hm
    · rename_i x hx0
      obtain ⟨t1, t2⟩ := tdv_ok (ρ := ρ) hx0
      rw [hev] at t1
      obtain ⟨i1, i2⟩ := hrun_ok h hq hd l _ _ hm
      refine ⟨fun C hC => i1 C ?_, fun w => i2 (hwfa w (hwf1 (t2 _ (hwsb w _))))⟩
      rw [List.map_append]
      exact hC _ t1
    · cases hm
  | (8, a, b, es) :: l, env, env', hm => by
    have hm : env' ∈ (match hdr A.1 a (tsb env (hx (8, a, b, es) 0)) with
      | some x => hrun der A l (env ++ [x.1, x.2])
      | none => []) := hm
    split at hm
    · rename_i x hx0
      obtain ⟨t1, t2, t3, t4⟩ := hdr_ok h.1 hx0
      rw [hev] at t1
      obtain ⟨i1, i2⟩ := hrun_ok h hq hd l _ _ hm
      refine ⟨fun C hC => i1 C ?_, fun w => i2 (hwfa w (hwf2 (t4 _ (hwsb w _)).1 (t4 _ (hwsb w _)).2))⟩
      rw [List.map_append]
      exact hC _ _ t1 t2 t3
    · cases hm
  | (9, a, b, es) :: l, env, env', hm => by
    obtain ⟨d, hd1, hm⟩ := List.mem_flatMap.mp hm
    obtain ⟨c, m⟩ := hcnd (b := hop a d.1) hm
    split at m
    · rename_i e he
      have hw := h.2.2.2.2.2.2.2.2.1 d hd1
      obtain ⟨j1, j2⟩ := hmat_ok h.1 _ _ _ _ he (hwf2 hw.1 hw.2.1)
      obtain ⟨i1, i2⟩ := hrun_ok h hq hd l _ _ m
      have hdok := h.2.1 d hd1
      have ho : hopS a (se ρ d.2.1) (se ρ d.2.2.1) (ρ d.2.2.2) := by
        unfold hop at c
        unfold hopS
        split at c
        · rename_i i hi
          rw [hi]
          have e1 : d.1 = i := of_decide_eq_true c
          show sDokE (se ρ d.2.1) (se ρ d.2.2.1) (ρ d.2.2.2) i
          rw [← e1]
          exact hdok
        · cases c
      refine ⟨fun C hC => i1 C ?_, fun w => i2 (hwfa (j2 w) (hwf1 (swE_S hw.2.2)))⟩
      rw [List.map_append, List.map_singleton, se_S]
      exact j1 (fun e' => hV q (hR M) (hG M) C l (e' ++ [ρ d.2.2.2])) (hC _ _ _ ho)
    · cases m
  | (10, a, b, es) :: l, env, env', hm => by
    have hm : env' ∈ (match scon A.1.1 (tsb env (hx (10, a, b, es) 0)) with
      | some c => cond (es.tail.any fun e => siz (c - e.1)) (hrun der A l env) []
      | none => []) := hm
    split at hm
    · rename_i c hc
      obtain ⟨c1, m⟩ := hcnd hm
      obtain ⟨i1, i2⟩ := hrun_ok h hq hd l _ _ m
      have e := scon_ok h.1.1 hc
      rw [hev] at e
      have c1 := hin_ok c1
      rw [← e] at c1
      exact ⟨fun C hC => i1 C (hC c1), i2⟩
    · cases hm
  | (11, a, b, es) :: l, env, env', hm => by
    obtain ⟨c, m⟩ := hcnd (b := hfree A.1 env (tsb env (hx (11, a, b, es) 0)) (tsb env (hx (11, a, b, es) 1)) (es.drop 2)) hm
    obtain ⟨i1, i2⟩ := hrun_ok h hq hd l _ _ m
    have c := hfree_ok h.1 _ c
    rw [hev, hev] at c
    exact ⟨fun C hC => i1 C (hC c), i2⟩
  | (12, a, b, es) :: l, env, env', hm => by
    obtain ⟨c, m⟩ := hcnd (b := (spos (slb A.1.1 (tsb env (hx (12, a, b, es) 0))) && spos (slb A.1.1 (tsb env (hx (12, a, b, es) 1)))) && spos (9223372036854775807 - sub_ A.1.1 (tsb env (hx (12, a, b, es) 0)) * sub_ A.1.1 (tsb env (hx (12, a, b, es) 1)))) hm
    obtain ⟨i1, i2⟩ := hrun_ok h hq hd l _ _ m
    simp only [Bool.and_eq_true] at c
    have c1 := spos_ok c.1.1
    have c2 := spos_ok c.1.2
    have c3 := spos_ok c.2
    have l1 := slb_ok h.1.1 (tsb env (hx (12, a, b, es) 0))
    have l2 := slb_ok h.1.1 (tsb env (hx (12, a, b, es) 1))
    have u1 := sub_ok h.1.1 (tsb env (hx (12, a, b, es) 0))
    have u2 := sub_ok h.1.1 (tsb env (hx (12, a, b, es) 1))
    have e1 := hev (ρ := ρ) env (hx (12, a, b, es) 0)
    have e2 := hev (ρ := ρ) env (hx (12, a, b, es) 1)
    have m1 : se ρ (tsb env (hx (12, a, b, es) 0)) * se ρ (tsb env (hx (12, a, b, es) 1)) ≤ sub_ A.1.1 (tsb env (hx (12, a, b, es) 0)) * sub_ A.1.1 (tsb env (hx (12, a, b, es) 1)) := Int.mul_le_mul u1 u2 (by omega) (by omega)
    rw [e1, e2] at m1
    exact ⟨fun C hC => i1 C (hC (by omega) (by omega) (by omega)), i2⟩
  | (13, a, b, es) :: l, env, env', hm => by
    obtain ⟨c, m⟩ := hcnd (b := heq A.1 (tsb env (hx (13, a, b, es) 0)) (tsb env (hx (13, a, b, es) 1))) hm
    obtain ⟨i1, i2⟩ := hrun_ok h hq hd l _ _ m
    have c := heq_ok h.1 c
    rw [hev, hev] at c
    exact ⟨fun C hC => i1 C (hC c), i2⟩
  | (n + 14, a, b, es) :: l, env, env', hm => by cases hm
end HRN
