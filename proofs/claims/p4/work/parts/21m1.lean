/-! RULES AS DATA, 4: what premises say; what is found holds -/
def hR (M : zM) (r : Nat) (i : Int) : Int := cvM M 1 r 0 474 i
def hG (M : zM) (j : Nat) : Int := cvM M 0 12 j 474 0
def hmt (C : List Int → Prop) : List sE → List Int → List Int → Prop
  | [], [], e => C e
  | p :: ps, a :: as, e => match hisn p e.length with
    | true => hmt C ps as (e ++ [a])
    | false => se (lget e) p = a → hmt C ps as e
  | _, _, _ => True
def hin (v : Int) : List sE → Prop
  | [] => False
  | [c] => v = c.1
  | c :: l => v = c.1 ∨ hin v l
def hfrS (e : List Int) (lo hi : Int) : List sE → Prop
  | b :: st :: cnt :: s2 :: c2 :: l => (∀ i j : Int, 0 ≤ i → i < se (lget e) cnt → 0 ≤ j → j < c2.1 → se (lget e) b + st.1 * i + s2.1 * j < lo ∨ hi < se (lget e) b + st.1 * i + s2.1 * j) ∧ hfrS e lo hi l
  | _ => True
def hopS (n : Nat) (a b z : Int) : Prop := match hops[n]? with
  | some i => sDokE a b z i
  | none => False
def hV (q : Nat → List Int → Prop) (R : Nat → Int → Int) (G : Nat → Int) (C : List Int → Prop) : List hP → List Int → Prop
  | [], e => C e
  | p :: l, e => match p.1 with
    | 0 => 0 ≤ se (lget e) (hx p 0) → hV q R G C l e
    | 1 => se (lget e) (hx p 0) ≠ se (lget e) (hx p 1) → hV q R G C l e
    | 2 => ∀ v, 0 ≤ se (lget e) (hx p 0) → se (lget e) (hx p 0) < srln p.2.1 → R p.2.1 (se (lget e) (hx p 0)) = v → hV q R G C l (e ++ [v])
    | 3 => ∀ v, G p.2.1 = v → hV q R G C l (e ++ [v])
    | 4 => ∀ as, q p.2.1 as → hmt (hV q R G C l) p.2.2.2 as e
    | 5 => q p.2.1 (p.2.2.2.map (se (lget e))) → hV q R G C l e
    | 6 => ∀ x v : Int, 0 ≤ se (lget e) (hx p 0) + p.2.2.1 * x → se (lget e) (hx p 0) + p.2.2.1 * x < srln p.2.1 → R p.2.1 (se (lget e) (hx p 0) + p.2.2.1 * x) = v → hV q R G C l (e ++ [x, v])
    | 7 => ∀ x : Int, p.2.1 * x = se (lget e) (hx p 0) → hV q R G C l (e ++ [x])
    | 8 => ∀ x y : Int, se (lget e) (hx p 0) = p.2.1 * x + y → 0 ≤ y → y < p.2.1 → hV q R G C l (e ++ [x, y])
    | 9 => ∀ a b z, hopS p.2.1 a b z → hmt (fun e' => hV q R G C l (e' ++ [z])) p.2.2.2 [a, b] e
    | 10 => hin (se (lget e) (hx p 0)) p.2.2.2.tail → hV q R G C l e
    | 11 => hfrS e (se (lget e) (hx p 0)) (se (lget e) (hx p 1)) (p.2.2.2.drop 2) → hV q R G C l e
    | 12 => 0 ≤ se (lget e) (hx p 0) → 0 ≤ se (lget e) (hx p 1) → se (lget e) (hx p 0) * se (lget e) (hx p 1) ≤ 9223372036854775807 → hV q R G C l e
    | 13 => se (lget e) (hx p 0) = se (lget e) (hx p 1) → hV q R G C l e
    | _ => True
theorem hcnd {α : Type} {b : Bool} {x : List α} {e : α} (h : e ∈ cond b x []) : b = true ∧ e ∈ x := by
  cases b with
  | true => exact ⟨rfl, h⟩
  | false => cases h
theorem hlget {ρ : Nat → Int} (env : List sE) : tmn ρ env = lget (env.map (se ρ)) := by
  funext x
  unfold tmn lget
  rw [List.getD_eq_getElem?_getD, List.getD_eq_getElem?_getD, List.getElem?_map]
  cases env[x]? with
  | none => exact se_C 0
  | some e => rfl
theorem hev {ρ : Nat → Int} (env : List sE) (x : sE) : se ρ (tsb env x) = se (lget (env.map (se ρ))) x := by
  rw [se_sb, hlget]
theorem hisn_ok {e : sE} {n : Nat} (h : hisn e n = true) : e = (0, [(n, 1)]) := by
  obtain ⟨c, l⟩ := e
  unfold hisn at h
  dsimp only at h
  split at h
  · rename_i t
    simp only [Bool.and_eq_true] at h
    obtain ⟨t1, t2⟩ := t
    have h1 := Nat.eq_of_beq_eq_true h.1
    have h2 := siz_0 h.2.1
    have h3 := siz_0 h.2.2
    dsimp only at h1 h3
    have h3 : t2 = 1 := by omega
    rw [h1, h2, h3]
  · cases h
section HR
variable {ρ : Nat → Int} {K : sK}
theorem heq_ok (h : skok ρ K) {a b : sE} (hs : heq K a b = true) : se ρ a = se ρ b := by
  unfold heq at hs
  rw [Bool.or_eq_true, Bool.and_eq_true] at hs
  rcases hs with hs | ⟨h1, h2⟩
  · exact sSm_ok h.1 hs
  · have h1 := sge0_ok h h1
    have h2 := sge0_ok h h2
    rw [se_sub] at h1 h2
    omega
theorem hwfa {n : Nat} {l m : List sE} (h1 : ∀ e ∈ l, swE n e) (h2 : ∀ e ∈ m, swE n e) : ∀ e ∈ l ++ m, swE n e := fun e he => (List.mem_append.mp he).elim (h1 e) (h2 e)
theorem hwf1 {n : Nat} {a : sE} (h : swE n a) : ∀ e ∈ [a], swE n e := fun e he => by rw [List.mem_singleton.mp he]; exact h
theorem hwf2 {n : Nat} {a b : sE} (h : swE n a) (h2 : swE n b) : ∀ e ∈ [a, b], swE n e := List.forall_mem_cons.mpr ⟨h, hwf1 h2⟩
theorem hmat_ok (h : skok ρ K) {n : Nat} : ∀ (ps as env env' : List sE), hmat K ps as env = some env' → (∀ e ∈ as, swE n e) → (∀ C, hmt C ps (as.map (se ρ)) (env.map (se ρ)) → C (env'.map (se ρ))) ∧ ((∀ e ∈ env, swE n e) → ∀ e ∈ env', swE n e)
  | [], [], env, env', hs, _ => by
    cases hs
    exact ⟨fun C hC => hC, fun w => w⟩
  | p :: ps, a :: as, env, env', hs, wa => by
    unfold hmat at hs
    have wa1 := wa a List.mem_cons_self
    have wa2 := fun e he => wa e (List.mem_cons_of_mem _ he)
    cases hq : hisn p env.length with
    | true =>
      rw [hq, cond_true] at hs
      obtain ⟨i1, i2⟩ := hmat_ok h ps as _ _ hs wa2
      refine ⟨fun C hC => i1 C ?_, fun w => i2 (hwfa w (hwf1 wa1))⟩
      rw [List.map_cons] at hC
      unfold hmt at hC
      rw [List.length_map, hq] at hC
      rw [List.map_append]
      exact hC
    | false =>
      rw [hq, cond_false] at hs
      cases hq2 : heq K (tsb env p) a with
      | false => rw [hq2] at hs; cases hs
      | true =>
        rw [hq2, cond_true] at hs
        obtain ⟨i1, i2⟩ := hmat_ok h ps as _ _ hs wa2
        have e := heq_ok h hq2
        rw [hev] at e
        refine ⟨fun C hC => i1 C ?_, i2⟩
        rw [List.map_cons] at hC
        unfold hmt at hC
        rw [List.length_map, hq] at hC
        exact hC e
  | [], _ :: _, _, _, hs, _ => by cases hs
  | _ :: _, [], _, _, hs, _ => by cases hs
theorem hdr_ok (h : skok ρ K) {st : Nat} {e : sE} {x : sE × sE} (hs : hdr K st e = some x) : se ρ e = st * se ρ x.1 + se ρ x.2 ∧ 0 ≤ se ρ x.2 ∧ se ρ x.2 < st ∧ ∀ n, swE n e → swE n x.1 ∧ swE n x.2 := by
  unfold hdr at hs
  cases hq : (spos (slb K.1 (srem K.1 st e)) && (spos ((st : Int) - 1 - sub_ K.1 (srem K.1 st e)) || sge0 K (ssub (sC ((st : Int) - 1)) (srem K.1 st e)))) with
  | false => rw [hq] at hs; cases hs
  | true =>
    rw [hq, cond_true] at hs
    rw [Bool.and_eq_true, Bool.or_eq_true] at hq
    split at hs
    · rename_i y hy
      cases hs
      obtain ⟨t1, t2⟩ := tdv_ok (ρ := ρ) hy
      rw [se_sub] at t1
      have b1 := slb_ok h.1 (srem K.1 st e)
      have p1 := spos_ok hq.1
      refine ⟨by dsimp only; omega, by dsimp only; omega, ?_, fun n w => ?_⟩
      · rcases hq.2 with q | q
        · have b2 := sub_ok h.1 (srem K.1 st e)
          have p2 := spos_ok q
          dsimp only
          omega
        · have p2 := sge0_ok h q
          rw [se_sub, se_C] at p2
          dsimp only
          omega
      · have wr : swE n (srem K.1 st e) := fun t ht => w t (List.mem_filter.mp ht).1
        exact ⟨t2 n (swE_sub w wr), wr⟩
    · cases hs
theorem hgd_dvd : ∀ (l : sT) (d : Nat), (l.foldl (fun n t => Nat.gcd n t.2.natAbs) d ∣ d) ∧ ∀ t ∈ l, l.foldl (fun n t => Nat.gcd n t.2.natAbs) d ∣ t.2.natAbs := sgcd_dvd0
theorem hmulm {st i j : Int} (h0 : 0 ≤ st) (h : i ≤ j) : st * i ≤ st * j := Int.mul_le_mul_of_nonneg_left h h0
theorem hzz {st z x : Int} (h : st * z + x = 0) (h0 : 0 < x) (h1 : x < st) : False := by
  rcases Int.lt_trichotomy z 0 with q | q | q
  · have := hmulm (st := st) (i := z) (j := -1) (by omega) (by omega)
    rw [Int.mul_neg, Int.mul_one] at this
    omega
  · rw [q, Int.mul_zero] at h
    omega
  · have := hmulm (st := st) (i := 1) (j := z) (by omega) (by omega)
    rw [Int.mul_one] at this
    omega
/-- between two numbers with one quotient and rests above 0 there is no multiple -/
theorem hbtw {st z x y k : Int} (hx : 0 < x) (hy : y < st) (h1 : st * z + x ≤ st * k) (h2 : st * k ≤ st * z + y) : False := by
  have h0 : 0 < st := by
    rcases (show 0 < st ∨ st ≤ 0 by omega) with q | q
    · exact q
    · exfalso
      omega
  rcases (show z < k ∨ k ≤ z by omega) with q | q
  · have := hmulm (st := st) (i := z + 1) (j := k) (by omega) (by omega)
    rw [Int.mul_add, Int.mul_one] at this
    omega
  · have := hmulm (st := st) (i := k) (j := z) (by omega) (by omega)
    omega
theorem hfr1_ok (h : skok ρ K) {f g : sE} {st cnt : Int} (h0 : 1 ≤ st) (hs : hfr1 K.1 f g st cnt = true) (j : Int) (j0 : 0 ≤ j) (j1 : j < cnt) : st * j < se ρ f ∨ se ρ g < st * j := by
  unfold hfr1 at hs
  have bf := slb_ok h.1 f
  have bg := sub_ok h.1 g
  simp only [Bool.or_eq_true, Bool.and_eq_true] at hs
  rcases hs with hs | hs | ⟨⟨a1, a2⟩, ⟨b1, b2⟩, c⟩
  · have := spos_ok hs
    have m := hmulm (st := st) (i := 0) (j := j) (by omega) j0
    rw [Int.mul_zero] at m
    exact Or.inr (by omega)
  · have := spos_ok hs
    have m := hmulm (st := st) (i := j) (j := cnt - 1) (by omega) (by omega)
    exact Or.inl (by omega)
  · have a1 := spos_ok a1
    have a2 := spos_ok a2
    have b1 := spos_ok b1
    have b2 := spos_ok b2
    have c := sSm_ok h.1 c
    rw [se_sub, se_sub] at c
    obtain ⟨z, hz⟩ := srem_ok (ρ := ρ) (B := K.1) (p := st.toNat) (e := f)
    obtain ⟨z2, hz2⟩ := srem_ok (ρ := ρ) (B := K.1) (p := st.toNat) (e := g)
    have l1 := slb_ok h.1 (srem K.1 st.toNat f)
    have l2 := sub_ok h.1 (srem K.1 st.toNat f)
    have l3 := slb_ok h.1 (srem K.1 st.toNat g)
    have l4 := sub_ok h.1 (srem K.1 st.toNat g)
    have e : (st.toNat : Int) = st := Int.toNat_of_nonneg (by omega)
    rw [e] at hz hz2
    generalize se ρ (srem K.1 st.toNat f) = x at *
    generalize se ρ (srem K.1 st.toNat g) = y at *
    rcases (show st * j < se ρ f ∨ se ρ f ≤ st * j by omega) with q | q
    · exact Or.inl q
    · rcases (show se ρ g < st * j ∨ st * j ≤ se ρ g by omega) with q2 | q2
      · exact Or.inr q2
      · exfalso
        exact hbtw (st := st) (z := z) (x := x) (y := y) (k := j) (by omega) (by omega) (by omega) (by omega)
end HR
