/-! RULES AS DATA, 7: learning, stores, calls -/
section HLRN
variable {q : hQ} {ρ : Nat → Int} {ls : zL} {st : List Value} {M : zM} {A : sA} {H : hT}
theorem hlix_wf {lc : sLc} : swE A.1.1.length (hlix A lc) := by
  unfold hlix
  cases h : twE A.1.1.length lc.2.2.2.2 with
  | true => exact twE_ok h
  | false => exact swE_C 0
theorem hll_ok (hO : hOK H q) (h : sR (hQs q) ρ A ls st M) {trig : Nat} {ix : sE} (wx : swE A.1.1.length ix) {x : sQ} (hx : x ∈ A.2.2.2.1) : ∀ e ∈ hll H A trig ix x, swE A.1.1.length e ∧ 0 ≤ se ρ e := by
  intro e he
  obtain ⟨r, hr, he⟩ := List.mem_flatMap.mp he
  obtain ⟨c, he⟩ := hcnd he
  rw [Bool.and_eq_true] at c
  obtain ⟨env, hv, he⟩ := List.mem_flatMap.mp he
  obtain ⟨i1, i2⟩ := hrun_ok h (q := hqq q (hR M) (hG M)) (fun x hx => h.2.2.2.1 x hx) (hder_ok hO h 3) _ _ _ hv
  have wq := h.2.2.2.2.2.2.2.2.2.2.1 x hx
  have hv2 := hO.2.2.2.2.2.1 x.1 r hr (hR M) (hG M) (x.2.map (se ρ)) (se ρ ix) (by rw [hlen, Nat.eq_of_beq_eq_true c.1]) (h.2.2.2.1 x hx)
  have e1 : (x.2 ++ cond (Nat.blt r.2.1 1000) [ix] []).map (se ρ) = x.2.map (se ρ) ++ cond (Nat.blt r.2.1 1000) [se ρ ix] [] := by
    rw [List.map_append]
    cases Nat.blt r.2.1 1000 <;> rfl
  rw [← e1] at hv2
  have w2 : ∀ e ∈ x.2 ++ cond (Nat.blt r.2.1 1000) [ix] [], swE A.1.1.length e := by
    refine hwfa wq ?_
    cases Nat.blt r.2.1 1000 with
    | true => exact hwf1 wx
    | false => exact fun e he => by cases he
  exact hge_ok (i2 w2) (i1 _ hv2) e he
theorem rhL_ok (hO : hOK H q) : sHL (hQs q) (rhL H) := by
  intro ρ A ls st M lc h e he
  have he := hnew_mem he
  rcases List.mem_append.mp he with he | he
  · obtain ⟨x, hx, he⟩ := List.mem_flatMap.mp he
    exact hll_ok hO h hlix_wf hx e he
  · obtain ⟨-, he⟩ := hcnd he
    obtain ⟨r, hr, he⟩ := List.mem_flatMap.mp he
    obtain ⟨env, hv, he⟩ := List.mem_flatMap.mp he
    obtain ⟨i1, i2⟩ := hrun_ok h (q := hqq q (hR M) (hG M)) (fun x hx => h.2.2.2.1 x hx) (hder_ok hO h 3) _ _ _ hv
    exact hge_ok (i2 fun e he => by cases he) (i1 _ (hO.2.2.2.2.2.2.2 r hr (hR M) (hG M))) e he
theorem hfst_ok {α : Type} {f : α → Option (List sQ)} {x : List sQ} : ∀ {l : List α}, hfst f l = some x → ∃ r ∈ l, f r = some x
  | [], h => by cases h
  | r :: l, h => by
    unfold hfst at h
    split at h
    · rename_i y hy
      cases h
      exact ⟨r, List.mem_cons_self, hy⟩
    · obtain ⟨r', h1, h2⟩ := hfst_ok h
      exact ⟨r', List.mem_cons_of_mem _ h1, h2⟩
theorem hxr_ok {der : sQ → Bool} {trig : Nat} {idx val : sE} {x : sQ} {r : hXr} {l : List sQ} (hs : hxr der A trig idx val x r = some l) : r.1 = x.2.length ∧ r.2.1 = trig ∧ ∃ e ∈ hrun der A r.2.2.1 (x.2 ++ [idx, val]), l = r.2.2.2.map (fun o => ((o.1, o.2.map (tsb e)) : sQ)) := by
  unfold hxr at hs
  cases hc : (Nat.beq r.1 x.2.length && Nat.beq r.2.1 trig) with
  | false => rw [hc] at hs; cases hs
  | true =>
    rw [hc, cond_true] at hs
    rw [Bool.and_eq_true] at hc
    refine ⟨Nat.eq_of_beq_eq_true hc.1, Nat.eq_of_beq_eq_true hc.2, ?_⟩
    split at hs
    · rename_i e es he
      cases hs
      exact ⟨e, hhead he, rfl⟩
    · cases hs
theorem hkr_ok (h : sR (hQs q) ρ A ls st M) {trig : Nat} {lo hi : sE} {x : sQ} {r : hKr} (hs : hkr A trig lo hi x r = true) : r.1 = x.2.length ∧ r.2.1 = trig ∧ ∀ C : Prop, hV (fun _ _ => True) (hR M) (hG M) (fun _ => C) r.2.2 (x.2.map (se ρ) ++ [se ρ lo, se ρ hi]) → C := by
  unfold hkr at hs
  cases hc : (Nat.beq r.1 x.2.length && Nat.beq r.2.1 trig) with
  | false => rw [hc] at hs; cases hs
  | true =>
    rw [hc, cond_true] at hs
    rw [Bool.and_eq_true] at hc
    refine ⟨Nat.eq_of_beq_eq_true hc.1, Nat.eq_of_beq_eq_true hc.2, ?_⟩
    split at hs
    · rename_i e es he
      obtain ⟨i1, -⟩ := hrun_ok h (q := fun _ _ => True) (fun _ _ => trivial) (fun _ hx => by cases hx) _ _ _ (hhead he)
      intro C hC
      have := i1 (fun _ => C)
      rw [List.map_append] at this
      exact this hC
    · cases hs
theorem mrole_ok {r : Nat} (h : mrole r = true) : sSh (474 + soff r) = some (1, r, 474) ∧ r < 70 := by
  unfold mrole at h
  split at h
  · rename_i r' o hs
    rw [Bool.and_eq_true] at h
    rw [Nat.eq_of_beq_eq_true h.1, Nat.eq_of_beq_eq_true h.2] at hs
    exact ⟨hs, (sSh_row hs).2.2⟩
  · cases h
theorem hupR_o {R : Nat → Int → Int} {r r' : Nat} {a v : Int} (h : r' ≠ r) : hupR R r a v r' = R r' := by
  funext i
  unfold hupR
  rw [if_neg fun w => h w.1]
/-- what a store does to what predicates see -/
def hSt (M : zM) (R1 : Nat → Int → Int) (G1 : Nat → Int) (trig : Nat) (a v : Int) : Prop :=
  (∀ r, mrole r = true → r ≠ trig → R1 r = hR M r) ∧ (∀ j, 1000 + j ≠ trig → G1 j = hG M j) ∧
  (mrole trig = true → R1 trig = hupR (hR M) trig a v trig ∧ 0 ≤ a ∧ a < srln trig) ∧ (∀ j, 1000 + j = trig → G1 j = v)
theorem hst_ok (hO : hOK H q) (h : sR (hQs q) ρ A ls st M) {trig : Nat} {idx val : sE} (wi : swE A.1.1.length idx) (wv : swE A.1.1.length val) {R1 : Nat → Int → Int} {G1 : Nat → Int} (hS : hSt M R1 G1 trig (se ρ idx) (se ρ val)) : ∀ (f : Nat) (x : sQ), (∀ e ∈ x.2, swE A.1.1.length e) → q x.1 (x.2.map (se ρ)) (hR M) (hG M) → ∀ o ∈ hst H A trig idx val f x, q o.1 (o.2.map (se ρ)) R1 G1 ∧ ∀ e ∈ o.2, swE A.1.1.length e
  | 0, _, _, _, o, ho => by cases ho
  | f + 1, x, w, hx, o, ho => by
    obtain ⟨s1, s2, s3, s4⟩ := hS
    have hdm := hO.2.2.2.2.2.2.1.1
    have hdep := hO.2.2.2.2.2.2.1.2
    unfold hst at ho
    cases hd : ((H.2.2.2.2.2.2.1 x.1).any fun r => Nat.beq r trig) with
    | false =>
      rw [hd, cond_false] at ho
      rw [List.mem_singleton.mp ho]
      have hne : ∀ r ∈ H.2.2.2.2.2.2.1 x.1, r ≠ trig := fun r hr e => by
        have := List.any_eq_false.mp hd r hr
        rw [e, show Nat.beq trig trig = true from Nat.beq_refl _] at this
        exact this rfl
      refine ⟨hdep x.1 _ (hR M) R1 (hG M) G1 (fun r hr hl => s1 r (hdm x.1 r hr hl) (hne r hr)) (fun r hr hl => s2 _ ?_) hx, w⟩
      have := hne r hr
      omega
    | true =>
      rw [hd, cond_true] at ho
      obtain ⟨r0, hr0, hd⟩ := List.any_eq_true.mp hd
      have hd := Nat.eq_of_beq_eq_true hd
      subst hd
      have w2 : ∀ e ∈ x.2 ++ [idx, val], swE A.1.1.length e := hwfa w (hwf2 wi wv)
      -- from the memory that the store gives to what is seen of it
      have trR : r0 < 1000 → ∀ n ps, q n ps (hupR (hR M) r0 (se ρ idx) (se ρ val)) (hG M) → q n ps R1 G1 := fun hl n ps hq => by
        refine hdep n ps _ R1 (hG M) G1 (fun r hr hl2 => ?_) (fun r hr hl2 => s2 _ (by omega)) hq
        rcases Nat.decEq r r0 with e | e
        · rw [s1 r (hdm n r hr hl2) e, hupR_o e]
        · rw [e]
          exact (s3 (hdm x.1 r0 hr0 hl)).1
      have trG : 1000 ≤ r0 → ∀ n ps, q n ps (hR M) (hupG (hG M) (r0 - 1000) (se ρ val)) → q n ps R1 G1 := fun hl n ps hq => by
        refine hdep n ps (hR M) R1 _ G1 (fun r hr hl2 => s1 r (hdm n r hr hl2) (by omega)) (fun r hr hl2 => ?_) hq
        unfold hupG
        by_cases e : r - 1000 = r0 - 1000
        · rw [if_pos e]
          exact s4 _ (by omega)
        · rw [if_neg e]
          exact s2 _ (by omega)
      split at ho
      · rename_i l hl
        obtain ⟨r, hr, hl⟩ := hfst_ok hl
        obtain ⟨a1, a2, env, hv, rfl⟩ := hxr_ok hl
        obtain ⟨i1, i2⟩ := hrun_ok h (q := hqq q (hR M) (hG M)) (fun x hx => h.2.2.2.1 x hx) (hder_ok hO h 3) _ _ _ hv
        rw [List.map_append] at i1
        rcases Nat.lt_or_ge r0 1000 with hc | hc
        · have hv2 := (hO.2.2.1 x.1 r hr).1 (by omega) (hR M) (hG M) (x.2.map (se ρ)) (se ρ idx) (se ρ val) (by rw [hlen, a1]) (s3 (hdm x.1 r0 hr0 hc)).2.1 (by rw [a2]; exact (s3 (hdm x.1 r0 hr0 hc)).2.2) hx
          obtain ⟨g1, g2⟩ := hout_ok (i2 w2) (i1 _ hv2) o ho
          rw [a2] at g1
          exact ⟨trR hc _ _ g1, g2⟩
        · have hv2 := (hO.2.2.1 x.1 r hr).2 (by omega) (hR M) (hG M) (x.2.map (se ρ)) (se ρ idx) (se ρ val) (by rw [hlen, a1]) hx
          obtain ⟨g1, g2⟩ := hout_ok (i2 w2) (i1 _ hv2) o ho
          rw [a2] at g1
          exact ⟨trG hc _ _ g1, g2⟩
      · cases hk : (Nat.blt r0 1000 && (H.2.2.2.2.1 x.1).any (hkr A r0 idx idx x)) with
        | true =>
          rw [hk, cond_true] at ho
          rw [List.mem_singleton.mp ho]
          rw [Bool.and_eq_true] at hk
          have hc := sbltt hk.1
          obtain ⟨r, hr, hk⟩ := List.any_eq_true.mp hk.2
          obtain ⟨a1, a2, a3⟩ := hkr_ok h hk
          refine ⟨trR hc _ _ (a3 _ ((hO.2.2.2.2.1 x.1 r hr).1 (hR M) _ (hG M) _ _ _ (by rw [hlen, a1]) (fun r' hr' => ?_) (fun i hi => ?_) hx)), w⟩
          · rw [a2] at hr'
            exact hupR_o hr'
          · rw [a2]
            unfold hupR
            rw [if_neg]
            rintro ⟨-, e⟩
            omega
        | false =>
          rw [hk, cond_false] at ho
          split at ho
          · rename_i l hl
            obtain ⟨r, hr, hl⟩ := hfst_ok hl
            obtain ⟨a1, a2, env, hv, rfl⟩ := hxr_ok hl
            obtain ⟨i1, i2⟩ := hrun_ok h (q := hqq q (hR M) (hG M)) (fun x hx => h.2.2.2.1 x hx) (hder_ok hO h 3) _ _ _ hv
            rw [List.map_append] at i1
            have hv2 := hO.2.2.2.1 x.1 r hr (hR M) (hG M) (x.2.map (se ρ)) (se ρ idx) (se ρ val) (by rw [hlen, a1]) hx
            obtain ⟨o', ho', ho⟩ := List.mem_flatMap.mp ho
            obtain ⟨g1, g2⟩ := hout_ok (i2 w2) (i1 _ hv2) o' ho'
            exact hst_ok hO h wi wv ⟨s1, s2, s3, s4⟩ f o' g2 g1 o ho
          · cases ho
end HLRN
