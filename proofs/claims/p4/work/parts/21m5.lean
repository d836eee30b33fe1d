/-! RULES AS DATA, 8: stores and calls of the machine -/
theorem sSh_own {k r o : Nat} (h : sSh k = some (1, r, o)) (hr : mrole r = true) : o = 474 := by
  have e := sSh_all (p := fun _ x => match x with
    | (1, r, o) => !(mrole r) || Nat.beq o 474
    | _ => true) (by decide +kernel) h
  have e : (!(mrole r) || Nat.beq o 474) = true := e
  rw [hr] at e
  exact Nat.eq_of_beq_eq_true e
theorem sSh_474 : sSh 474 = some (0, 12, 0) := by decide +kernel
theorem sSh_12 {k : Nat} (h : sSh k = some (0, 12, 0)) : k = 474 := by
  have := sNm_ok h
  have e : sNm 12 = (474, 474) := by decide +kernel
  rw [e] at this
  omega
theorem hR_in {M : zM} {r : Nat} {i : Int} (h0 : 0 ≤ i) (h1 : i < srln r) : hR M r i = (sgr M r 474 i.toNat).toInt := by
  unfold hR
  rw [show cvM M 1 r 0 474 i = _ from cvM_1 M r 0 474 i]
  have e3 : (spos i && Nat.blt i.toNat (srln r)) = true := by
    rw [Bool.and_eq_true]
    refine ⟨?_, Nat.ble_eq_true_of_le (by omega)⟩
    cases hs : spos i with
    | true => rfl
    | false => have := spos_no hs; omega
  rw [e3]
  rfl
theorem hR_out {M : zM} {r : Nat} {i : Int} (h : i < 0 ∨ srln r ≤ i) : hR M r i = 0 := by
  unfold hR
  rw [show cvM M 1 r 0 474 i = _ from cvM_1 M r 0 474 i]
  have e3 : (spos i && Nat.blt i.toNat (srln r)) = false := by
    cases hs : (spos i && Nat.blt i.toNat (srln r)) with
    | false => rfl
    | true =>
      rw [Bool.and_eq_true] at hs
      have := spos_ok hs.1
      have := sbltt hs.2
      omega
  rw [e3]
  rfl
theorem hR_same {M M' : zM} {r : Nat} {i : Int} (h : ∀ n : Nat, (n : Int) = i → n < srln r → sgr M' r 474 n = sgr M r 474 n) : hR M' r i = hR M r i := by
  by_cases h0 : 0 ≤ i ∧ i < srln r
  · rw [hR_in h0.1 h0.2, hR_in h0.1 h0.2, h i.toNat (Int.toNat_of_nonneg h0.1) (by omega)]
  · rw [hR_out (by omega), hR_out (by omega)]
theorem hG_same {M M' : zM} {j : Nat} (h : sgf M' 474 j = sgf M 474 j) : hG M' j = hG M j := by
  unfold hG
  rw [show cvM M' 0 12 j 474 0 = _ from cvM_0 M' 12 j 474 0, show cvM M 0 12 j 474 0 = _ from cvM_0 M 12 j 474 0, h]
theorem htrg0 {c j : Nat} : htrg 0 c j = cond (Nat.beq c 12) (1000 + j) 999 := rfl
theorem hpur_t {p : hP} {l : List hP} (h : hpur (p :: l) = true) : hpur l = true := by
  unfold hpur at h
  rw [List.all_cons, Bool.and_eq_true] at h
  exact h.2
section HST
variable {q : hQ} {ρ : Nat → Int} {ls : zL} {st : List Value} {M M' : zM} {A : sA} {H : hT}
theorem hst12 {d c j k i : Nat} {v : Value} (hp : sPl d c k i) (hu : sUpd M M' d c j k i v) : (∀ r, mrole r = true → r ≠ htrg d c j → hR M' r = hR M r) ∧ (∀ j', 1000 + j' ≠ htrg d c j → hG M' j' = hG M j') := by
  cases d with
  | zero =>
    obtain ⟨u1, u2⟩ := hu
    have hp : sSh k = some (0, c, 0) := hp
    refine ⟨fun r hr _ => funext fun i' => hR_same fun n _ _ => u2 r 474 n (mrole_ok hr).1, fun j' hj' => hG_same ?_⟩
    rw [u1 474 12 j' sSh_474, if_neg]
    rintro ⟨e1, e2⟩
    rw [← e1, sSh_474] at hp
    have hc : 12 = c := congrArg (fun x : Nat × Nat × Nat => x.2.1) (Option.some.inj hp)
    apply hj'
    rw [← hc, e2]
    rfl
  | succ d =>
    obtain ⟨u1, u2⟩ := hu
    refine ⟨fun r hr hne => funext fun i' => hR_same fun n _ _ => ?_, fun j' _ => hG_same (u1 474 12 j' sSh_474)⟩
    rw [u2 r 474 n (mrole_ok hr).1, if_neg]
    exact fun e => hne e.1
theorem hst34 {d c j k i : Nat} {x : Int32} {a v : Int} (ha : (i : Int) = a) (hx : x.toInt = v) (hp : sPl d c k i) (hu : sUpd M M' d c j k i (.int x)) : hSt M (hR M') (hG M') (htrg d c j) a v := by
  obtain ⟨s1, s2⟩ := hst12 hp hu
  refine ⟨s1, s2, ?_, ?_⟩
  · cases d with
    | zero =>
      intro hm
      have := (mrole_ok hm).2
      rw [htrg0] at this
      cases hq : Nat.beq c 12 with
      | true => rw [hq, cond_true] at this; omega
      | false => rw [hq, cond_false] at this; omega
    | succ d =>
      intro hm
      have hm : mrole c = true := hm
      obtain ⟨u1, u2⟩ := hu
      obtain ⟨p1, p2⟩ := hp
      have hk := sSh_own p1 hm
      refine ⟨funext fun i' => ?_, by omega, ?_⟩
      · show hR M' c i' = hupR (hR M) c a v c i'
        unfold hupR
        by_cases e : i' = a
        · rw [if_pos ⟨rfl, e⟩, e, hR_in (by omega) (by omega), u2 c 474 _ (mrole_ok hm).1, if_pos ⟨rfl, hk.symm, by omega⟩]
          exact hx
        · rw [if_neg (fun w => e w.2)]
          refine hR_same fun n n1 n2 => ?_
          rw [u2 c 474 n (mrole_ok hm).1, if_neg]
          rintro ⟨-, -, e3⟩
          omega
      · have : (htrg (d + 1) c j) = c := rfl
        rw [this]
        omega
  · intro j' hj'
    cases d with
    | zero =>
      have hc : c = 12 ∧ j' = j := by
        rw [htrg0] at hj'
        cases hq : Nat.beq c 12 with
        | true =>
          rw [hq, cond_true] at hj'
          exact ⟨Nat.eq_of_beq_eq_true hq, by omega⟩
        | false => rw [hq, cond_false] at hj'; omega
      obtain ⟨u1, -⟩ := hu
      have hp : sSh k = some (0, c, 0) := hp
      rw [hc.1] at hp
      have hk := sSh_12 hp
      unfold hG
      rw [show cvM M' 0 12 j' 474 0 = _ from cvM_0 M' 12 j' 474 0, u1 474 12 j' sSh_474, if_pos ⟨hk.symm, hc.2⟩]
      exact hx
    | succ d =>
      obtain ⟨p1, -⟩ := hp
      have := (sSh_row p1).2.2
      have e : htrg (d + 1) c j = c := rfl
      rw [e] at hj'
      omega
theorem rhS_ok (hO : hOK H q) : sHS (hQs q) (rhS H) := by
  intro ρ A ls st M M' f k i v h hk hi hp hu hM' hv wf x hx
  unfold rhS at hx
  cases ht : Nat.beq f.2.2.2.2.2.1 0 with
  | true =>
    rw [ht, cond_true] at hx
    obtain ⟨y, hy, hx⟩ := List.mem_flatMap.mp hx
    obtain ⟨z, rfl, hz⟩ := hsv0 hv ht
    have hs := hst34 hi hz hp hu
    exact hst_ok hO h wf.2.1 wf.2.2 hs 6 y (h.2.2.2.2.2.2.2.2.2.2.1 y hy) (h.2.2.2.1 y hy) x hx
  | false =>
    rw [ht, cond_false] at hx
    obtain ⟨hx, hd⟩ := List.mem_filter.mp hx
    obtain ⟨s1, s2⟩ := hst12 hp hu
    refine ⟨hO.2.2.2.2.2.2.1.2 x.1 _ (hR M) (hR M') (hG M) (hG M') (fun r hr hl => s1 r (hO.2.2.2.2.2.2.1.1 x.1 r hr hl) ?_) (fun r hr hl => s2 _ ?_) (h.2.2.2.1 x hx), h.2.2.2.2.2.2.2.2.2.2.1 x hx⟩
    · intro e
      have hd : ((H.2.2.2.2.2.2.1 x.1).any fun r => Nat.beq r (htrg f.1 f.2.1 f.2.2.1)) = false := by
        cases hq : ((H.2.2.2.2.2.2.1 x.1).any fun r => Nat.beq r (htrg f.1 f.2.1 f.2.2.1)) with
        | false => rfl
        | true => rw [hq] at hd; cases hd
      have := List.any_eq_false.mp hd r hr
      rw [e] at this
      exact this (Nat.beq_refl _)
    · intro e
      have hd : ((H.2.2.2.2.2.2.1 x.1).any fun r => Nat.beq r (htrg f.1 f.2.1 f.2.2.1)) = false := by
        cases hq : ((H.2.2.2.2.2.2.1 x.1).any fun r => Nat.beq r (htrg f.1 f.2.1 f.2.2.1)) with
        | false => rfl
        | true => rw [hq] at hd; cases hd
      have := List.any_eq_false.mp hd r hr
      rw [← e, show 1000 + (r - 1000) = r by omega] at this
      exact this (Nat.beq_refl _)
/-! calls -/
theorem hV_pur {R R' : Nat → Int → Int} {G G' : Nat → Int} {C : List Int → Prop} : ∀ (l : List hP) (e : List Int), hpur l = true → hV (fun _ _ => True) R G C l e → hV (fun _ _ => True) R' G' C l e
  | [], e, _, h => h
  | (0, a, b, es) :: l, e, hp, h => fun c => hV_pur l _ (hpur_t hp) (h c)
  | (1, a, b, es) :: l, e, hp, h => fun c => hV_pur l _ (hpur_t hp) (h c)
  | (2, a, b, es) :: l, e, hp, h => nomatch (show false = true from hp)
  | (3, a, b, es) :: l, e, hp, h => nomatch (show false = true from hp)
  | (4, a, b, es) :: l, e, hp, h => nomatch (show false = true from hp)
  | (5, a, b, es) :: l, e, hp, h => nomatch (show false = true from hp)
  | (6, a, b, es) :: l, e, hp, h => nomatch (show false = true from hp)
  | (7, a, b, es) :: l, e, hp, h => fun x c => hV_pur l _ (hpur_t hp) (h x c)
  | (8, a, b, es) :: l, e, hp, h => fun x y c1 c2 c3 => hV_pur l _ (hpur_t hp) (h x y c1 c2 c3)
  | (9, a, b, es) :: l, e, hp, h => nomatch (show false = true from hp)
  | (10, a, b, es) :: l, e, hp, h => fun c => hV_pur l _ (hpur_t hp) (h c)
  | (11, a, b, es) :: l, e, hp, h => fun c => hV_pur l _ (hpur_t hp) (h c)
  | (12, a, b, es) :: l, e, hp, h => fun c1 c2 c3 => hV_pur l _ (hpur_t hp) (h c1 c2 c3)
  | (13, a, b, es) :: l, e, hp, h => fun c => hV_pur l _ (hpur_t hp) (h c)
  | (n + 14, a, b, es) :: l, e, hp, h => trivial
end HST
section HCL
variable {q : hQ} {ρ : Nat → Int} {ls : zL} {st : List Value} {M M' : zM} {A : sA} {H : hT}
/-- a place that a call may have written -/
def hhit (ρ : Nat → Int) (m : sMo) (r : Nat) (i : Int) : Prop := m.1 ≠ 0 ∧ m.2.1 = r ∧ se ρ m.2.2.2.1 ≤ i ∧ i ≤ se ρ m.2.2.2.2
theorem hkp_ok (hO : hOK H q) (h : sR (hQs q) ρ A ls st M) {x : sQ} : ∀ (ms : List sMo) (R R' : Nat → Int → Int), (∀ r ∈ H.2.2.2.2.2.2.1 x.1, r < 1000 → ∀ i, (∀ m ∈ ms, ¬ hhit ρ m r i) → R' r i = R r i) → hkp H A ms x = true → q x.1 (x.2.map (se ρ)) R (hG M) → q x.1 (x.2.map (se ρ)) R' (hG M)
  | [], R, R', hr, _, hq => hO.2.2.2.2.2.2.1.2 x.1 _ R R' (hG M) (hG M) (fun r h1 h2 => funext fun i => hr r h1 h2 i fun m hm => by cases hm) (fun _ _ _ => rfl) hq
  | m :: ms, R, R', hr, hs, hq => by
    have hs : (cond ((H.2.2.2.2.2.2.1 x.1).any fun r => Nat.beq r (htrg m.1 m.2.1 m.2.2.1)) (!(Nat.beq m.1 0) && (H.2.2.2.2.1 x.1).any (hkr A m.2.1 m.2.2.2.1 m.2.2.2.2 x)) true && hkp H A ms x) = true := hs
    rw [Bool.and_eq_true] at hs
    classical
    -- one after the other
    refine hkp_ok hO h ms (fun r i => if hhit ρ m r i then R' r i else R r i) R' (fun r h1 h2 i hi => ?_) hs.2 ?_
    · by_cases c : hhit ρ m r i
      · rw [if_pos c]
      · rw [if_neg c]
        exact hr r h1 h2 i (List.forall_mem_cons.mpr ⟨c, hi⟩)
    · cases hd : ((H.2.2.2.2.2.2.1 x.1).any fun r => Nat.beq r (htrg m.1 m.2.1 m.2.2.1)) with
      | false =>
        refine hO.2.2.2.2.2.2.1.2 x.1 _ R _ (hG M) (hG M) (fun r h1 h2 => funext fun i => ?_) (fun _ _ _ => rfl) hq
        rw [if_neg]
        rintro ⟨c1, c2, -⟩
        have := List.any_eq_false.mp hd r h1
        have e : htrg m.1 m.2.1 m.2.2.1 = m.2.1 := by
          cases hm : m.1 with
          | zero => exact absurd hm c1
          | succ d => rfl
        rw [e, c2] at this
        exact this (Nat.beq_refl _)
      | true =>
        have hk := hs.1
        rw [hd, cond_true, Bool.and_eq_true] at hk
        obtain ⟨r, hr1, hk2⟩ := List.any_eq_true.mp hk.2
        obtain ⟨a1, a2, a3⟩ := hkr_ok h hk2
        have hv := hO.2.2.2.2.1 x.1 r hr1
        refine a3 _ (hV_pur _ _ hv.2 (hv.1 R (fun r i => if hhit ρ m r i then R' r i else R r i) (hG M) _ _ _ (by rw [hlen, a1]) (fun r' hr' => funext fun i => ?_) (fun i hi => ?_) hq))
        · rw [if_neg]
          rintro ⟨-, c2, -⟩
          rw [a2] at hr'
          exact hr' c2.symm
        · rw [if_neg]
          rintro ⟨-, -, c3, c4⟩
          omega
theorem rhM_ok (hO : hOK H q) : sHM (hQs q) (rhM H) := by
  intro ρ A ls st M M' ms h wm hf hM' x hx
  obtain ⟨hx, hk⟩ := List.mem_filter.mp hx
  refine ⟨?_, h.2.2.2.2.2.2.2.2.2.2.1 x hx⟩
  have h1 := hkp_ok hO h ms (hR M) (hR M') (fun r hr hl i hi => ?_) hk (h.2.2.2.1 x hx)
  · refine hO.2.2.2.2.2.2.1.2 x.1 _ (hR M') (hR M') (hG M) (hG M') (fun _ _ _ => rfl) (fun r hr hl => hG_same (hf.1 474 12 _ sSh_474 fun m hm e => ?_)) h1
    have hm := List.all_eq_true.mp hk m hm
    have hd : ((H.2.2.2.2.2.2.1 x.1).any fun r => Nat.beq r (htrg m.1 m.2.1 m.2.2.1)) = true := List.any_eq_true.mpr ⟨r, hr, by
      rw [e.1, e.2.1, e.2.2]
      have e2 : htrg 0 12 (r - 1000) = r := by
        rw [htrg0]
        show 1000 + (r - 1000) = r
        omega
      rw [e2]
      exact Nat.beq_refl _⟩
    rw [hd, cond_true, e.1] at hm
    cases hm
  · have hm := hO.2.2.2.2.2.2.1.1 x.1 r hr hl
    refine hR_same fun n n1 n2 => hf.2 r 474 n (mrole_ok hm).1 n2 fun m hmm e => hi m hmm ?_
    exact ⟨by omega, e.2.1, by omega, by omega⟩
theorem rhC_ok : sHC (hQs q) (fun _ _ => []) := by
  intro ρ A ls st M M' r o dp n r0 o0 sp k k0 d1 n1 s1
  intros
  rename_i y hy
  exact absurd (show y ∈ ([] : List sQ) from hy) (List.not_mem_nil)
end HCL
