/-! RULES AS DATA, 6: if every rule is right, what the tables answer is right -/
abbrev hQ : Type := Nat → List Int → (Nat → Int → Int) → (Nat → Int) → Prop
def hupR (R : Nat → Int → Int) (r : Nat) (a v : Int) : Nat → Int → Int := fun r' i => if r' = r ∧ i = a then v else R r' i
def hupG (G : Nat → Int) (j : Nat) (v : Int) : Nat → Int := fun j' => if j' = j then v else G j'
def hout (q : hQ) (R : Nat → Int → Int) (G : Nat → Int) (e : List Int) : List sQ → Prop
  | [] => True
  | o :: l => q o.1 (o.2.map (se (lget e))) R G ∧ hout q R G e l
def hge (e : List Int) : List sE → Prop
  | [] => True
  | x :: l => 0 ≤ se (lget e) x ∧ hge e l
abbrev hqq (q : hQ) (R : Nat → Int → Int) (G : Nat → Int) : Nat → List Int → Prop := fun n as => q n as R G
def vN (q : hQ) (n : Nat) (r : hNr) : Prop := ∀ R G ps, ps.length = r.1 → hV (hqq q R G) R G (fun _ => q n ps R G) r.2 ps
def vU (q : hQ) (n : Nat) (r : hUr) : Prop := ∀ R G ps ts, ps.length = r.1 → ts.length = r.1 → q n ps R G → hV (hqq q R G) R G (fun e => q n (r.2.2.map (se (lget e))) R G) r.2.1 (ps ++ ts)
def vX (q : hQ) (n : Nat) (r : hXr) : Prop := ∀ R G ps a v, ps.length = r.1 → q n ps R G → hV (hqq q R G) R G (fun e => hout q R G e r.2.2.2) r.2.2.1 (ps ++ [a, v])
def vS (q : hQ) (n : Nat) (r : hXr) : Prop := (r.2.1 < 1000 → ∀ R G ps (a v : Int), ps.length = r.1 → 0 ≤ a → a < srln r.2.1 → q n ps R G → hV (hqq q R G) R G (fun e => hout q (hupR R r.2.1 a v) G e r.2.2.2) r.2.2.1 (ps ++ [a, v])) ∧ (1000 ≤ r.2.1 → ∀ R G ps (a v : Int), ps.length = r.1 → q n ps R G → hV (hqq q R G) R G (fun e => hout q R (hupG G (r.2.1 - 1000) v) e r.2.2.2) r.2.2.1 (ps ++ [a, v]))
def vK (q : hQ) (n : Nat) (r : hKr) : Prop := ∀ R R' G ps lo hi, ps.length = r.1 → (∀ r', r' ≠ r.2.1 → R' r' = R r') → (∀ i, i < lo ∨ hi < i → R' r.2.1 i = R r.2.1 i) → q n ps R G → hV (fun _ _ => True) R G (fun _ => q n ps R' G) r.2.2 (ps ++ [lo, hi])
def vL (q : hQ) (n : Nat) (r : hLr) : Prop := ∀ R G ps i, ps.length = r.1 → q n ps R G → hV (hqq q R G) R G (fun e => hge e r.2.2.2) r.2.2.1 (ps ++ cond (Nat.blt r.2.1 1000) [i] [])
/-- rules that speak of numbers alone -/
def hpur (l : List hP) : Bool := l.all fun p => !(Nat.beq p.1 2 || (Nat.beq p.1 3 || (Nat.beq p.1 4 || (Nat.beq p.1 5 || (Nat.beq p.1 6 || Nat.beq p.1 9)))))
def mrole (r : Nat) : Bool := match sSh (474 + soff r) with
  | some (1, r', o) => Nat.beq r' r && Nat.beq o 474
  | _ => false
def hOK (H : hT) (q : hQ) : Prop :=
  (∀ n, ∀ r ∈ H.1 n, vN q n r) ∧ (∀ n, ∀ r ∈ H.2.1 n, vU q n r) ∧ (∀ n, ∀ r ∈ H.2.2.1 n, vS q n r) ∧ (∀ n, ∀ r ∈ H.2.2.2.1 n, vX q n r) ∧
  (∀ n, ∀ r ∈ H.2.2.2.2.1 n, vK q n r ∧ hpur r.2.2 = true) ∧ (∀ n, ∀ r ∈ H.2.2.2.2.2.1 n, vL q n r) ∧
  ((∀ n, ∀ r ∈ H.2.2.2.2.2.2.1 n, r < 1000 → mrole r = true) ∧ ∀ n ps R R' G G', (∀ r ∈ H.2.2.2.2.2.2.1 n, r < 1000 → R' r = R r) → (∀ r ∈ H.2.2.2.2.2.2.1 n, 1000 ≤ r → G' (r - 1000) = G (r - 1000)) → q n ps R G → q n ps R' G') ∧
  (∀ r ∈ H.2.2.2.2.2.2.2, ∀ R G, hV (hqq q R G) R G (fun e => hge e r.2) r.1 [])
/-- what the predicates say of a memory -/
def hQs (q : hQ) (n : Nat) (ps : List Int) (M : zM) : Prop := q n ps (hR M) (hG M)
section HOK
variable {q : hQ} {ρ : Nat → Int} {ls : zL} {st : List Value} {M : zM} {A : sA} {H : hT}
theorem hlen {l : List sE} : (l.map (se ρ)).length = l.length := List.length_map _
theorem heqL_ok (h : skok ρ A.1) : ∀ {l m : List sE}, heqL A.1 l m = true → l.map (se ρ) = m.map (se ρ)
  | [], [], _ => rfl
  | a :: l, b :: m, hs => by
    unfold heqL at hs
    cases hq : heq A.1 a b with
    | false => rw [hq] at hs; cases hs
    | true =>
      rw [hq, cond_true] at hs
      rw [List.map_cons, List.map_cons, heq_ok h hq, heqL_ok h hs]
  | [], _ :: _, hs => by cases hs
  | _ :: _, [], hs => by cases hs
theorem hpres_ok (h : sR (hQs q) ρ A ls st M) {x : sQ} (hs : hpres A x = true) : hQs q x.1 (x.2.map (se ρ)) M := by
  obtain ⟨p, hp, h2⟩ := List.any_eq_true.mp hs
  rw [Bool.and_eq_true] at h2
  have h3 := h.2.2.2.1 p hp
  rw [Nat.eq_of_beq_eq_true h2.1, heqL_ok h.1 h2.2] at h3
  exact h3
theorem hmapsb {l : List sE} {e : List sE} : (l.map (tsb e)).map (se ρ) = l.map (se (lget (e.map (se ρ)))) := by
  rw [List.map_map, show se ρ ∘ tsb e = se (lget (e.map (se ρ))) from funext (hev e)]
theorem hwmsb {n : Nat} {l e : List sE} (w : ∀ x ∈ e, swE n x) : ∀ x ∈ l.map (tsb e), swE n x := fun x hx => by
  obtain ⟨y, -, rfl⟩ := List.mem_map.mp hx
  exact hwsb w y
theorem hhead {α : Type} {l : List α} {e : α} {t : List α} (h : l = e :: t) : e ∈ l := by
  rw [h]
  exact List.mem_cons_self
abbrev hder1 (q : hQ) (ρ : Nat → Int) (M : zM) (der : sQ → Bool) : Prop := ∀ x : sQ, der x = true → hqq q (hR M) (hG M) x.1 (x.2.map (se ρ))
theorem hfwd_ok (h : sR (hQs q) ρ A ls st M) {n : Nat} {rules : List hUr} (hu : ∀ r ∈ rules, vU q n r) {der : sQ → Bool} (hd : hder1 q ρ M der) {t : List sE} : ∀ (f : Nat) (p : List sE), hfwd der A rules t f p = true → q n (p.map (se ρ)) (hR M) (hG M) → q n (t.map (se ρ)) (hR M) (hG M)
  | 0, p, hs, hp => by
    unfold hfwd at hs
    rw [← heqL_ok h.1 hs]
    exact hp
  | f + 1, p, hs, hp => by
    unfold hfwd at hs
    rw [Bool.or_eq_true] at hs
    rcases hs with hs | hs
    · rw [← heqL_ok h.1 hs]
      exact hp
    · obtain ⟨r, hr, hs⟩ := List.any_eq_true.mp hs
      cases hl : (Nat.beq r.1 p.length && Nat.beq r.1 t.length) with
      | false => rw [hl] at hs; cases hs
      | true =>
        rw [hl, cond_true] at hs
        rw [Bool.and_eq_true] at hl
        have l1 := Nat.eq_of_beq_eq_true hl.1
        have l2 := Nat.eq_of_beq_eq_true hl.2
        split at hs
        · rename_i e es he
          obtain ⟨i1, i2⟩ := hrun_ok h (q := hqq q (hR M) (hG M)) (fun x hx => h.2.2.2.1 x hx) hd _ _ _ (hhead he)
          have hv := hu r hr (hR M) (hG M) (p.map (se ρ)) (t.map (se ρ)) (by rw [hlen, l1]) (by rw [hlen, l2]) hp
          rw [← List.map_append] at hv
          have := i1 _ hv
          cases hq : heqL A.1 (r.2.2.map (tsb e)) p with
          | true => rw [hq] at hs; cases hs
          | false =>
            rw [hq, cond_false] at hs
            exact hfwd_ok h hu hd f _ hs (by rw [hmapsb]; exact this)
        · cases hs
theorem hder_ok (hO : hOK H q) (h : sR (hQs q) ρ A ls st M) : ∀ f : Nat, hder1 q ρ M (hder H A f)
  | 0 => fun x hs => hpres_ok h hs
  | f + 1 => fun x hs => by
    unfold hder at hs
    rw [Bool.or_eq_true, Bool.or_eq_true] at hs
    rcases hs with hs | hs | hs
    · exact hpres_ok h hs
    · obtain ⟨r, hr, hs⟩ := List.any_eq_true.mp hs
      cases hl : Nat.beq r.1 x.2.length with
      | false => rw [hl] at hs; cases hs
      | true =>
        rw [hl, cond_true] at hs
        split at hs
        · rename_i e es he
          obtain ⟨i1, i2⟩ := hrun_ok h (q := hqq q (hR M) (hG M)) (fun x hx => h.2.2.2.1 x hx) (hder_ok hO h f) _ _ _ (hhead he)
          exact i1 _ (hO.1 x.1 r hr (hR M) (hG M) (x.2.map (se ρ)) (by rw [hlen, Nat.eq_of_beq_eq_true hl]))
        · cases hs
    · split at hs
      · cases hs
      · rename_i r l hl
        obtain ⟨p, hp, h2⟩ := List.any_eq_true.mp hs
        rw [Bool.and_eq_true] at h2
        have h3 := h.2.2.2.1 p hp
        rw [Nat.eq_of_beq_eq_true h2.1] at h3
        exact hfwd_ok h (n := x.1) (fun r' hr' => hO.2.1 x.1 r' (by rw [hl]; exact hr')) (hder_ok hO h f) _ _ h2.2 h3
theorem rhN_ok (hO : hOK H q) : sHN (hQs q) (rhN H) := by
  intro ρ A ls st M q' h hs
  exact hder_ok hO h 5 q' hs
theorem hout_ok {R : Nat → Int → Int} {G : Nat → Int} {e : List sE} {n : Nat} (w : ∀ x ∈ e, swE n x) : ∀ {l : List sQ}, hout q R G (e.map (se ρ)) l → ∀ o ∈ l.map (fun o => ((o.1, o.2.map (tsb e)) : sQ)), q o.1 (o.2.map (se ρ)) R G ∧ ∀ x ∈ o.2, swE n x
  | [], _, o, ho => by cases ho
  | p :: l, h, o, ho => by
    rcases List.mem_cons.mp ho with rfl | ho
    · refine ⟨?_, hwmsb w⟩
      dsimp only
      rw [hmapsb]
      exact h.1
    · exact hout_ok w h.2 o ho
theorem hge_ok {e : List sE} {n : Nat} (w : ∀ x ∈ e, swE n x) : ∀ {l : List sE}, hge (e.map (se ρ)) l → ∀ o ∈ l.map (tsb e), swE n o ∧ 0 ≤ se ρ o
  | [], _, o, ho => by cases ho
  | p :: l, h, o, ho => by
    rcases List.mem_cons.mp ho with rfl | ho
    · exact ⟨hwsb w p, by rw [hev]; exact h.1⟩
    · exact hge_ok w h.2 o ho
/-! what is learnt -/
theorem hnew_mem {K : sK} : ∀ {l seen : List sE} {e : sE}, e ∈ hnew K l seen → e ∈ l
  | [], _, _, h => by cases h
  | a :: l, seen, e, h => by
    unfold hnew at h
    cases hq : (sge0 K a || seen.any (sEq a)) with
    | true =>
      rw [hq, cond_true] at h
      exact List.mem_cons_of_mem _ (hnew_mem h)
    | false =>
      rw [hq, cond_false] at h
      rcases List.mem_cons.mp h with rfl | h
      · exact List.mem_cons_self
      · exact List.mem_cons_of_mem _ (hnew_mem h)
end HOK
