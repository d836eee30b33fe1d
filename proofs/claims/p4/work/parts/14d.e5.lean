/-! THE ENGINE, 5: operations -/
/-- a symbol that both have, with factors of one sign -/
def sshr (a b : sT) : Bool := a.any fun t => b.any fun u => Nat.beq t.1 u.1 && cond (spos t.2) (spos u.2) (!(spos u.2))
/-- the greatest common divisor of the factors -/
def sgcd (l : sT) : Nat := l.foldl (fun n t => Nat.gcd n t.2.natAbs) 0
theorem sgcd_dvd0 : ∀ (l : sT) (n : Nat), (l.foldl (fun n t => Nat.gcd n t.2.natAbs) n ∣ n) ∧ ∀ t ∈ l, l.foldl (fun n t => Nat.gcd n t.2.natAbs) n ∣ t.2.natAbs
  | [], n => ⟨Nat.dvd_refl n, fun t h => by cases h⟩
  | t :: l, n => by
    obtain ⟨h1, h2⟩ := sgcd_dvd0 l (Nat.gcd n t.2.natAbs)
    refine ⟨Nat.dvd_trans h1 (Nat.gcd_dvd_left _ _), fun q hq => ?_⟩
    rcases List.mem_cons.mp hq with rfl | hq
    · exact Nat.dvd_trans h1 (Nat.gcd_dvd_right _ _)
    · exact h2 q hq
theorem sv_dvd {ρ : Nat → Int} {g : Int} : ∀ {l : sT}, (∀ t ∈ l, g ∣ t.2) → g ∣ sv ρ l
  | [], _ => ⟨0, by rw [Int.mul_zero]; rfl⟩
  | t :: l, h => by
    obtain ⟨a, ha⟩ := h t List.mem_cons_self
    obtain ⟨b, hb⟩ := sv_dvd (ρ := ρ) (l := l) (fun q hq => h q (List.mem_cons_of_mem _ hq))
    refine ⟨a * ρ t.1 + b, ?_⟩
    show t.2 * ρ t.1 + sv ρ l = _
    rw [ha, hb, Int.mul_add, Int.mul_assoc]
theorem sgcd_ok {ρ : Nat → Int} (l : sT) : ∃ z, sv ρ l = (sgcd l : Int) * z :=
  sv_dvd fun t ht => by
    obtain ⟨z, hz⟩ := (sgcd_dvd0 l 0).2 t ht
    have hz : t.2.natAbs = sgcd l * z := hz
    rcases Int.natAbs_eq t.2 with q | q
    · exact ⟨(z : Int), by rw [q, hz, Int.natCast_mul]⟩
    · exact ⟨-(z : Int), by rw [q, hz, Int.natCast_mul, Int.mul_neg]⟩
/-- the prover: only with what is assumed that has to do with it -/
def sprov0 (B : sB) (P : List sE) (e : sE) : Bool := spos (slb B e) || (match e.2 with
  | [] => false
  | _ :: _ => P.any (fun p => sshr e.2 p.2 && spos (slb B (ssub e p))) || P.any fun p => sshr e.2 p.2 && P.any fun q => sshr (ssub e p).2 q.2 && spos (slb B (ssub (ssub e p) q)))
theorem sprov0_ok {ρ : Nat → Int} {B : sB} {P : List sE} {e : sE} (hB : sok ρ B) (hP : sokP ρ P) (h : sprov0 B P e = true) : 0 ≤ se ρ e := by
  unfold sprov0 at h
  rw [Bool.or_eq_true] at h
  rcases h with h | h
  · exact Int.le_trans (spos_ok h) (slb_ok hB e)
  · split at h
    · cases h
    · rw [Bool.or_eq_true, List.any_eq_true, List.any_eq_true] at h
      rcases h with ⟨p, hp, h⟩ | ⟨p, hp, h⟩
      · rw [Bool.and_eq_true] at h
        have h1 := Int.le_trans (spos_ok h.2) (slb_ok hB _)
        rw [se_sub] at h1
        have := hP p hp
        omega
      · rw [Bool.and_eq_true] at h
        obtain ⟨q, hq, h⟩ := List.any_eq_true.mp h.2
        rw [Bool.and_eq_true] at h
        have h1 := Int.le_trans (spos_ok h.2) (slb_ok hB _)
        rw [se_sub, se_sub] at h1
        have h2 := hP p hp
        have h3 := hP q hq
        omega
/-- divided by the greatest common divisor of the factors, the constant rounded down -/
def sgnorm (e : sE) : sE := (e.1 / (sgcd e.2 : Int), e.2.map fun t => (t.1, t.2 / (sgcd e.2 : Int)))
theorem sv_gdiv {ρ : Nat → Int} {g : Int} : ∀ {l : sT}, (∀ t ∈ l, g ∣ t.2) → sv ρ l = g * sv ρ (l.map fun t => (t.1, t.2 / g))
  | [], _ => (Int.mul_zero g).symm
  | t :: l, h => by
    have ih := sv_gdiv (ρ := ρ) (l := l) (fun q hq => h q (List.mem_cons_of_mem _ hq))
    have e := Int.mul_ediv_cancel' (h t List.mem_cons_self)
    show t.2 * ρ t.1 + sv ρ l = g * (t.2 / g * ρ t.1 + sv ρ (l.map fun t => (t.1, t.2 / g)))
    rw [ih, Int.mul_add, ← Int.mul_assoc, e]
theorem sgcd_all (l : sT) : ∀ t ∈ l, (sgcd l : Int) ∣ t.2 := fun t ht => by
  obtain ⟨z, hz⟩ := (sgcd_dvd0 l 0).2 t ht
  have hz : t.2.natAbs = sgcd l * z := hz
  rcases Int.natAbs_eq t.2 with q | q
  · exact ⟨(z : Int), by rw [q, hz, Int.natCast_mul]⟩
  · exact ⟨-(z : Int), by rw [q, hz, Int.natCast_mul, Int.mul_neg]⟩
theorem sgnorm_ok {ρ : Nat → Int} {e : sE} (hg : 1 < sgcd e.2) (h : 0 ≤ se ρ (sgnorm e)) : 0 ≤ se ρ e := by
  have e1 := sv_gdiv (ρ := ρ) (sgcd_all e.2)
  unfold sgnorm se at h
  unfold se
  dsimp only at h
  rw [e1]
  have hg : (1 : Int) < (sgcd e.2 : Int) := by omega
  generalize sv ρ (e.2.map fun t => (t.1, t.2 / (sgcd e.2 : Int))) = z at h ⊢
  generalize (sgcd e.2 : Int) = g at *
  have e2 := Int.mul_ediv_add_emod e.1 g
  have e3 := Int.emod_nonneg e.1 (show g ≠ 0 by omega)
  have e4 : 0 ≤ g * (e.1 / g + z) := Int.mul_nonneg (by omega) h
  rw [Int.mul_add] at e4
  omega
def sprov (B : sB) (P : List sE) (e : sE) : Bool := sprov0 B P e || (match e.2 with
  | [] => false
  | _ :: _ => Nat.blt 1 (sgcd e.2) && sprov0 B P (sgnorm e))
theorem sprov_ok {ρ : Nat → Int} {B : sB} {P : List sE} {e : sE} (hB : sok ρ B) (hP : sokP ρ P) (h : sprov B P e = true) : 0 ≤ se ρ e := by
  unfold sprov at h
  rw [Bool.or_eq_true] at h
  rcases h with h | h
  · exact sprov0_ok hB hP h
  · split at h
    · cases h
    · rw [Bool.and_eq_true] at h
      exact sgnorm_ok (Nat.le_of_ble_eq_true h.1) (sprov0_ok hB hP h.2)
def sin_ (K : sK) (e : sE) (q : Int × Int) : Bool := sprov K.1 K.2 (ssub e (sC q.1)) && sprov K.1 K.2 (ssub (sC q.2) e)
theorem sin_ok {ρ : Nat → Int} {K : sK} {e : sE} {q : Int × Int} (h : skok ρ K) (hs : sin_ K e q = true) : sRn q (se ρ e) := by
  unfold sin_ at hs
  rw [Bool.and_eq_true] at hs
  have h1 := sprov_ok h.1 h.2 hs.1
  have h2 := sprov_ok h.1 h.2 hs.2
  rw [se_sub, se_C] at h1 h2
  exact ⟨by omega, by omega⟩
def sTeq : sT → sT → Bool
  | [], [] => true
  | a :: l, b :: m => Nat.beq a.1 b.1 && (siz (a.2 - b.2) && sTeq l m)
  | _, _ => false
theorem sTeq_ok : ∀ {l m : sT}, sTeq l m = true → l = m
  | [], [], _ => rfl
  | [], _ :: _, h => by cases h
  | _ :: _, [], h => by cases h
  | a :: l, b :: m, h => by
    unfold sTeq at h
    rw [Bool.and_eq_true, Bool.and_eq_true] at h
    obtain ⟨h1, h2, h3⟩ := h
    have e1 := Nat.eq_of_beq_eq_true h1
    have e2 := siz_0 h2
    have e3 : a.2 = b.2 := by omega
    rw [sTeq_ok h3, Prod.ext e1 e3]
def sEq (a b : sE) : Bool := siz (a.1 - b.1) && sTeq a.2 b.2
theorem sEq_ok {a b : sE} (h : sEq a b = true) : a = b := by
  unfold sEq at h
  rw [Bool.and_eq_true] at h
  have := siz_0 h.1
  exact Prod.ext (by omega) (sTeq_ok h.2)
/-- an expression that is a number -/
def scon (B : sB) (e : sE) : Option Int := cond (siz (slb B e - sub_ B e)) (some (slb B e)) none
theorem scon_ok {ρ : Nat → Int} {B : sB} {e : sE} {c : Int} (h : sok ρ B) (hc : scon B e = some c) : se ρ e = c := by
  unfold scon at hc
  cases hz : siz (slb B e - sub_ B e) with
  | false => rw [hz] at hc; cases hc
  | true =>
    rw [hz] at hc
    cases hc
    have h1 := siz_0 hz
    have h2 := slb_ok h e
    have h3 := sub_ok h e
    omega
def sdfind (i : Instr) (a b : sE) : List sD → Option Nat
  | [] => none
  | d :: l => cond (sEq d.2.1 a && (sEq d.2.2.1 b && decide (d.1 = i))) (some d.2.2.2) (sdfind i a b l)
theorem sdfind_ok {i : Instr} {a b : sE} {x : Nat} : ∀ {l : List sD}, sdfind i a b l = some x → (i, a, b, x) ∈ l
  | [], h => by cases h
  | d :: l, h => by
    unfold sdfind at h
    cases hq : sEq d.2.1 a && (sEq d.2.2.1 b && decide (d.1 = i)) with
    | true =>
      rw [hq] at h
      rw [Bool.and_eq_true, Bool.and_eq_true] at hq
      obtain ⟨h1, h2, h3⟩ := hq
      cases h
      rw [← sEq_ok h1, ← sEq_ok h2, ← of_decide_eq_true h3]
      exact List.mem_cons_self
    | false =>
      rw [hq] at h
      exact List.mem_cons_of_mem _ (sdfind_ok h)
/-- the symbol of an operation's answer: the one that stands for it already, or one more -/
def sdef (i : Instr) (K : sK) (D : List sD) (a b : sE) (q : Int × Int) : sK × List sD × sE := match sdfind i a b D with
  | some x => (K, D, sS x)
  | none => (sfresh K q.1 q.2, (i, a, b, K.1.length) :: D, sS K.1.length)
/-- two that are assumed, added, and rounded -/
def sround (e p : sE) : Option sE := match (sadd e p).2 with
  | _ :: _ :: _ => cond (siz ((sadd e p).1 % (sgcd (sadd e p).2 : Int))) none (some ((sgcd (sadd e p).2 : Int) * ((sadd e p).1 / (sgcd (sadd e p).2 : Int)), (sadd e p).2))
  | _ => none
theorem sround_ok {ρ : Nat → Int} {e p f : sE} (he : 0 ≤ se ρ e) (hp : 0 ≤ se ρ p) (h : sround e p = some f) : 0 ≤ se ρ f := by
  have h1 : 0 ≤ se ρ (sadd e p) := by rw [se_add]; omega
  unfold sround at h
  generalize sadd e p = g at h h1
  split at h
  · cases hz : siz (g.1 % (sgcd g.2 : Int)) with
    | true => rw [hz] at h; cases h
    | false =>
      rw [hz] at h
      cases h
      obtain ⟨z, hz⟩ := sgcd_ok (ρ := ρ) g.2
      unfold se at h1 ⊢
      dsimp only
      rw [hz] at h1 ⊢
      have hd0 := Int.natCast_nonneg (sgcd g.2)
      generalize (sgcd g.2 : Int) = d at *
      rcases Int.lt_trichotomy d 0 with q | q | q
      · omega
      · subst q
        simp
      · have e1 := Int.mul_ediv_add_emod g.1 d
        have e2 := Int.emod_lt_of_pos g.1 q
        have e3 : 0 < d * (g.1 / d + z + 1) := by
          rw [Int.mul_add, Int.mul_add, Int.mul_one]
          omega
        have e4 : 0 < g.1 / d + z + 1 := by
          rcases Int.lt_or_le 0 (g.1 / d + z + 1) with w | w
          · exact w
          · have := Int.mul_nonpos_of_nonneg_of_nonpos (Int.le_of_lt q) w
            omega
        rw [← Int.mul_add]
        exact Int.mul_nonneg (Int.le_of_lt q) (by omega)
  · cases h
theorem sround_wf {n : Nat} {e p f : sE} (he : swE n e) (hp : swE n p) (h : sround e p = some f) : swE n f := by
  have h1 := swE_add he hp
  unfold sround at h
  generalize sadd e p = g at h h1
  split at h
  · cases hz : siz (g.1 % (sgcd g.2 : Int)) with
    | true => rw [hz] at h; cases h
    | false => rw [hz] at h; cases h; exact h1
  · cases h
/-- e ≥ 0 is assumed, and what it gives with each that is assumed already -/
def sassum2 (K : sK) (e : sE) : Option sK :=
  cond (spos (slb K.1 e)) (some K)
    (cond (sprov K.1 K.2 (ssub (sC (-1)) e)) none
      (match stigs e.1 K.1 [] e.2 with
        | some B => (match sretig K.2 B with
          | some B' => some (B', (match e.2 with
            | _ :: _ :: _ => e :: (K.2.filterMap (sround e) ++ K.2)
            | _ => K.2))
          | none => none)
        | none => none))
theorem sassum2_ok {ρ : Nat → Int} {K : sK} {e : sE} (h : skok ρ K) (he : 0 ≤ se ρ e) : ∃ K', sassum2 K e = some K' ∧ skok ρ K' ∧ K'.1.length = K.1.length := by
  unfold sassum2
  cases h1 : spos (slb K.1 e) with
  | true => exact ⟨K, rfl, h, rfl⟩
  | false =>
    cases h2 : sprov K.1 K.2 (ssub (sC (-1)) e) with
    | true =>
      have h3 := sprov_ok h.1 h.2 h2
      rw [se_sub, se_C] at h3
      omega
    | false =>
      obtain ⟨B, e1, e2, e3⟩ := stigs_ok (k := e.1) e.2 K.1 [] h.1 (by
        show 0 ≤ e.1 + 0 + sv ρ e.2
        unfold se at he
        omega)
      obtain ⟨B', f1, f2, f3⟩ := sretig_ok K.2 B e2 h.2
      dsimp only [cond]
      rw [e1]
      dsimp only
      rw [f1]
      refine ⟨_, rfl, ⟨f2, ?_⟩, f3.trans e3⟩
      dsimp only
      split
      · intro p hp
        rcases List.mem_cons.mp hp with q | hp
        · rw [q]; exact he
        · rcases List.mem_append.mp hp with hp | hp
          · obtain ⟨q, q1, q2⟩ := List.mem_filterMap.mp hp
            exact sround_ok he (h.2 q q1) q2
          · exact h.2 p hp
      · exact h.2
/-- assumed one after the other -/
def sasm : List sE → sK → Option sK
  | [], K => some K
  | e :: l, K => match sassum2 K e with
    | some K' => sasm l K'
    | none => none
section SOP
variable {Qs : Nat → List Int → zM → Prop} {ρ : Nat → Int} {K : sK} {D : List sD} {F : List sF} {Q : List sQ} {L : List (Nat × sV)} {T : List sV} {ls : zL} {st : List Value} {M : zM}
/-- what is meant by 'goes on': a later meaning of the symbols -/
def sGo (Qs : Nat → List Int → zM → Prop) (ρ : Nat → Int) (n : Nat) (A : sA) (ls : zL) (st : List Value) (M : zM) (p : (Nat → Int) → Prop) : Prop := ∃ σ, sagr n ρ σ ∧ n ≤ A.1.1.length ∧ sR Qs σ A ls st M ∧ p σ
theorem sassum2_wf {n : Nat} {K K' : sK} {e : sE} (h : sassum2 K e = some K') (hK : ∀ p ∈ K.2, swE n p) (he : swE n e) : ∀ p ∈ K'.2, swE n p := by
  unfold sassum2 at h
  cases h1 : spos (slb K.1 e) with
  | true => rw [h1] at h; cases h; exact hK
  | false =>
    rw [h1] at h
    cases h2 : sprov K.1 K.2 (ssub (sC (-1)) e) with
    | true => rw [h2] at h; cases h
    | false =>
      rw [h2] at h
      dsimp only [cond] at h
      split at h
      · split at h
        · cases h
          dsimp only
          split
          · refine List.forall_mem_cons.mpr ⟨he, fun p hp => ?_⟩
            rcases List.mem_append.mp hp with hp | hp
            · obtain ⟨q, q1, q2⟩ := List.mem_filterMap.mp hp
              exact sround_wf he (hK q q1) q2
            · exact hK p hp
          · exact hK
        · cases h
      · cases h
theorem sasm_ok : ∀ {l : List sE} {K : sK}, (∀ p ∈ K.2, swE K.1.length p) → (∀ e ∈ l, swE K.1.length e) → skok ρ K → (∀ e ∈ l, 0 ≤ se ρ e) → ∃ K', sasm l K = some K' ∧ skok ρ K' ∧ K'.1.length = K.1.length ∧ ∀ p ∈ K'.2, swE K.1.length p
  | [], K, hw, _, h, _ => ⟨K, rfl, h, rfl, hw⟩
  | e :: l, K, hw, hl, h, he => by
    obtain ⟨K1, e1, e2, e3⟩ := sassum2_ok h (he e List.mem_cons_self)
    have w1 := sassum2_wf e1 hw (hl e List.mem_cons_self)
    obtain ⟨K2, f1, f2, f3, f4⟩ := sasm_ok (K := K1) (l := l) (by rw [e3]; exact w1) (fun e he => by rw [e3]; exact hl e (List.mem_cons_of_mem _ he)) e2 (fun q hq => he q (List.mem_cons_of_mem _ hq))
    refine ⟨K2, ?_, f2, f3.trans e3, by rw [e3] at f4; exact f4⟩
    unfold sasm
    rw [e1]
    exact f1
theorem sR_asm (h : sR Qs ρ (K, D, F, Q, L, T) ls st M) {l : List sE} (hl : ∀ e ∈ l, swE K.1.length e) (he : ∀ e ∈ l, 0 ≤ se ρ e) : ∃ K', sasm l K = some K' ∧ K'.1.length = K.1.length ∧ sR Qs ρ (K', D, F, Q, L, T) ls st M := by
  obtain ⟨K', e1, e2, e3, e4⟩ := sasm_ok h.2.2.2.2.2.2.2.1 hl h.1 he
  exact ⟨K', e1, e3, sR_K h e2 e3 e4⟩
theorem sR_def (h : sR Qs ρ (K, D, F, Q, L, T) ls st M) {i : Instr} {a b : sE} {q : Int × Int} {v : Int} (ha : swE K.1.length a) (hb : swE K.1.length b) (hv : sRn q v) (hd : sDokE (se ρ a) (se ρ b) v i) (hu : ∀ u, sDokE (se ρ a) (se ρ b) u i → u = v) :
    ∃ σ, sagr K.1.length ρ σ ∧ K.1.length ≤ (sdef i K D a b q).1.1.length ∧ sR Qs σ ((sdef i K D a b q).1, (sdef i K D a b q).2.1, F, Q, L, T) ls st M ∧ se σ (sdef i K D a b q).2.2 = v ∧ swE (sdef i K D a b q).1.1.length (sdef i K D a b q).2.2 := by
  unfold sdef
  cases hf : sdfind i a b D with
  | some x =>
    have hm := sdfind_ok hf
    have h2 := h.2.1 _ hm
    have hx : x < K.1.length := (h.2.2.2.2.2.2.2.2.1 _ hm).2.2
    refine ⟨ρ, fun _ _ => rfl, Nat.le_refl _, h, ?_, swE_S hx⟩
    rw [se_S]
    exact hu _ h2
  | none =>
    have h2 := sR_fresh h hv
    have hl : (sfresh K q.1 q.2).1.length = K.1.length + 1 := List.length_append
    refine ⟨supd ρ K.1.length v, supd_agr, by dsimp only; rw [hl]; exact Nat.le_succ _, ?_, by dsimp only; rw [se_S]; exact supd_self, by dsimp only; rw [hl]; exact swE_S (Nat.lt_succ_self _)⟩
    obtain ⟨h1, h3, h4, h5, h6, h7, h8, w1, w2, w3, w4, w5, w6⟩ := h2
    refine ⟨h1, List.forall_mem_cons.mpr ⟨?_, h3⟩, h4, h5, h6, h7, h8, w1, List.forall_mem_cons.mpr ⟨⟨?_, ?_, ?_⟩, w2⟩, w3, w4, w5, w6⟩
    · show sDokE (se _ a) (se _ b) (supd ρ K.1.length v K.1.length) i
      rw [se_agr supd_agr ha, se_agr supd_agr hb, supd_self]
      exact hd
    · exact ha.le (by rw [hl]; exact Nat.le_succ _)
    · exact hb.le (by rw [hl]; exact Nat.le_succ _)
    · show K.1.length < (sfresh K q.1 q.2).1.length
      rw [hl]; exact Nat.lt_succ_self _
end SOP
theorem sofi32 (x : Int32) : Int32.ofInt x.toInt = x := Int32.ofInt_toInt x
theorem sofi64 (x : Int64) : Int64.ofInt x.toInt = x := Int64.ofInt_toInt x
theorem sDok_I {i : Instr} {f : Int32 → Int32 → Option Int32} (hi : zbI i = some f) (hl : zbL i = none) (hs : zsL i = none) {x y r : Int32} (hr : f x y = some r) : sDokE x.toInt y.toInt r.toInt i ∧ ∀ u, sDokE x.toInt y.toInt u i → u = r.toInt := by
  refine ⟨⟨fun g hg => ?_, fun g hg => (by rw [hl] at hg; cases hg), fun g hg => (by rw [hs] at hg; cases hg)⟩, fun u hu => ?_⟩
  · rw [hi] at hg
    cases hg
    exact ⟨r, by rw [sofi32, sofi32]; exact hr, rfl⟩
  · obtain ⟨r', h1, h2⟩ := hu.1 f hi
    rw [sofi32, sofi32, hr] at h1
    cases h1
    exact h2.symm
theorem sDok_L {i : Instr} {f : Int64 → Int64 → Option Int64} (hi : zbL i = some f) (hl : zbI i = none) (hs : zsL i = none) {x y r : Int64} (hr : f x y = some r) : sDokE x.toInt y.toInt r.toInt i ∧ ∀ u, sDokE x.toInt y.toInt u i → u = r.toInt := by
  refine ⟨⟨fun g hg => (by rw [hl] at hg; cases hg), fun g hg => ?_, fun g hg => (by rw [hs] at hg; cases hg)⟩, fun u hu => ?_⟩
  · rw [hi] at hg
    cases hg
    exact ⟨r, by rw [sofi64, sofi64]; exact hr, rfl⟩
  · obtain ⟨r', h1, h2⟩ := hu.2.1 f hi
    rw [sofi64, sofi64, hr] at h1
    cases h1
    exact h2.symm
theorem sDok_S {i : Instr} {f : Int64 → Int32 → Int64} (hi : zsL i = some f) (hl : zbI i = none) (hs : zbL i = none) {x : Int64} {y : Int32} : sDokE x.toInt y.toInt (f x y).toInt i ∧ ∀ u, sDokE x.toInt y.toInt u i → u = (f x y).toInt := by
  refine ⟨⟨fun g hg => (by rw [hl] at hg; cases hg), fun g hg => (by rw [hs] at hg; cases hg), fun g hg => ?_⟩, fun u hu => ?_⟩
  · rw [hi] at hg
    cases hg
    rw [sofi64, sofi32]
  · have h1 := hu.2.2 f hi
    rw [sofi64, sofi32] at h1
    exact h1.symm
