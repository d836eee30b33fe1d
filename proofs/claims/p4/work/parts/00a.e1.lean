/-! THE ENGINE, 1: linear expressions over symbols, their bounds, a prover -/
abbrev sT : Type := List (Nat × Int)
abbrev sE : Type := Int × sT
def sv (ρ : Nat → Int) : sT → Int
  | [] => 0
  | t :: l => t.2 * ρ t.1 + sv ρ l
def se (ρ : Nat → Int) (e : sE) : Int := e.1 + sv ρ e.2
def siz (a : Int) : Bool := match a with
  | .ofNat n => Nat.beq n 0
  | .negSucc _ => false
theorem siz_0 {a : Int} (h : siz a = true) : a = 0 := by
  cases a with
  | ofNat n => rw [Nat.eq_of_beq_eq_true h]; rfl
  | negSucc n => cases h
/-- 0 ≤ a -/
def spos (a : Int) : Bool := match a with
  | .ofNat _ => true
  | .negSucc _ => false
theorem spos_ok {a : Int} (h : spos a = true) : 0 ≤ a := by
  cases a with
  | ofNat n => exact Int.natCast_nonneg n
  | negSucc n => cases h
theorem spos_no {a : Int} (h : spos a = false) : a < 0 := by
  cases a with
  | ofNat n => cases h
  | negSucc n => exact Int.negSucc_lt_zero n
def sins (x : Nat) (c : Int) : sT → sT
  | [] => [(x, c)]
  | t :: l => cond (Nat.beq x t.1) (cond (siz (c + t.2)) l ((x, c + t.2) :: l)) (cond (Nat.blt x t.1) ((x, c) :: t :: l) (t :: sins x c l))
theorem sv_sins {ρ : Nat → Int} {x : Nat} {c : Int} : ∀ l : sT, sv ρ (sins x c l) = c * ρ x + sv ρ l := by
  intro l
  induction l with
  | nil => rfl
  | cons t l ih =>
    unfold sins
    cases h1 : Nat.beq x t.1 with
    | true =>
      have e := Nat.eq_of_beq_eq_true h1
      cases h2 : siz (c + t.2) with
      | true =>
        have z := siz_0 h2
        show sv ρ l = c * ρ x + (t.2 * ρ t.1 + sv ρ l)
        rw [← e, ← Int.add_assoc, ← Int.add_mul, z, Int.zero_mul, Int.zero_add]
      | false =>
        show (c + t.2) * ρ x + sv ρ l = c * ρ x + (t.2 * ρ t.1 + sv ρ l)
        rw [← e, Int.add_mul, Int.add_assoc]
    | false =>
      cases h2 : Nat.blt x t.1 with
      | true => rfl
      | false =>
        show t.2 * ρ t.1 + sv ρ (sins x c l) = c * ρ x + (t.2 * ρ t.1 + sv ρ l)
        rw [ih]
        omega
def sadds (k : Int) : sT → sT → sT
  | [], b => b
  | t :: a, b => sins t.1 (k * t.2) (sadds k a b)
theorem sv_sadds {ρ : Nat → Int} {k : Int} {b : sT} : ∀ a : sT, sv ρ (sadds k a b) = k * sv ρ a + sv ρ b := by
  intro a
  induction a with
  | nil =>
    show sv ρ b = k * 0 + sv ρ b
    rw [Int.mul_zero, Int.zero_add]
  | cons t a ih =>
    unfold sadds
    rw [sv_sins, ih]
    show k * t.2 * ρ t.1 + (k * sv ρ a + sv ρ b) = k * (t.2 * ρ t.1 + sv ρ a) + sv ρ b
    rw [Int.mul_add, Int.mul_assoc]
    omega
def sadd (a b : sE) : sE := (a.1 + b.1, sadds 1 a.2 b.2)
def ssub (a b : sE) : sE := (a.1 - b.1, sadds (-1) b.2 a.2)
def smul (k : Int) (e : sE) : sE := cond (siz k) (0, []) (k * e.1, e.2.map fun t => (t.1, k * t.2))
def sC (n : Int) : sE := (n, [])
def sS (x : Nat) : sE := (0, [(x, 1)])
theorem se_add {ρ : Nat → Int} (a b : sE) : se ρ (sadd a b) = se ρ a + se ρ b := by
  show a.1 + b.1 + sv ρ (sadds 1 a.2 b.2) = a.1 + sv ρ a.2 + (b.1 + sv ρ b.2)
  rw [sv_sadds, Int.one_mul]
  omega
theorem se_sub {ρ : Nat → Int} (a b : sE) : se ρ (ssub a b) = se ρ a - se ρ b := by
  show a.1 - b.1 + sv ρ (sadds (-1) b.2 a.2) = a.1 + sv ρ a.2 - (b.1 + sv ρ b.2)
  rw [sv_sadds]
  omega
theorem sv_map {ρ : Nat → Int} {k : Int} : ∀ l : sT, sv ρ (l.map fun t => (t.1, k * t.2)) = k * sv ρ l := by
  intro l
  induction l with
  | nil => exact (Int.mul_zero k).symm
  | cons t l ih =>
    show k * t.2 * ρ t.1 + sv ρ (l.map fun t => (t.1, k * t.2)) = k * (t.2 * ρ t.1 + sv ρ l)
    rw [ih, Int.mul_add, Int.mul_assoc]
theorem se_mul {ρ : Nat → Int} (k : Int) (e : sE) : se ρ (smul k e) = k * se ρ e := by
  unfold smul
  cases h : siz k with
  | true =>
    rw [siz_0 h]
    show (0 : Int) + 0 = 0 * se ρ e
    rw [Int.zero_mul]
    rfl
  | false =>
    show k * e.1 + sv ρ (e.2.map fun t => (t.1, k * t.2)) = k * (e.1 + sv ρ e.2)
    rw [sv_map, Int.mul_add]
theorem se_C {ρ : Nat → Int} (n : Int) : se ρ (sC n) = n := Int.add_zero n
theorem se_S {ρ : Nat → Int} (x : Nat) : se ρ (sS x) = ρ x := by
  show 0 + (1 * ρ x + 0) = ρ x
  omega
/-! bounds of symbols -/
abbrev sB : Type := List (Int × Int)
def sbd (B : sB) (x : Nat) : Int × Int := B.getD x (0, 0)
def sok (ρ : Nat → Int) (B : sB) : Prop := ∀ x, (sbd B x).1 ≤ ρ x ∧ ρ x ≤ (sbd B x).2
def slo (B : sB) (t : Nat × Int) : Int := t.2 * (match t.2 with
  | .ofNat _ => (sbd B t.1).1
  | .negSucc _ => (sbd B t.1).2)
def shi (B : sB) (t : Nat × Int) : Int := t.2 * (match t.2 with
  | .ofNat _ => (sbd B t.1).2
  | .negSucc _ => (sbd B t.1).1)
theorem slo_ok {ρ : Nat → Int} {B : sB} (h : sok ρ B) (t : Nat × Int) : slo B t ≤ t.2 * ρ t.1 := by
  obtain ⟨x, c⟩ := t
  unfold slo
  cases c with
  | ofNat n => exact Int.mul_le_mul_of_nonneg_left (h x).1 (Int.natCast_nonneg n)
  | negSucc n => exact Int.mul_le_mul_of_nonpos_left (Int.le_of_lt (Int.negSucc_lt_zero n)) (h x).2
theorem shi_ok {ρ : Nat → Int} {B : sB} (h : sok ρ B) (t : Nat × Int) : t.2 * ρ t.1 ≤ shi B t := by
  obtain ⟨x, c⟩ := t
  unfold shi
  cases c with
  | ofNat n => exact Int.mul_le_mul_of_nonneg_left (h x).2 (Int.natCast_nonneg n)
  | negSucc n => exact Int.mul_le_mul_of_nonpos_left (Int.le_of_lt (Int.negSucc_lt_zero n)) (h x).1
def slbt (B : sB) : sT → Int
  | [] => 0
  | t :: l => slo B t + slbt B l
def subt (B : sB) : sT → Int
  | [] => 0
  | t :: l => shi B t + subt B l
def slb (B : sB) (e : sE) : Int := e.1 + slbt B e.2
def sub_ (B : sB) (e : sE) : Int := e.1 + subt B e.2
theorem slbt_ok {ρ : Nat → Int} {B : sB} (h : sok ρ B) : ∀ l : sT, slbt B l ≤ sv ρ l := by
  intro l
  induction l with
  | nil => exact Int.le_refl 0
  | cons t l ih => exact Int.add_le_add (slo_ok h t) ih
theorem subt_ok {ρ : Nat → Int} {B : sB} (h : sok ρ B) : ∀ l : sT, sv ρ l ≤ subt B l := by
  intro l
  induction l with
  | nil => exact Int.le_refl 0
  | cons t l ih => exact Int.add_le_add (shi_ok h t) ih
theorem slb_ok {ρ : Nat → Int} {B : sB} (h : sok ρ B) (e : sE) : slb B e ≤ se ρ e := Int.add_le_add_left (slbt_ok h e.2) e.1
theorem sub_ok {ρ : Nat → Int} {B : sB} (h : sok ρ B) (e : sE) : se ρ e ≤ sub_ B e := Int.add_le_add_left (subt_ok h e.2) e.1
/-! the prover: bounds; bounds of e - p; bounds of e - p - q -/
def sokP (ρ : Nat → Int) (P : List sE) : Prop := ∀ p ∈ P, 0 ≤ se ρ p
def sprove (B : sB) (P : List sE) (e : sE) : Bool := spos (slb B e) || (P.any (fun p => spos (slb B (ssub e p))) || P.any fun p => P.any fun q => spos (slb B (ssub (ssub e p) q)))
theorem sprove_ok {ρ : Nat → Int} {B : sB} {P : List sE} {e : sE} (hB : sok ρ B) (hP : sokP ρ P) (h : sprove B P e = true) : 0 ≤ se ρ e := by
  unfold sprove at h
  rw [Bool.or_eq_true, Bool.or_eq_true, List.any_eq_true, List.any_eq_true] at h
  rcases h with h | ⟨p, hp, h⟩ | ⟨p, hp, h⟩
  · exact Int.le_trans (spos_ok h) (slb_ok hB e)
  · have h1 := Int.le_trans (spos_ok h) (slb_ok hB _)
    rw [se_sub] at h1
    have := hP p hp
    omega
  · obtain ⟨q, hq, h⟩ := List.any_eq_true.mp h
    have h1 := Int.le_trans (spos_ok h) (slb_ok hB _)
    rw [se_sub, se_sub] at h1
    have h2 := hP p hp
    have h3 := hP q hq
    omega
/-! what is assumed tightens bounds -/
def stig1 (B : sB) (u : Int) (t : Nat × Int) : Option sB := match t.2 with
  | .ofNat 0 => some B
  | .ofNat (n + 1) =>
    let l := -(u / Int.ofNat (n + 1))
    let q := sbd B t.1
    let m := cond (spos (l - q.1)) l q.1
    cond (spos (q.2 - m)) (some (B.set t.1 (m, q.2))) none
  | .negSucc n =>
    let r := u / Int.ofNat (n + 1)
    let q := sbd B t.1
    let m := cond (spos (q.2 - r)) r q.2
    cond (spos (m - q.1)) (some (B.set t.1 (q.1, m))) none
theorem sbd_set {B : sB} {x y : Nat} {q : Int × Int} : sbd (B.set x q) y = if x = y ∧ x < B.length then q else sbd B y := by
  unfold sbd
  rw [List.getD_eq_getElem?_getD, List.getD_eq_getElem?_getD, List.getElem?_set]
  by_cases h : x = y
  · subst h
    by_cases h2 : x < B.length
    · rw [if_pos rfl, if_pos h2, if_pos ⟨rfl, h2⟩]
      rfl
    · rw [if_pos rfl, if_neg h2, if_neg (fun w => h2 w.2), List.getElem?_eq_none (Nat.not_lt.mp h2)]
  · rw [if_neg h, if_neg (fun w => h w.1)]
theorem sok_set {ρ : Nat → Int} {B : sB} (h : sok ρ B) {x : Nat} {q : Int × Int} (hq : q.1 ≤ ρ x ∧ ρ x ≤ q.2) : sok ρ (B.set x q) := by
  intro y
  rw [sbd_set]
  by_cases c : x = y ∧ x < B.length
  · rw [if_pos c, ← c.1]
    exact hq
  · rw [if_neg c]
    exact h y
theorem stig1_ok {ρ : Nat → Int} {B : sB} {u : Int} {t : Nat × Int} (h : sok ρ B) (hu : 0 ≤ t.2 * ρ t.1 + u) : ∃ B', stig1 B u t = some B' ∧ sok ρ B' ∧ B'.length = B.length := by
  obtain ⟨x, c⟩ := t
  have hx := h x
  cases c with
  | ofNat n =>
    cases n with
    | zero => exact ⟨B, rfl, h, rfl⟩
    | succ n =>
      have hc : (0 : Int) < Int.ofNat (n + 1) := by
        show (0 : Int) < ((n + 1 : Nat) : Int)
        omega
      have h1 : -(u / Int.ofNat (n + 1)) ≤ ρ x := by
        have h2 : u / Int.ofNat (n + 1) ≥ -(ρ x) := by
          refine (Int.le_ediv_iff_mul_le hc).mpr ?_
          have hu : 0 ≤ Int.ofNat (n + 1) * ρ x + u := hu
          rw [Int.neg_mul, Int.mul_comm]
          omega
        omega
      unfold stig1
      dsimp only
      generalize hl : -(u / Int.ofNat (n + 1)) = l at h1 ⊢
      have hm : ∀ m, (cond (spos (l - (sbd B x).1)) l (sbd B x).1) = m → m ≤ ρ x := by
        intro m hm
        cases hs : spos (l - (sbd B x).1) with
        | true => rw [hs] at hm; rw [← hm]; exact h1
        | false => rw [hs] at hm; rw [← hm]; exact hx.1
      generalize hmm : (cond (spos (l - (sbd B x).1)) l (sbd B x).1) = m
      have h3 := hm m hmm
      cases hs : spos ((sbd B x).2 - m) with
      | true => exact ⟨_, rfl, sok_set h ⟨h3, hx.2⟩, List.length_set⟩
      | false =>
        have := spos_no hs
        omega
  | negSucc n =>
    have hc : (0 : Int) < Int.ofNat (n + 1) := by
      show (0 : Int) < ((n + 1 : Nat) : Int)
      omega
    have h1 : ρ x ≤ u / Int.ofNat (n + 1) := by
      refine (Int.le_ediv_iff_mul_le hc).mpr ?_
      have hu : 0 ≤ Int.negSucc n * ρ x + u := hu
      have e : Int.negSucc n = -(Int.ofNat (n + 1)) := rfl
      rw [e, Int.neg_mul, Int.mul_comm] at hu
      omega
    unfold stig1
    dsimp only
    generalize hl : u / Int.ofNat (n + 1) = r at h1 ⊢
    have hm : ∀ m, (cond (spos ((sbd B x).2 - r)) r (sbd B x).2) = m → ρ x ≤ m := by
      intro m hm
      cases hs : spos ((sbd B x).2 - r) with
      | true => rw [hs] at hm; rw [← hm]; exact h1
      | false => rw [hs] at hm; rw [← hm]; exact hx.2
    generalize hmm : (cond (spos ((sbd B x).2 - r)) r (sbd B x).2) = m
    have h3 := hm m hmm
    cases hs : spos (m - (sbd B x).1) with
    | true => exact ⟨_, rfl, sok_set h ⟨hx.1, h3⟩, List.length_set⟩
    | false =>
      have := spos_no hs
      omega
def stigs (k : Int) : sB → sT → sT → Option sB
  | B, _, [] => some B
  | B, pre, t :: post => match stig1 B (k + subt B pre + subt B post) t with
    | some B' => stigs k B' (t :: pre) post
    | none => none
theorem stigs_ok {ρ : Nat → Int} {k : Int} : ∀ (post : sT) (B : sB) (pre : sT), sok ρ B → 0 ≤ k + sv ρ pre + sv ρ post → ∃ B', stigs k B pre post = some B' ∧ sok ρ B' ∧ B'.length = B.length := by
  intro post
  induction post with
  | nil => intro B pre h _; exact ⟨B, rfl, h, rfl⟩
  | cons t post ih =>
    intro B pre h h0
    have h0 : 0 ≤ k + sv ρ pre + (t.2 * ρ t.1 + sv ρ post) := h0
    have h1 := subt_ok h pre
    have h2 := subt_ok h post
    obtain ⟨B1, e1, e2, e3⟩ := stig1_ok (u := k + subt B pre + subt B post) (t := t) h (by omega)
    obtain ⟨B2, f1, f2, f3⟩ := ih B1 (t :: pre) e2 (by
      show 0 ≤ k + (t.2 * ρ t.1 + sv ρ pre) + sv ρ post
      omega)
    refine ⟨B2, ?_, f2, f3.trans e3⟩
    unfold stigs
    rw [e1]
    exact f1
/-- bounds and what is assumed -/
abbrev sK : Type := sB × List sE
def skok (ρ : Nat → Int) (K : sK) : Prop := sok ρ K.1 ∧ sokP ρ K.2
def sretig : List sE → sB → Option sB
  | [], B => some B
  | p :: P, B => match stigs p.1 B [] p.2 with
    | some B' => sretig P B'
    | none => none
theorem sretig_ok {ρ : Nat → Int} : ∀ (P : List sE) (B : sB), sok ρ B → sokP ρ P → ∃ B', sretig P B = some B' ∧ sok ρ B' ∧ B'.length = B.length := by
  intro P
  induction P with
  | nil => intro B h _; exact ⟨B, rfl, h, rfl⟩
  | cons p P ih =>
    intro B h hP
    obtain ⟨B1, e1, e2, e3⟩ := stigs_ok (k := p.1) p.2 B [] h (by
      show 0 ≤ p.1 + 0 + sv ρ p.2
      have := hP p List.mem_cons_self
      unfold se at this
      omega)
    obtain ⟨B2, f1, f2, f3⟩ := ih B1 e2 (fun q hq => hP q (List.mem_cons_of_mem _ hq))
    refine ⟨B2, ?_, f2, f3.trans e3⟩
    unfold sretig
    rw [e1]
    exact f1
/-- e ≥ 0 is assumed: none where that can't be -/
def sassume (K : sK) (e : sE) : Option sK :=
  cond (spos (slb K.1 e)) (some K)
    (cond (sprove K.1 K.2 (ssub (sC (-1)) e)) none
      (match stigs e.1 K.1 [] e.2 with
        | some B => (match sretig K.2 B with
          | some B' => some (B', (match e.2 with
            | _ :: _ :: _ => e :: K.2
            | _ => K.2))
          | none => none)
        | none => none))
theorem sassume_ok {ρ : Nat → Int} {K : sK} {e : sE} (h : skok ρ K) (he : 0 ≤ se ρ e) : ∃ K', sassume K e = some K' ∧ skok ρ K' ∧ K'.1.length = K.1.length := by
  unfold sassume
  cases h1 : spos (slb K.1 e) with
  | true => exact ⟨K, rfl, h, rfl⟩
  | false =>
    cases h2 : sprove K.1 K.2 (ssub (sC (-1)) e) with
    | true =>
      have h3 := sprove_ok h.1 h.2 h2
      rw [se_sub, se_C] at h3
      omega
    | false =>
      obtain ⟨B, e1, e2, e3⟩ := stigs_ok (k := e.1) e.2 K.1 [] h.1 (by
        show 0 ≤ e.1 + 0 + sv ρ e.2
        unfold se at he
        omega)
      obtain ⟨B', f1, f2, f3⟩ := sretig_ok K.2 B e2 h.2
      dsimp only [cond]
      rw [e1]
      dsimp only
      rw [f1]
      refine ⟨_, rfl, ⟨f2, ?_⟩, f3.trans e3⟩
      dsimp only
      split
      · intro p hp
        rcases List.mem_cons.mp hp with q | q
        · rw [q]; exact he
        · exact h.2 p q
      · exact h.2
/-- a symbol more -/
def sfresh (K : sK) (lo hi : Int) : sK := (K.1 ++ [(lo, hi)], K.2)
def supd (ρ : Nat → Int) (n : Nat) (v : Int) : Nat → Int := fun x => if x = n then v else ρ x
/-- symbols below n mean the same -/
def sagr (n : Nat) (ρ σ : Nat → Int) : Prop := ∀ x, x < n → σ x = ρ x
def swf (n : Nat) (l : sT) : Prop := ∀ t ∈ l, t.1 < n
theorem sv_agr {ρ σ : Nat → Int} {n : Nat} (h : sagr n ρ σ) : ∀ l : sT, swf n l → sv σ l = sv ρ l := by
  intro l
  induction l with
  | nil => intro _; rfl
  | cons t l ih =>
    intro w
    show t.2 * σ t.1 + sv σ l = t.2 * ρ t.1 + sv ρ l
    rw [h t.1 (w t List.mem_cons_self), ih (fun q hq => w q (List.mem_cons_of_mem _ hq))]
