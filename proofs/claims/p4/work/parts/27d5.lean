/-! THE START: what holds of the memory that both constructors leave -/
def pHB (M : zM) (pd : pD) (p : List Int) : Bool := pd.2.2.2.2.2.1.any fun cl => cl.all fun e => spos (se (lget (peM M pd.2.2.2.2.1 p)) e)
/-- a memory with some of its places worked out once -/
def bFrc (v : zE) (F : zE → Bool) : Bool := match v with
  | .inl (t, n, .inl f) => F (.inl (t, n, .inl f))
  | .inr (c, fs) => F (.inr (c, fs))
  | _ => false
theorem bFrc_ok {v : zE} {F : zE → Bool} (h : bFrc v F = true) : F v = true := by
  unfold bFrc at h
  split at h
  · exact h
  · exact h
  · cases h
def bLoc (m : Nat → zE) (F : (Nat → zE) → Bool) : List Nat → (Nat → zE) → Bool
  | [], g => F g
  | q :: l, g => bFrc (m q) fun v => bLoc m F l (fun x => cond (Nat.beq x q) v (g x))
theorem bLoc_ok {m : Nat → zE} {F : (Nat → zE) → Bool} : ∀ (l : List Nat) (g : Nat → zE), g = m → bLoc m F l g = true → F m = true
  | [], g, e, h => by
    subst e
    exact h
  | q :: l, g, e, h => by
    refine bLoc_ok l _ ?_ (bFrc_ok (v := m q) (F := fun v => bLoc m F l (fun x => cond (Nat.beq x q) v (g x))) h)
    funext x
    cases hb : Nat.beq x q with
    | false => rw [cond_false, e]
    | true => rw [cond_true, Nat.eq_of_beq_eq_true hb]
def bWith (M : zM) (l : List Nat) (F : zM → Bool) : Bool := bLoc M.2.2 (fun g => F (M.1, M.2.1, g)) l M.2.2
theorem bWith_ok {M : zM} {l : List Nat} {F : zM → Bool} (h : bWith M l F = true) : F M = true := bLoc_ok (F := fun g => F (M.1, M.2.1, g)) l M.2.2 rfl h
def pPl (pd : pD) (k : Nat) : List Nat := pd.2.2.2.2.1.map fun c => cond (Nat.beq c.2.1 0) k (k + soff c.2.2.1)
def pBl (pd : pD) (M : zM) : Bool := (List.range 486).all fun k => match sSh k with
  | some (0, c, 0) => !(Nat.beq c pd.1) || bWith M (pPl pd k) fun M => bAll pd.2.1 fun i => (List.range pd.2.2.1).all fun j => pHB M pd [(k : Int), (i : Int), (j : Int)]
  | _ => true
theorem pBl_ok {pd : pD} {M : zM} (h99 : Nat.beq pd.1 99 = false) (h : pBl pd M = true) : pQ pd [] M := by
  rintro p ⟨o, i, l, rfl, ⟨k, hk, hs⟩, i0, i1, l0, l1⟩ -
  rw [if_neg (fun w => by rw [w] at h99; cases h99)] at hs
  have h1 := List.all_eq_true.mp h k (List.mem_range.mpr (sSh_lt hs))
  rw [hs] at h1
  have h1 : (!(Nat.beq pd.1 pd.1) || bWith M (pPl pd k) fun M => bAll pd.2.1 fun i => (List.range pd.2.2.1).all fun j => pHB M pd [(k : Int), (i : Int), (j : Int)]) = true := h1
  rw [Nat.beq_refl] at h1
  have h1 : bAll pd.2.1 (fun i => (List.range pd.2.2.1).all fun j => pHB M pd [(k : Int), (i : Int), (j : Int)]) = true := bWith_ok (F := fun M => bAll pd.2.1 fun i => (List.range pd.2.2.1).all fun j => pHB M pd [(k : Int), (i : Int), (j : Int)]) h1
  have h2 := List.all_eq_true.mp (bAll_ok h1 i.toNat (by omega)) l.toNat (List.mem_range.mpr (by omega))
  rw [Int.toNat_of_nonneg i0, Int.toNat_of_nonneg l0, hk] at h2
  obtain ⟨cl, hcl, h3⟩ := List.any_eq_true.mp h2
  exact ⟨cl, hcl, fun e he => spos_ok (List.all_eq_true.mp h3 e he)⟩
def pPre (n : Nat) (M : zM) : Bool := match cpd n with
  | some pd => !(Nat.beq pd.1 99) && pBl pd M
  | none => false
theorem pPre_ok {n : Nat} {M : zM} (h : pPre n M = true) : cQs n [] M := by
  unfold pPre at h
  unfold cQs
  cases hq : cpd n with
  | none => rw [hq] at h; cases h
  | some pd =>
    rw [hq] at h
    dsimp only at h ⊢
    rw [Bool.and_eq_true] at h
    refine pBl_ok ?_ h.2
    cases hb : Nat.beq pd.1 99 with
    | false => rfl
    | true => rw [hb] at h; cases h.1
def bF0 (M : zM) (k j : Nat) : Bool := match sgf M k j with
  | .int x => bz x
  | _ => false
theorem bF0_ok {M : zM} {k j : Nat} (h : bF0 M k j = true) : sValE 0 (sgf M k j) 0 0 ∧ cvM M 0 12 j k 0 = 0 := by
  unfold bF0 at h
  split at h
  · rename_i x hx
    have e := bz_ok h
    refine ⟨by rw [hx]; exact ⟨x, rfl, e⟩, ?_⟩
    have q : cvM M 0 12 j k 0 = x.toInt := by
      unfold cvM
      simp only [show ((k : Int)).toNat = k from rfl, hx]
    exact q.trans e
  · cases h
/-- numbers that are 0 -/
def bIni (M : zM) : Bool := bF0 M 0 1 && (bF0 M 0 3 && (bF0 M 474 2 && (bF0 M 474 27 && (bz (sgr M 57 0 0) && bz (sgr M 57 0 1)))))
def bRz (M : zM) : Bool := match M.2.2 475 with
  | .inl (_, _, .inl f) => bAll 238220 fun i => bz (f i)
  | _ => false
theorem bRz_ok {M : zM} (h : bRz M = true) : ∀ i : Nat, i < 238220 → (sgr M 58 474 i).toInt = 0 := by
  intro i hi
  unfold bRz at h
  split at h
  · rename_i a b f hm
    have e : sgr M 58 474 i = f i := by
      unfold sgr
      rw [show 474 + soff 58 = 475 from rfl, hm]
    rw [e]
    exact bz_ok (bAll_ok h i hi)
  · cases h
theorem bTwo_ok {p : zM → Bool} {z : Nat} {Ma Mb : zM} (h : bTwo p z = true) (e1 : zev 10 (zX0 z) zmt zovT 14 1000 253 [.ref 0] zM1 = some (none, Ma)) (e2 : zev 10 (zX0 z) zmt zovT 14 1000 455 [.ref 474] (zpush Ma (.inr (12, zdef 12 35))) = some (none, Mb)) : p Mb = true := by
  unfold bTwo at h
  rw [e1] at h
  unfold zchk at h
  dsimp only at h
  rw [Bool.and_eq_true] at h
  have h2 := h.2
  rw [e2] at h2
  exact h2
set_option maxRecDepth 100000 in
theorem bi_0 : bTwo bIni 0 = true := by decide +kernel
set_option maxRecDepth 100000 in
theorem bi_1 : bTwo bIni 1 = true := by decide +kernel
set_option maxRecDepth 100000 in
theorem bp_0 : bTwo (fun M => pPre 1 M && (pPre 3 M && (pPre 4 M && (pPre 7 M && (pPre 9 M && pPre 10 M))))) 0 = true := by decide +kernel
set_option maxRecDepth 100000 in
theorem bp_1 : bTwo (fun M => pPre 1 M && (pPre 3 M && (pPre 4 M && (pPre 7 M && (pPre 9 M && pPre 10 M))))) 1 = true := by decide +kernel
