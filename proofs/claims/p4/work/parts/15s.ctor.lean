/-! a run that does not read the script is the same with every script -/
theorem zX0_big (z : Nat) : ¬ (zX0 z).1 < 2147483648 := Nat.lt_irrefl _
theorem zs1_X {X : zX} {z own : Nat} {ini : Bool} {pc : Nat} {ls : zL} {st : List Value} {M : zM} {i : Instr} {q} (h : zs1 (zX0 z) own ini pc ls st M i = some q) : zs1 X own ini pc ls st M i = some q := by
  cases i <;> simp only [zs1, reduceCtorEq] at h ⊢ <;> try exact h
  case iaload =>
    split at h
    · split at h
      · rename_i ha
        split at h
        · cases h
        · rename_i hn
          exact absurd (Or.inr (Or.inr (zX0_big z))) hn
      · rename_i ha
        rw [if_neg ha]
        exact h
    · cases h
  case arraylength =>
    split at h
    · split at h
      · rename_i ha
        split at h
        · rename_i hn
          exact absurd hn (zX0_big z)
        · cases h
      · rename_i ha
        rw [if_neg ha]
        exact h
    · cases h
theorem zs1_Xn {X : zX} {z own : Nat} {ini : Bool} {pc : Nat} {ls : zL} {st : List Value} {M : zM} {i : Instr} {mt : Nat → Option zMe} {c1 : zCall} {x2 : zX} (h : zs1 (zX0 z) own ini pc ls st M i = none) : zs1 X own ini pc ls st M i = none ∨ (zs3 x2 own pc ls st M i = none ∧ zs2 mt c1 own pc ls st M i = none) := by
  cases i <;> simp only [zs1] at h ⊢ <;> try exact Or.inl h
  case iaload => exact Or.inr ⟨rfl, rfl⟩
  case arraylength =>
    match st with
    | .ref a :: r =>
      dsimp only at h ⊢
      by_cases ha : a = 1000016
      · refine Or.inr ⟨?_, rfl⟩
        subst ha
        rfl
      · rw [if_neg ha] at h ⊢
        exact Or.inl h
    | [] => exact Or.inl rfl
    | .int _ :: _ => exact Or.inl rfl
    | .long _ :: _ => exact Or.inl rfl
    | .null :: _ => exact Or.inl rfl
    | .float _ :: _ => exact Or.inl rfl
    | .double _ :: _ => exact Or.inl rfl
    | .retAddr _ :: _ => exact Or.inl rfl
theorem zs3_X {X : zX} {z own : Nat} (hz : X.2.2 = 0 ↔ z = 0) {pc : Nat} {ls : zL} {st : List Value} {M : zM} {i : Instr} : zs3 (zX0 z) own pc ls st M i = zs3 X own pc ls st M i := by
  have e : (if (zX0 z).2.2 = 0 then Value.null else .ref 1000040) = (if X.2.2 = 0 then Value.null else .ref 1000040) := by
    by_cases h : z = 0
    · rw [if_pos (show (zX0 z).2.2 = 0 from h), if_pos (hz.mpr h)]
    · rw [if_neg (show ¬ (zX0 z).2.2 = 0 from h), if_neg (fun w => h (hz.mp w))]
  cases i <;> simp only [zs3]
  case getstatic => rw [e]
theorem zs2_X {mt : Nat → Option zMe} {c1 c2 : zCall} (hc : ∀ a av M q, c1 a av M = some q → c2 a av M = some q) {own pc : Nat} {ls : zL} {st : List Value} {M : zM} {i : Instr} {q} (h : zs2 mt c1 own pc ls st M i = some q) : zs2 mt c2 own pc ls st M i = some q := by
  cases i <;> simp only [zs2, reduceCtorEq] at h ⊢ <;> try exact h
  all_goals
    (repeat' split at h)
    all_goals first
      | (cases h; done)
      | (rename_i hcc; rw [hc _ _ _ _ hcc, if_pos (by assumption)]; exact h)
      | (rename_i hcc; rw [hc _ _ _ _ hcc, if_pos (by assumption), if_pos (by assumption)]; exact h)
      | (rename_i hcc; rw [hc _ _ _ _ hcc, if_neg (by assumption), if_pos (by assumption)]; exact h)
theorem zstep_X {X : zX} {z : Nat} (hz : X.2.2 = 0 ↔ z = 0) {mt : Nat → Option zMe} {c1 c2 : zCall} (hc : ∀ a av M q, c1 a av M = some q → c2 a av M = some q) {r : zMe} {pc : Nat} {ls : zL} {st : List Value} {M : zM} {i : Instr} {len : Nat} {q} (h : zstep (zX0 z) mt c1 r pc ls st M i len = some q) : zstep X mt c2 r pc ls st M i len = some q := by
  unfold zstep at h ⊢
  cases h0 : zs0 pc ls st r.2.2.1 i len with
  | some a => rw [h0] at h; exact h
  | none =>
    rw [h0] at h
    dsimp only at h ⊢
    cases h1 : zs1 (zX0 z) r.2.2.2.2.2.1 (r.2.2.2.2.2.2.1 == 2) pc ls st M i with
    | some a => rw [h1] at h; rw [zs1_X h1]; exact h
    | none =>
      rw [h1] at h
      dsimp only at h
      rcases zs1_Xn (X := X) (x2 := zX0 z) (mt := mt) (c1 := c1) h1 with h2 | ⟨h2, h3⟩
      · rw [h2]
        dsimp only
        rw [zs3_X hz] at h
        cases h3 : zs3 X r.2.2.2.2.2.1 pc ls st M i with
        | some a => rw [h3] at h; exact h
        | none => rw [h3] at h; exact zs2_X hc h
      · rw [h2, h3] at h
        cases h
theorem zrun_X {X : zX} {z : Nat} (hz : X.2.2 = 0 ↔ z = 0) {mt : Nat → Option zMe} {c1 c2 : zCall} (hc : ∀ a av M q, c1 a av M = some q → c2 a av M = some q) {r : zMe} : ∀ (n pc : Nat) (ls : zL) (st : List Value) (M : zM) q, zrun (zX0 z) mt c1 r n pc ls st M = some q → zrun X mt c2 r n pc ls st M = some q := by
  intro n
  induction n with
  | zero => intro pc ls st M q h; cases h
  | succ n ih =>
    intro pc ls st M q h
    cases htb : r.2.2.2.2.2.2.2 pc with
    | none => unfold zrun at h; rw [htb] at h; cases h
    | some x =>
      obtain ⟨i, len⟩ := x
      by_cases hk : zlok i len = true
      · cases hr : zret r.2.2.2.1 i st with
        | some v =>
          unfold zrun at h ⊢
          rw [htb] at h ⊢
          dsimp only at h ⊢
          rw [if_pos hk, hr] at h ⊢
          exact h
        | none =>
          unfold zrun at h
          rw [htb] at h
          dsimp only at h
          rw [if_pos hk, hr] at h
          dsimp only at h
          cases hs : zstep (zX0 z) mt c1 r pc ls st M i len with
          | none => rw [hs] at h; cases h
          | some y =>
            obtain ⟨pc', ls', st', M'⟩ := y
            rw [hs] at h
            exact zr_step htb hk hr (zstep_X hz hc hs) (ih _ _ _ _ _ h)
      · unfold zrun at h
        rw [htb] at h
        dsimp only at h
        rw [if_neg hk] at h
        cases h
theorem zev_X {X : zX} {z th : Nat} (hz : X.2.2 = 0 ↔ z = 0) {mt : Nat → Option zMe} {ov : zCall} : ∀ (d n a : Nat) (av : List Value) (M : zM) q, zev th (zX0 z) mt ov d n a av M = some q → zev th X mt ov d n a av M = some q := by
  intro d
  induction d with
  | zero => intro n a av M q h; cases h
  | succ d ih =>
    intro n a av M q h
    unfold zev at h ⊢
    split at h
    · exact h
    · split at h
      · cases h
      · split at h
        · rename_i hl
          rw [if_pos hl]
          exact zrun_X hz (fun a av M q => ih n a av M q) _ _ _ _ _ _ h
        · cases h
