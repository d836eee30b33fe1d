/-! THE LAW OVER CONTRACTS, 1: memory that does not grow; more fuel, more depth -/
def zgr (M M' : zM) : Prop := M.1 ≤ M'.1 ∧ (M'.1 = M.1 → M'.2.1 = M.2.1)
theorem zgr.rf (M : zM) : zgr M M := ⟨Nat.le_refl _, fun _ => rfl⟩
theorem zgr.tr {A B C : zM} (h : zgr A B) (g : zgr B C) : zgr A C := by
  have h1 := h.1
  have g1 := g.1
  refine ⟨Nat.le_trans h1 g1, fun e => ?_⟩
  have e1 : B.1 = A.1 := by omega
  have e2 : C.1 = B.1 := by omega
  rw [g.2 e2, h.2 e1]
theorem zgr_set {M : zM} {a : Nat} {e : zE} : zgr M (zset M a e) := ⟨Nat.le_refl _, fun _ => rfl⟩
theorem zgr_push {M : zM} {e : zE} : zgr M (zpush M e) := ⟨Nat.le_succ _, fun h => by
  have h : M.1 + 1 = M.1 := h
  omega⟩
set_option maxHeartbeats 4000000 in
theorem zgr_s1 {X : zX} {own : Nat} {ini : Bool} {pc : Nat} {ls : zL} {st : List Value} {M : zM} {i : Instr} {pc' : Nat} {ls' : zL} {st' : List Value} {M' : zM} (h : zs1 X own ini pc ls st M i = some (pc', ls', st', M')) : zgr M M' := by
  cases i <;> simp only [zs1, reduceCtorEq] at h
  all_goals (repeat' split at h)
  all_goals first
    | (cases h; done)
    | (cases h; exact zgr.rf _)
    | (cases h; exact zgr_set)
    | (cases h; exact zgr_push)
theorem zgr_s3 {X : zX} {own : Nat} {pc : Nat} {ls : zL} {st : List Value} {M : zM} {i : Instr} {pc' : Nat} {ls' : zL} {st' : List Value} {M' : zM} (h : zs3 X own pc ls st M i = some (pc', ls', st', M')) : zgr M M' := by
  cases i <;> simp only [zs3, reduceCtorEq] at h
  all_goals (repeat' split at h)
  all_goals first
    | (cases h; done)
    | (cases h; exact zgr.rf _)
set_option maxHeartbeats 4000000 in
theorem zgr_s2 {mt : Nat → Option zMe} {call : zCall} (hg : ∀ a av M v M', call a av M = some (v, M') → zgr M M') {own : Nat} {pc : Nat} {ls : zL} {st : List Value} {M : zM} {i : Instr} {pc' : Nat} {ls' : zL} {st' : List Value} {M' : zM} (h : zs2 mt call own pc ls st M i = some (pc', ls', st', M')) : zgr M M' := by
  cases i <;> simp only [zs2, reduceCtorEq] at h
  all_goals (repeat' split at h)
  all_goals first
    | (cases h; done)
    | (rename_i hc; cases h; exact hg _ _ _ _ _ hc)
theorem zgr_step {X : zX} {mt : Nat → Option zMe} {call : zCall} (hg : ∀ a av M v M', call a av M = some (v, M') → zgr M M') {r : zMe} {pc len : Nat} {ls : zL} {st : List Value} {M : zM} {i : Instr} {pc' : Nat} {ls' : zL} {st' : List Value} {M' : zM} (h : zstep X mt call r pc ls st M i len = some (pc', ls', st', M')) : zgr M M' := by
  unfold zstep at h
  split at h
  · cases h
    exact zgr.rf _
  · split at h
    · rename_i q hq
      cases h
      exact zgr_s1 hq
    · split at h
      · rename_i q hq
        cases h
        exact zgr_s3 hq
      · exact zgr_s2 hg h
theorem zgr_run {X : zX} {mt : Nat → Option zMe} {call : zCall} (hg : ∀ a av M v M', call a av M = some (v, M') → zgr M M') {r : zMe} : ∀ (n pc : Nat) (ls : zL) (st : List Value) (M : zM) (v : Option Value) (M' : zM), zrun X mt call r n pc ls st M = some (v, M') → zgr M M' := by
  intro n
  induction n with
  | zero => intro pc ls st M v M' h; cases h
  | succ n ih =>
    intro pc ls st M v M' h
    unfold zrun at h
    split at h
    · cases h
    · split at h
      · split at h
        · cases h
          exact zgr.rf _
        · split at h
          · rename_i hs
            exact (zgr_step hg hs).tr (ih _ _ _ _ _ _ h)
          · cases h
      · cases h
theorem zgr_ev {th : Nat} {X : zX} {mt : Nat → Option zMe} {ov : zCall} (hov : ∀ a av M v M', ov a av M = some (v, M') → zgr M M') : ∀ (d n a : Nat) (av : List Value) (M : zM) (v : Option Value) (M' : zM), zev th X mt ov d n a av M = some (v, M') → zgr M M' := by
  intro d
  induction d with
  | zero => intro n a av M v M' h; cases h
  | succ d ih =>
    intro n a av M v M' h
    unfold zev at h
    split at h
    · rename_i q hq
      split at h
      · cases h
        exact hov _ _ _ _ _ hq
      · cases h
    · split at h
      · cases h
      · split at h
        · exact zgr_run (ih n) _ _ _ _ _ _ _ h
        · cases h
theorem zgr_ov : ∀ a av M v M', zovT a av M = some (v, M') → zgr M M' := by
  intro a av M v M' h
  unfold zovT at h
  split at h
  · split at h
    · split at h
      · split at h
        · cases h
          refine ⟨?_, fun e => ?_⟩
          · show M.1 ≤ M.1 + 12
            omega
          · have e : M.1 + 12 = M.1 := e
            omega
        · cases h
      · cases h
    · cases h
  · unfold zovS at h
    split at h
    · split at h
      · split at h
        · cases h
          exact zgr.rf _
        · cases h
      · cases h
    · split at h
      · split at h
        · split at h
          · cases h
            exact zgr.rf _
          · cases h
        · cases h
      · split at h
        · split at h
          · split at h
            · split at h
              · split at h
                · cases h
                  exact zgr_set
                · cases h
              · cases h
            · cases h
          · cases h
        · cases h
/-! more fuel, more depth -/
set_option maxHeartbeats 4000000 in
theorem zs2_sub {mt : Nat → Option zMe} {call call' : zCall} (hc : ∀ a av M q, call a av M = some q → call' a av M = some q) {own pc : Nat} {ls : zL} {st : List Value} {M : zM} {i : Instr} {z : Nat × zL × List Value × zM} (h : zs2 mt call own pc ls st M i = some z) : zs2 mt call' own pc ls st M i = some z := by
  cases i <;> simp only [zs2, reduceCtorEq] at h ⊢
  all_goals (repeat' split at h)
  all_goals first
    | (cases h; done)
    | (rename_i hq; simp only [*, hc _ _ _ _ hq, if_true, and_self, true_and, true_or, or_true]; done)
    | (rename_i hq; have h2 := hc _ _ _ _ hq; simp_all; done)
    | (rename_i hq; have h2 := hc _ _ _ _ hq; simp_all; intro u1 u2; exact absurd u2 (Nat.not_lt.mpr (by solve_by_elim)))
theorem zstep_sub {X : zX} {mt : Nat → Option zMe} {call call' : zCall} (hc : ∀ a av M q, call a av M = some q → call' a av M = some q) {r : zMe} {pc len : Nat} {ls : zL} {st : List Value} {M : zM} {i : Instr} {z : Nat × zL × List Value × zM} (h : zstep X mt call r pc ls st M i len = some z) : zstep X mt call' r pc ls st M i len = some z := by
  unfold zstep at h ⊢
  cases h0 : zs0 pc ls st r.2.2.1 i len with
  | some q =>
    rw [h0] at h
    exact h
  | none =>
    rw [h0] at h
    dsimp only at h ⊢
    cases h1 : zs1 X r.2.2.2.2.2.1 (r.2.2.2.2.2.2.1 == 2) pc ls st M i with
    | some q =>
      rw [h1] at h
      exact h
    | none =>
      rw [h1] at h
      dsimp only at h ⊢
      cases h3 : zs3 X r.2.2.2.2.2.1 pc ls st M i with
      | some q =>
        rw [h3] at h
        exact h
      | none =>
        rw [h3] at h
        dsimp only at h ⊢
        exact zs2_sub hc h
theorem zrun_sub {X : zX} {mt : Nat → Option zMe} {call call' : zCall} (hc : ∀ a av M q, call a av M = some q → call' a av M = some q) {r : zMe} : ∀ (n pc : Nat) (ls : zL) (st : List Value) (M : zM) (res : Option Value × zM), zrun X mt call r n pc ls st M = some res → ∀ m, n ≤ m → zrun X mt call' r m pc ls st M = some res := by
  intro n
  induction n with
  | zero => intro pc ls st M res h; cases h
  | succ n ih =>
    intro pc ls st M res h m hm
    obtain ⟨m', rfl⟩ : ∃ m', m = m' + 1 := ⟨m - 1, by omega⟩
    unfold zrun at h ⊢
    cases ht : r.2.2.2.2.2.2.2 pc with
    | none =>
      rw [ht] at h
      cases h
    | some q =>
      obtain ⟨i, len⟩ := q
      rw [ht] at h
      dsimp only at h ⊢
      by_cases hk : zlok i len = true
      · rw [if_pos hk] at h ⊢
        cases hr : zret r.2.2.2.1 i st with
        | some v =>
          rw [hr] at h
          exact h
        | none =>
          rw [hr] at h
          dsimp only at h ⊢
          cases hs : zstep X mt call r pc ls st M i len with
          | none =>
            rw [hs] at h
            cases h
          | some z =>
            obtain ⟨pc', ls', st', M'⟩ := z
            rw [hs] at h
            rw [zstep_sub hc hs]
            exact ih _ _ _ _ _ h _ (by omega)
      · rw [if_neg hk] at h
        cases h
theorem zev_sub {th : Nat} {X : zX} {mt : Nat → Option zMe} {ov : zCall} : ∀ (d n a : Nat) (av : List Value) (M : zM) (q : Option Value × zM), zev th X mt ov d n a av M = some q → ∀ d' n', d ≤ d' → n ≤ n' → zev th X mt ov d' n' a av M = some q := by
  intro d
  induction d with
  | zero => intro n a av M q h; cases h
  | succ d ih =>
    intro n a av M q h d' n' hd hn
    obtain ⟨d'', rfl⟩ : ∃ d'', d' = d'' + 1 := ⟨d' - 1, by omega⟩
    unfold zev at h ⊢
    cases ho : ov a av M with
    | some z =>
      rw [ho] at h
      dsimp only at h ⊢
      by_cases ht : th ≤ d + 1
      · rw [if_pos ht] at h
        rw [if_pos (by omega)]
        exact h
      · rw [if_neg ht] at h
        cases h
    | none =>
      rw [ho] at h
      dsimp only at h ⊢
      cases hm : mt a with
      | none =>
        rw [hm] at h
        cases h
      | some r =>
        rw [hm] at h
        dsimp only at h ⊢
        by_cases hl : (lg_sl av).length ≤ r.2.2.1
        · rw [if_pos hl] at h ⊢
          exact zrun_sub (fun a av M q hq => ih n a av M q hq _ _ (by omega) hn) _ _ _ _ _ _ h _ hn
        · rw [if_neg hl] at h
          cases h
