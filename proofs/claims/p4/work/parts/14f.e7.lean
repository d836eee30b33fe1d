/-! THE ENGINE, 7: branches -/
def sneg (e : sE) : sE := smul (-1) e
theorem se_neg {ρ : Nat → Int} (e : sE) : se ρ (sneg e) = -se ρ e := by
  unfold sneg
  rw [se_mul]
  omega
def sM1 (e : sE) : sE := ssub (sC (-1)) e
theorem se_M1 {ρ : Nat → Int} (e : sE) : se ρ (sM1 e) = -1 - se ρ e := by
  unfold sM1
  rw [se_sub, se_C]
def sP1 (e : sE) : sE := ssub e (sC 1)
theorem se_P1 {ρ : Nat → Int} (e : sE) : se ρ (sP1 e) = se ρ e - 1 := by
  unfold sP1
  rw [se_sub, se_C]
/-- what is so where a number isn't 0 -/
def sne (K : sK) (e : sE) : List sE := cond (sge0 K e) [sP1 e] (cond (sge0 K (sneg e)) [sM1 e] [])
theorem sne_ok {ρ : Nat → Int} {K : sK} {e : sE} (h : skok ρ K) (hz : se ρ e ≠ 0) : ∀ p ∈ sne K e, 0 ≤ se ρ p := by
  intro p hp
  unfold sne at hp
  cases h1 : sge0 K e with
  | true =>
    have := sge0_ok h h1
    rw [h1] at hp
    rw [List.mem_singleton.mp hp, se_P1]
    omega
  | false =>
    rw [h1] at hp
    cases h2 : sge0 K (sneg e) with
    | true =>
      have := sge0_ok h h2
      rw [se_neg] at this
      rw [h2] at hp
      rw [List.mem_singleton.mp hp, se_M1]
      omega
    | false => rw [h2] at hp; cases hp
theorem sne_wf {n : Nat} {K : sK} {e : sE} (w : swE n e) : ∀ p ∈ sne K e, swE n p := by
  intro p hp
  unfold sne at hp
  cases h1 : sge0 K e with
  | true =>
    rw [h1] at hp
    rw [List.mem_singleton.mp hp]
    exact swE_sub w (swE_C _)
  | false =>
    rw [h1] at hp
    cases h2 : sge0 K (sneg e) with
    | true =>
      rw [h2] at hp
      rw [List.mem_singleton.mp hp]
      exact swE_sub (swE_C _) w
    | false => rw [h2] at hp; cases hp
def sbrT (K : sK) (c : ClassFile.Cond) (e : sE) : List sE := match c with
  | .eq => [e, sneg e]
  | .ne => sne K e
  | .lt => [sM1 e]
  | .ge => [e]
  | .gt => [sP1 e]
  | .le => [sneg e]
def sbrF (K : sK) (c : ClassFile.Cond) (e : sE) : List sE := match c with
  | .eq => sne K e
  | .ne => [e, sneg e]
  | .lt => [e]
  | .ge => [sM1 e]
  | .gt => [sneg e]
  | .le => [sP1 e]
def szc (c : ClassFile.Cond) (z : Int) : Prop := match c with
  | .eq => z = 0
  | .ne => ¬ z = 0
  | .lt => z < 0
  | .ge => 0 ≤ z
  | .gt => 0 < z
  | .le => z ≤ 0
theorem sbrT_ok {ρ : Nat → Int} {K : sK} {c : ClassFile.Cond} {e : sE} (h : skok ρ K) (hz : szc c (se ρ e)) : ∀ p ∈ sbrT K c e, 0 ≤ se ρ p := by
  cases c <;> simp only [sbrT, szc] at hz ⊢
  case ne => exact sne_ok h hz
  all_goals
    intro p hp
    simp only [List.mem_cons, List.not_mem_nil, or_false] at hp
    first
      | (rcases hp with rfl | rfl
         · omega
         · rw [se_neg]; omega)
      | (subst hp; first | omega | (simp only [se_neg, se_M1, se_P1]; omega))
theorem sbrF_ok {ρ : Nat → Int} {K : sK} {c : ClassFile.Cond} {e : sE} (h : skok ρ K) (hz : ¬ szc c (se ρ e)) : ∀ p ∈ sbrF K c e, 0 ≤ se ρ p := by
  cases c <;> simp only [sbrF, szc] at hz ⊢
  case eq => exact sne_ok h hz
  all_goals
    intro p hp
    simp only [List.mem_cons, List.not_mem_nil, or_false] at hp
    first
      | (rcases hp with rfl | rfl
         · omega
         · rw [se_neg]; omega)
      | (subst hp; first | omega | (simp only [se_neg, se_M1, se_P1]; omega))
theorem swE_neg {n : Nat} {e : sE} (w : swE n e) : swE n (sneg e) := swE_mul w
theorem sbrT_wf {n : Nat} {K : sK} {c : ClassFile.Cond} {e : sE} (w : swE n e) : ∀ p ∈ sbrT K c e, swE n p := by
  cases c <;> simp only [sbrT]
  case ne => exact sne_wf w
  case eq => exact List.forall_mem_cons.mpr ⟨w, List.forall_mem_cons.mpr ⟨swE_neg w, fun _ q => by cases q⟩⟩
  case lt => exact List.forall_mem_cons.mpr ⟨swE_sub (swE_C _) w, fun _ q => by cases q⟩
  case ge => exact List.forall_mem_cons.mpr ⟨w, fun _ q => by cases q⟩
  case gt => exact List.forall_mem_cons.mpr ⟨swE_sub w (swE_C _), fun _ q => by cases q⟩
  case le => exact List.forall_mem_cons.mpr ⟨swE_neg w, fun _ q => by cases q⟩
theorem sbrF_wf {n : Nat} {K : sK} {c : ClassFile.Cond} {e : sE} (w : swE n e) : ∀ p ∈ sbrF K c e, swE n p := by
  cases c <;> simp only [sbrF]
  case eq => exact sne_wf w
  case ne => exact List.forall_mem_cons.mpr ⟨w, List.forall_mem_cons.mpr ⟨swE_neg w, fun _ q => by cases q⟩⟩
  case lt => exact List.forall_mem_cons.mpr ⟨w, fun _ q => by cases q⟩
  case ge => exact List.forall_mem_cons.mpr ⟨swE_sub (swE_C _) w, fun _ q => by cases q⟩
  case gt => exact List.forall_mem_cons.mpr ⟨swE_neg w, fun _ q => by cases q⟩
  case le => exact List.forall_mem_cons.mpr ⟨swE_sub w (swE_C _), fun _ q => by cases q⟩
theorem szc_I {c : ClassFile.Cond} {x y : Int32} : zcI c x y = true ↔ szc c (x.toInt - y.toInt) := by
  rw [z_cI]
  cases c <;> simp only [szc]
  · rw [← Int32.toInt_inj]; omega
  · rw [← Int32.toInt_inj]; omega
  · rw [Int32.lt_iff_toInt_lt]; omega
  · rw [Int32.le_iff_toInt_le]; omega
  · rw [Int32.lt_iff_toInt_lt]; omega
  · rw [Int32.le_iff_toInt_le]; omega
theorem szc_0 {c : ClassFile.Cond} {x : Int32} : zcI c x 0 = true ↔ szc c x.toInt := by
  rw [szc_I]
  have : (0 : Int32).toInt = 0 := rfl
  rw [this, Int.sub_zero]
theorem szc_7 {c : ClassFile.Cond} {x : Int32} {z : Int} (h : (x.toInt = -1 ∧ z < 0) ∨ (x.toInt = 0 ∧ z = 0) ∨ (x.toInt = 1 ∧ 0 < z)) : zcI c x 0 = true ↔ szc c z := by
  rw [szc_0]
  cases c <;> simp only [szc] <;> omega
def ssw1 (K : sK) (l : List sE) (t : Nat) (mk : sK → sA) : List (Nat × sA) := match sasm l K with
  | some K' => [(t, mk K')]
  | none => []
/-- the ways in which a number isn't 0 -/
def sneL (K : sK) (w : Bool) (e : sE) : List (List sE) := cond (sge0 K e) [[sP1 e]] (cond (sge0 K (sneg e)) [[sM1 e]] (cond (w || spos (1000 - (sub_ K.1 e - slb K.1 e))) [[sP1 e], [sM1 e]] [[]]))
def sbrTL (K : sK) (w : Bool) (c : ClassFile.Cond) (e : sE) : List (List sE) := match c with
  | .ne => sneL K w e
  | c => [sbrT K c e]
def sbrFL (K : sK) (w : Bool) (c : ClassFile.Cond) (e : sE) : List (List sE) := match c with
  | .eq => sneL K w e
  | c => [sbrF K c e]
theorem sneL_ok {ρ : Nat → Int} {K : sK} {w : Bool} {e : sE} (h : skok ρ K) (hz : se ρ e ≠ 0) : ∃ l ∈ sneL K w e, ∀ p ∈ l, 0 ≤ se ρ p := by
  unfold sneL
  cases h1 : sge0 K e with
  | true =>
    have := sge0_ok h h1
    exact ⟨_, List.mem_singleton.mpr rfl, fun p hp => by rw [List.mem_singleton.mp hp, se_P1]; omega⟩
  | false =>
    cases h2 : sge0 K (sneg e) with
    | true =>
      have := sge0_ok h h2
      rw [se_neg] at this
      exact ⟨_, List.mem_singleton.mpr rfl, fun p hp => by rw [List.mem_singleton.mp hp, se_M1]; omega⟩
    | false =>
      cases (w || spos (1000 - (sub_ K.1 e - slb K.1 e))) with
      | true =>
        rcases Int.lt_or_gt_of_ne hz with q | q
        · exact ⟨[sM1 e], List.mem_cons_of_mem _ (List.mem_singleton.mpr rfl), fun p hp => by rw [List.mem_singleton.mp hp, se_M1]; omega⟩
        · exact ⟨[sP1 e], List.mem_cons_self, fun p hp => by rw [List.mem_singleton.mp hp, se_P1]; omega⟩
      | false => exact ⟨[], List.mem_singleton.mpr rfl, fun p hp => by cases hp⟩
theorem sneL_wf {n : Nat} {K : sK} {w : Bool} {e : sE} (we : swE n e) : ∀ l ∈ sneL K w e, ∀ p ∈ l, swE n p := by
  intro l hl p hp
  unfold sneL at hl
  have a : swE n (sP1 e) := swE_sub we (swE_C _)
  have b : swE n (sM1 e) := swE_sub (swE_C _) we
  have fin : l = [sP1 e] ∨ l = [sM1 e] ∨ l = [] := by
    cases h1 : sge0 K e with
    | true => rw [h1] at hl; exact Or.inl (List.mem_singleton.mp hl)
    | false =>
      rw [h1] at hl
      cases h2 : sge0 K (sneg e) with
      | true => rw [h2] at hl; exact Or.inr (Or.inl (List.mem_singleton.mp hl))
      | false =>
        rw [h2] at hl
        cases h3 : (w || spos (1000 - (sub_ K.1 e - slb K.1 e))) with
        | true =>
          rw [h3] at hl
          rcases List.mem_cons.mp hl with q | q
          · exact Or.inl q
          · exact Or.inr (Or.inl (List.mem_singleton.mp q))
        | false => rw [h3] at hl; exact Or.inr (Or.inr (List.mem_singleton.mp hl))
  rcases fin with q | q | q
  · rw [q] at hp; rw [List.mem_singleton.mp hp]; exact a
  · rw [q] at hp; rw [List.mem_singleton.mp hp]; exact b
  · rw [q] at hp; cases hp
theorem sbrTL_ok {ρ : Nat → Int} {K : sK} {w : Bool} {c : ClassFile.Cond} {e : sE} (h : skok ρ K) (hz : szc c (se ρ e)) : ∃ l ∈ sbrTL K w c e, ∀ p ∈ l, 0 ≤ se ρ p := by
  have one : ∃ l ∈ [sbrT K c e], ∀ p ∈ l, 0 ≤ se ρ p := ⟨_, List.mem_singleton.mpr rfl, sbrT_ok h hz⟩
  cases c <;> first | exact one | exact sneL_ok h hz
theorem sbrFL_ok {ρ : Nat → Int} {K : sK} {w : Bool} {c : ClassFile.Cond} {e : sE} (h : skok ρ K) (hz : ¬ szc c (se ρ e)) : ∃ l ∈ sbrFL K w c e, ∀ p ∈ l, 0 ≤ se ρ p := by
  have one : ∃ l ∈ [sbrF K c e], ∀ p ∈ l, 0 ≤ se ρ p := ⟨_, List.mem_singleton.mpr rfl, sbrF_ok h hz⟩
  cases c <;> first | exact one | exact sneL_ok h hz
theorem sbrTL_wf {n : Nat} {K : sK} {w : Bool} {c : ClassFile.Cond} {e : sE} (we : swE n e) : ∀ l ∈ sbrTL K w c e, ∀ p ∈ l, swE n p := by
  have one : ∀ l ∈ [sbrT K c e], ∀ p ∈ l, swE n p := fun l hl => by rw [List.mem_singleton.mp hl]; exact sbrT_wf we
  cases c <;> first | exact one | exact sneL_wf we
theorem sbrFL_wf {n : Nat} {K : sK} {w : Bool} {c : ClassFile.Cond} {e : sE} (we : swE n e) : ∀ l ∈ sbrFL K w c e, ∀ p ∈ l, swE n p := by
  have one : ∀ l ∈ [sbrF K c e], ∀ p ∈ l, swE n p := fun l hl => by rw [List.mem_singleton.mp hl]; exact sbrF_wf we
  cases c <;> first | exact one | exact sneL_wf we
/-- the two ways of a branch -/
def sbr2 (K : sK) (w : Bool) (c : ClassFile.Cond) (e : sE) (t f : Nat) (mk : sK → sA) : List (Nat × sA) := ((sbrTL K w c e).flatMap fun l => ssw1 K l t mk) ++ ((sbrFL K w c e).flatMap fun l => ssw1 K l f mk)
/-- one of the states that are given is what the machine comes to -/
def sHit (Qs : Nat → List Int → zM → Prop) (ρ : Nat → Int) (n : Nat) (outs : List (Nat × sA)) (pc : Nat) (ls : zL) (st : List Value) (M : zM) : Prop := ∃ q ∈ outs, q.1 = pc ∧ ∃ σ, sagr n ρ σ ∧ n ≤ q.2.1.1.length ∧ sR Qs σ q.2 ls st M
/-- a tableswitch: each value on its own, and what lies outside -/
def ssw (pc : Nat) (K : sK) (e : sE) (mk : sK → sA) : Int → List Int → Option (List (Nat × sA))
  | _, [] => some []
  | v, o :: l => match zjmp pc o with
    | some t => (match ssw pc K e mk (v + 1) l with
      | some r => some ((match sasm [ssub e (sC v), ssub (sC v) e] K with
        | some K' => [(t, mk K')]
        | none => []) ++ r)
      | none => none)
    | none => none
section SSW
variable {Qs : Nat → List Int → zM → Prop} {ρ : Nat → Int} {K : sK} {D : List sD} {F : List sF} {Q : List sQ} {L : List (Nat × sV)} {T : List sV} {ls : zL} {st : List Value} {M : zM}
theorem ssw1_ok (h : sR Qs ρ (K, D, F, Q, L, T) ls st M) {l : List sE} {t : Nat} (hl : ∀ e ∈ l, swE K.1.length e) (he : ∀ e ∈ l, 0 ≤ se ρ e) : sHit Qs ρ K.1.length (ssw1 K l t fun K' => (K', D, F, Q, L, T)) t ls st M := by
  obtain ⟨K', e1, e2, e3⟩ := sR_asm h hl he
  unfold ssw1
  rw [e1]
  exact ⟨(t, K', D, F, Q, L, T), List.mem_singleton.mpr rfl, rfl, ρ, fun _ _ => rfl, by dsimp only; rw [e2]; exact Nat.le_refl _, e3⟩
theorem sHit.l {n : Nat} {a b : List (Nat × sA)} {pc : Nat} (h : sHit Qs ρ n a pc ls st M) : sHit Qs ρ n (a ++ b) pc ls st M := by
  obtain ⟨q, h1, h2⟩ := h
  exact ⟨q, List.mem_append_left _ h1, h2⟩
theorem sHit.r {n : Nat} {a b : List (Nat × sA)} {pc : Nat} (h : sHit Qs ρ n b pc ls st M) : sHit Qs ρ n (a ++ b) pc ls st M := by
  obtain ⟨q, h1, h2⟩ := h
  exact ⟨q, List.mem_append_right _ h1, h2⟩
theorem sbr2_ok (h : sR Qs ρ (K, D, F, Q, L, T) ls st M) {w : Bool} {c : ClassFile.Cond} {e : sE} {t f : Nat} {b : Bool} (hb : b = true ↔ szc c (se ρ e)) (we : swE K.1.length e) : sHit Qs ρ K.1.length (sbr2 K w c e t f fun K' => (K', D, F, Q, L, T)) (if b then t else f) ls st M := by
  have go : ∀ {LL : List (List sE)} {u : Nat}, (∀ l ∈ LL, ∀ p ∈ l, swE K.1.length p) → (∃ l ∈ LL, ∀ p ∈ l, 0 ≤ se ρ p) → sHit Qs ρ K.1.length (LL.flatMap fun l => ssw1 K l u fun K' => (K', D, F, Q, L, T)) u ls st M := by
    intro LL u h1 h2
    obtain ⟨l, l1, l2⟩ := h2
    obtain ⟨q, q1, q2⟩ := ssw1_ok h (t := u) (h1 l l1) l2
    exact ⟨q, List.mem_flatMap.mpr ⟨l, l1, q1⟩, q2⟩
  unfold sbr2
  cases b with
  | true => exact sHit.l (go (sbrTL_wf we) (sbrTL_ok h.1 (hb.mp rfl)))
  | false => exact sHit.r (go (sbrFL_wf we) (sbrFL_ok h.1 (fun q => by cases hb.mpr q)))
theorem ssw_ok (h : sR Qs ρ (K, D, F, Q, L, T) ls st M) {pc : Nat} {e : sE} (w : swE K.1.length e) : ∀ (l : List Int) (v : Int) (outs : List (Nat × sA)), ssw pc K e (fun K' => (K', D, F, Q, L, T)) v l = some outs → ∀ (j : Nat) (o : Int), l[j]? = some o → se ρ e = v + j → ∃ t, zjmp pc o = some t ∧ sHit Qs ρ K.1.length outs t ls st M := by
  intro l
  induction l with
  | nil => intro v outs _ j o hj; simp at hj
  | cons a l ih =>
    intro v outs hs j o hj hv
    unfold ssw at hs
    split at hs
    · rename_i t ht
      split at hs
      · rename_i r hr
        cases hs
        cases j with
        | zero =>
          have hj : a = o := by simpa using hj
          subst hj
          refine ⟨t, ht, sHit.l (ssw1_ok h (l := [ssub e (sC v), ssub (sC v) e]) ?_ ?_)⟩
          · exact List.forall_mem_cons.mpr ⟨swE_sub w (swE_C _), List.forall_mem_cons.mpr ⟨swE_sub (swE_C _) w, fun _ q => by cases q⟩⟩
          · refine List.forall_mem_cons.mpr ⟨?_, List.forall_mem_cons.mpr ⟨?_, fun _ q => by cases q⟩⟩
            · rw [se_sub, se_C]; omega
            · rw [se_sub, se_C]; omega
        | succ j =>
          obtain ⟨t2, e1, e2⟩ := ih (v + 1) r hr j o (by simpa using hj) (by omega)
          exact ⟨t2, e1, sHit.r e2⟩
      · cases hs
    · cases hs
end SSW
