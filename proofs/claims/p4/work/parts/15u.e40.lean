/-! THE ENGINE, 40: tables as lists; what is known of the methods -/
def zenI {α : Type} : Nat → List (Option α) → List (Nat × α)
  | _, [] => []
  | k, none :: l => zenI (k + 1) l
  | k, some x :: l => (k, x) :: zenI (k + 1) l
def zenO {α : Type} (w : Nat) : Nat → List (List (Option α)) → List (Nat × α)
  | _, [] => []
  | k, l :: t => zenI k l ++ zenO w (k + w) t
theorem zenI_mem {α : Type} {x : α} : ∀ {l : List (Option α)} {k j : Nat}, l[j]? = some (some x) → (k + j, x) ∈ zenI k l
  | [], k, j, h => by simp at h
  | none :: l, k, 0, h => by simp at h
  | none :: l, k, j + 1, h => by
    rw [List.getElem?_cons_succ] at h
    have h1 := zenI_mem (k := k + 1) h
    rw [show k + (j + 1) = k + 1 + j by omega]
    exact h1
  | some y :: l, k, 0, h => by
    rw [List.getElem?_cons_zero] at h
    rw [← Option.some.inj (Option.some.inj h)]
    exact List.mem_cons_self
  | some y :: l, k, j + 1, h => by
    rw [List.getElem?_cons_succ] at h
    have h1 := zenI_mem (k := k + 1) h
    rw [show k + (j + 1) = k + 1 + j by omega]
    exact List.mem_cons_of_mem _ h1
theorem zenO_mem {α : Type} {w : Nat} {x : α} : ∀ {t : List (List (Option α))} {k i j : Nat} {l : List (Option α)}, t[i]? = some l → l[j]? = some (some x) → (k + w * i + j, x) ∈ zenO w k t
  | [], k, i, j, l, h, h1 => by simp at h
  | l0 :: t, k, 0, j, l, h, h1 => by
    rw [List.getElem?_cons_zero] at h
    rw [← Option.some.inj h] at h1
    rw [Nat.mul_zero, Nat.add_zero]
    exact List.mem_append_left _ (zenI_mem h1)
  | l0 :: t, k, i + 1, j, l, h, h1 => by
    rw [List.getElem?_cons_succ] at h
    have h2 := zenO_mem (w := w) (k := k + w) h h1
    rw [show k + w * (i + 1) + j = k + w + w * i + j by rw [Nat.mul_succ]; omega]
    exact List.mem_append_right _ h2
theorem zlook_en {α : Type} {w k : Nat} {t : List (List (Option α))} {x : α} (h : zlook w t k = some x) : (k, x) ∈ zenO w 0 t := by
  unfold zlook at h
  rw [List.getD_eq_getElem?_getD, List.getD_eq_getElem?_getD] at h
  cases h1 : t[k / w]? with
  | none => rw [h1] at h; simp at h
  | some l =>
    rw [h1] at h
    cases h2 : l[k % w]? with
    | none => simp [h2] at h
    | some y =>
      simp [h2] at h
      rw [h] at h2
      have h3 := zenO_mem (k := 0) (w := w) h1 h2
      rw [Nat.zero_add, Nat.div_add_mod] at h3
      exact h3
theorem zmtX_T : zmtX zmt zovT := by
  refine ⟨⟨zm_501, rfl, rfl, rfl, rfl, rfl⟩, ⟨zm_502, rfl, rfl, rfl, rfl, rfl⟩, fun q M hq hM => ?_, fun q k M hq hM hk hl => ?_⟩
  · unfold zovT
    rw [if_neg (by decide)]
    unfold zovS
    rw [if_pos rfl]
    dsimp only
    have hc : 1000000 ≤ 1000000 + q ∧ 1000000 + q < 1000013 ∧ M.1 ≤ 1000000 := ⟨by omega, by omega, hM⟩
    rw [if_pos hc, Nat.add_sub_cancel_left]
    rfl
  · unfold zovT
    rw [if_neg (by decide)]
    unfold zovS
    rw [if_neg (by decide), if_pos rfl]
    dsimp only
    have hk0 : ¬ k < 0 := by
      rw [Int32.lt_iff_toInt_lt]
      exact Int.not_lt.mpr hk
    have hc : (1000000 ≤ 1000000 + q ∧ 1000000 + q < 1000013) ∧ M.1 ≤ 1000000 ∧ ¬ k < 0 ∧ k.toNatClampNeg < (zsb (1000000 + q - 1000000)).length := by
      rw [Nat.add_sub_cancel_left]
      exact ⟨⟨by omega, by omega⟩, hM, hk0, hl⟩
    rw [if_pos hc, Nat.add_sub_cancel_left]
