/-- what is known, with Words() -/
def zovT : zCall := fun a av M =>
  if a = 238 then (match av with
    | [.ref o] => (match zob M o with
      | some (.inr (10, fs)) => if fs = zdef 10 14 ∧ M.1 + 12 ≤ 1000000 then some (none, zwEnd M o) else none
      | _ => none)
    | _ => none)
  else zovS a av M
theorem zovT_ok {l : Launch} {base : Nat} {ex : Nat → Nat} {dC : Nat → ClassId} {dI : Nat → Nat → Nat} {X : zX} : zOv 10 l base ex dC dI X zmt zovT := by
  intro a av M v M' h
  unfold zovT at h
  split at h
  · rename_i ha
    subst ha
    split at h
    · rename_i o
      split at h
      · rename_i fs hob
        split at h
        · rename_i hq
          cases h
          obtain ⟨rfl, hM⟩ := hq
          have key : ∀ d, 8 ≤ d → zev 8 X zmt zovS (d + 2) (42 * 400 + 7) 238 [.ref o] M = some (none, zwEnd M o) := fun d hd => zev_Words hob hM hd (Nat.le_refl _)
          refine ⟨zev_mono (zovS_ok (l := l) (base := base) (ex := ex) (dC := dC) (dI := dI)) _ _ _ _ _ _ _ (key 8 (Nat.le_refl _)), fun d hd r hr => ?_⟩
          obtain ⟨d', rfl⟩ : ∃ d', d = d' + 2 := ⟨d - 2, by omega⟩
          exact zev_ok zmt_ok zovS_ok _ _ _ _ _ _ _ (key d' (by omega)) r hr
        · cases h
      · cases h
    · cases h
  · obtain ⟨h1, h2⟩ := zovS_ok (l := l) (base := base) (ex := ex) (dC := dC) (dI := dI) (X := X) a av M v M' h
    exact ⟨h1, fun d hd => h2 d (by omega)⟩
