/-- what is known: String.length, String.charAt of constants, Arrays.fill of bytes -/
def zovS : zCall := fun a av M =>
  if a = 501 then (match av with
    | [.ref q] => if 1000000 ≤ q ∧ q < 1000013 ∧ M.1 ≤ 1000000 then some (some (.int (nI (zsb (q - 1000000)).length)), M) else none
    | _ => none)
  else if a = 502 then (match av with
    | [.ref q, .int k] => if (1000000 ≤ q ∧ q < 1000013) ∧ M.1 ≤ 1000000 ∧ ¬ k < 0 ∧ k.toNatClampNeg < (zsb (q - 1000000)).length then some (some (.int ((zsb (q - 1000000)).getD k.toNatClampNeg 0)), M) else none
    | _ => none)
  else if a = 513 then (match av with
    | [.ref o, .int v] => if o < 1000000 ∧ vp_nar .byte v = v then (match zob M o with
      | some (.inl (1, m, .inl f)) => if m < 2147483648 then some (none, zset M o (.inl (1, m, .inl (zbf f v m)))) else none
      | _ => none) else none
    | _ => none)
  else none
theorem zovS_ok {l : Launch} {base : Nat} {ex : Nat → Nat} {dC : Nat → ClassId} {dI : Nat → Nat → Nat} {X : zX} : zOv 8 l base ex dC dI X zmt zovS := by
  intro a av M v M' h
  unfold zovS at h
  split at h
  · rename_i ha
    subst ha
    split at h
    · rename_i q
      split at h
      · rename_i hq
        cases h
        refine ⟨⟨Nat.le_refl _, Nat.le_refl _⟩, fun d hd r hr => ?_⟩
        obtain ⟨d', rfl⟩ : ∃ d', d = d' + 2 := ⟨d - 2, by omega⟩
        exact zev_ok (th := 0) zmt_ok zov0_ok _ _ _ _ _ _ _ (zev_length ⟨hq.1, hq.2.1⟩ hq.2.2) r hr
      · cases h
    · cases h
  · split at h
    · rename_i ha
      subst ha
      split at h
      · rename_i q k
        split at h
        · rename_i hq
          cases h
          obtain ⟨hq1, hq2, hq3, hq4⟩ := hq
          obtain ⟨j, hj, rfl⟩ := nI_of hq3
          rw [nI_clamp hj] at hq4 ⊢
          refine ⟨⟨Nat.le_refl _, Nat.le_refl _⟩, fun d hd r hr => ?_⟩
          obtain ⟨d', rfl⟩ : ∃ d', d = d' + 5 := ⟨d - 5, by omega⟩
          exact zev_ok (th := 0) zmt_ok zov0_ok _ _ _ _ _ _ _ (zev_charAt hq1 hq2 hq4) r hr
        · cases h
      · cases h
    · split at h
      · rename_i ha
        subst ha
        split at h
        · rename_i o v0
          split at h
          · rename_i hq
            split at h
            · rename_i m f hob
              split at h
              · rename_i hm
                cases h
                refine ⟨zset_mono, fun d hd r hr => ?_⟩
                obtain ⟨d', rfl⟩ : ∃ d', d = d' + 1 := ⟨d - 1, by omega⟩
                refine zMet_of (call := zov0) (n := 9 * m + 4 + 5) zmt_ok hr (fun _ _ _ _ _ h => by cases h) (fun _ _ _ _ _ h => by cases h) ?_ ?_
                · cases hr
                  exact Nat.le_of_ble_eq_true rfl
                · cases hr
                  refine zr_s0 rfl rfl rfl rfl ?_
                  refine zr_s0 rfl rfl rfl rfl ?_
                  refine zr_s0 rfl rfl rfl rfl ?_
                  refine zr_alen rfl hq.1 hob ?_
                  refine zr_s0 rfl rfl rfl rfl ?_
                  have hz : zset M o (.inl (1, m, .inl (zbf f v0 0))) = M := by
                    have : zbf f v0 0 = f := by
                      funext j
                      unfold zbf
                      rw [if_neg (by omega)]
                    rw [this]
                    exact zset_self hob
                  have := fill_loop (X := X) (call := zov0) hq.1 hob hm hq.2 m 0 (by omega)
                  rw [hz] at this
                  exact this
              · cases h
            · cases h
          · cases h
        · cases h
      · cases h
def zX0 (z : Nat) : zX := (2147483648, fun _ => 0, z)
def zM0 : zM := (0, 0, fun _ => .inr (0, []))
