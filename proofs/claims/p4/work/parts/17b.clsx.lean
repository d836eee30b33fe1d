/-! THE CLASS: every contract holds -/
theorem ctb_en {a : Nat} {c : sCt} (h : c ∈ ctb a) : CK a c := by
  unfold ctb at h
  cases hq : zlook 24 ctL a with
  | none => rw [hq] at h; cases h
  | some l =>
    rw [hq] at h
    exact cl_all (a, l) (zlook_en hq) c h
theorem xo_ok : ∀ a, xo a = true → ∀ args M, zovT a args M = none := by
  intro a h args M
  have h1 : a ≠ 238 ∧ a ≠ 501 ∧ a ≠ 502 ∧ a ≠ 513 := by
    refine ⟨?_, ?_, ?_, ?_⟩ <;> (rintro rfl; exact absurd h (by decide))
  unfold zovT zovS
  rw [if_neg h1.1, if_neg h1.2.1, if_neg h1.2.2.1, if_neg h1.2.2.2]
theorem cls_lf {X : zX} : ∀ a c, c ∈ ctb a → ∀ r, zmt a = some r → sLf cQs 10 X zmt zovT ctb c r := by
  intro a c hc r hr
  obtain ⟨k1, k2, k3⟩ := ctb_en hc
  exact sLf_ok (hSx_ok cQs_ok) (hMx_ok cQs_ok) (hNx_ok cQs_ok) (hLx_ok cQs_ok.1) (hCx_ok cQs_ok) zmtG_ok zmtX_T xo_ok (fun a c h => (ctb_en h).1) hc hr ⟨_, k2⟩ (fun h hh => ⟨_, k3 h hh⟩)
theorem cls_all {X : zX} : ∀ R : Nat, sTb cQs 10 X zmt zovT ctb (R : Int) := sTb_all cls_lf
