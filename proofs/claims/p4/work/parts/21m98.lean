/-! THE REFERENCE'S PREDICATES, 5: a premise after the other -/
section HVS
variable {q : Nat → List Int → Prop} {R : Nat → Int → Int} {G : Nat → Int} {C : List Int → Prop} {l : List hP} {e : List Int} {a b : Nat} {es : List sE}
theorem hv0 (h : 0 ≤ se (lget e) (es.getD 0 (0, [])) → hV q R G C l e) : hV q R G C ((0, a, b, es) :: l) e := h
theorem hv1 (h : se (lget e) (es.getD 0 (0, [])) ≠ se (lget e) (es.getD 1 (0, [])) → hV q R G C l e) : hV q R G C ((1, a, b, es) :: l) e := h
theorem hv2 (h : ∀ v, 0 ≤ se (lget e) (es.getD 0 (0, [])) → R a (se (lget e) (es.getD 0 (0, []))) = v → hV q R G C l (e ++ [v])) : hV q R G C ((2, a, b, es) :: l) e := fun v h1 _ h2 => h v h1 h2
theorem hv3 (h : ∀ v, G a = v → hV q R G C l (e ++ [v])) : hV q R G C ((3, a, b, es) :: l) e := h
theorem hv4 (h : ∀ as, q a as → hmt (hV q R G C l) es as e) : hV q R G C ((4, a, b, es) :: l) e := h
theorem hv5 (h : q a (es.map (se (lget e))) → hV q R G C l e) : hV q R G C ((5, a, b, es) :: l) e := h
theorem hv6 (h : ∀ x v : Int, R a (se (lget e) (es.getD 0 (0, [])) + b * x) = v → hV q R G C l (e ++ [x, v])) : hV q R G C ((6, a, b, es) :: l) e := fun x v _ _ h1 => h x v h1
theorem hv7 (h : ∀ x : Int, a * x = se (lget e) (es.getD 0 (0, [])) → hV q R G C l (e ++ [x])) : hV q R G C ((7, a, b, es) :: l) e := h
theorem hv8 (h : ∀ x y : Int, se (lget e) (es.getD 0 (0, [])) = a * x + y → 0 ≤ y → y < a → hV q R G C l (e ++ [x, y])) : hV q R G C ((8, a, b, es) :: l) e := h
theorem hv9 (h : ∀ x y z, hopS a x y z → hmt (fun e' => hV q R G C l (e' ++ [z])) es [x, y] e) : hV q R G C ((9, a, b, es) :: l) e := h
theorem hv10 (h : hin (se (lget e) (es.getD 0 (0, []))) es.tail → hV q R G C l e) : hV q R G C ((10, a, b, es) :: l) e := h
theorem hv11 (h : hfrS e (se (lget e) (es.getD 0 (0, []))) (se (lget e) (es.getD 1 (0, []))) (es.drop 2) → hV q R G C l e) : hV q R G C ((11, a, b, es) :: l) e := h
theorem hv12 (h : 0 ≤ se (lget e) (es.getD 0 (0, [])) → 0 ≤ se (lget e) (es.getD 1 (0, [])) → se (lget e) (es.getD 0 (0, [])) * se (lget e) (es.getD 1 (0, [])) ≤ 9223372036854775807 → hV q R G C l e) : hV q R G C ((12, a, b, es) :: l) e := h
theorem hv13 (h : se (lget e) (es.getD 0 (0, [])) = se (lget e) (es.getD 1 (0, [])) → hV q R G C l e) : hV q R G C ((13, a, b, es) :: l) e := h
theorem hvC (h : C e) : hV q R G C [] e := h
theorem hmb {p : sE} {ps : List sE} {x : Int} {as : List Int} (hi : hisn p e.length = true) (h : hmt C ps as (e ++ [x])) : hmt C (p :: ps) (x :: as) e := by
  unfold hmt
  rw [hi]
  exact h
theorem hmc {p : sE} {ps : List sE} {x : Int} {as : List Int} (hi : hisn p e.length = false) (h : se (lget e) p = x → hmt C ps as e) : hmt C (p :: ps) (x :: as) e := by
  unfold hmt
  rw [hi]
  exact h
theorem hmn (h : C e) : hmt C [] [] e := h
end HVS
