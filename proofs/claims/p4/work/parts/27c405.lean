/-! THE LAW OVER CONTRACTS: methods (printed by gen71.py) -/
theorem rtb_484 : rtb 484 = [rc_484_0] := rfl
theorem mr_21 {X : zX} {M : zM} {t n k0 k1 u0 u1 u2 ct cn c0 c1 : Int} (h : cI ct cn c0 c1 M) (hr : rI t [u0, u1, u2, k0, k1] M) (hb : bI t n k0 k1) (hu : uR n u0 u1 u2) (x1 : Int32) : ∃ (r : Int32) (t2 n2 k02 k12 v0 v1 v2 : Int) (M' : zM), lCallOK X 484 [.ref 474, .int x1] M r M' ∧ cI ct cn c0 c1 M' ∧ rI t2 [v0, v1, v2, k02, k12] M' ∧ uR n2 v0 v1 v2 ∧ spO t n k0 k1 r.toInt t2 n2 k02 k12 := by
  obtain ⟨b1, b2, b3, b4, b5, b6, b7, b8⟩ := hb
  unfold uR at hu ⊢
  have B := lbd (t := t) (n := n) (k0 := k0) (k1 := k1) (u0 := u0) (u1 := u1) (u2 := u2) (x1 := x1) (x2 := 0) (x3 := 0) (x4 := 0) (y := 0) ⟨b1, b2⟩ ⟨b3, b4⟩ ⟨b5, b6⟩ ⟨b7, b8⟩ (by omega) (by omega) (by omega)
  obtain ⟨r, M', g1, g2, g3, gm, gq, gt, gu, g6⟩ := rcase (X := X) h hr B rfl (us := [(0, [(9, 1)]), (0, [(10, 1)]), (0, [(11, 1)]), (0, [(7, 1)]), (0, [(8, 1)])]) (l5 (by show ((0 : Int) + (1 * u0 + 0)) = u0; omega) (by show ((0 : Int) + (1 * u1 + 0)) = u1; omega) (by show ((0 : Int) + (1 * u2 + 0)) = u2; omega) (by show ((0 : Int) + (1 * k0 + 0)) = k0; omega) (by show ((0 : Int) + (1 * k1 + 0)) = k1; omega)) rfl (P := []) (List.forall_mem_nil _) rfl (a := 484) (c := rc_484_0) (by rw [rtb_484]; exact List.mem_cons_self) rfl (vals := [(3, 12, (474, [])), (0, 0, (0, [(0, 1)]))]) (args := [.ref 474, .int x1]) ⟨⟨474, rfl, rfl, sSh_474⟩, ⟨x1, rfl, by show x1.toInt = ((0 : Int) + (1 * x1.toInt + 0)); omega⟩, trivial⟩ kr_484_0 rfl
  refine ⟨r, ((0 : Int) + (1 * t + 0)), n, ((0 : Int) + (1 * k0 + 0)), ((0 : Int) + (1 * k1 + 0)), ((0 : Int) + (1 * u0 + 0)), ((0 : Int) + (1 * u1 + 0)), ((0 : Int) + (1 * u2 + 0)), M', g1, g3, ⟨gm, gq, gt, l5 (gu 0 (by decide) _ rfl) (gu 1 (by decide) _ rfl) (gu 2 (by decide) _ rfl) (gu 3 (by decide) _ rfl) (gu 4 (by decide) _ rfl)⟩, by omega, ?_⟩
  unfold spO
  omega
theorem rtb_485 : rtb 485 = [rc_485_0] := rfl
theorem mr_22 {X : zX} {M : zM} {t n k0 k1 u0 u1 u2 ct cn c0 c1 : Int} (h : cI ct cn c0 c1 M) (hr : rI t [u0, u1, u2, k0, k1] M) (hb : bI t n k0 k1) (hu : uR n u0 u1 u2) (x1 : Int32) : ∃ (r : Int32) (t2 n2 k02 k12 v0 v1 v2 : Int) (M' : zM), lCallOK X 485 [.ref 474, .int x1] M r M' ∧ cI ct cn c0 c1 M' ∧ rI t2 [v0, v1, v2, k02, k12] M' ∧ uR n2 v0 v1 v2 ∧ spO t n k0 k1 r.toInt t2 n2 k02 k12 := by
  obtain ⟨b1, b2, b3, b4, b5, b6, b7, b8⟩ := hb
  unfold uR at hu ⊢
  have B := lbd (t := t) (n := n) (k0 := k0) (k1 := k1) (u0 := u0) (u1 := u1) (u2 := u2) (x1 := x1) (x2 := 0) (x3 := 0) (x4 := 0) (y := 0) ⟨b1, b2⟩ ⟨b3, b4⟩ ⟨b5, b6⟩ ⟨b7, b8⟩ (by omega) (by omega) (by omega)
  obtain ⟨r, M', g1, g2, g3, gm, gq, gt, gu, g6⟩ := rcase (X := X) h hr B rfl (us := [(0, [(9, 1)]), (0, [(10, 1)]), (0, [(11, 1)]), (0, [(7, 1)]), (0, [(8, 1)])]) (l5 (by show ((0 : Int) + (1 * u0 + 0)) = u0; omega) (by show ((0 : Int) + (1 * u1 + 0)) = u1; omega) (by show ((0 : Int) + (1 * u2 + 0)) = u2; omega) (by show ((0 : Int) + (1 * k0 + 0)) = k0; omega) (by show ((0 : Int) + (1 * k1 + 0)) = k1; omega)) rfl (P := []) (List.forall_mem_nil _) rfl (a := 485) (c := rc_485_0) (by rw [rtb_485]; exact List.mem_cons_self) rfl (vals := [(3, 12, (474, [])), (0, 0, (0, [(0, 1)]))]) (args := [.ref 474, .int x1]) ⟨⟨474, rfl, rfl, sSh_474⟩, ⟨x1, rfl, by show x1.toInt = ((0 : Int) + (1 * x1.toInt + 0)); omega⟩, trivial⟩ kr_485_0 rfl
  refine ⟨r, ((0 : Int) + (1 * t + 0)), n, ((0 : Int) + (1 * k0 + 0)), ((0 : Int) + (1 * k1 + 0)), ((0 : Int) + (1 * u0 + 0)), ((0 : Int) + (1 * u1 + 0)), ((0 : Int) + (1 * u2 + 0)), M', g1, g3, ⟨gm, gq, gt, l5 (gu 0 (by decide) _ rfl) (gu 1 (by decide) _ rfl) (gu 2 (by decide) _ rfl) (gu 3 (by decide) _ rfl) (gu 4 (by decide) _ rfl)⟩, by omega, ?_⟩
  unfold spO
  omega
theorem rtb_486 : rtb 486 = [rc_486_0] := rfl
theorem mr_23 {X : zX} {M : zM} {t n k0 k1 u0 u1 u2 ct cn c0 c1 : Int} (h : cI ct cn c0 c1 M) (hr : rI t [u0, u1, u2, k0, k1] M) (hb : bI t n k0 k1) (hu : uR n u0 u1 u2) (x1 : Int32) : ∃ (r : Int32) (t2 n2 k02 k12 v0 v1 v2 : Int) (M' : zM), lCallOK X 486 [.ref 474, .int x1] M r M' ∧ cI ct cn c0 c1 M' ∧ rI t2 [v0, v1, v2, k02, k12] M' ∧ uR n2 v0 v1 v2 ∧ spO t n k0 k1 r.toInt t2 n2 k02 k12 := by
  obtain ⟨b1, b2, b3, b4, b5, b6, b7, b8⟩ := hb
  unfold uR at hu ⊢
  have B := lbd (t := t) (n := n) (k0 := k0) (k1 := k1) (u0 := u0) (u1 := u1) (u2 := u2) (x1 := x1) (x2 := 0) (x3 := 0) (x4 := 0) (y := 0) ⟨b1, b2⟩ ⟨b3, b4⟩ ⟨b5, b6⟩ ⟨b7, b8⟩ (by omega) (by omega) (by omega)
  obtain ⟨r, M', g1, g2, g3, gm, gq, gt, gu, g6⟩ := rcase (X := X) h hr B rfl (us := [(0, [(9, 1)]), (0, [(10, 1)]), (0, [(11, 1)]), (0, [(7, 1)]), (0, [(8, 1)])]) (l5 (by show ((0 : Int) + (1 * u0 + 0)) = u0; omega) (by show ((0 : Int) + (1 * u1 + 0)) = u1; omega) (by show ((0 : Int) + (1 * u2 + 0)) = u2; omega) (by show ((0 : Int) + (1 * k0 + 0)) = k0; omega) (by show ((0 : Int) + (1 * k1 + 0)) = k1; omega)) rfl (P := []) (List.forall_mem_nil _) rfl (a := 486) (c := rc_486_0) (by rw [rtb_486]; exact List.mem_cons_self) rfl (vals := [(3, 12, (474, [])), (0, 0, (0, [(0, 1)]))]) (args := [.ref 474, .int x1]) ⟨⟨474, rfl, rfl, sSh_474⟩, ⟨x1, rfl, by show x1.toInt = ((0 : Int) + (1 * x1.toInt + 0)); omega⟩, trivial⟩ kr_486_0 rfl
  refine ⟨r, ((0 : Int) + (1 * t + 0)), n, ((0 : Int) + (1 * k0 + 0)), ((0 : Int) + (1 * k1 + 0)), ((0 : Int) + (1 * u0 + 0)), ((0 : Int) + (1 * u1 + 0)), ((0 : Int) + (1 * u2 + 0)), M', g1, g3, ⟨gm, gq, gt, l5 (gu 0 (by decide) _ rfl) (gu 1 (by decide) _ rfl) (gu 2 (by decide) _ rfl) (gu 3 (by decide) _ rfl) (gu 4 (by decide) _ rfl)⟩, by omega, ?_⟩
  unfold spO
  omega
theorem rtb_487 : rtb 487 = [rc_487_0] := rfl
theorem mr_24 {X : zX} {M : zM} {t n k0 k1 u0 u1 u2 ct cn c0 c1 : Int} (h : cI ct cn c0 c1 M) (hr : rI t [u0, u1, u2, k0, k1] M) (hb : bI t n k0 k1) (hu : uR n u0 u1 u2) (x1 : Int32) : ∃ (r : Int32) (t2 n2 k02 k12 v0 v1 v2 : Int) (M' : zM), lCallOK X 487 [.ref 474, .int x1] M r M' ∧ cI ct cn c0 c1 M' ∧ rI t2 [v0, v1, v2, k02, k12] M' ∧ uR n2 v0 v1 v2 ∧ spO t n k0 k1 r.toInt t2 n2 k02 k12 := by
  obtain ⟨b1, b2, b3, b4, b5, b6, b7, b8⟩ := hb
  unfold uR at hu ⊢
  have B := lbd (t := t) (n := n) (k0 := k0) (k1 := k1) (u0 := u0) (u1 := u1) (u2 := u2) (x1 := x1) (x2 := 0) (x3 := 0) (x4 := 0) (y := 0) ⟨b1, b2⟩ ⟨b3, b4⟩ ⟨b5, b6⟩ ⟨b7, b8⟩ (by omega) (by omega) (by omega)
  obtain ⟨r, M', g1, g2, g3, gm, gq, gt, gu, g6⟩ := rcase (X := X) h hr B rfl (us := [(0, [(9, 1)]), (0, [(10, 1)]), (0, [(11, 1)]), (0, [(7, 1)]), (0, [(8, 1)])]) (l5 (by show ((0 : Int) + (1 * u0 + 0)) = u0; omega) (by show ((0 : Int) + (1 * u1 + 0)) = u1; omega) (by show ((0 : Int) + (1 * u2 + 0)) = u2; omega) (by show ((0 : Int) + (1 * k0 + 0)) = k0; omega) (by show ((0 : Int) + (1 * k1 + 0)) = k1; omega)) rfl (P := []) (List.forall_mem_nil _) rfl (a := 487) (c := rc_487_0) (by rw [rtb_487]; exact List.mem_cons_self) rfl (vals := [(3, 12, (474, [])), (0, 0, (0, [(0, 1)]))]) (args := [.ref 474, .int x1]) ⟨⟨474, rfl, rfl, sSh_474⟩, ⟨x1, rfl, by show x1.toInt = ((0 : Int) + (1 * x1.toInt + 0)); omega⟩, trivial⟩ kr_487_0 rfl
  refine ⟨r, ((0 : Int) + (1 * t + 0)), n, ((0 : Int) + (1 * k0 + 0)), ((0 : Int) + (1 * k1 + 0)), ((0 : Int) + (1 * u0 + 0)), ((0 : Int) + (1 * u1 + 0)), ((0 : Int) + (1 * u2 + 0)), M', g1, g3, ⟨gm, gq, gt, l5 (gu 0 (by decide) _ rfl) (gu 1 (by decide) _ rfl) (gu 2 (by decide) _ rfl) (gu 3 (by decide) _ rfl) (gu 4 (by decide) _ rfl)⟩, by omega, ?_⟩
  unfold spO
  omega
theorem rtb_488 : rtb 488 = [rc_488_0] := rfl
theorem mr_25 {X : zX} {M : zM} {t n k0 k1 u0 u1 u2 ct cn c0 c1 : Int} (h : cI ct cn c0 c1 M) (hr : rI t [u0, u1, u2, k0, k1] M) (hb : bI t n k0 k1) (hu : uR n u0 u1 u2) (x1 : Int32) : ∃ (r : Int32) (t2 n2 k02 k12 v0 v1 v2 : Int) (M' : zM), lCallOK X 488 [.ref 474, .int x1] M r M' ∧ cI ct cn c0 c1 M' ∧ rI t2 [v0, v1, v2, k02, k12] M' ∧ uR n2 v0 v1 v2 ∧ spO t n k0 k1 r.toInt t2 n2 k02 k12 := by
  obtain ⟨b1, b2, b3, b4, b5, b6, b7, b8⟩ := hb
  unfold uR at hu ⊢
  have B := lbd (t := t) (n := n) (k0 := k0) (k1 := k1) (u0 := u0) (u1 := u1) (u2 := u2) (x1 := x1) (x2 := 0) (x3 := 0) (x4 := 0) (y := 0) ⟨b1, b2⟩ ⟨b3, b4⟩ ⟨b5, b6⟩ ⟨b7, b8⟩ (by omega) (by omega) (by omega)
  obtain ⟨r, M', g1, g2, g3, gm, gq, gt, gu, g6⟩ := rcase (X := X) h hr B rfl (us := [(0, [(9, 1)]), (0, [(10, 1)]), (0, [(11, 1)]), (0, [(7, 1)]), (0, [(8, 1)])]) (l5 (by show ((0 : Int) + (1 * u0 + 0)) = u0; omega) (by show ((0 : Int) + (1 * u1 + 0)) = u1; omega) (by show ((0 : Int) + (1 * u2 + 0)) = u2; omega) (by show ((0 : Int) + (1 * k0 + 0)) = k0; omega) (by show ((0 : Int) + (1 * k1 + 0)) = k1; omega)) rfl (P := []) (List.forall_mem_nil _) rfl (a := 488) (c := rc_488_0) (by rw [rtb_488]; exact List.mem_cons_self) rfl (vals := [(3, 12, (474, [])), (0, 0, (0, [(0, 1)]))]) (args := [.ref 474, .int x1]) ⟨⟨474, rfl, rfl, sSh_474⟩, ⟨x1, rfl, by show x1.toInt = ((0 : Int) + (1 * x1.toInt + 0)); omega⟩, trivial⟩ kr_488_0 rfl
  refine ⟨r, ((0 : Int) + (1 * t + 0)), n, ((0 : Int) + (1 * k0 + 0)), ((0 : Int) + (1 * k1 + 0)), ((0 : Int) + (1 * u0 + 0)), ((0 : Int) + (1 * u1 + 0)), ((0 : Int) + (1 * u2 + 0)), M', g1, g3, ⟨gm, gq, gt, l5 (gu 0 (by decide) _ rfl) (gu 1 (by decide) _ rfl) (gu 2 (by decide) _ rfl) (gu 3 (by decide) _ rfl) (gu 4 (by decide) _ rfl)⟩, by omega, ?_⟩
  unfold spO
  omega
