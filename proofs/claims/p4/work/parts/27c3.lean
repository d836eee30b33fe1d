/-! THE LAW OVER CONTRACTS: methods (printed by gen71.py) -/
theorem ctb_254 : ctb 254 = [cc_254_0, cc_254_1, cc_254_2, cc_254_3] := rfl
theorem mc_0 {X : zX} {M : zM} {t n k0 k1 t' : Int} {us : List Int} (h : cI t n k0 k1 M) (hr : rI t' us M) (hb : bI t n k0 k1) (y : Int64) (x1 : Int32) : ∃ (r : Int32) (t2 n2 k02 k12 : Int) (M' : zM), lCallOK X 254 [.ref 0, .long y, .int x1] M r M' ∧ cI t2 n2 k02 k12 M' ∧ rI t' us M' ∧ spT x1.toInt t n k0 k1 r.toInt t2 n2 k02 k12 := by
  obtain ⟨b1, b2, b3, b4, b5, b6, b7, b8⟩ := hb
  have B := lbd (t := t) (n := n) (k0 := k0) (k1 := k1) (u0 := 0) (u1 := 0) (u2 := 0) (x1 := x1) (x2 := 0) (x3 := 0) (x4 := 0) (y := y) ⟨b1, b2⟩ ⟨b3, b4⟩ ⟨b5, b6⟩ ⟨b7, b8⟩ (by decide) (by decide) (by decide)
  rcases (show ((0 : Int) ≤ ((0 : Int) + ((-1) * x1.toInt + 0))) ∨ ((0 : Int) ≤ ((-9 : Int) + (1 * x1.toInt + 0))) ∨ ((0 : Int) ≤ ((-1 : Int) + (1 * x1.toInt + 0)) ∧ (0 : Int) ≤ ((8 : Int) + ((-1) * x1.toInt + 0)) ∧ (0 : Int) ≤ ((-1025 : Int) + (1 * x1.toInt + (1 * t + 0)))) ∨ ((0 : Int) ≤ ((-1 : Int) + (1 * x1.toInt + 0)) ∧ (0 : Int) ≤ ((8 : Int) + ((-1) * x1.toInt + 0)) ∧ (0 : Int) ≤ ((1024 : Int) + ((-1) * x1.toInt + ((-1) * t + 0)))) by omega) with c | c | c | c
  · obtain ⟨r, M', g1, g2, g3, g4⟩ := ccase (X := X) h hr B rfl rfl rfl rfl (P := [(0, [(0, (-1))])]) (List.forall_mem_cons.mpr ⟨c, List.forall_mem_nil _⟩) rfl (a := 254) (c := cc_254_0) (by rw [ctb_254]; exact List.mem_cons_self) rfl (vals := [(3, 11, (0, [])), (1, 0, (0, [(4, 1)])), (0, 0, (0, [(0, 1)]))]) (args := [.ref 0, .long y, .int x1]) ⟨⟨0, rfl, rfl, by decide⟩, ⟨y, rfl, by show y.toInt = (0 : Int) + (1 * y.toInt + 0); omega⟩, ⟨x1, rfl, by show x1.toInt = ((0 : Int) + (1 * x1.toInt + 0)); omega⟩, trivial⟩ kc_254_0 rfl
    have q : r.toInt = ((-2 : Int) + 0) := g2 _ rfl
    refine ⟨r, ((0 : Int) + (1 * t + 0)), ((0 : Int) + (1 * n + 0)), ((0 : Int) + (1 * k0 + 0)), ((0 : Int) + (1 * k1 + 0)), M', g1, g3, g4, ?_⟩
    unfold spT
    omega
  · obtain ⟨r, M', g1, g2, g3, g4⟩ := ccase (X := X) h hr B rfl rfl rfl rfl (P := [((-9), [(0, 1)])]) (List.forall_mem_cons.mpr ⟨c, List.forall_mem_nil _⟩) rfl (a := 254) (c := cc_254_1) (by rw [ctb_254]; exact List.mem_cons_of_mem _ List.mem_cons_self) rfl (vals := [(3, 11, (0, [])), (1, 0, (0, [(4, 1)])), (0, 0, (0, [(0, 1)]))]) (args := [.ref 0, .long y, .int x1]) ⟨⟨0, rfl, rfl, by decide⟩, ⟨y, rfl, by show y.toInt = (0 : Int) + (1 * y.toInt + 0); omega⟩, ⟨x1, rfl, by show x1.toInt = ((0 : Int) + (1 * x1.toInt + 0)); omega⟩, trivial⟩ kc_254_1 rfl
    have q : r.toInt = ((-2 : Int) + 0) := g2 _ rfl
    refine ⟨r, ((0 : Int) + (1 * t + 0)), ((0 : Int) + (1 * n + 0)), ((0 : Int) + (1 * k0 + 0)), ((0 : Int) + (1 * k1 + 0)), M', g1, g3, g4, ?_⟩
    unfold spT
    omega
  · obtain ⟨r, M', g1, g2, g3, g4⟩ := ccase (X := X) h hr B rfl rfl rfl rfl (P := [((-1), [(0, 1)]), (8, [(0, (-1))]), ((-1025), [(0, 1), (5, 1)])]) (List.forall_mem_cons.mpr ⟨c.1, List.forall_mem_cons.mpr ⟨c.2.1, List.forall_mem_cons.mpr ⟨c.2.2, List.forall_mem_nil _⟩⟩⟩) rfl (a := 254) (c := cc_254_2) (by rw [ctb_254]; exact List.mem_cons_of_mem _ (List.mem_cons_of_mem _ List.mem_cons_self)) rfl (vals := [(3, 11, (0, [])), (1, 0, (0, [(4, 1)])), (0, 0, (0, [(0, 1)]))]) (args := [.ref 0, .long y, .int x1]) ⟨⟨0, rfl, rfl, by decide⟩, ⟨y, rfl, by show y.toInt = (0 : Int) + (1 * y.toInt + 0); omega⟩, ⟨x1, rfl, by show x1.toInt = ((0 : Int) + (1 * x1.toInt + 0)); omega⟩, trivial⟩ kc_254_2 rfl
    have q : r.toInt = ((-4 : Int) + 0) := g2 _ rfl
    refine ⟨r, ((0 : Int) + (1 * t + 0)), ((0 : Int) + (1 * n + 0)), ((0 : Int) + (1 * k0 + 0)), ((0 : Int) + (1 * k1 + 0)), M', g1, g3, g4, ?_⟩
    unfold spT
    omega
  · obtain ⟨r, M', g1, g2, g3, g4⟩ := ccase (X := X) h hr B rfl rfl rfl rfl (P := [((-1), [(0, 1)]), (8, [(0, (-1))]), (1024, [(0, (-1)), (5, (-1))])]) (List.forall_mem_cons.mpr ⟨c.1, List.forall_mem_cons.mpr ⟨c.2.1, List.forall_mem_cons.mpr ⟨c.2.2, List.forall_mem_nil _⟩⟩⟩) rfl (a := 254) (c := cc_254_3) (by rw [ctb_254]; exact List.mem_cons_of_mem _ (List.mem_cons_of_mem _ (List.mem_cons_of_mem _ List.mem_cons_self))) rfl (vals := [(3, 11, (0, [])), (1, 0, (0, [(4, 1)])), (0, 0, (0, [(0, 1)]))]) (args := [.ref 0, .long y, .int x1]) ⟨⟨0, rfl, rfl, by decide⟩, ⟨y, rfl, by show y.toInt = (0 : Int) + (1 * y.toInt + 0); omega⟩, ⟨x1, rfl, by show x1.toInt = ((0 : Int) + (1 * x1.toInt + 0)); omega⟩, trivial⟩ kc_254_3 rfl
    have q : r.toInt = ((0 : Int) + (1 * x1.toInt + (1 * t + 0))) := g2 _ rfl
    refine ⟨r, ((0 : Int) + (1 * x1.toInt + (1 * t + 0))), ((0 : Int) + (1 * n + 0)), ((0 : Int) + (1 * k0 + 0)), ((0 : Int) + (1 * k1 + 0)), M', g1, g3, g4, ?_⟩
    unfold spT
    omega
theorem ctb_255 : ctb 255 = [cc_255_0] := rfl
theorem mc_1 {X : zX} {M : zM} {t n k0 k1 t' : Int} {us : List Int} (h : cI t n k0 k1 M) (hr : rI t' us M) (hb : bI t n k0 k1)  : ∃ (r : Int32) (t2 n2 k02 k12 : Int) (M' : zM), lCallOK X 255 [.ref 0] M r M' ∧ cI t2 n2 k02 k12 M' ∧ rI t' us M' ∧ spW t n k0 k1 r.toInt t2 n2 k02 k12 := by
  obtain ⟨b1, b2, b3, b4, b5, b6, b7, b8⟩ := hb
  have B := lbd (t := t) (n := n) (k0 := k0) (k1 := k1) (u0 := 0) (u1 := 0) (u2 := 0) (x1 := 0) (x2 := 0) (x3 := 0) (x4 := 0) (y := 0) ⟨b1, b2⟩ ⟨b3, b4⟩ ⟨b5, b6⟩ ⟨b7, b8⟩ (by decide) (by decide) (by decide)
  obtain ⟨r, M', g1, g2, g3, g4⟩ := ccase (X := X) h hr B rfl rfl rfl rfl (P := []) (List.forall_mem_nil _) rfl (a := 255) (c := cc_255_0) (by rw [ctb_255]; exact List.mem_cons_self) rfl (vals := [(3, 11, (0, []))]) (args := [.ref 0]) ⟨⟨0, rfl, rfl, by decide⟩, trivial⟩ kc_255_0 rfl
  have q : r.toInt = ((0 : Int) + (1 * t + 0)) := g2 _ rfl
  refine ⟨r, ((0 : Int) + 0), ((0 : Int) + (1 * n + 0)), ((0 : Int) + (1 * k0 + 0)), ((0 : Int) + (1 * k1 + 0)), M', g1, g3, g4, ?_⟩
  unfold spW
  omega
theorem ctb_256 : ctb 256 = [cc_256_0, cc_256_1, cc_256_2, cc_256_3, cc_256_4, cc_256_5] := rfl
theorem mc_2 {X : zX} {M : zM} {t n k0 k1 t' : Int} {us : List Int} (h : cI t n k0 k1 M) (hr : rI t' us M) (hb : bI t n k0 k1) (x1 x2 : Int32) : ∃ (r : Int32) (t2 n2 k02 k12 : Int) (M' : zM), lCallOK X 256 [.ref 0, .int x1, .int x2] M r M' ∧ cI t2 n2 k02 k12 M' ∧ rI t' us M' ∧ spS x1.toInt x2.toInt t n k0 k1 r.toInt t2 n2 k02 k12 := by
  obtain ⟨b1, b2, b3, b4, b5, b6, b7, b8⟩ := hb
  have B := lbd (t := t) (n := n) (k0 := k0) (k1 := k1) (u0 := 0) (u1 := 0) (u2 := 0) (x1 := x1) (x2 := x2) (x3 := 0) (x4 := 0) (y := 0) ⟨b1, b2⟩ ⟨b3, b4⟩ ⟨b5, b6⟩ ⟨b7, b8⟩ (by decide) (by decide) (by decide)
  rcases (show ((0 : Int) ≤ ((1 : Int) + ((-1) * x1.toInt + 0))) ∨ ((0 : Int) ≤ ((-5 : Int) + (1 * x1.toInt + 0))) ∨ ((0 : Int) ≤ ((-2 : Int) + (1 * x1.toInt + 0)) ∧ (0 : Int) ≤ ((4 : Int) + ((-1) * x1.toInt + 0)) ∧ (0 : Int) ≤ ((-1 : Int) + ((-1) * x2.toInt + 0))) ∨ ((0 : Int) ≤ ((-2 : Int) + (1 * x1.toInt + 0)) ∧ (0 : Int) ≤ ((4 : Int) + ((-1) * x1.toInt + 0)) ∧ (0 : Int) ≤ ((-8 : Int) + (1 * x2.toInt + 0))) ∨ ((0 : Int) ≤ ((-2 : Int) + (1 * x1.toInt + 0)) ∧ (0 : Int) ≤ ((4 : Int) + ((-1) * x1.toInt + 0)) ∧ (0 : Int) ≤ ((0 : Int) + (1 * x2.toInt + 0)) ∧ (0 : Int) ≤ ((7 : Int) + ((-1) * x2.toInt + 0)) ∧ (0 : Int) ≤ ((-3 : Int) + (1 * n + 0))) ∨ ((0 : Int) ≤ ((-2 : Int) + (1 * x1.toInt + 0)) ∧ (0 : Int) ≤ ((4 : Int) + ((-1) * x1.toInt + 0)) ∧ (0 : Int) ≤ ((0 : Int) + (1 * x2.toInt + 0)) ∧ (0 : Int) ≤ ((7 : Int) + ((-1) * x2.toInt + 0)) ∧ (0 : Int) ≤ ((2 : Int) + ((-1) * n + 0))) by omega) with c | c | c | c | c | c
  · obtain ⟨r, M', g1, g2, g3, g4⟩ := ccase (X := X) h hr B rfl rfl rfl rfl (P := [(1, [(0, (-1))])]) (List.forall_mem_cons.mpr ⟨c, List.forall_mem_nil _⟩) rfl (a := 256) (c := cc_256_0) (by rw [ctb_256]; exact List.mem_cons_self) rfl (vals := [(3, 11, (0, [])), (0, 0, (0, [(0, 1)])), (0, 0, (0, [(1, 1)]))]) (args := [.ref 0, .int x1, .int x2]) ⟨⟨0, rfl, rfl, by decide⟩, ⟨x1, rfl, by show x1.toInt = ((0 : Int) + (1 * x1.toInt + 0)); omega⟩, ⟨x2, rfl, by show x2.toInt = ((0 : Int) + (1 * x2.toInt + 0)); omega⟩, trivial⟩ kc_256_0 rfl
    have q : r.toInt = ((-2 : Int) + 0) := g2 _ rfl
    refine ⟨r, ((0 : Int) + (1 * t + 0)), ((0 : Int) + (1 * n + 0)), ((0 : Int) + (1 * k0 + 0)), ((0 : Int) + (1 * k1 + 0)), M', g1, g3, g4, ?_⟩
    unfold spS
    omega
  · obtain ⟨r, M', g1, g2, g3, g4⟩ := ccase (X := X) h hr B rfl rfl rfl rfl (P := [((-5), [(0, 1)])]) (List.forall_mem_cons.mpr ⟨c, List.forall_mem_nil _⟩) rfl (a := 256) (c := cc_256_1) (by rw [ctb_256]; exact List.mem_cons_of_mem _ List.mem_cons_self) rfl (vals := [(3, 11, (0, [])), (0, 0, (0, [(0, 1)])), (0, 0, (0, [(1, 1)]))]) (args := [.ref 0, .int x1, .int x2]) ⟨⟨0, rfl, rfl, by decide⟩, ⟨x1, rfl, by show x1.toInt = ((0 : Int) + (1 * x1.toInt + 0)); omega⟩, ⟨x2, rfl, by show x2.toInt = ((0 : Int) + (1 * x2.toInt + 0)); omega⟩, trivial⟩ kc_256_1 rfl
    have q : r.toInt = ((-2 : Int) + 0) := g2 _ rfl
    refine ⟨r, ((0 : Int) + (1 * t + 0)), ((0 : Int) + (1 * n + 0)), ((0 : Int) + (1 * k0 + 0)), ((0 : Int) + (1 * k1 + 0)), M', g1, g3, g4, ?_⟩
    unfold spS
    omega
  · obtain ⟨r, M', g1, g2, g3, g4⟩ := ccase (X := X) h hr B rfl rfl rfl rfl (P := [((-2), [(0, 1)]), (4, [(0, (-1))]), ((-1), [(1, (-1))])]) (List.forall_mem_cons.mpr ⟨c.1, List.forall_mem_cons.mpr ⟨c.2.1, List.forall_mem_cons.mpr ⟨c.2.2, List.forall_mem_nil _⟩⟩⟩) rfl (a := 256) (c := cc_256_2) (by rw [ctb_256]; exact List.mem_cons_of_mem _ (List.mem_cons_of_mem _ List.mem_cons_self)) rfl (vals := [(3, 11, (0, [])), (0, 0, (0, [(0, 1)])), (0, 0, (0, [(1, 1)]))]) (args := [.ref 0, .int x1, .int x2]) ⟨⟨0, rfl, rfl, by decide⟩, ⟨x1, rfl, by show x1.toInt = ((0 : Int) + (1 * x1.toInt + 0)); omega⟩, ⟨x2, rfl, by show x2.toInt = ((0 : Int) + (1 * x2.toInt + 0)); omega⟩, trivial⟩ kc_256_2 rfl
    have q : r.toInt = ((-2 : Int) + 0) := g2 _ rfl
    refine ⟨r, ((0 : Int) + (1 * t + 0)), ((0 : Int) + (1 * n + 0)), ((0 : Int) + (1 * k0 + 0)), ((0 : Int) + (1 * k1 + 0)), M', g1, g3, g4, ?_⟩
    unfold spS
    omega
  · obtain ⟨r, M', g1, g2, g3, g4⟩ := ccase (X := X) h hr B rfl rfl rfl rfl (P := [((-2), [(0, 1)]), (4, [(0, (-1))]), ((-8), [(1, 1)])]) (List.forall_mem_cons.mpr ⟨c.1, List.forall_mem_cons.mpr ⟨c.2.1, List.forall_mem_cons.mpr ⟨c.2.2, List.forall_mem_nil _⟩⟩⟩) rfl (a := 256) (c := cc_256_3) (by rw [ctb_256]; exact List.mem_cons_of_mem _ (List.mem_cons_of_mem _ (List.mem_cons_of_mem _ List.mem_cons_self))) rfl (vals := [(3, 11, (0, [])), (0, 0, (0, [(0, 1)])), (0, 0, (0, [(1, 1)]))]) (args := [.ref 0, .int x1, .int x2]) ⟨⟨0, rfl, rfl, by decide⟩, ⟨x1, rfl, by show x1.toInt = ((0 : Int) + (1 * x1.toInt + 0)); omega⟩, ⟨x2, rfl, by show x2.toInt = ((0 : Int) + (1 * x2.toInt + 0)); omega⟩, trivial⟩ kc_256_3 rfl
    have q : r.toInt = ((-2 : Int) + 0) := g2 _ rfl
    refine ⟨r, ((0 : Int) + (1 * t + 0)), ((0 : Int) + (1 * n + 0)), ((0 : Int) + (1 * k0 + 0)), ((0 : Int) + (1 * k1 + 0)), M', g1, g3, g4, ?_⟩
    unfold spS
    omega
  · obtain ⟨r, M', g1, g2, g3, g4⟩ := ccase (X := X) h hr B rfl rfl rfl rfl (P := [((-2), [(0, 1)]), (4, [(0, (-1))]), (0, [(1, 1)]), (7, [(1, (-1))]), ((-3), [(6, 1)])]) (List.forall_mem_cons.mpr ⟨c.1, List.forall_mem_cons.mpr ⟨c.2.1, List.forall_mem_cons.mpr ⟨c.2.2.1, List.forall_mem_cons.mpr ⟨c.2.2.2.1, List.forall_mem_cons.mpr ⟨c.2.2.2.2, List.forall_mem_nil _⟩⟩⟩⟩⟩) rfl (a := 256) (c := cc_256_4) (by rw [ctb_256]; exact List.mem_cons_of_mem _ (List.mem_cons_of_mem _ (List.mem_cons_of_mem _ (List.mem_cons_of_mem _ List.mem_cons_self)))) rfl (vals := [(3, 11, (0, [])), (0, 0, (0, [(0, 1)])), (0, 0, (0, [(1, 1)]))]) (args := [.ref 0, .int x1, .int x2]) ⟨⟨0, rfl, rfl, by decide⟩, ⟨x1, rfl, by show x1.toInt = ((0 : Int) + (1 * x1.toInt + 0)); omega⟩, ⟨x2, rfl, by show x2.toInt = ((0 : Int) + (1 * x2.toInt + 0)); omega⟩, trivial⟩ kc_256_4 rfl
    have q : r.toInt = ((-4 : Int) + 0) := g2 _ rfl
    refine ⟨r, ((0 : Int) + (1 * t + 0)), ((0 : Int) + (1 * n + 0)), ((0 : Int) + (1 * k0 + 0)), ((0 : Int) + (1 * k1 + 0)), M', g1, g3, g4, ?_⟩
    unfold spS
    omega
  · obtain ⟨r, M', g1, g2, g3, g4⟩ := ccase (X := X) h hr B rfl rfl rfl rfl (P := [((-2), [(0, 1)]), (4, [(0, (-1))]), (0, [(1, 1)]), (7, [(1, (-1))]), (2, [(6, (-1))])]) (List.forall_mem_cons.mpr ⟨c.1, List.forall_mem_cons.mpr ⟨c.2.1, List.forall_mem_cons.mpr ⟨c.2.2.1, List.forall_mem_cons.mpr ⟨c.2.2.2.1, List.forall_mem_cons.mpr ⟨c.2.2.2.2, List.forall_mem_nil _⟩⟩⟩⟩⟩) rfl (a := 256) (c := cc_256_5) (by rw [ctb_256]; exact List.mem_cons_of_mem _ (List.mem_cons_of_mem _ (List.mem_cons_of_mem _ (List.mem_cons_of_mem _ (List.mem_cons_of_mem _ List.mem_cons_self))))) rfl (vals := [(3, 11, (0, [])), (0, 0, (0, [(0, 1)])), (0, 0, (0, [(1, 1)]))]) (args := [.ref 0, .int x1, .int x2]) ⟨⟨0, rfl, rfl, by decide⟩, ⟨x1, rfl, by show x1.toInt = ((0 : Int) + (1 * x1.toInt + 0)); omega⟩, ⟨x2, rfl, by show x2.toInt = ((0 : Int) + (1 * x2.toInt + 0)); omega⟩, trivial⟩ kc_256_5 rfl
    have q : r.toInt = ((0 : Int) + (1 * n + 0)) := g2 _ rfl
    refine ⟨r, ((0 : Int) + (1 * t + 0)), ((1 : Int) + (1 * n + 0)), ((0 : Int) + (1 * k0 + 0)), ((0 : Int) + (1 * k1 + 0)), M', g1, g3, g4, ?_⟩
    unfold spS
    omega
theorem ctb_257 : ctb 257 = [cc_257_0] := rfl
theorem mc_3 {X : zX} {M : zM} {t n k0 k1 t' : Int} {us : List Int} (h : cI t n k0 k1 M) (hr : rI t' us M) (hb : bI t n k0 k1) (x1 x2 : Int32) : ∃ (r : Int32) (t2 n2 k02 k12 : Int) (M' : zM), lCallOK X 257 [.ref 0, .int x1, .int x2] M r M' ∧ cI t2 n2 k02 k12 M' ∧ rI t' us M' ∧ spE t n k0 k1 r.toInt t2 n2 k02 k12 := by
  obtain ⟨b1, b2, b3, b4, b5, b6, b7, b8⟩ := hb
  have B := lbd (t := t) (n := n) (k0 := k0) (k1 := k1) (u0 := 0) (u1 := 0) (u2 := 0) (x1 := x1) (x2 := x2) (x3 := 0) (x4 := 0) (y := 0) ⟨b1, b2⟩ ⟨b3, b4⟩ ⟨b5, b6⟩ ⟨b7, b8⟩ (by decide) (by decide) (by decide)
  obtain ⟨r, M', g1, g2, g3, g4⟩ := ccase (X := X) h hr B rfl rfl rfl rfl (P := []) (List.forall_mem_nil _) rfl (a := 257) (c := cc_257_0) (by rw [ctb_257]; exact List.mem_cons_self) rfl (vals := [(3, 11, (0, [])), (0, 0, (0, [(0, 1)])), (0, 0, (0, [(1, 1)]))]) (args := [.ref 0, .int x1, .int x2]) ⟨⟨0, rfl, rfl, by decide⟩, ⟨x1, rfl, by show x1.toInt = ((0 : Int) + (1 * x1.toInt + 0)); omega⟩, ⟨x2, rfl, by show x2.toInt = ((0 : Int) + (1 * x2.toInt + 0)); omega⟩, trivial⟩ kc_257_0 rfl
  refine ⟨r, ((0 : Int) + 0), ((0 : Int) + (1 * n + 0)), ((0 : Int) + (1 * k0 + 0)), ((0 : Int) + (1 * k1 + 0)), M', g1, g3, g4, ?_⟩
  unfold spE
  omega
theorem ctb_258 : ctb 258 = [cc_258_0] := rfl
theorem mc_4 {X : zX} {M : zM} {t n k0 k1 t' : Int} {us : List Int} (h : cI t n k0 k1 M) (hr : rI t' us M) (hb : bI t n k0 k1) (x1 x2 : Int32) : ∃ (r : Int32) (t2 n2 k02 k12 : Int) (M' : zM), lCallOK X 258 [.ref 0, .int x1, .int x2] M r M' ∧ cI t2 n2 k02 k12 M' ∧ rI t' us M' ∧ spO t n k0 k1 r.toInt t2 n2 k02 k12 := by
  obtain ⟨b1, b2, b3, b4, b5, b6, b7, b8⟩ := hb
  have B := lbd (t := t) (n := n) (k0 := k0) (k1 := k1) (u0 := 0) (u1 := 0) (u2 := 0) (x1 := x1) (x2 := x2) (x3 := 0) (x4 := 0) (y := 0) ⟨b1, b2⟩ ⟨b3, b4⟩ ⟨b5, b6⟩ ⟨b7, b8⟩ (by decide) (by decide) (by decide)
  obtain ⟨r, M', g1, g2, g3, g4⟩ := ccase (X := X) h hr B rfl rfl rfl rfl (P := []) (List.forall_mem_nil _) rfl (a := 258) (c := cc_258_0) (by rw [ctb_258]; exact List.mem_cons_self) rfl (vals := [(3, 11, (0, [])), (0, 0, (0, [(0, 1)])), (0, 0, (0, [(1, 1)]))]) (args := [.ref 0, .int x1, .int x2]) ⟨⟨0, rfl, rfl, by decide⟩, ⟨x1, rfl, by show x1.toInt = ((0 : Int) + (1 * x1.toInt + 0)); omega⟩, ⟨x2, rfl, by show x2.toInt = ((0 : Int) + (1 * x2.toInt + 0)); omega⟩, trivial⟩ kc_258_0 rfl
  refine ⟨r, ((0 : Int) + (1 * t + 0)), ((0 : Int) + (1 * n + 0)), ((0 : Int) + (1 * k0 + 0)), ((0 : Int) + (1 * k1 + 0)), M', g1, g3, g4, ?_⟩
  unfold spO
  omega
theorem ctb_259 : ctb 259 = [cc_259_0] := rfl
theorem mc_5 {X : zX} {M : zM} {t n k0 k1 t' : Int} {us : List Int} (h : cI t n k0 k1 M) (hr : rI t' us M) (hb : bI t n k0 k1) (x1 x2 : Int32) : ∃ (r : Int32) (t2 n2 k02 k12 : Int) (M' : zM), lCallOK X 259 [.ref 0, .int x1, .int x2] M r M' ∧ cI t2 n2 k02 k12 M' ∧ rI t' us M' ∧ spO t n k0 k1 r.toInt t2 n2 k02 k12 := by
  obtain ⟨b1, b2, b3, b4, b5, b6, b7, b8⟩ := hb
  have B := lbd (t := t) (n := n) (k0 := k0) (k1 := k1) (u0 := 0) (u1 := 0) (u2 := 0) (x1 := x1) (x2 := x2) (x3 := 0) (x4 := 0) (y := 0) ⟨b1, b2⟩ ⟨b3, b4⟩ ⟨b5, b6⟩ ⟨b7, b8⟩ (by decide) (by decide) (by decide)
  obtain ⟨r, M', g1, g2, g3, g4⟩ := ccase (X := X) h hr B rfl rfl rfl rfl (P := []) (List.forall_mem_nil _) rfl (a := 259) (c := cc_259_0) (by rw [ctb_259]; exact List.mem_cons_self) rfl (vals := [(3, 11, (0, [])), (0, 0, (0, [(0, 1)])), (0, 0, (0, [(1, 1)]))]) (args := [.ref 0, .int x1, .int x2]) ⟨⟨0, rfl, rfl, by decide⟩, ⟨x1, rfl, by show x1.toInt = ((0 : Int) + (1 * x1.toInt + 0)); omega⟩, ⟨x2, rfl, by show x2.toInt = ((0 : Int) + (1 * x2.toInt + 0)); omega⟩, trivial⟩ kc_259_0 rfl
  refine ⟨r, ((0 : Int) + (1 * t + 0)), ((0 : Int) + (1 * n + 0)), ((0 : Int) + (1 * k0 + 0)), ((0 : Int) + (1 * k1 + 0)), M', g1, g3, g4, ?_⟩
  unfold spO
  omega
theorem ctb_260 : ctb 260 = [cc_260_0] := rfl
theorem mc_6 {X : zX} {M : zM} {t n k0 k1 t' : Int} {us : List Int} (h : cI t n k0 k1 M) (hr : rI t' us M) (hb : bI t n k0 k1) (x1 x2 : Int32) : ∃ (r : Int32) (t2 n2 k02 k12 : Int) (M' : zM), lCallOK X 260 [.ref 0, .int x1, .int x2] M r M' ∧ cI t2 n2 k02 k12 M' ∧ rI t' us M' ∧ spO t n k0 k1 r.toInt t2 n2 k02 k12 := by
  obtain ⟨b1, b2, b3, b4, b5, b6, b7, b8⟩ := hb
  have B := lbd (t := t) (n := n) (k0 := k0) (k1 := k1) (u0 := 0) (u1 := 0) (u2 := 0) (x1 := x1) (x2 := x2) (x3 := 0) (x4 := 0) (y := 0) ⟨b1, b2⟩ ⟨b3, b4⟩ ⟨b5, b6⟩ ⟨b7, b8⟩ (by decide) (by decide) (by decide)
  obtain ⟨r, M', g1, g2, g3, g4⟩ := ccase (X := X) h hr B rfl rfl rfl rfl (P := []) (List.forall_mem_nil _) rfl (a := 260) (c := cc_260_0) (by rw [ctb_260]; exact List.mem_cons_self) rfl (vals := [(3, 11, (0, [])), (0, 0, (0, [(0, 1)])), (0, 0, (0, [(1, 1)]))]) (args := [.ref 0, .int x1, .int x2]) ⟨⟨0, rfl, rfl, by decide⟩, ⟨x1, rfl, by show x1.toInt = ((0 : Int) + (1 * x1.toInt + 0)); omega⟩, ⟨x2, rfl, by show x2.toInt = ((0 : Int) + (1 * x2.toInt + 0)); omega⟩, trivial⟩ kc_260_0 rfl
  refine ⟨r, ((0 : Int) + (1 * t + 0)), ((0 : Int) + (1 * n + 0)), ((0 : Int) + (1 * k0 + 0)), ((0 : Int) + (1 * k1 + 0)), M', g1, g3, g4, ?_⟩
  unfold spO
  omega
theorem ctb_261 : ctb 261 = [cc_261_0] := rfl
theorem mc_7 {X : zX} {M : zM} {t n k0 k1 t' : Int} {us : List Int} (h : cI t n k0 k1 M) (hr : rI t' us M) (hb : bI t n k0 k1) (x1 x2 : Int32) : ∃ (r : Int32) (t2 n2 k02 k12 : Int) (M' : zM), lCallOK X 261 [.ref 0, .int x1, .int x2] M r M' ∧ cI t2 n2 k02 k12 M' ∧ rI t' us M' ∧ spO t n k0 k1 r.toInt t2 n2 k02 k12 := by
  obtain ⟨b1, b2, b3, b4, b5, b6, b7, b8⟩ := hb
  have B := lbd (t := t) (n := n) (k0 := k0) (k1 := k1) (u0 := 0) (u1 := 0) (u2 := 0) (x1 := x1) (x2 := x2) (x3 := 0) (x4 := 0) (y := 0) ⟨b1, b2⟩ ⟨b3, b4⟩ ⟨b5, b6⟩ ⟨b7, b8⟩ (by decide) (by decide) (by decide)
  obtain ⟨r, M', g1, g2, g3, g4⟩ := ccase (X := X) h hr B rfl rfl rfl rfl (P := []) (List.forall_mem_nil _) rfl (a := 261) (c := cc_261_0) (by rw [ctb_261]; exact List.mem_cons_self) rfl (vals := [(3, 11, (0, [])), (0, 0, (0, [(0, 1)])), (0, 0, (0, [(1, 1)]))]) (args := [.ref 0, .int x1, .int x2]) ⟨⟨0, rfl, rfl, by decide⟩, ⟨x1, rfl, by show x1.toInt = ((0 : Int) + (1 * x1.toInt + 0)); omega⟩, ⟨x2, rfl, by show x2.toInt = ((0 : Int) + (1 * x2.toInt + 0)); omega⟩, trivial⟩ kc_261_0 rfl
  refine ⟨r, ((0 : Int) + (1 * t + 0)), ((0 : Int) + (1 * n + 0)), ((0 : Int) + (1 * k0 + 0)), ((0 : Int) + (1 * k1 + 0)), M', g1, g3, g4, ?_⟩
  unfold spO
  omega
theorem ctb_262 : ctb 262 = [cc_262_0] := rfl
theorem mc_8 {X : zX} {M : zM} {t n k0 k1 t' : Int} {us : List Int} (h : cI t n k0 k1 M) (hr : rI t' us M) (hb : bI t n k0 k1) (x1 x2 x3 : Int32) : ∃ (r : Int32) (t2 n2 k02 k12 : Int) (M' : zM), lCallOK X 262 [.ref 0, .int x1, .int x2, .int x3] M r M' ∧ cI t2 n2 k02 k12 M' ∧ rI t' us M' ∧ spO t n k0 k1 r.toInt t2 n2 k02 k12 := by
  obtain ⟨b1, b2, b3, b4, b5, b6, b7, b8⟩ := hb
  have B := lbd (t := t) (n := n) (k0 := k0) (k1 := k1) (u0 := 0) (u1 := 0) (u2 := 0) (x1 := x1) (x2 := x2) (x3 := x3) (x4 := 0) (y := 0) ⟨b1, b2⟩ ⟨b3, b4⟩ ⟨b5, b6⟩ ⟨b7, b8⟩ (by decide) (by decide) (by decide)
  obtain ⟨r, M', g1, g2, g3, g4⟩ := ccase (X := X) h hr B rfl rfl rfl rfl (P := []) (List.forall_mem_nil _) rfl (a := 262) (c := cc_262_0) (by rw [ctb_262]; exact List.mem_cons_self) rfl (vals := [(3, 11, (0, [])), (0, 0, (0, [(0, 1)])), (0, 0, (0, [(1, 1)])), (0, 0, (0, [(2, 1)]))]) (args := [.ref 0, .int x1, .int x2, .int x3]) ⟨⟨0, rfl, rfl, by decide⟩, ⟨x1, rfl, by show x1.toInt = ((0 : Int) + (1 * x1.toInt + 0)); omega⟩, ⟨x2, rfl, by show x2.toInt = ((0 : Int) + (1 * x2.toInt + 0)); omega⟩, ⟨x3, rfl, by show x3.toInt = ((0 : Int) + (1 * x3.toInt + 0)); omega⟩, trivial⟩ kc_262_0 rfl
  refine ⟨r, ((0 : Int) + (1 * t + 0)), ((0 : Int) + (1 * n + 0)), ((0 : Int) + (1 * k0 + 0)), ((0 : Int) + (1 * k1 + 0)), M', g1, g3, g4, ?_⟩
  unfold spO
  omega
theorem ctb_263 : ctb 263 = [cc_263_0] := rfl
theorem mc_9 {X : zX} {M : zM} {t n k0 k1 t' : Int} {us : List Int} (h : cI t n k0 k1 M) (hr : rI t' us M) (hb : bI t n k0 k1) (x1 x2 x3 x4 : Int32) : ∃ (r : Int32) (t2 n2 k02 k12 : Int) (M' : zM), lCallOK X 263 [.ref 0, .int x1, .int x2, .int x3, .int x4] M r M' ∧ cI t2 n2 k02 k12 M' ∧ rI t' us M' ∧ spO t n k0 k1 r.toInt t2 n2 k02 k12 := by
  obtain ⟨b1, b2, b3, b4, b5, b6, b7, b8⟩ := hb
  have B := lbd (t := t) (n := n) (k0 := k0) (k1 := k1) (u0 := 0) (u1 := 0) (u2 := 0) (x1 := x1) (x2 := x2) (x3 := x3) (x4 := x4) (y := 0) ⟨b1, b2⟩ ⟨b3, b4⟩ ⟨b5, b6⟩ ⟨b7, b8⟩ (by decide) (by decide) (by decide)
  obtain ⟨r, M', g1, g2, g3, g4⟩ := ccase (X := X) h hr B rfl rfl rfl rfl (P := []) (List.forall_mem_nil _) rfl (a := 263) (c := cc_263_0) (by rw [ctb_263]; exact List.mem_cons_self) rfl (vals := [(3, 11, (0, [])), (0, 0, (0, [(0, 1)])), (0, 0, (0, [(1, 1)])), (0, 0, (0, [(2, 1)])), (0, 0, (0, [(3, 1)]))]) (args := [.ref 0, .int x1, .int x2, .int x3, .int x4]) ⟨⟨0, rfl, rfl, by decide⟩, ⟨x1, rfl, by show x1.toInt = ((0 : Int) + (1 * x1.toInt + 0)); omega⟩, ⟨x2, rfl, by show x2.toInt = ((0 : Int) + (1 * x2.toInt + 0)); omega⟩, ⟨x3, rfl, by show x3.toInt = ((0 : Int) + (1 * x3.toInt + 0)); omega⟩, ⟨x4, rfl, by show x4.toInt = ((0 : Int) + (1 * x4.toInt + 0)); omega⟩, trivial⟩ kc_263_0 rfl
  refine ⟨r, ((0 : Int) + (1 * t + 0)), ((0 : Int) + (1 * n + 0)), ((0 : Int) + (1 * k0 + 0)), ((0 : Int) + (1 * k1 + 0)), M', g1, g3, g4, ?_⟩
  unfold spO
  omega
theorem ctb_264 : ctb 264 = [cc_264_0] := rfl
theorem mc_10 {X : zX} {M : zM} {t n k0 k1 t' : Int} {us : List Int} (h : cI t n k0 k1 M) (hr : rI t' us M) (hb : bI t n k0 k1) (x1 x2 : Int32) : ∃ (r : Int32) (t2 n2 k02 k12 : Int) (M' : zM), lCallOK X 264 [.ref 0, .int x1, .int x2] M r M' ∧ cI t2 n2 k02 k12 M' ∧ rI t' us M' ∧ spO t n k0 k1 r.toInt t2 n2 k02 k12 := by
  obtain ⟨b1, b2, b3, b4, b5, b6, b7, b8⟩ := hb
  have B := lbd (t := t) (n := n) (k0 := k0) (k1 := k1) (u0 := 0) (u1 := 0) (u2 := 0) (x1 := x1) (x2 := x2) (x3 := 0) (x4 := 0) (y := 0) ⟨b1, b2⟩ ⟨b3, b4⟩ ⟨b5, b6⟩ ⟨b7, b8⟩ (by decide) (by decide) (by decide)
  obtain ⟨r, M', g1, g2, g3, g4⟩ := ccase (X := X) h hr B rfl rfl rfl rfl (P := []) (List.forall_mem_nil _) rfl (a := 264) (c := cc_264_0) (by rw [ctb_264]; exact List.mem_cons_self) rfl (vals := [(3, 11, (0, [])), (0, 0, (0, [(0, 1)])), (0, 0, (0, [(1, 1)]))]) (args := [.ref 0, .int x1, .int x2]) ⟨⟨0, rfl, rfl, by decide⟩, ⟨x1, rfl, by show x1.toInt = ((0 : Int) + (1 * x1.toInt + 0)); omega⟩, ⟨x2, rfl, by show x2.toInt = ((0 : Int) + (1 * x2.toInt + 0)); omega⟩, trivial⟩ kc_264_0 rfl
  refine ⟨r, ((0 : Int) + (1 * t + 0)), ((0 : Int) + (1 * n + 0)), ((0 : Int) + (1 * k0 + 0)), ((0 : Int) + (1 * k1 + 0)), M', g1, g3, g4, ?_⟩
  unfold spO
  omega
theorem ctb_265 : ctb 265 = [cc_265_0] := rfl
theorem mc_11 {X : zX} {M : zM} {t n k0 k1 t' : Int} {us : List Int} (h : cI t n k0 k1 M) (hr : rI t' us M) (hb : bI t n k0 k1) (x1 x2 x3 : Int32) : ∃ (r : Int32) (t2 n2 k02 k12 : Int) (M' : zM), lCallOK X 265 [.ref 0, .int x1, .int x2, .int x3] M r M' ∧ cI t2 n2 k02 k12 M' ∧ rI t' us M' ∧ spO t n k0 k1 r.toInt t2 n2 k02 k12 := by
  obtain ⟨b1, b2, b3, b4, b5, b6, b7, b8⟩ := hb
  have B := lbd (t := t) (n := n) (k0 := k0) (k1 := k1) (u0 := 0) (u1 := 0) (u2 := 0) (x1 := x1) (x2 := x2) (x3 := x3) (x4 := 0) (y := 0) ⟨b1, b2⟩ ⟨b3, b4⟩ ⟨b5, b6⟩ ⟨b7, b8⟩ (by decide) (by decide) (by decide)
  obtain ⟨r, M', g1, g2, g3, g4⟩ := ccase (X := X) h hr B rfl rfl rfl rfl (P := []) (List.forall_mem_nil _) rfl (a := 265) (c := cc_265_0) (by rw [ctb_265]; exact List.mem_cons_self) rfl (vals := [(3, 11, (0, [])), (0, 0, (0, [(0, 1)])), (0, 0, (0, [(1, 1)])), (0, 0, (0, [(2, 1)]))]) (args := [.ref 0, .int x1, .int x2, .int x3]) ⟨⟨0, rfl, rfl, by decide⟩, ⟨x1, rfl, by show x1.toInt = ((0 : Int) + (1 * x1.toInt + 0)); omega⟩, ⟨x2, rfl, by show x2.toInt = ((0 : Int) + (1 * x2.toInt + 0)); omega⟩, ⟨x3, rfl, by show x3.toInt = ((0 : Int) + (1 * x3.toInt + 0)); omega⟩, trivial⟩ kc_265_0 rfl
  refine ⟨r, ((0 : Int) + (1 * t + 0)), ((0 : Int) + (1 * n + 0)), ((0 : Int) + (1 * k0 + 0)), ((0 : Int) + (1 * k1 + 0)), M', g1, g3, g4, ?_⟩
  unfold spO
  omega
theorem ctb_266 : ctb 266 = [cc_266_0] := rfl
theorem mc_12 {X : zX} {M : zM} {t n k0 k1 t' : Int} {us : List Int} (h : cI t n k0 k1 M) (hr : rI t' us M) (hb : bI t n k0 k1) (x1 : Int32) : ∃ (r : Int32) (t2 n2 k02 k12 : Int) (M' : zM), lCallOK X 266 [.ref 0, .int x1] M r M' ∧ cI t2 n2 k02 k12 M' ∧ rI t' us M' ∧ spE t n k0 k1 r.toInt t2 n2 k02 k12 := by
  obtain ⟨b1, b2, b3, b4, b5, b6, b7, b8⟩ := hb
  have B := lbd (t := t) (n := n) (k0 := k0) (k1 := k1) (u0 := 0) (u1 := 0) (u2 := 0) (x1 := x1) (x2 := 0) (x3 := 0) (x4 := 0) (y := 0) ⟨b1, b2⟩ ⟨b3, b4⟩ ⟨b5, b6⟩ ⟨b7, b8⟩ (by decide) (by decide) (by decide)
  obtain ⟨r, M', g1, g2, g3, g4⟩ := ccase (X := X) h hr B rfl rfl rfl rfl (P := []) (List.forall_mem_nil _) rfl (a := 266) (c := cc_266_0) (by rw [ctb_266]; exact List.mem_cons_self) rfl (vals := [(3, 11, (0, [])), (0, 0, (0, [(0, 1)]))]) (args := [.ref 0, .int x1]) ⟨⟨0, rfl, rfl, by decide⟩, ⟨x1, rfl, by show x1.toInt = ((0 : Int) + (1 * x1.toInt + 0)); omega⟩, trivial⟩ kc_266_0 rfl
  refine ⟨r, ((0 : Int) + 0), ((0 : Int) + (1 * n + 0)), ((0 : Int) + (1 * k0 + 0)), ((0 : Int) + (1 * k1 + 0)), M', g1, g3, g4, ?_⟩
  unfold spE
  omega
theorem ctb_267 : ctb 267 = [cc_267_0] := rfl
theorem mc_13 {X : zX} {M : zM} {t n k0 k1 t' : Int} {us : List Int} (h : cI t n k0 k1 M) (hr : rI t' us M) (hb : bI t n k0 k1) (x1 x2 x3 : Int32) : ∃ (r : Int32) (t2 n2 k02 k12 : Int) (M' : zM), lCallOK X 267 [.ref 0, .int x1, .int x2, .int x3] M r M' ∧ cI t2 n2 k02 k12 M' ∧ rI t' us M' ∧ spO t n k0 k1 r.toInt t2 n2 k02 k12 := by
  obtain ⟨b1, b2, b3, b4, b5, b6, b7, b8⟩ := hb
  have B := lbd (t := t) (n := n) (k0 := k0) (k1 := k1) (u0 := 0) (u1 := 0) (u2 := 0) (x1 := x1) (x2 := x2) (x3 := x3) (x4 := 0) (y := 0) ⟨b1, b2⟩ ⟨b3, b4⟩ ⟨b5, b6⟩ ⟨b7, b8⟩ (by decide) (by decide) (by decide)
  obtain ⟨r, M', g1, g2, g3, g4⟩ := ccase (X := X) h hr B rfl rfl rfl rfl (P := []) (List.forall_mem_nil _) rfl (a := 267) (c := cc_267_0) (by rw [ctb_267]; exact List.mem_cons_self) rfl (vals := [(3, 11, (0, [])), (0, 0, (0, [(0, 1)])), (0, 0, (0, [(1, 1)])), (0, 0, (0, [(2, 1)]))]) (args := [.ref 0, .int x1, .int x2, .int x3]) ⟨⟨0, rfl, rfl, by decide⟩, ⟨x1, rfl, by show x1.toInt = ((0 : Int) + (1 * x1.toInt + 0)); omega⟩, ⟨x2, rfl, by show x2.toInt = ((0 : Int) + (1 * x2.toInt + 0)); omega⟩, ⟨x3, rfl, by show x3.toInt = ((0 : Int) + (1 * x3.toInt + 0)); omega⟩, trivial⟩ kc_267_0 rfl
  refine ⟨r, ((0 : Int) + (1 * t + 0)), ((0 : Int) + (1 * n + 0)), ((0 : Int) + (1 * k0 + 0)), ((0 : Int) + (1 * k1 + 0)), M', g1, g3, g4, ?_⟩
  unfold spO
  omega
theorem ctb_268 : ctb 268 = [cc_268_0] := rfl
theorem mc_14 {X : zX} {M : zM} {t n k0 k1 t' : Int} {us : List Int} (h : cI t n k0 k1 M) (hr : rI t' us M) (hb : bI t n k0 k1) (x1 x2 x3 : Int32) : ∃ (r : Int32) (t2 n2 k02 k12 : Int) (M' : zM), lCallOK X 268 [.ref 0, .int x1, .int x2, .int x3] M r M' ∧ cI t2 n2 k02 k12 M' ∧ rI t' us M' ∧ spO t n k0 k1 r.toInt t2 n2 k02 k12 := by
  obtain ⟨b1, b2, b3, b4, b5, b6, b7, b8⟩ := hb
  have B := lbd (t := t) (n := n) (k0 := k0) (k1 := k1) (u0 := 0) (u1 := 0) (u2 := 0) (x1 := x1) (x2 := x2) (x3 := x3) (x4 := 0) (y := 0) ⟨b1, b2⟩ ⟨b3, b4⟩ ⟨b5, b6⟩ ⟨b7, b8⟩ (by decide) (by decide) (by decide)
  obtain ⟨r, M', g1, g2, g3, g4⟩ := ccase (X := X) h hr B rfl rfl rfl rfl (P := []) (List.forall_mem_nil _) rfl (a := 268) (c := cc_268_0) (by rw [ctb_268]; exact List.mem_cons_self) rfl (vals := [(3, 11, (0, [])), (0, 0, (0, [(0, 1)])), (0, 0, (0, [(1, 1)])), (0, 0, (0, [(2, 1)]))]) (args := [.ref 0, .int x1, .int x2, .int x3]) ⟨⟨0, rfl, rfl, by decide⟩, ⟨x1, rfl, by show x1.toInt = ((0 : Int) + (1 * x1.toInt + 0)); omega⟩, ⟨x2, rfl, by show x2.toInt = ((0 : Int) + (1 * x2.toInt + 0)); omega⟩, ⟨x3, rfl, by show x3.toInt = ((0 : Int) + (1 * x3.toInt + 0)); omega⟩, trivial⟩ kc_268_0 rfl
  refine ⟨r, ((0 : Int) + (1 * t + 0)), ((0 : Int) + (1 * n + 0)), ((0 : Int) + (1 * k0 + 0)), ((0 : Int) + (1 * k1 + 0)), M', g1, g3, g4, ?_⟩
  unfold spO
  omega
theorem ctb_269 : ctb 269 = [cc_269_0] := rfl
theorem mc_15 {X : zX} {M : zM} {t n k0 k1 t' : Int} {us : List Int} (h : cI t n k0 k1 M) (hr : rI t' us M) (hb : bI t n k0 k1) (x1 x2 x3 : Int32) : ∃ (r : Int32) (t2 n2 k02 k12 : Int) (M' : zM), lCallOK X 269 [.ref 0, .int x1, .int x2, .int x3] M r M' ∧ cI t2 n2 k02 k12 M' ∧ rI t' us M' ∧ spO t n k0 k1 r.toInt t2 n2 k02 k12 := by
  obtain ⟨b1, b2, b3, b4, b5, b6, b7, b8⟩ := hb
  have B := lbd (t := t) (n := n) (k0 := k0) (k1 := k1) (u0 := 0) (u1 := 0) (u2 := 0) (x1 := x1) (x2 := x2) (x3 := x3) (x4 := 0) (y := 0) ⟨b1, b2⟩ ⟨b3, b4⟩ ⟨b5, b6⟩ ⟨b7, b8⟩ (by decide) (by decide) (by decide)
  obtain ⟨r, M', g1, g2, g3, g4⟩ := ccase (X := X) h hr B rfl rfl rfl rfl (P := []) (List.forall_mem_nil _) rfl (a := 269) (c := cc_269_0) (by rw [ctb_269]; exact List.mem_cons_self) rfl (vals := [(3, 11, (0, [])), (0, 0, (0, [(0, 1)])), (0, 0, (0, [(1, 1)])), (0, 0, (0, [(2, 1)]))]) (args := [.ref 0, .int x1, .int x2, .int x3]) ⟨⟨0, rfl, rfl, by decide⟩, ⟨x1, rfl, by show x1.toInt = ((0 : Int) + (1 * x1.toInt + 0)); omega⟩, ⟨x2, rfl, by show x2.toInt = ((0 : Int) + (1 * x2.toInt + 0)); omega⟩, ⟨x3, rfl, by show x3.toInt = ((0 : Int) + (1 * x3.toInt + 0)); omega⟩, trivial⟩ kc_269_0 rfl
  refine ⟨r, ((0 : Int) + (1 * t + 0)), ((0 : Int) + (1 * n + 0)), ((0 : Int) + (1 * k0 + 0)), ((0 : Int) + (1 * k1 + 0)), M', g1, g3, g4, ?_⟩
  unfold spO
  omega
theorem ctb_270 : ctb 270 = [cc_270_0] := rfl
theorem mc_16 {X : zX} {M : zM} {t n k0 k1 t' : Int} {us : List Int} (h : cI t n k0 k1 M) (hr : rI t' us M) (hb : bI t n k0 k1) (x1 x2 : Int32) : ∃ (r : Int32) (t2 n2 k02 k12 : Int) (M' : zM), lCallOK X 270 [.ref 0, .int x1, .int x2] M r M' ∧ cI t2 n2 k02 k12 M' ∧ rI t' us M' ∧ spO t n k0 k1 r.toInt t2 n2 k02 k12 := by
  obtain ⟨b1, b2, b3, b4, b5, b6, b7, b8⟩ := hb
  have B := lbd (t := t) (n := n) (k0 := k0) (k1 := k1) (u0 := 0) (u1 := 0) (u2 := 0) (x1 := x1) (x2 := x2) (x3 := 0) (x4 := 0) (y := 0) ⟨b1, b2⟩ ⟨b3, b4⟩ ⟨b5, b6⟩ ⟨b7, b8⟩ (by decide) (by decide) (by decide)
  obtain ⟨r, M', g1, g2, g3, g4⟩ := ccase (X := X) h hr B rfl rfl rfl rfl (P := []) (List.forall_mem_nil _) rfl (a := 270) (c := cc_270_0) (by rw [ctb_270]; exact List.mem_cons_self) rfl (vals := [(3, 11, (0, [])), (0, 0, (0, [(0, 1)])), (0, 0, (0, [(1, 1)]))]) (args := [.ref 0, .int x1, .int x2]) ⟨⟨0, rfl, rfl, by decide⟩, ⟨x1, rfl, by show x1.toInt = ((0 : Int) + (1 * x1.toInt + 0)); omega⟩, ⟨x2, rfl, by show x2.toInt = ((0 : Int) + (1 * x2.toInt + 0)); omega⟩, trivial⟩ kc_270_0 rfl
  refine ⟨r, ((0 : Int) + (1 * t + 0)), ((0 : Int) + (1 * n + 0)), ((0 : Int) + (1 * k0 + 0)), ((0 : Int) + (1 * k1 + 0)), M', g1, g3, g4, ?_⟩
  unfold spO
  omega
theorem ctb_271 : ctb 271 = [cc_271_0] := rfl
theorem mc_17 {X : zX} {M : zM} {t n k0 k1 t' : Int} {us : List Int} (h : cI t n k0 k1 M) (hr : rI t' us M) (hb : bI t n k0 k1) (x1 x2 x3 : Int32) : ∃ (r : Int32) (t2 n2 k02 k12 : Int) (M' : zM), lCallOK X 271 [.ref 0, .int x1, .int x2, .int x3] M r M' ∧ cI t2 n2 k02 k12 M' ∧ rI t' us M' ∧ spO t n k0 k1 r.toInt t2 n2 k02 k12 := by
  obtain ⟨b1, b2, b3, b4, b5, b6, b7, b8⟩ := hb
  have B := lbd (t := t) (n := n) (k0 := k0) (k1 := k1) (u0 := 0) (u1 := 0) (u2 := 0) (x1 := x1) (x2 := x2) (x3 := x3) (x4 := 0) (y := 0) ⟨b1, b2⟩ ⟨b3, b4⟩ ⟨b5, b6⟩ ⟨b7, b8⟩ (by decide) (by decide) (by decide)
  obtain ⟨r, M', g1, g2, g3, g4⟩ := ccase (X := X) h hr B rfl rfl rfl rfl (P := []) (List.forall_mem_nil _) rfl (a := 271) (c := cc_271_0) (by rw [ctb_271]; exact List.mem_cons_self) rfl (vals := [(3, 11, (0, [])), (0, 0, (0, [(0, 1)])), (0, 0, (0, [(1, 1)])), (0, 0, (0, [(2, 1)]))]) (args := [.ref 0, .int x1, .int x2, .int x3]) ⟨⟨0, rfl, rfl, by decide⟩, ⟨x1, rfl, by show x1.toInt = ((0 : Int) + (1 * x1.toInt + 0)); omega⟩, ⟨x2, rfl, by show x2.toInt = ((0 : Int) + (1 * x2.toInt + 0)); omega⟩, ⟨x3, rfl, by show x3.toInt = ((0 : Int) + (1 * x3.toInt + 0)); omega⟩, trivial⟩ kc_271_0 rfl
  refine ⟨r, ((0 : Int) + (1 * t + 0)), ((0 : Int) + (1 * n + 0)), ((0 : Int) + (1 * k0 + 0)), ((0 : Int) + (1 * k1 + 0)), M', g1, g3, g4, ?_⟩
  unfold spO
  omega
theorem ctb_272 : ctb 272 = [cc_272_0] := rfl
theorem mc_18 {X : zX} {M : zM} {t n k0 k1 t' : Int} {us : List Int} (h : cI t n k0 k1 M) (hr : rI t' us M) (hb : bI t n k0 k1) (x1 x2 : Int32) : ∃ (r : Int32) (t2 n2 k02 k12 : Int) (M' : zM), lCallOK X 272 [.ref 0, .int x1, .int x2] M r M' ∧ cI t2 n2 k02 k12 M' ∧ rI t' us M' ∧ spO t n k0 k1 r.toInt t2 n2 k02 k12 := by
  obtain ⟨b1, b2, b3, b4, b5, b6, b7, b8⟩ := hb
  have B := lbd (t := t) (n := n) (k0 := k0) (k1 := k1) (u0 := 0) (u1 := 0) (u2 := 0) (x1 := x1) (x2 := x2) (x3 := 0) (x4 := 0) (y := 0) ⟨b1, b2⟩ ⟨b3, b4⟩ ⟨b5, b6⟩ ⟨b7, b8⟩ (by decide) (by decide) (by decide)
  obtain ⟨r, M', g1, g2, g3, g4⟩ := ccase (X := X) h hr B rfl rfl rfl rfl (P := []) (List.forall_mem_nil _) rfl (a := 272) (c := cc_272_0) (by rw [ctb_272]; exact List.mem_cons_self) rfl (vals := [(3, 11, (0, [])), (0, 0, (0, [(0, 1)])), (0, 0, (0, [(1, 1)]))]) (args := [.ref 0, .int x1, .int x2]) ⟨⟨0, rfl, rfl, by decide⟩, ⟨x1, rfl, by show x1.toInt = ((0 : Int) + (1 * x1.toInt + 0)); omega⟩, ⟨x2, rfl, by show x2.toInt = ((0 : Int) + (1 * x2.toInt + 0)); omega⟩, trivial⟩ kc_272_0 rfl
  refine ⟨r, ((0 : Int) + (1 * t + 0)), ((0 : Int) + (1 * n + 0)), ((0 : Int) + (1 * k0 + 0)), ((0 : Int) + (1 * k1 + 0)), M', g1, g3, g4, ?_⟩
  unfold spO
  omega
theorem ctb_273 : ctb 273 = [cc_273_0] := rfl
theorem mc_19 {X : zX} {M : zM} {t n k0 k1 t' : Int} {us : List Int} (h : cI t n k0 k1 M) (hr : rI t' us M) (hb : bI t n k0 k1) (x1 x2 : Int32) : ∃ (r : Int32) (t2 n2 k02 k12 : Int) (M' : zM), lCallOK X 273 [.ref 0, .int x1, .int x2] M r M' ∧ cI t2 n2 k02 k12 M' ∧ rI t' us M' ∧ spO t n k0 k1 r.toInt t2 n2 k02 k12 := by
  obtain ⟨b1, b2, b3, b4, b5, b6, b7, b8⟩ := hb
  have B := lbd (t := t) (n := n) (k0 := k0) (k1 := k1) (u0 := 0) (u1 := 0) (u2 := 0) (x1 := x1) (x2 := x2) (x3 := 0) (x4 := 0) (y := 0) ⟨b1, b2⟩ ⟨b3, b4⟩ ⟨b5, b6⟩ ⟨b7, b8⟩ (by decide) (by decide) (by decide)
  obtain ⟨r, M', g1, g2, g3, g4⟩ := ccase (X := X) h hr B rfl rfl rfl rfl (P := []) (List.forall_mem_nil _) rfl (a := 273) (c := cc_273_0) (by rw [ctb_273]; exact List.mem_cons_self) rfl (vals := [(3, 11, (0, [])), (0, 0, (0, [(0, 1)])), (0, 0, (0, [(1, 1)]))]) (args := [.ref 0, .int x1, .int x2]) ⟨⟨0, rfl, rfl, by decide⟩, ⟨x1, rfl, by show x1.toInt = ((0 : Int) + (1 * x1.toInt + 0)); omega⟩, ⟨x2, rfl, by show x2.toInt = ((0 : Int) + (1 * x2.toInt + 0)); omega⟩, trivial⟩ kc_273_0 rfl
  refine ⟨r, ((0 : Int) + (1 * t + 0)), ((0 : Int) + (1 * n + 0)), ((0 : Int) + (1 * k0 + 0)), ((0 : Int) + (1 * k1 + 0)), M', g1, g3, g4, ?_⟩
  unfold spO
  omega
theorem ctb_274 : ctb 274 = [cc_274_0] := rfl
theorem mc_20 {X : zX} {M : zM} {t n k0 k1 t' : Int} {us : List Int} (h : cI t n k0 k1 M) (hr : rI t' us M) (hb : bI t n k0 k1) (x1 : Int32) : ∃ (r : Int32) (t2 n2 k02 k12 : Int) (M' : zM), lCallOK X 274 [.ref 0, .int x1] M r M' ∧ cI t2 n2 k02 k12 M' ∧ rI t' us M' ∧ spO t n k0 k1 r.toInt t2 n2 k02 k12 := by
  obtain ⟨b1, b2, b3, b4, b5, b6, b7, b8⟩ := hb
  have B := lbd (t := t) (n := n) (k0 := k0) (k1 := k1) (u0 := 0) (u1 := 0) (u2 := 0) (x1 := x1) (x2 := 0) (x3 := 0) (x4 := 0) (y := 0) ⟨b1, b2⟩ ⟨b3, b4⟩ ⟨b5, b6⟩ ⟨b7, b8⟩ (by decide) (by decide) (by decide)
  obtain ⟨r, M', g1, g2, g3, g4⟩ := ccase (X := X) h hr B rfl rfl rfl rfl (P := []) (List.forall_mem_nil _) rfl (a := 274) (c := cc_274_0) (by rw [ctb_274]; exact List.mem_cons_self) rfl (vals := [(3, 11, (0, [])), (0, 0, (0, [(0, 1)]))]) (args := [.ref 0, .int x1]) ⟨⟨0, rfl, rfl, by decide⟩, ⟨x1, rfl, by show x1.toInt = ((0 : Int) + (1 * x1.toInt + 0)); omega⟩, trivial⟩ kc_274_0 rfl
  refine ⟨r, ((0 : Int) + (1 * t + 0)), ((0 : Int) + (1 * n + 0)), ((0 : Int) + (1 * k0 + 0)), ((0 : Int) + (1 * k1 + 0)), M', g1, g3, g4, ?_⟩
  unfold spO
  omega
theorem ctb_275 : ctb 275 = [cc_275_0] := rfl
theorem mc_21 {X : zX} {M : zM} {t n k0 k1 t' : Int} {us : List Int} (h : cI t n k0 k1 M) (hr : rI t' us M) (hb : bI t n k0 k1) (x1 : Int32) : ∃ (r : Int32) (t2 n2 k02 k12 : Int) (M' : zM), lCallOK X 275 [.ref 0, .int x1] M r M' ∧ cI t2 n2 k02 k12 M' ∧ rI t' us M' ∧ spO t n k0 k1 r.toInt t2 n2 k02 k12 := by
  obtain ⟨b1, b2, b3, b4, b5, b6, b7, b8⟩ := hb
  have B := lbd (t := t) (n := n) (k0 := k0) (k1 := k1) (u0 := 0) (u1 := 0) (u2 := 0) (x1 := x1) (x2 := 0) (x3 := 0) (x4 := 0) (y := 0) ⟨b1, b2⟩ ⟨b3, b4⟩ ⟨b5, b6⟩ ⟨b7, b8⟩ (by decide) (by decide) (by decide)
  obtain ⟨r, M', g1, g2, g3, g4⟩ := ccase (X := X) h hr B rfl rfl rfl rfl (P := []) (List.forall_mem_nil _) rfl (a := 275) (c := cc_275_0) (by rw [ctb_275]; exact List.mem_cons_self) rfl (vals := [(3, 11, (0, [])), (0, 0, (0, [(0, 1)]))]) (args := [.ref 0, .int x1]) ⟨⟨0, rfl, rfl, by decide⟩, ⟨x1, rfl, by show x1.toInt = ((0 : Int) + (1 * x1.toInt + 0)); omega⟩, trivial⟩ kc_275_0 rfl
  refine ⟨r, ((0 : Int) + (1 * t + 0)), ((0 : Int) + (1 * n + 0)), ((0 : Int) + (1 * k0 + 0)), ((0 : Int) + (1 * k1 + 0)), M', g1, g3, g4, ?_⟩
  unfold spO
  omega
theorem ctb_276 : ctb 276 = [cc_276_0] := rfl
theorem mc_22 {X : zX} {M : zM} {t n k0 k1 t' : Int} {us : List Int} (h : cI t n k0 k1 M) (hr : rI t' us M) (hb : bI t n k0 k1) (x1 : Int32) : ∃ (r : Int32) (t2 n2 k02 k12 : Int) (M' : zM), lCallOK X 276 [.ref 0, .int x1] M r M' ∧ cI t2 n2 k02 k12 M' ∧ rI t' us M' ∧ spO t n k0 k1 r.toInt t2 n2 k02 k12 := by
  obtain ⟨b1, b2, b3, b4, b5, b6, b7, b8⟩ := hb
  have B := lbd (t := t) (n := n) (k0 := k0) (k1 := k1) (u0 := 0) (u1 := 0) (u2 := 0) (x1 := x1) (x2 := 0) (x3 := 0) (x4 := 0) (y := 0) ⟨b1, b2⟩ ⟨b3, b4⟩ ⟨b5, b6⟩ ⟨b7, b8⟩ (by decide) (by decide) (by decide)
  obtain ⟨r, M', g1, g2, g3, g4⟩ := ccase (X := X) h hr B rfl rfl rfl rfl (P := []) (List.forall_mem_nil _) rfl (a := 276) (c := cc_276_0) (by rw [ctb_276]; exact List.mem_cons_self) rfl (vals := [(3, 11, (0, [])), (0, 0, (0, [(0, 1)]))]) (args := [.ref 0, .int x1]) ⟨⟨0, rfl, rfl, by decide⟩, ⟨x1, rfl, by show x1.toInt = ((0 : Int) + (1 * x1.toInt + 0)); omega⟩, trivial⟩ kc_276_0 rfl
  refine ⟨r, ((0 : Int) + (1 * t + 0)), ((0 : Int) + (1 * n + 0)), ((0 : Int) + (1 * k0 + 0)), ((0 : Int) + (1 * k1 + 0)), M', g1, g3, g4, ?_⟩
  unfold spO
  omega
theorem ctb_277 : ctb 277 = [cc_277_0] := rfl
theorem mc_23 {X : zX} {M : zM} {t n k0 k1 t' : Int} {us : List Int} (h : cI t n k0 k1 M) (hr : rI t' us M) (hb : bI t n k0 k1) (x1 : Int32) : ∃ (r : Int32) (t2 n2 k02 k12 : Int) (M' : zM), lCallOK X 277 [.ref 0, .int x1] M r M' ∧ cI t2 n2 k02 k12 M' ∧ rI t' us M' ∧ spO t n k0 k1 r.toInt t2 n2 k02 k12 := by
  obtain ⟨b1, b2, b3, b4, b5, b6, b7, b8⟩ := hb
  have B := lbd (t := t) (n := n) (k0 := k0) (k1 := k1) (u0 := 0) (u1 := 0) (u2 := 0) (x1 := x1) (x2 := 0) (x3 := 0) (x4 := 0) (y := 0) ⟨b1, b2⟩ ⟨b3, b4⟩ ⟨b5, b6⟩ ⟨b7, b8⟩ (by decide) (by decide) (by decide)
  obtain ⟨r, M', g1, g2, g3, g4⟩ := ccase (X := X) h hr B rfl rfl rfl rfl (P := []) (List.forall_mem_nil _) rfl (a := 277) (c := cc_277_0) (by rw [ctb_277]; exact List.mem_cons_self) rfl (vals := [(3, 11, (0, [])), (0, 0, (0, [(0, 1)]))]) (args := [.ref 0, .int x1]) ⟨⟨0, rfl, rfl, by decide⟩, ⟨x1, rfl, by show x1.toInt = ((0 : Int) + (1 * x1.toInt + 0)); omega⟩, trivial⟩ kc_277_0 rfl
  refine ⟨r, ((0 : Int) + (1 * t + 0)), ((0 : Int) + (1 * n + 0)), ((0 : Int) + (1 * k0 + 0)), ((0 : Int) + (1 * k1 + 0)), M', g1, g3, g4, ?_⟩
  unfold spO
  omega
theorem ctb_278 : ctb 278 = [cc_278_0] := rfl
theorem mc_24 {X : zX} {M : zM} {t n k0 k1 t' : Int} {us : List Int} (h : cI t n k0 k1 M) (hr : rI t' us M) (hb : bI t n k0 k1) (x1 : Int32) : ∃ (r : Int32) (t2 n2 k02 k12 : Int) (M' : zM), lCallOK X 278 [.ref 0, .int x1] M r M' ∧ cI t2 n2 k02 k12 M' ∧ rI t' us M' ∧ spO t n k0 k1 r.toInt t2 n2 k02 k12 := by
  obtain ⟨b1, b2, b3, b4, b5, b6, b7, b8⟩ := hb
  have B := lbd (t := t) (n := n) (k0 := k0) (k1 := k1) (u0 := 0) (u1 := 0) (u2 := 0) (x1 := x1) (x2 := 0) (x3 := 0) (x4 := 0) (y := 0) ⟨b1, b2⟩ ⟨b3, b4⟩ ⟨b5, b6⟩ ⟨b7, b8⟩ (by decide) (by decide) (by decide)
  obtain ⟨r, M', g1, g2, g3, g4⟩ := ccase (X := X) h hr B rfl rfl rfl rfl (P := []) (List.forall_mem_nil _) rfl (a := 278) (c := cc_278_0) (by rw [ctb_278]; exact List.mem_cons_self) rfl (vals := [(3, 11, (0, [])), (0, 0, (0, [(0, 1)]))]) (args := [.ref 0, .int x1]) ⟨⟨0, rfl, rfl, by decide⟩, ⟨x1, rfl, by show x1.toInt = ((0 : Int) + (1 * x1.toInt + 0)); omega⟩, trivial⟩ kc_278_0 rfl
  refine ⟨r, ((0 : Int) + (1 * t + 0)), ((0 : Int) + (1 * n + 0)), ((0 : Int) + (1 * k0 + 0)), ((0 : Int) + (1 * k1 + 0)), M', g1, g3, g4, ?_⟩
  unfold spO
  omega
theorem ctb_279 : ctb 279 = [cc_279_0] := rfl
theorem mc_25 {X : zX} {M : zM} {t n k0 k1 t' : Int} {us : List Int} (h : cI t n k0 k1 M) (hr : rI t' us M) (hb : bI t n k0 k1) (x1 : Int32) : ∃ (r : Int32) (t2 n2 k02 k12 : Int) (M' : zM), lCallOK X 279 [.ref 0, .int x1] M r M' ∧ cI t2 n2 k02 k12 M' ∧ rI t' us M' ∧ spO t n k0 k1 r.toInt t2 n2 k02 k12 := by
  obtain ⟨b1, b2, b3, b4, b5, b6, b7, b8⟩ := hb
  have B := lbd (t := t) (n := n) (k0 := k0) (k1 := k1) (u0 := 0) (u1 := 0) (u2 := 0) (x1 := x1) (x2 := 0) (x3 := 0) (x4 := 0) (y := 0) ⟨b1, b2⟩ ⟨b3, b4⟩ ⟨b5, b6⟩ ⟨b7, b8⟩ (by decide) (by decide) (by decide)
  obtain ⟨r, M', g1, g2, g3, g4⟩ := ccase (X := X) h hr B rfl rfl rfl rfl (P := []) (List.forall_mem_nil _) rfl (a := 279) (c := cc_279_0) (by rw [ctb_279]; exact List.mem_cons_self) rfl (vals := [(3, 11, (0, [])), (0, 0, (0, [(0, 1)]))]) (args := [.ref 0, .int x1]) ⟨⟨0, rfl, rfl, by decide⟩, ⟨x1, rfl, by show x1.toInt = ((0 : Int) + (1 * x1.toInt + 0)); omega⟩, trivial⟩ kc_279_0 rfl
  refine ⟨r, ((0 : Int) + (1 * t + 0)), ((0 : Int) + (1 * n + 0)), ((0 : Int) + (1 * k0 + 0)), ((0 : Int) + (1 * k1 + 0)), M', g1, g3, g4, ?_⟩
  unfold spO
  omega
theorem ctb_280 : ctb 280 = [cc_280_0, cc_280_1, cc_280_2, cc_280_3, cc_280_4, cc_280_5, cc_280_6] := rfl
theorem mc_26 {X : zX} {M : zM} {t n k0 k1 t' : Int} {us : List Int} (h : cI t n k0 k1 M) (hr : rI t' us M) (hb : bI t n k0 k1) (x1 x2 x3 : Int32) : ∃ (r : Int32) (t2 n2 k02 k12 : Int) (M' : zM), lCallOK X 280 [.ref 0, .int x1, .int x2, .int x3] M r M' ∧ cI t2 n2 k02 k12 M' ∧ rI t' us M' ∧ spP x1.toInt x2.toInt x3.toInt t n k0 k1 r.toInt t2 n2 k02 k12 := by
  obtain ⟨b1, b2, b3, b4, b5, b6, b7, b8⟩ := hb
  have B := lbd (t := t) (n := n) (k0 := k0) (k1 := k1) (u0 := 0) (u1 := 0) (u2 := 0) (x1 := x1) (x2 := x2) (x3 := x3) (x4 := 0) (y := 0) ⟨b1, b2⟩ ⟨b3, b4⟩ ⟨b5, b6⟩ ⟨b7, b8⟩ (by decide) (by decide) (by decide)
  rcases (show ((0 : Int) ≤ ((-1 : Int) + ((-1) * x1.toInt + 0))) ∨ ((0 : Int) ≤ ((0 : Int) + (1 * x1.toInt + ((-1) * n + 0)))) ∨ ((0 : Int) ≤ ((0 : Int) + (1 * x1.toInt + 0)) ∧ (0 : Int) ≤ ((-1 : Int) + ((-1) * x1.toInt + (1 * n + 0))) ∧ (0 : Int) ≤ ((-1 : Int) + ((-1) * x2.toInt + 0))) ∨ ((0 : Int) ≤ ((0 : Int) + (1 * x1.toInt + 0)) ∧ (0 : Int) ≤ ((-1 : Int) + ((-1) * x1.toInt + (1 * n + 0))) ∧ (0 : Int) ≤ ((-8 : Int) + (1 * x2.toInt + 0))) ∨ ((0 : Int) ≤ ((0 : Int) + (1 * x1.toInt + 0)) ∧ (0 : Int) ≤ ((-1 : Int) + ((-1) * x1.toInt + (1 * n + 0))) ∧ (0 : Int) ≤ ((0 : Int) + (1 * x2.toInt + 0)) ∧ (0 : Int) ≤ ((7 : Int) + ((-1) * x2.toInt + 0)) ∧ (0 : Int) ≤ ((-1 : Int) + ((-1) * x3.toInt + 0))) ∨ ((0 : Int) ≤ ((0 : Int) + (1 * x1.toInt + 0)) ∧ (0 : Int) ≤ ((-1 : Int) + ((-1) * x1.toInt + (1 * n + 0))) ∧ (0 : Int) ≤ ((0 : Int) + (1 * x2.toInt + 0)) ∧ (0 : Int) ≤ ((7 : Int) + ((-1) * x2.toInt + 0)) ∧ (0 : Int) ≤ ((-513 : Int) + (1 * x3.toInt + (1 * t + 0)))) ∨ ((0 : Int) ≤ ((0 : Int) + (1 * x1.toInt + 0)) ∧ (0 : Int) ≤ ((-1 : Int) + ((-1) * x1.toInt + (1 * n + 0))) ∧ (0 : Int) ≤ ((0 : Int) + (1 * x2.toInt + 0)) ∧ (0 : Int) ≤ ((7 : Int) + ((-1) * x2.toInt + 0)) ∧ (0 : Int) ≤ ((0 : Int) + (1 * x3.toInt + 0)) ∧ (0 : Int) ≤ ((512 : Int) + ((-1) * x3.toInt + ((-1) * t + 0)))) by omega) with c | c | c | c | c | c | c
  · obtain ⟨r, M', g1, g2, g3, g4⟩ := ccase (X := X) h hr B rfl rfl rfl rfl (P := [((-1), [(0, (-1))])]) (List.forall_mem_cons.mpr ⟨c, List.forall_mem_nil _⟩) rfl (a := 280) (c := cc_280_0) (by rw [ctb_280]; exact List.mem_cons_self) rfl (vals := [(3, 11, (0, [])), (0, 0, (0, [(0, 1)])), (0, 0, (0, [(1, 1)])), (0, 0, (0, [(2, 1)]))]) (args := [.ref 0, .int x1, .int x2, .int x3]) ⟨⟨0, rfl, rfl, by decide⟩, ⟨x1, rfl, by show x1.toInt = ((0 : Int) + (1 * x1.toInt + 0)); omega⟩, ⟨x2, rfl, by show x2.toInt = ((0 : Int) + (1 * x2.toInt + 0)); omega⟩, ⟨x3, rfl, by show x3.toInt = ((0 : Int) + (1 * x3.toInt + 0)); omega⟩, trivial⟩ kc_280_0 rfl
    have q : r.toInt = ((-2 : Int) + 0) := g2 _ rfl
    refine ⟨r, ((0 : Int) + 0), ((0 : Int) + (1 * n + 0)), ((0 : Int) + (1 * k0 + 0)), ((0 : Int) + (1 * k1 + 0)), M', g1, g3, g4, ?_⟩
    unfold spP
    omega
  · obtain ⟨r, M', g1, g2, g3, g4⟩ := ccase (X := X) h hr B rfl rfl rfl rfl (P := [(0, [(0, 1), (6, (-1))])]) (List.forall_mem_cons.mpr ⟨c, List.forall_mem_nil _⟩) rfl (a := 280) (c := cc_280_1) (by rw [ctb_280]; exact List.mem_cons_of_mem _ List.mem_cons_self) rfl (vals := [(3, 11, (0, [])), (0, 0, (0, [(0, 1)])), (0, 0, (0, [(1, 1)])), (0, 0, (0, [(2, 1)]))]) (args := [.ref 0, .int x1, .int x2, .int x3]) ⟨⟨0, rfl, rfl, by decide⟩, ⟨x1, rfl, by show x1.toInt = ((0 : Int) + (1 * x1.toInt + 0)); omega⟩, ⟨x2, rfl, by show x2.toInt = ((0 : Int) + (1 * x2.toInt + 0)); omega⟩, ⟨x3, rfl, by show x3.toInt = ((0 : Int) + (1 * x3.toInt + 0)); omega⟩, trivial⟩ kc_280_1 rfl
    have q : r.toInt = ((-2 : Int) + 0) := g2 _ rfl
    refine ⟨r, ((0 : Int) + 0), ((0 : Int) + (1 * n + 0)), ((0 : Int) + (1 * k0 + 0)), ((0 : Int) + (1 * k1 + 0)), M', g1, g3, g4, ?_⟩
    unfold spP
    omega
  · obtain ⟨r, M', g1, g2, g3, g4⟩ := ccase (X := X) h hr B rfl rfl rfl rfl (P := [(0, [(0, 1)]), ((-1), [(0, (-1)), (6, 1)]), ((-1), [(1, (-1))])]) (List.forall_mem_cons.mpr ⟨c.1, List.forall_mem_cons.mpr ⟨c.2.1, List.forall_mem_cons.mpr ⟨c.2.2, List.forall_mem_nil _⟩⟩⟩) rfl (a := 280) (c := cc_280_2) (by rw [ctb_280]; exact List.mem_cons_of_mem _ (List.mem_cons_of_mem _ List.mem_cons_self)) rfl (vals := [(3, 11, (0, [])), (0, 0, (0, [(0, 1)])), (0, 0, (0, [(1, 1)])), (0, 0, (0, [(2, 1)]))]) (args := [.ref 0, .int x1, .int x2, .int x3]) ⟨⟨0, rfl, rfl, by decide⟩, ⟨x1, rfl, by show x1.toInt = ((0 : Int) + (1 * x1.toInt + 0)); omega⟩, ⟨x2, rfl, by show x2.toInt = ((0 : Int) + (1 * x2.toInt + 0)); omega⟩, ⟨x3, rfl, by show x3.toInt = ((0 : Int) + (1 * x3.toInt + 0)); omega⟩, trivial⟩ kc_280_2 rfl
    have q : r.toInt = ((-2 : Int) + 0) := g2 _ rfl
    refine ⟨r, ((0 : Int) + 0), ((0 : Int) + (1 * n + 0)), ((0 : Int) + (1 * k0 + 0)), ((0 : Int) + (1 * k1 + 0)), M', g1, g3, g4, ?_⟩
    unfold spP
    omega
  · obtain ⟨r, M', g1, g2, g3, g4⟩ := ccase (X := X) h hr B rfl rfl rfl rfl (P := [(0, [(0, 1)]), ((-1), [(0, (-1)), (6, 1)]), ((-8), [(1, 1)])]) (List.forall_mem_cons.mpr ⟨c.1, List.forall_mem_cons.mpr ⟨c.2.1, List.forall_mem_cons.mpr ⟨c.2.2, List.forall_mem_nil _⟩⟩⟩) rfl (a := 280) (c := cc_280_3) (by rw [ctb_280]; exact List.mem_cons_of_mem _ (List.mem_cons_of_mem _ (List.mem_cons_of_mem _ List.mem_cons_self))) rfl (vals := [(3, 11, (0, [])), (0, 0, (0, [(0, 1)])), (0, 0, (0, [(1, 1)])), (0, 0, (0, [(2, 1)]))]) (args := [.ref 0, .int x1, .int x2, .int x3]) ⟨⟨0, rfl, rfl, by decide⟩, ⟨x1, rfl, by show x1.toInt = ((0 : Int) + (1 * x1.toInt + 0)); omega⟩, ⟨x2, rfl, by show x2.toInt = ((0 : Int) + (1 * x2.toInt + 0)); omega⟩, ⟨x3, rfl, by show x3.toInt = ((0 : Int) + (1 * x3.toInt + 0)); omega⟩, trivial⟩ kc_280_3 rfl
    have q : r.toInt = ((-2 : Int) + 0) := g2 _ rfl
    refine ⟨r, ((0 : Int) + 0), ((0 : Int) + (1 * n + 0)), ((0 : Int) + (1 * k0 + 0)), ((0 : Int) + (1 * k1 + 0)), M', g1, g3, g4, ?_⟩
    unfold spP
    omega
  · obtain ⟨r, M', g1, g2, g3, g4⟩ := ccase (X := X) h hr B rfl rfl rfl rfl (P := [(0, [(0, 1)]), ((-1), [(0, (-1)), (6, 1)]), (0, [(1, 1)]), (7, [(1, (-1))]), ((-1), [(2, (-1))])]) (List.forall_mem_cons.mpr ⟨c.1, List.forall_mem_cons.mpr ⟨c.2.1, List.forall_mem_cons.mpr ⟨c.2.2.1, List.forall_mem_cons.mpr ⟨c.2.2.2.1, List.forall_mem_cons.mpr ⟨c.2.2.2.2, List.forall_mem_nil _⟩⟩⟩⟩⟩) rfl (a := 280) (c := cc_280_4) (by rw [ctb_280]; exact List.mem_cons_of_mem _ (List.mem_cons_of_mem _ (List.mem_cons_of_mem _ (List.mem_cons_of_mem _ List.mem_cons_self)))) rfl (vals := [(3, 11, (0, [])), (0, 0, (0, [(0, 1)])), (0, 0, (0, [(1, 1)])), (0, 0, (0, [(2, 1)]))]) (args := [.ref 0, .int x1, .int x2, .int x3]) ⟨⟨0, rfl, rfl, by decide⟩, ⟨x1, rfl, by show x1.toInt = ((0 : Int) + (1 * x1.toInt + 0)); omega⟩, ⟨x2, rfl, by show x2.toInt = ((0 : Int) + (1 * x2.toInt + 0)); omega⟩, ⟨x3, rfl, by show x3.toInt = ((0 : Int) + (1 * x3.toInt + 0)); omega⟩, trivial⟩ kc_280_4 rfl
    have q : r.toInt = ((-2 : Int) + 0) := g2 _ rfl
    refine ⟨r, ((0 : Int) + 0), ((0 : Int) + (1 * n + 0)), ((0 : Int) + (1 * k0 + 0)), ((0 : Int) + (1 * k1 + 0)), M', g1, g3, g4, ?_⟩
    unfold spP
    omega
  · obtain ⟨r, M', g1, g2, g3, g4⟩ := ccase (X := X) h hr B rfl rfl rfl rfl (P := [(0, [(0, 1)]), ((-1), [(0, (-1)), (6, 1)]), (0, [(1, 1)]), (7, [(1, (-1))]), ((-513), [(2, 1), (5, 1)])]) (List.forall_mem_cons.mpr ⟨c.1, List.forall_mem_cons.mpr ⟨c.2.1, List.forall_mem_cons.mpr ⟨c.2.2.1, List.forall_mem_cons.mpr ⟨c.2.2.2.1, List.forall_mem_cons.mpr ⟨c.2.2.2.2, List.forall_mem_nil _⟩⟩⟩⟩⟩) rfl (a := 280) (c := cc_280_5) (by rw [ctb_280]; exact List.mem_cons_of_mem _ (List.mem_cons_of_mem _ (List.mem_cons_of_mem _ (List.mem_cons_of_mem _ (List.mem_cons_of_mem _ List.mem_cons_self))))) rfl (vals := [(3, 11, (0, [])), (0, 0, (0, [(0, 1)])), (0, 0, (0, [(1, 1)])), (0, 0, (0, [(2, 1)]))]) (args := [.ref 0, .int x1, .int x2, .int x3]) ⟨⟨0, rfl, rfl, by decide⟩, ⟨x1, rfl, by show x1.toInt = ((0 : Int) + (1 * x1.toInt + 0)); omega⟩, ⟨x2, rfl, by show x2.toInt = ((0 : Int) + (1 * x2.toInt + 0)); omega⟩, ⟨x3, rfl, by show x3.toInt = ((0 : Int) + (1 * x3.toInt + 0)); omega⟩, trivial⟩ kc_280_5 rfl
    have q : r.toInt = ((-2 : Int) + 0) := g2 _ rfl
    refine ⟨r, ((0 : Int) + 0), ((0 : Int) + (1 * n + 0)), ((0 : Int) + (1 * k0 + 0)), ((0 : Int) + (1 * k1 + 0)), M', g1, g3, g4, ?_⟩
    unfold spP
    omega
  · obtain ⟨r, M', g1, g2, g3, g4⟩ := ccase (X := X) h hr B rfl rfl rfl rfl (P := [(0, [(0, 1)]), ((-1), [(0, (-1)), (6, 1)]), (0, [(1, 1)]), (7, [(1, (-1))]), (0, [(2, 1)]), (512, [(2, (-1)), (5, (-1))])]) (List.forall_mem_cons.mpr ⟨c.1, List.forall_mem_cons.mpr ⟨c.2.1, List.forall_mem_cons.mpr ⟨c.2.2.1, List.forall_mem_cons.mpr ⟨c.2.2.2.1, List.forall_mem_cons.mpr ⟨c.2.2.2.2.1, List.forall_mem_cons.mpr ⟨c.2.2.2.2.2, List.forall_mem_nil _⟩⟩⟩⟩⟩⟩) rfl (a := 280) (c := cc_280_6) (by rw [ctb_280]; exact List.mem_cons_of_mem _ (List.mem_cons_of_mem _ (List.mem_cons_of_mem _ (List.mem_cons_of_mem _ (List.mem_cons_of_mem _ (List.mem_cons_of_mem _ List.mem_cons_self)))))) rfl (vals := [(3, 11, (0, [])), (0, 0, (0, [(0, 1)])), (0, 0, (0, [(1, 1)])), (0, 0, (0, [(2, 1)]))]) (args := [.ref 0, .int x1, .int x2, .int x3]) ⟨⟨0, rfl, rfl, by decide⟩, ⟨x1, rfl, by show x1.toInt = ((0 : Int) + (1 * x1.toInt + 0)); omega⟩, ⟨x2, rfl, by show x2.toInt = ((0 : Int) + (1 * x2.toInt + 0)); omega⟩, ⟨x3, rfl, by show x3.toInt = ((0 : Int) + (1 * x3.toInt + 0)); omega⟩, trivial⟩ kc_280_6 rfl
    have q : r.toInt = ((0 : Int) + (1 * t + 0)) := g2 _ rfl
    refine ⟨r, ((0 : Int) + 0), ((0 : Int) + (1 * n + 0)), ((0 : Int) + (1 * k0 + 0)), ((0 : Int) + (1 * k1 + 0)), M', g1, g3, g4, ?_⟩
    unfold spP
    omega
theorem ctb_281 : ctb 281 = [cc_281_0, cc_281_1, cc_281_2, cc_281_3, cc_281_4, cc_281_5] := rfl
theorem mc_27 {X : zX} {M : zM} {t n k0 k1 t' : Int} {us : List Int} (h : cI t n k0 k1 M) (hr : rI t' us M) (hb : bI t n k0 k1) (x1 x2 : Int32) : ∃ (r : Int32) (t2 n2 k02 k12 : Int) (M' : zM), lCallOK X 281 [.ref 0, .int x1, .int x2] M r M' ∧ cI t2 n2 k02 k12 M' ∧ rI t' us M' ∧ spK x1.toInt x2.toInt t n k0 k1 r.toInt t2 n2 k02 k12 := by
  obtain ⟨b1, b2, b3, b4, b5, b6, b7, b8⟩ := hb
  have B := lbd (t := t) (n := n) (k0 := k0) (k1 := k1) (u0 := 0) (u1 := 0) (u2 := 0) (x1 := x1) (x2 := x2) (x3 := 0) (x4 := 0) (y := 0) ⟨b1, b2⟩ ⟨b3, b4⟩ ⟨b5, b6⟩ ⟨b7, b8⟩ (by decide) (by decide) (by decide)
  rcases (show ((0 : Int) ≤ ((-1 : Int) + ((-1) * x1.toInt + 0))) ∨ ((0 : Int) ≤ ((0 : Int) + (1 * x1.toInt + ((-1) * n + 0)))) ∨ ((0 : Int) ≤ ((0 : Int) + (1 * x1.toInt + 0)) ∧ (0 : Int) ≤ ((-1 : Int) + ((-1) * x1.toInt + (1 * n + 0))) ∧ (0 : Int) ≤ ((-1 : Int) + ((-1) * x2.toInt + 0))) ∨ ((0 : Int) ≤ ((0 : Int) + (1 * x1.toInt + 0)) ∧ (0 : Int) ≤ ((-1 : Int) + ((-1) * x1.toInt + (1 * n + 0))) ∧ (0 : Int) ≤ ((-2 : Int) + (1 * x2.toInt + 0))) ∨ ((0 : Int) ≤ ((0 : Int) + (1 * x1.toInt + 0)) ∧ (0 : Int) ≤ ((-1 : Int) + ((-1) * x1.toInt + (1 * n + 0))) ∧ (0 : Int) ≤ ((0 : Int) + (1 * x2.toInt + 0)) ∧ (0 : Int) ≤ ((0 : Int) + ((-1) * x2.toInt + 0))) ∨ ((0 : Int) ≤ ((0 : Int) + (1 * x1.toInt + 0)) ∧ (0 : Int) ≤ ((-1 : Int) + ((-1) * x1.toInt + (1 * n + 0))) ∧ (0 : Int) ≤ ((-1 : Int) + (1 * x2.toInt + 0)) ∧ (0 : Int) ≤ ((1 : Int) + ((-1) * x2.toInt + 0))) by omega) with c | c | c | c | c | c
  · obtain ⟨r, M', g1, g2, g3, g4⟩ := ccase (X := X) h hr B rfl rfl rfl rfl (P := [((-1), [(0, (-1))])]) (List.forall_mem_cons.mpr ⟨c, List.forall_mem_nil _⟩) rfl (a := 281) (c := cc_281_0) (by rw [ctb_281]; exact List.mem_cons_self) rfl (vals := [(3, 11, (0, [])), (0, 0, (0, [(0, 1)])), (0, 0, (0, [(1, 1)]))]) (args := [.ref 0, .int x1, .int x2]) ⟨⟨0, rfl, rfl, by decide⟩, ⟨x1, rfl, by show x1.toInt = ((0 : Int) + (1 * x1.toInt + 0)); omega⟩, ⟨x2, rfl, by show x2.toInt = ((0 : Int) + (1 * x2.toInt + 0)); omega⟩, trivial⟩ kc_281_0 rfl
    have q : r.toInt = ((-2 : Int) + 0) := g2 _ rfl
    refine ⟨r, ((0 : Int) + (1 * t + 0)), ((0 : Int) + (1 * n + 0)), ((0 : Int) + (1 * k0 + 0)), ((0 : Int) + (1 * k1 + 0)), M', g1, g3, g4, ?_⟩
    unfold spK
    omega
  · obtain ⟨r, M', g1, g2, g3, g4⟩ := ccase (X := X) h hr B rfl rfl rfl rfl (P := [(0, [(0, 1), (6, (-1))])]) (List.forall_mem_cons.mpr ⟨c, List.forall_mem_nil _⟩) rfl (a := 281) (c := cc_281_1) (by rw [ctb_281]; exact List.mem_cons_of_mem _ List.mem_cons_self) rfl (vals := [(3, 11, (0, [])), (0, 0, (0, [(0, 1)])), (0, 0, (0, [(1, 1)]))]) (args := [.ref 0, .int x1, .int x2]) ⟨⟨0, rfl, rfl, by decide⟩, ⟨x1, rfl, by show x1.toInt = ((0 : Int) + (1 * x1.toInt + 0)); omega⟩, ⟨x2, rfl, by show x2.toInt = ((0 : Int) + (1 * x2.toInt + 0)); omega⟩, trivial⟩ kc_281_1 rfl
    have q : r.toInt = ((-2 : Int) + 0) := g2 _ rfl
    refine ⟨r, ((0 : Int) + (1 * t + 0)), ((0 : Int) + (1 * n + 0)), ((0 : Int) + (1 * k0 + 0)), ((0 : Int) + (1 * k1 + 0)), M', g1, g3, g4, ?_⟩
    unfold spK
    omega
  · obtain ⟨r, M', g1, g2, g3, g4⟩ := ccase (X := X) h hr B rfl rfl rfl rfl (P := [(0, [(0, 1)]), ((-1), [(0, (-1)), (6, 1)]), ((-1), [(1, (-1))])]) (List.forall_mem_cons.mpr ⟨c.1, List.forall_mem_cons.mpr ⟨c.2.1, List.forall_mem_cons.mpr ⟨c.2.2, List.forall_mem_nil _⟩⟩⟩) rfl (a := 281) (c := cc_281_2) (by rw [ctb_281]; exact List.mem_cons_of_mem _ (List.mem_cons_of_mem _ List.mem_cons_self)) rfl (vals := [(3, 11, (0, [])), (0, 0, (0, [(0, 1)])), (0, 0, (0, [(1, 1)]))]) (args := [.ref 0, .int x1, .int x2]) ⟨⟨0, rfl, rfl, by decide⟩, ⟨x1, rfl, by show x1.toInt = ((0 : Int) + (1 * x1.toInt + 0)); omega⟩, ⟨x2, rfl, by show x2.toInt = ((0 : Int) + (1 * x2.toInt + 0)); omega⟩, trivial⟩ kc_281_2 rfl
    have q : r.toInt = ((-2 : Int) + 0) := g2 _ rfl
    refine ⟨r, ((0 : Int) + (1 * t + 0)), ((0 : Int) + (1 * n + 0)), ((0 : Int) + (1 * k0 + 0)), ((0 : Int) + (1 * k1 + 0)), M', g1, g3, g4, ?_⟩
    unfold spK
    omega
  · obtain ⟨r, M', g1, g2, g3, g4⟩ := ccase (X := X) h hr B rfl rfl rfl rfl (P := [(0, [(0, 1)]), ((-1), [(0, (-1)), (6, 1)]), ((-2), [(1, 1)])]) (List.forall_mem_cons.mpr ⟨c.1, List.forall_mem_cons.mpr ⟨c.2.1, List.forall_mem_cons.mpr ⟨c.2.2, List.forall_mem_nil _⟩⟩⟩) rfl (a := 281) (c := cc_281_3) (by rw [ctb_281]; exact List.mem_cons_of_mem _ (List.mem_cons_of_mem _ (List.mem_cons_of_mem _ List.mem_cons_self))) rfl (vals := [(3, 11, (0, [])), (0, 0, (0, [(0, 1)])), (0, 0, (0, [(1, 1)]))]) (args := [.ref 0, .int x1, .int x2]) ⟨⟨0, rfl, rfl, by decide⟩, ⟨x1, rfl, by show x1.toInt = ((0 : Int) + (1 * x1.toInt + 0)); omega⟩, ⟨x2, rfl, by show x2.toInt = ((0 : Int) + (1 * x2.toInt + 0)); omega⟩, trivial⟩ kc_281_3 rfl
    have q : r.toInt = ((-2 : Int) + 0) := g2 _ rfl
    refine ⟨r, ((0 : Int) + (1 * t + 0)), ((0 : Int) + (1 * n + 0)), ((0 : Int) + (1 * k0 + 0)), ((0 : Int) + (1 * k1 + 0)), M', g1, g3, g4, ?_⟩
    unfold spK
    omega
  · obtain ⟨r, M', g1, g2, g3, g4⟩ := ccase (X := X) h hr B rfl rfl rfl rfl (P := [(0, [(0, 1)]), ((-1), [(0, (-1)), (6, 1)]), (0, [(1, 1)]), (0, [(1, (-1))])]) (List.forall_mem_cons.mpr ⟨c.1, List.forall_mem_cons.mpr ⟨c.2.1, List.forall_mem_cons.mpr ⟨c.2.2.1, List.forall_mem_cons.mpr ⟨c.2.2.2, List.forall_mem_nil _⟩⟩⟩⟩) rfl (a := 281) (c := cc_281_4) (by rw [ctb_281]; exact List.mem_cons_of_mem _ (List.mem_cons_of_mem _ (List.mem_cons_of_mem _ (List.mem_cons_of_mem _ List.mem_cons_self)))) rfl (vals := [(3, 11, (0, [])), (0, 0, (0, [(0, 1)])), (0, 0, (0, [(1, 1)]))]) (args := [.ref 0, .int x1, .int x2]) ⟨⟨0, rfl, rfl, by decide⟩, ⟨x1, rfl, by show x1.toInt = ((0 : Int) + (1 * x1.toInt + 0)); omega⟩, ⟨x2, rfl, by show x2.toInt = ((0 : Int) + (1 * x2.toInt + 0)); omega⟩, trivial⟩ kc_281_4 rfl
    have q : r.toInt = ((1 : Int) + 0) := g2 _ rfl
    refine ⟨r, ((0 : Int) + (1 * t + 0)), ((0 : Int) + (1 * n + 0)), ((1 : Int) + 0), ((0 : Int) + (1 * k1 + 0)), M', g1, g3, g4, ?_⟩
    unfold spK
    omega
  · obtain ⟨r, M', g1, g2, g3, g4⟩ := ccase (X := X) h hr B rfl rfl rfl rfl (P := [(0, [(0, 1)]), ((-1), [(0, (-1)), (6, 1)]), ((-1), [(1, 1)]), (1, [(1, (-1))])]) (List.forall_mem_cons.mpr ⟨c.1, List.forall_mem_cons.mpr ⟨c.2.1, List.forall_mem_cons.mpr ⟨c.2.2.1, List.forall_mem_cons.mpr ⟨c.2.2.2, List.forall_mem_nil _⟩⟩⟩⟩) rfl (a := 281) (c := cc_281_5) (by rw [ctb_281]; exact List.mem_cons_of_mem _ (List.mem_cons_of_mem _ (List.mem_cons_of_mem _ (List.mem_cons_of_mem _ (List.mem_cons_of_mem _ List.mem_cons_self))))) rfl (vals := [(3, 11, (0, [])), (0, 0, (0, [(0, 1)])), (0, 0, (0, [(1, 1)]))]) (args := [.ref 0, .int x1, .int x2]) ⟨⟨0, rfl, rfl, by decide⟩, ⟨x1, rfl, by show x1.toInt = ((0 : Int) + (1 * x1.toInt + 0)); omega⟩, ⟨x2, rfl, by show x2.toInt = ((0 : Int) + (1 * x2.toInt + 0)); omega⟩, trivial⟩ kc_281_5 rfl
    have q : r.toInt = ((1 : Int) + 0) := g2 _ rfl
    refine ⟨r, ((0 : Int) + (1 * t + 0)), ((0 : Int) + (1 * n + 0)), ((0 : Int) + (1 * k0 + 0)), ((1 : Int) + 0), M', g1, g3, g4, ?_⟩
    unfold spK
    omega
theorem ctb_282 : ctb 282 = [cc_282_0, cc_282_1, cc_282_2, cc_282_3, cc_282_4, cc_282_5, cc_282_6, cc_282_7, cc_282_8, cc_282_9, cc_282_10, cc_282_11] := rfl
theorem mc_28 {X : zX} {M : zM} {t n k0 k1 t' : Int} {us : List Int} (h : cI t n k0 k1 M) (hr : rI t' us M) (hb : bI t n k0 k1) (x1 x2 : Int32) : ∃ (r : Int32) (t2 n2 k02 k12 : Int) (M' : zM), lCallOK X 282 [.ref 0, .int x1, .int x2] M r M' ∧ cI t2 n2 k02 k12 M' ∧ rI t' us M' ∧ spA x1.toInt x2.toInt t n k0 k1 r.toInt t2 n2 k02 k12 := by
  obtain ⟨b1, b2, b3, b4, b5, b6, b7, b8⟩ := hb
  have B := lbd (t := t) (n := n) (k0 := k0) (k1 := k1) (u0 := 0) (u1 := 0) (u2 := 0) (x1 := x1) (x2 := x2) (x3 := 0) (x4 := 0) (y := 0) ⟨b1, b2⟩ ⟨b3, b4⟩ ⟨b5, b6⟩ ⟨b7, b8⟩ (by decide) (by decide) (by decide)
  rcases (show ((0 : Int) ≤ ((-1 : Int) + ((-1) * x1.toInt + 0))) ∨ ((0 : Int) ≤ ((-1 : Int) + (1 * x1.toInt + ((-1) * n + 0)))) ∨ ((0 : Int) ≤ ((0 : Int) + (1 * x1.toInt + 0)) ∧ (0 : Int) ≤ ((0 : Int) + ((-1) * x1.toInt + (1 * n + 0))) ∧ (0 : Int) ≤ ((-1 : Int) + ((-1) * x2.toInt + 0))) ∨ ((0 : Int) ≤ ((0 : Int) + (1 * x1.toInt + 0)) ∧ (0 : Int) ≤ ((0 : Int) + ((-1) * x1.toInt + (1 * n + 0))) ∧ (0 : Int) ≤ ((-2 : Int) + (1 * x2.toInt + 0))) ∨ ((0 : Int) ≤ ((0 : Int) + (1 * x1.toInt + 0)) ∧ (0 : Int) ≤ ((0 : Int) + ((-1) * x1.toInt + (1 * n + 0))) ∧ (0 : Int) ≤ ((0 : Int) + (1 * x2.toInt + 0)) ∧ (0 : Int) ≤ ((0 : Int) + ((-1) * x2.toInt + 0)) ∧ (0 : Int) ≤ ((0 : Int) + (1 * k0 + 0)) ∧ (0 : Int) ≤ ((0 : Int) + ((-1) * k0 + 0))) ∨ ((0 : Int) ≤ ((0 : Int) + (1 * x1.toInt + 0)) ∧ (0 : Int) ≤ ((0 : Int) + ((-1) * x1.toInt + (1 * n + 0))) ∧ (0 : Int) ≤ ((0 : Int) + (1 * x2.toInt + 0)) ∧ (0 : Int) ≤ ((0 : Int) + ((-1) * x2.toInt + 0)) ∧ (0 : Int) ≤ ((-1 : Int) + (1 * k0 + 0)) ∧ (0 : Int) ≤ ((1 : Int) + ((-1) * k0 + 0)) ∧ (0 : Int) ≤ ((-3 : Int) + (1 * x1.toInt + 0))) ∨ ((0 : Int) ≤ ((0 : Int) + (1 * x1.toInt + 0)) ∧ (0 : Int) ≤ ((0 : Int) + ((-1) * x1.toInt + (1 * n + 0))) ∧ (0 : Int) ≤ ((0 : Int) + (1 * x2.toInt + 0)) ∧ (0 : Int) ≤ ((0 : Int) + ((-1) * x2.toInt + 0)) ∧ (0 : Int) ≤ ((-1 : Int) + (1 * k0 + 0)) ∧ (0 : Int) ≤ ((1 : Int) + ((-1) * k0 + 0)) ∧ (0 : Int) ≤ ((2 : Int) + ((-1) * x1.toInt + 0)) ∧ (0 : Int) ≤ ((-1 : Int) + ((-1) * x1.toInt + (1 * n + 0)))) ∨ ((0 : Int) ≤ ((0 : Int) + (1 * x1.toInt + 0)) ∧ (0 : Int) ≤ ((0 : Int) + ((-1) * x1.toInt + (1 * n + 0))) ∧ (0 : Int) ≤ ((0 : Int) + (1 * x2.toInt + 0)) ∧ (0 : Int) ≤ ((0 : Int) + ((-1) * x2.toInt + 0)) ∧ (0 : Int) ≤ ((-1 : Int) + (1 * k0 + 0)) ∧ (0 : Int) ≤ ((1 : Int) + ((-1) * k0 + 0)) ∧ (0 : Int) ≤ ((2 : Int) + ((-1) * x1.toInt + 0)) ∧ (0 : Int) ≤ ((0 : Int) + (1 * x1.toInt + ((-1) * n + 0)))) ∨ ((0 : Int) ≤ ((0 : Int) + (1 * x1.toInt + 0)) ∧ (0 : Int) ≤ ((0 : Int) + ((-1) * x1.toInt + (1 * n + 0))) ∧ (0 : Int) ≤ ((-1 : Int) + (1 * x2.toInt + 0)) ∧ (0 : Int) ≤ ((1 : Int) + ((-1) * x2.toInt + 0)) ∧ (0 : Int) ≤ ((0 : Int) + (1 * k1 + 0)) ∧ (0 : Int) ≤ ((0 : Int) + ((-1) * k1 + 0))) ∨ ((0 : Int) ≤ ((0 : Int) + (1 * x1.toInt + 0)) ∧ (0 : Int) ≤ ((0 : Int) + ((-1) * x1.toInt + (1 * n + 0))) ∧ (0 : Int) ≤ ((-1 : Int) + (1 * x2.toInt + 0)) ∧ (0 : Int) ≤ ((1 : Int) + ((-1) * x2.toInt + 0)) ∧ (0 : Int) ≤ ((-1 : Int) + (1 * k1 + 0)) ∧ (0 : Int) ≤ ((1 : Int) + ((-1) * k1 + 0)) ∧ (0 : Int) ≤ ((-3 : Int) + (1 * x1.toInt + 0))) ∨ ((0 : Int) ≤ ((0 : Int) + (1 * x1.toInt + 0)) ∧ (0 : Int) ≤ ((0 : Int) + ((-1) * x1.toInt + (1 * n + 0))) ∧ (0 : Int) ≤ ((-1 : Int) + (1 * x2.toInt + 0)) ∧ (0 : Int) ≤ ((1 : Int) + ((-1) * x2.toInt + 0)) ∧ (0 : Int) ≤ ((-1 : Int) + (1 * k1 + 0)) ∧ (0 : Int) ≤ ((1 : Int) + ((-1) * k1 + 0)) ∧ (0 : Int) ≤ ((2 : Int) + ((-1) * x1.toInt + 0)) ∧ (0 : Int) ≤ ((-1 : Int) + ((-1) * x1.toInt + (1 * n + 0)))) ∨ ((0 : Int) ≤ ((0 : Int) + (1 * x1.toInt + 0)) ∧ (0 : Int) ≤ ((0 : Int) + ((-1) * x1.toInt + (1 * n + 0))) ∧ (0 : Int) ≤ ((-1 : Int) + (1 * x2.toInt + 0)) ∧ (0 : Int) ≤ ((1 : Int) + ((-1) * x2.toInt + 0)) ∧ (0 : Int) ≤ ((-1 : Int) + (1 * k1 + 0)) ∧ (0 : Int) ≤ ((1 : Int) + ((-1) * k1 + 0)) ∧ (0 : Int) ≤ ((2 : Int) + ((-1) * x1.toInt + 0)) ∧ (0 : Int) ≤ ((0 : Int) + (1 * x1.toInt + ((-1) * n + 0)))) by omega) with c | c | c | c | c | c | c | c | c | c | c | c
  · obtain ⟨r, M', g1, g2, g3, g4⟩ := ccase (X := X) h hr B rfl rfl rfl rfl (P := [((-1), [(0, (-1))])]) (List.forall_mem_cons.mpr ⟨c, List.forall_mem_nil _⟩) rfl (a := 282) (c := cc_282_0) (by rw [ctb_282]; exact List.mem_cons_self) rfl (vals := [(3, 11, (0, [])), (0, 0, (0, [(0, 1)])), (0, 0, (0, [(1, 1)]))]) (args := [.ref 0, .int x1, .int x2]) ⟨⟨0, rfl, rfl, by decide⟩, ⟨x1, rfl, by show x1.toInt = ((0 : Int) + (1 * x1.toInt + 0)); omega⟩, ⟨x2, rfl, by show x2.toInt = ((0 : Int) + (1 * x2.toInt + 0)); omega⟩, trivial⟩ kc_282_0 rfl
    have q : r.toInt = ((-2 : Int) + 0) := g2 _ rfl
    refine ⟨r, ((0 : Int) + (1 * t + 0)), ((0 : Int) + (1 * n + 0)), ((0 : Int) + (1 * k0 + 0)), ((0 : Int) + (1 * k1 + 0)), M', g1, g3, g4, ?_⟩
    unfold spA
    omega
  · obtain ⟨r, M', g1, g2, g3, g4⟩ := ccase (X := X) h hr B rfl rfl rfl rfl (P := [((-1), [(0, 1), (6, (-1))])]) (List.forall_mem_cons.mpr ⟨c, List.forall_mem_nil _⟩) rfl (a := 282) (c := cc_282_1) (by rw [ctb_282]; exact List.mem_cons_of_mem _ List.mem_cons_self) rfl (vals := [(3, 11, (0, [])), (0, 0, (0, [(0, 1)])), (0, 0, (0, [(1, 1)]))]) (args := [.ref 0, .int x1, .int x2]) ⟨⟨0, rfl, rfl, by decide⟩, ⟨x1, rfl, by show x1.toInt = ((0 : Int) + (1 * x1.toInt + 0)); omega⟩, ⟨x2, rfl, by show x2.toInt = ((0 : Int) + (1 * x2.toInt + 0)); omega⟩, trivial⟩ kc_282_1 rfl
    have q : r.toInt = ((-2 : Int) + 0) := g2 _ rfl
    refine ⟨r, ((0 : Int) + (1 * t + 0)), ((0 : Int) + (1 * n + 0)), ((0 : Int) + (1 * k0 + 0)), ((0 : Int) + (1 * k1 + 0)), M', g1, g3, g4, ?_⟩
    unfold spA
    omega
  · obtain ⟨r, M', g1, g2, g3, g4⟩ := ccase (X := X) h hr B rfl rfl rfl rfl (P := [(0, [(0, 1)]), (0, [(0, (-1)), (6, 1)]), ((-1), [(1, (-1))])]) (List.forall_mem_cons.mpr ⟨c.1, List.forall_mem_cons.mpr ⟨c.2.1, List.forall_mem_cons.mpr ⟨c.2.2, List.forall_mem_nil _⟩⟩⟩) rfl (a := 282) (c := cc_282_2) (by rw [ctb_282]; exact List.mem_cons_of_mem _ (List.mem_cons_of_mem _ List.mem_cons_self)) rfl (vals := [(3, 11, (0, [])), (0, 0, (0, [(0, 1)])), (0, 0, (0, [(1, 1)]))]) (args := [.ref 0, .int x1, .int x2]) ⟨⟨0, rfl, rfl, by decide⟩, ⟨x1, rfl, by show x1.toInt = ((0 : Int) + (1 * x1.toInt + 0)); omega⟩, ⟨x2, rfl, by show x2.toInt = ((0 : Int) + (1 * x2.toInt + 0)); omega⟩, trivial⟩ kc_282_2 rfl
    have q : r.toInt = ((-2 : Int) + 0) := g2 _ rfl
    refine ⟨r, ((0 : Int) + (1 * t + 0)), ((0 : Int) + (1 * n + 0)), ((0 : Int) + (1 * k0 + 0)), ((0 : Int) + (1 * k1 + 0)), M', g1, g3, g4, ?_⟩
    unfold spA
    omega
  · obtain ⟨r, M', g1, g2, g3, g4⟩ := ccase (X := X) h hr B rfl rfl rfl rfl (P := [(0, [(0, 1)]), (0, [(0, (-1)), (6, 1)]), ((-2), [(1, 1)])]) (List.forall_mem_cons.mpr ⟨c.1, List.forall_mem_cons.mpr ⟨c.2.1, List.forall_mem_cons.mpr ⟨c.2.2, List.forall_mem_nil _⟩⟩⟩) rfl (a := 282) (c := cc_282_3) (by rw [ctb_282]; exact List.mem_cons_of_mem _ (List.mem_cons_of_mem _ (List.mem_cons_of_mem _ List.mem_cons_self))) rfl (vals := [(3, 11, (0, [])), (0, 0, (0, [(0, 1)])), (0, 0, (0, [(1, 1)]))]) (args := [.ref 0, .int x1, .int x2]) ⟨⟨0, rfl, rfl, by decide⟩, ⟨x1, rfl, by show x1.toInt = ((0 : Int) + (1 * x1.toInt + 0)); omega⟩, ⟨x2, rfl, by show x2.toInt = ((0 : Int) + (1 * x2.toInt + 0)); omega⟩, trivial⟩ kc_282_3 rfl
    have q : r.toInt = ((-2 : Int) + 0) := g2 _ rfl
    refine ⟨r, ((0 : Int) + (1 * t + 0)), ((0 : Int) + (1 * n + 0)), ((0 : Int) + (1 * k0 + 0)), ((0 : Int) + (1 * k1 + 0)), M', g1, g3, g4, ?_⟩
    unfold spA
    omega
  · obtain ⟨r, M', g1, g2, g3, g4⟩ := ccase (X := X) h hr B rfl rfl rfl rfl (P := [(0, [(0, 1)]), (0, [(0, (-1)), (6, 1)]), (0, [(1, 1)]), (0, [(1, (-1))]), (0, [(7, 1)]), (0, [(7, (-1))])]) (List.forall_mem_cons.mpr ⟨c.1, List.forall_mem_cons.mpr ⟨c.2.1, List.forall_mem_cons.mpr ⟨c.2.2.1, List.forall_mem_cons.mpr ⟨c.2.2.2.1, List.forall_mem_cons.mpr ⟨c.2.2.2.2.1, List.forall_mem_cons.mpr ⟨c.2.2.2.2.2, List.forall_mem_nil _⟩⟩⟩⟩⟩⟩) rfl (a := 282) (c := cc_282_4) (by rw [ctb_282]; exact List.mem_cons_of_mem _ (List.mem_cons_of_mem _ (List.mem_cons_of_mem _ (List.mem_cons_of_mem _ List.mem_cons_self)))) rfl (vals := [(3, 11, (0, [])), (0, 0, (0, [(0, 1)])), (0, 0, (0, [(1, 1)]))]) (args := [.ref 0, .int x1, .int x2]) ⟨⟨0, rfl, rfl, by decide⟩, ⟨x1, rfl, by show x1.toInt = ((0 : Int) + (1 * x1.toInt + 0)); omega⟩, ⟨x2, rfl, by show x2.toInt = ((0 : Int) + (1 * x2.toInt + 0)); omega⟩, trivial⟩ kc_282_4 rfl
    have q : r.toInt = ((-1 : Int) + 0) := g2 _ rfl
    refine ⟨r, ((0 : Int) + (1 * t + 0)), ((0 : Int) + (1 * n + 0)), ((0 : Int) + (1 * k0 + 0)), ((0 : Int) + (1 * k1 + 0)), M', g1, g3, g4, ?_⟩
    unfold spA
    omega
  · obtain ⟨r, M', g1, g2, g3, g4⟩ := ccase (X := X) h hr B rfl rfl rfl rfl (P := [(0, [(0, 1)]), (0, [(0, (-1)), (6, 1)]), (0, [(1, 1)]), (0, [(1, (-1))]), ((-1), [(7, 1)]), (1, [(7, (-1))]), ((-3), [(0, 1)])]) (List.forall_mem_cons.mpr ⟨c.1, List.forall_mem_cons.mpr ⟨c.2.1, List.forall_mem_cons.mpr ⟨c.2.2.1, List.forall_mem_cons.mpr ⟨c.2.2.2.1, List.forall_mem_cons.mpr ⟨c.2.2.2.2.1, List.forall_mem_cons.mpr ⟨c.2.2.2.2.2.1, List.forall_mem_cons.mpr ⟨c.2.2.2.2.2.2, List.forall_mem_nil _⟩⟩⟩⟩⟩⟩⟩) rfl (a := 282) (c := cc_282_5) (by rw [ctb_282]; exact List.mem_cons_of_mem _ (List.mem_cons_of_mem _ (List.mem_cons_of_mem _ (List.mem_cons_of_mem _ (List.mem_cons_of_mem _ List.mem_cons_self))))) rfl (vals := [(3, 11, (0, [])), (0, 0, (0, [(0, 1)])), (0, 0, (0, [(1, 1)]))]) (args := [.ref 0, .int x1, .int x2]) ⟨⟨0, rfl, rfl, by decide⟩, ⟨x1, rfl, by show x1.toInt = ((0 : Int) + (1 * x1.toInt + 0)); omega⟩, ⟨x2, rfl, by show x2.toInt = ((0 : Int) + (1 * x2.toInt + 0)); omega⟩, trivial⟩ kc_282_5 rfl
    have q : r.toInt = ((-4 : Int) + 0) := g2 _ rfl
    refine ⟨r, ((0 : Int) + (1 * t + 0)), ((0 : Int) + (1 * n + 0)), ((0 : Int) + (1 * k0 + 0)), ((0 : Int) + (1 * k1 + 0)), M', g1, g3, g4, ?_⟩
    unfold spA
    omega
  · obtain ⟨r, M', g1, g2, g3, g4⟩ := ccase (X := X) h hr B rfl rfl rfl rfl (P := [(0, [(0, 1)]), (0, [(0, (-1)), (6, 1)]), (0, [(1, 1)]), (0, [(1, (-1))]), ((-1), [(7, 1)]), (1, [(7, (-1))]), (2, [(0, (-1))]), ((-1), [(0, (-1)), (6, 1)])]) (List.forall_mem_cons.mpr ⟨c.1, List.forall_mem_cons.mpr ⟨c.2.1, List.forall_mem_cons.mpr ⟨c.2.2.1, List.forall_mem_cons.mpr ⟨c.2.2.2.1, List.forall_mem_cons.mpr ⟨c.2.2.2.2.1, List.forall_mem_cons.mpr ⟨c.2.2.2.2.2.1, List.forall_mem_cons.mpr ⟨c.2.2.2.2.2.2.1, List.forall_mem_cons.mpr ⟨c.2.2.2.2.2.2.2, List.forall_mem_nil _⟩⟩⟩⟩⟩⟩⟩⟩) rfl (a := 282) (c := cc_282_6) (by rw [ctb_282]; exact List.mem_cons_of_mem _ (List.mem_cons_of_mem _ (List.mem_cons_of_mem _ (List.mem_cons_of_mem _ (List.mem_cons_of_mem _ (List.mem_cons_of_mem _ List.mem_cons_self)))))) rfl (vals := [(3, 11, (0, [])), (0, 0, (0, [(0, 1)])), (0, 0, (0, [(1, 1)]))]) (args := [.ref 0, .int x1, .int x2]) ⟨⟨0, rfl, rfl, by decide⟩, ⟨x1, rfl, by show x1.toInt = ((0 : Int) + (1 * x1.toInt + 0)); omega⟩, ⟨x2, rfl, by show x2.toInt = ((0 : Int) + (1 * x2.toInt + 0)); omega⟩, trivial⟩ kc_282_6 rfl
    have q : r.toInt = ((0 : Int) + (1 * x1.toInt + 0)) := g2 _ rfl
    refine ⟨r, ((0 : Int) + (1 * t + 0)), ((0 : Int) + (1 * n + 0)), ((0 : Int) + (1 * k0 + 0)), ((0 : Int) + (1 * k1 + 0)), M', g1, g3, g4, ?_⟩
    unfold spA
    omega
  · obtain ⟨r, M', g1, g2, g3, g4⟩ := ccase (X := X) h hr B rfl rfl rfl rfl (P := [(0, [(0, 1)]), (0, [(0, (-1)), (6, 1)]), (0, [(1, 1)]), (0, [(1, (-1))]), ((-1), [(7, 1)]), (1, [(7, (-1))]), (2, [(0, (-1))]), (0, [(0, 1), (6, (-1))])]) (List.forall_mem_cons.mpr ⟨c.1, List.forall_mem_cons.mpr ⟨c.2.1, List.forall_mem_cons.mpr ⟨c.2.2.1, List.forall_mem_cons.mpr ⟨c.2.2.2.1, List.forall_mem_cons.mpr ⟨c.2.2.2.2.1, List.forall_mem_cons.mpr ⟨c.2.2.2.2.2.1, List.forall_mem_cons.mpr ⟨c.2.2.2.2.2.2.1, List.forall_mem_cons.mpr ⟨c.2.2.2.2.2.2.2, List.forall_mem_nil _⟩⟩⟩⟩⟩⟩⟩⟩) rfl (a := 282) (c := cc_282_7) (by rw [ctb_282]; exact List.mem_cons_of_mem _ (List.mem_cons_of_mem _ (List.mem_cons_of_mem _ (List.mem_cons_of_mem _ (List.mem_cons_of_mem _ (List.mem_cons_of_mem _ (List.mem_cons_of_mem _ List.mem_cons_self))))))) rfl (vals := [(3, 11, (0, [])), (0, 0, (0, [(0, 1)])), (0, 0, (0, [(1, 1)]))]) (args := [.ref 0, .int x1, .int x2]) ⟨⟨0, rfl, rfl, by decide⟩, ⟨x1, rfl, by show x1.toInt = ((0 : Int) + (1 * x1.toInt + 0)); omega⟩, ⟨x2, rfl, by show x2.toInt = ((0 : Int) + (1 * x2.toInt + 0)); omega⟩, trivial⟩ kc_282_7 rfl
    have q : r.toInt = ((0 : Int) + (1 * x1.toInt + 0)) := g2 _ rfl
    refine ⟨r, ((0 : Int) + (1 * t + 0)), ((1 : Int) + (1 * n + 0)), ((0 : Int) + (1 * k0 + 0)), ((0 : Int) + (1 * k1 + 0)), M', g1, g3, g4, ?_⟩
    unfold spA
    omega
  · obtain ⟨r, M', g1, g2, g3, g4⟩ := ccase (X := X) h hr B rfl rfl rfl rfl (P := [(0, [(0, 1)]), (0, [(0, (-1)), (6, 1)]), ((-1), [(1, 1)]), (1, [(1, (-1))]), (0, [(8, 1)]), (0, [(8, (-1))])]) (List.forall_mem_cons.mpr ⟨c.1, List.forall_mem_cons.mpr ⟨c.2.1, List.forall_mem_cons.mpr ⟨c.2.2.1, List.forall_mem_cons.mpr ⟨c.2.2.2.1, List.forall_mem_cons.mpr ⟨c.2.2.2.2.1, List.forall_mem_cons.mpr ⟨c.2.2.2.2.2, List.forall_mem_nil _⟩⟩⟩⟩⟩⟩) rfl (a := 282) (c := cc_282_8) (by rw [ctb_282]; exact List.mem_cons_of_mem _ (List.mem_cons_of_mem _ (List.mem_cons_of_mem _ (List.mem_cons_of_mem _ (List.mem_cons_of_mem _ (List.mem_cons_of_mem _ (List.mem_cons_of_mem _ (List.mem_cons_of_mem _ List.mem_cons_self)))))))) rfl (vals := [(3, 11, (0, [])), (0, 0, (0, [(0, 1)])), (0, 0, (0, [(1, 1)]))]) (args := [.ref 0, .int x1, .int x2]) ⟨⟨0, rfl, rfl, by decide⟩, ⟨x1, rfl, by show x1.toInt = ((0 : Int) + (1 * x1.toInt + 0)); omega⟩, ⟨x2, rfl, by show x2.toInt = ((0 : Int) + (1 * x2.toInt + 0)); omega⟩, trivial⟩ kc_282_8 rfl
    have q : r.toInt = ((-1 : Int) + 0) := g2 _ rfl
    refine ⟨r, ((0 : Int) + (1 * t + 0)), ((0 : Int) + (1 * n + 0)), ((0 : Int) + (1 * k0 + 0)), ((0 : Int) + (1 * k1 + 0)), M', g1, g3, g4, ?_⟩
    unfold spA
    omega
  · obtain ⟨r, M', g1, g2, g3, g4⟩ := ccase (X := X) h hr B rfl rfl rfl rfl (P := [(0, [(0, 1)]), (0, [(0, (-1)), (6, 1)]), ((-1), [(1, 1)]), (1, [(1, (-1))]), ((-1), [(8, 1)]), (1, [(8, (-1))]), ((-3), [(0, 1)])]) (List.forall_mem_cons.mpr ⟨c.1, List.forall_mem_cons.mpr ⟨c.2.1, List.forall_mem_cons.mpr ⟨c.2.2.1, List.forall_mem_cons.mpr ⟨c.2.2.2.1, List.forall_mem_cons.mpr ⟨c.2.2.2.2.1, List.forall_mem_cons.mpr ⟨c.2.2.2.2.2.1, List.forall_mem_cons.mpr ⟨c.2.2.2.2.2.2, List.forall_mem_nil _⟩⟩⟩⟩⟩⟩⟩) rfl (a := 282) (c := cc_282_9) (by rw [ctb_282]; exact List.mem_cons_of_mem _ (List.mem_cons_of_mem _ (List.mem_cons_of_mem _ (List.mem_cons_of_mem _ (List.mem_cons_of_mem _ (List.mem_cons_of_mem _ (List.mem_cons_of_mem _ (List.mem_cons_of_mem _ (List.mem_cons_of_mem _ List.mem_cons_self))))))))) rfl (vals := [(3, 11, (0, [])), (0, 0, (0, [(0, 1)])), (0, 0, (0, [(1, 1)]))]) (args := [.ref 0, .int x1, .int x2]) ⟨⟨0, rfl, rfl, by decide⟩, ⟨x1, rfl, by show x1.toInt = ((0 : Int) + (1 * x1.toInt + 0)); omega⟩, ⟨x2, rfl, by show x2.toInt = ((0 : Int) + (1 * x2.toInt + 0)); omega⟩, trivial⟩ kc_282_9 rfl
    have q : r.toInt = ((-4 : Int) + 0) := g2 _ rfl
    refine ⟨r, ((0 : Int) + (1 * t + 0)), ((0 : Int) + (1 * n + 0)), ((0 : Int) + (1 * k0 + 0)), ((0 : Int) + (1 * k1 + 0)), M', g1, g3, g4, ?_⟩
    unfold spA
    omega
  · obtain ⟨r, M', g1, g2, g3, g4⟩ := ccase (X := X) h hr B rfl rfl rfl rfl (P := [(0, [(0, 1)]), (0, [(0, (-1)), (6, 1)]), ((-1), [(1, 1)]), (1, [(1, (-1))]), ((-1), [(8, 1)]), (1, [(8, (-1))]), (2, [(0, (-1))]), ((-1), [(0, (-1)), (6, 1)])]) (List.forall_mem_cons.mpr ⟨c.1, List.forall_mem_cons.mpr ⟨c.2.1, List.forall_mem_cons.mpr ⟨c.2.2.1, List.forall_mem_cons.mpr ⟨c.2.2.2.1, List.forall_mem_cons.mpr ⟨c.2.2.2.2.1, List.forall_mem_cons.mpr ⟨c.2.2.2.2.2.1, List.forall_mem_cons.mpr ⟨c.2.2.2.2.2.2.1, List.forall_mem_cons.mpr ⟨c.2.2.2.2.2.2.2, List.forall_mem_nil _⟩⟩⟩⟩⟩⟩⟩⟩) rfl (a := 282) (c := cc_282_10) (by rw [ctb_282]; exact List.mem_cons_of_mem _ (List.mem_cons_of_mem _ (List.mem_cons_of_mem _ (List.mem_cons_of_mem _ (List.mem_cons_of_mem _ (List.mem_cons_of_mem _ (List.mem_cons_of_mem _ (List.mem_cons_of_mem _ (List.mem_cons_of_mem _ (List.mem_cons_of_mem _ List.mem_cons_self)))))))))) rfl (vals := [(3, 11, (0, [])), (0, 0, (0, [(0, 1)])), (0, 0, (0, [(1, 1)]))]) (args := [.ref 0, .int x1, .int x2]) ⟨⟨0, rfl, rfl, by decide⟩, ⟨x1, rfl, by show x1.toInt = ((0 : Int) + (1 * x1.toInt + 0)); omega⟩, ⟨x2, rfl, by show x2.toInt = ((0 : Int) + (1 * x2.toInt + 0)); omega⟩, trivial⟩ kc_282_10 rfl
    have q : r.toInt = ((0 : Int) + (1 * x1.toInt + 0)) := g2 _ rfl
    refine ⟨r, ((0 : Int) + (1 * t + 0)), ((0 : Int) + (1 * n + 0)), ((0 : Int) + (1 * k0 + 0)), ((0 : Int) + (1 * k1 + 0)), M', g1, g3, g4, ?_⟩
    unfold spA
    omega
  · obtain ⟨r, M', g1, g2, g3, g4⟩ := ccase (X := X) h hr B rfl rfl rfl rfl (P := [(0, [(0, 1)]), (0, [(0, (-1)), (6, 1)]), ((-1), [(1, 1)]), (1, [(1, (-1))]), ((-1), [(8, 1)]), (1, [(8, (-1))]), (2, [(0, (-1))]), (0, [(0, 1), (6, (-1))])]) (List.forall_mem_cons.mpr ⟨c.1, List.forall_mem_cons.mpr ⟨c.2.1, List.forall_mem_cons.mpr ⟨c.2.2.1, List.forall_mem_cons.mpr ⟨c.2.2.2.1, List.forall_mem_cons.mpr ⟨c.2.2.2.2.1, List.forall_mem_cons.mpr ⟨c.2.2.2.2.2.1, List.forall_mem_cons.mpr ⟨c.2.2.2.2.2.2.1, List.forall_mem_cons.mpr ⟨c.2.2.2.2.2.2.2, List.forall_mem_nil _⟩⟩⟩⟩⟩⟩⟩⟩) rfl (a := 282) (c := cc_282_11) (by rw [ctb_282]; exact List.mem_cons_of_mem _ (List.mem_cons_of_mem _ (List.mem_cons_of_mem _ (List.mem_cons_of_mem _ (List.mem_cons_of_mem _ (List.mem_cons_of_mem _ (List.mem_cons_of_mem _ (List.mem_cons_of_mem _ (List.mem_cons_of_mem _ (List.mem_cons_of_mem _ (List.mem_cons_of_mem _ List.mem_cons_self))))))))))) rfl (vals := [(3, 11, (0, [])), (0, 0, (0, [(0, 1)])), (0, 0, (0, [(1, 1)]))]) (args := [.ref 0, .int x1, .int x2]) ⟨⟨0, rfl, rfl, by decide⟩, ⟨x1, rfl, by show x1.toInt = ((0 : Int) + (1 * x1.toInt + 0)); omega⟩, ⟨x2, rfl, by show x2.toInt = ((0 : Int) + (1 * x2.toInt + 0)); omega⟩, trivial⟩ kc_282_11 rfl
    have q : r.toInt = ((0 : Int) + (1 * x1.toInt + 0)) := g2 _ rfl
    refine ⟨r, ((0 : Int) + (1 * t + 0)), ((1 : Int) + (1 * n + 0)), ((0 : Int) + (1 * k0 + 0)), ((0 : Int) + (1 * k1 + 0)), M', g1, g3, g4, ?_⟩
    unfold spA
    omega
theorem ctb_283 : ctb 283 = [cc_283_0] := rfl
theorem mc_29 {X : zX} {M : zM} {t n k0 k1 t' : Int} {us : List Int} (h : cI t n k0 k1 M) (hr : rI t' us M) (hb : bI t n k0 k1) (x1 x2 : Int32) : ∃ (r : Int32) (t2 n2 k02 k12 : Int) (M' : zM), lCallOK X 283 [.ref 0, .int x1, .int x2] M r M' ∧ cI t2 n2 k02 k12 M' ∧ rI t' us M' ∧ spO t n k0 k1 r.toInt t2 n2 k02 k12 := by
  obtain ⟨b1, b2, b3, b4, b5, b6, b7, b8⟩ := hb
  have B := lbd (t := t) (n := n) (k0 := k0) (k1 := k1) (u0 := 0) (u1 := 0) (u2 := 0) (x1 := x1) (x2 := x2) (x3 := 0) (x4 := 0) (y := 0) ⟨b1, b2⟩ ⟨b3, b4⟩ ⟨b5, b6⟩ ⟨b7, b8⟩ (by decide) (by decide) (by decide)
  obtain ⟨r, M', g1, g2, g3, g4⟩ := ccase (X := X) h hr B rfl rfl rfl rfl (P := []) (List.forall_mem_nil _) rfl (a := 283) (c := cc_283_0) (by rw [ctb_283]; exact List.mem_cons_self) rfl (vals := [(3, 11, (0, [])), (0, 0, (0, [(0, 1)])), (0, 0, (0, [(1, 1)]))]) (args := [.ref 0, .int x1, .int x2]) ⟨⟨0, rfl, rfl, by decide⟩, ⟨x1, rfl, by show x1.toInt = ((0 : Int) + (1 * x1.toInt + 0)); omega⟩, ⟨x2, rfl, by show x2.toInt = ((0 : Int) + (1 * x2.toInt + 0)); omega⟩, trivial⟩ kc_283_0 rfl
  refine ⟨r, ((0 : Int) + (1 * t + 0)), ((0 : Int) + (1 * n + 0)), ((0 : Int) + (1 * k0 + 0)), ((0 : Int) + (1 * k1 + 0)), M', g1, g3, g4, ?_⟩
  unfold spO
  omega
