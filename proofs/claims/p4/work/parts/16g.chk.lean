/-! THE CLASS: checks (2584 steps; printed by gen40.py) -/
theorem cw_106_0 : scwf cc_106_0 = true := by decide +kernel
theorem ce_106_0 : schE (hSx cpd) (hMx cpd) (hNx cpd) (hLx cpd) (hCx cpd) cG 10 zmt xo ctb 1000000 106 cc_106_0 = true := by decide +kernel
theorem ck_106_0 : CK 106 cc_106_0 := ⟨cw_106_0, ce_106_0, List.forall_mem_nil _⟩
theorem cw_52_0 : scwf cc_52_0 = true := by decide +kernel
theorem ce_52_0 : schE (hSx cpd) (hMx cpd) (hNx cpd) (hLx cpd) (hCx cpd) cG 10 zmt xo ctb 1000000 52 cc_52_0 = true := by decide +kernel
theorem ch_52_0_0 : schH (hSx cpd) (hMx cpd) (hNx cpd) (hLx cpd) (hCx cpd) cG 10 zmt xo ctb 1000000 52 cc_52_0 (25, ([((0, 0, 0, (0, []), (0, [])), 3, 1, (0, [(0, 1)]), 0, 0, 0), ((0, 1, 0, (0, []), (0, [])), 3, 8, (0, [(1, 1)]), 0, 0, 0), ((0, 2, 0, (0, []), (0, [])), 0, 0, (0, [(2, 1)]), 0, 0, 0), ((0, 3, 0, (0, []), (0, [])), 1, 0, (0, []), 1, (-9223372036854775808), 9223372036854775807), ((0, 5, 0, (0, []), (0, [])), 0, 0, (0, []), 1, 2, 36), ((1, 8, 0, (0, [(1, 1)]), (0, [])), 3, 7, (0, []), 1, 7, 384), ((1, 7, 1, (0, [(8, 1)]), (0, [])), 0, 0, (0, []), 1, 0, 4), ((0, 6, 0, (0, []), (0, [])), 0, 0, (0, []), 1, (-2147483648), 2147483647)], [], [(1, []), (2, []), (3, []), (4, []), (5, []), (6, []), (7, []), (10, [])]), (31691265005705735037417580134464, [(10, (-1))])) = true := by decide +kernel
theorem ck_52_0 : CK 52 cc_52_0 := ⟨cw_52_0, ce_52_0, List.forall_mem_cons.mpr ⟨ch_52_0_0, List.forall_mem_nil _⟩⟩
theorem cw_50_0 : scwf cc_50_0 = true := by decide +kernel
theorem ce_50_0 : schE (hSx cpd) (hMx cpd) (hNx cpd) (hLx cpd) (hCx cpd) cG 10 zmt xo ctb 1000000 50 cc_50_0 = true := by decide +kernel
theorem ck_50_0 : CK 50 cc_50_0 := ⟨cw_50_0, ce_50_0, List.forall_mem_nil _⟩
