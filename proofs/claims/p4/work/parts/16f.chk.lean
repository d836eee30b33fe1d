/-! THE CLASS: checks (2425 steps; printed by gen40.py) -/
theorem cw_19_0 : scwf cc_19_0 = true := by decide +kernel
theorem ce_19_0 : schE (hSx cpd) (hMx cpd) (hNx cpd) (hLx cpd) (hCx cpd) cG 10 zmt xo ctb 1000000 19 cc_19_0 = true := by decide +kernel
theorem ch_19_0_0 : schH (hSx cpd) (hMx cpd) (hNx cpd) (hLx cpd) (hCx cpd) cG 10 zmt xo ctb 1000000 19 cc_19_0 (2, ([((0, 0, 0, (0, []), (0, [])), 3, 1, (0, [(0, 1)]), 0, 0, 0), ((0, 1, 0, (0, []), (0, [])), 3, 1, (0, [(1, 1)]), 0, 0, 0), ((0, 2, 0, (0, []), (0, [])), 0, 0, (0, []), 1, 0, 4)], [], [(1, []), (2, []), (3, []), (4, []), (5, []), (6, []), (7, []), (10, [])]), (88735542015976058104769224376324, [(4, (-1))])) = true := by decide +kernel
theorem ck_19_0 : CK 19 cc_19_0 := ⟨cw_19_0, ce_19_0, List.forall_mem_cons.mpr ⟨ch_19_0_0, List.forall_mem_nil _⟩⟩
theorem cw_7_0 : scwf cc_7_0 = true := by decide +kernel
theorem ce_7_0 : schE (hSx cpd) (hMx cpd) (hNx cpd) (hLx cpd) (hCx cpd) cG 10 zmt xo ctb 1000000 7 cc_7_0 = true := by decide +kernel
theorem ch_7_0_0 : schH (hSx cpd) (hMx cpd) (hNx cpd) (hLx cpd) (hCx cpd) cG 10 zmt xo ctb 1000000 7 cc_7_0 (13, ([((0, 0, 0, (0, []), (0, [])), 3, 0, (0, [(0, 1)]), 0, 0, 0), ((0, 1, 0, (0, []), (0, [])), 3, 1, (0, [(1, 1)]), 0, 0, 0), ((0, 2, 0, (0, []), (0, [])), 0, 0, (0, [(2, 1)]), 0, 0, 0), ((0, 3, 0, (0, []), (0, [])), 0, 0, (0, []), 1, (-2147483648), 2147483647), ((2, 47, 0, (3, [(1, 1)]), (0, [(2, 1)])), 0, 0, (0, [(6, 1)]), 0, 0, 0), ((0, 4, 0, (0, []), (0, [])), 0, 0, (0, []), 1, (-2147483648), 2147483647)], [], [(1, []), (2, []), (3, []), (4, []), (5, []), (6, []), (7, []), (10, [])]), (39297168607075111446399946850304, [(8, (-1))])) = true := by decide +kernel
theorem ck_7_0 : CK 7 cc_7_0 := ⟨cw_7_0, ce_7_0, List.forall_mem_cons.mpr ⟨ch_7_0_0, List.forall_mem_nil _⟩⟩
theorem cw_62_0 : scwf cc_62_0 = true := by decide +kernel
theorem ce_62_0 : schE (hSx cpd) (hMx cpd) (hNx cpd) (hLx cpd) (hCx cpd) cG 10 zmt xo ctb 1000000 62 cc_62_0 = true := by decide +kernel
theorem ck_62_0 : CK 62 cc_62_0 := ⟨cw_62_0, ce_62_0, List.forall_mem_nil _⟩
