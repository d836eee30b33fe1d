/-! THE CLASS: checks (784 steps; printed by gen40.py) -/
theorem cw_19_0 : scwf cc_19_0 = true := by decide +kernel
theorem ce_19_0 : schE (hSx cpd) (hMx cpd) (hNx cpd) (hLx cpd) (hCx cpd) cG 10 zmt xo ctb 1000000 19 cc_19_0 = true := by decide +kernel
theorem ch_19_0_0 : schH (hSx cpd) (hMx cpd) (hNx cpd) (hLx cpd) (hCx cpd) cG 10 zmt xo ctb 1000000 19 cc_19_0 (2, ([((0, 0, 0, (0, []), (0, [])), 3, 1, (0, [(0, 1)]), 0, 0, 0), ((0, 1, 0, (0, []), (0, [])), 3, 1, (0, [(1, 1)]), 0, 0, 0), ((0, 2, 0, (0, []), (0, [])), 0, 0, (0, []), 1, 0, 4)], [], [(1, []), (2, []), (3, []), (4, []), (5, []), (6, []), (7, []), (10, [])]), (88735542015976058104769224376324, [(4, (-1))])) = true := by decide +kernel
