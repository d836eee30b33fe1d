/-! THE CLASS: checks (3021 steps; printed by gen40.py) -/
theorem cw_12_0 : scwf cc_12_0 = true := by decide +kernel
theorem ce_12_0 : schE (hSx cpd) (hMx cpd) (hNx cpd) (hLx cpd) (hCx cpd) cG 10 zmt xo ctb 1000000 12 cc_12_0 = true := by decide +kernel
theorem ch_12_0_0 : schH (hSx cpd) (hMx cpd) (hNx cpd) (hLx cpd) (hCx cpd) cG 10 zmt xo ctb 1000000 12 cc_12_0 (12, ([((0, 0, 0, (0, []), (0, [])), 3, 0, (0, [(0, 1)]), 0, 0, 0), ((0, 1, 0, (0, []), (0, [])), 0, 0, (0, [(1, 1)]), 0, 0, 0), ((1, 0, 4, (0, [(0, 1)]), (0, [])), 0, 0, (0, []), 1, 1, 3), ((0, 2, 0, (0, []), (0, [])), 0, 0, (0, []), 1, 0, 20000)], [], [(1, []), (2, []), (3, []), (4, []), (5, []), (6, []), (7, []), (10, [])]), (50706024009129176059868128235040, [(5, (-1))])) = true := by decide +kernel
theorem ck_12_0 : CK 12 cc_12_0 := ⟨cw_12_0, ce_12_0, List.forall_mem_cons.mpr ⟨ch_12_0_0, List.forall_mem_nil _⟩⟩
