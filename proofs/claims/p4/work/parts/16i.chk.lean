/-! THE CLASS: checks (2833 steps; printed by gen40.py) -/
theorem cw_104_0 : scwf cc_104_0 = true := by decide +kernel
theorem ce_104_0 : schE (hSx cpd) (hMx cpd) (hNx cpd) (hLx cpd) (hCx cpd) cG 10 zmt xo ctb 1000000 104 cc_104_0 = true := by decide +kernel
theorem ch_104_0_0 : schH (hSx cpd) (hMx cpd) (hNx cpd) (hLx cpd) (hCx cpd) cG 10 zmt xo ctb 1000000 104 cc_104_0 (9, ([((0, 0, 0, (0, []), (0, [])), 3, 3, (0, [(0, 1)]), 0, 0, 0), ((1, 3, 8, (0, [(0, 1)]), (0, [])), 0, 0, (0, [(2, 1)]), 0, 0, 0), ((1, 3, 9, (0, [(0, 1)]), (0, [])), 0, 0, (0, [(1, 1)]), 0, 0, 0), ((0, 1, 0, (0, []), (0, [])), 0, 0, (0, []), 1, 0, 2147483647)], [(0, [(2, (-1)), (6, 1)]), (0, [(1, 1)]), (4000, [(2, (-1))]), (0, [(1, 1), (2, (-1))])], [(1, []), (2, []), (3, []), (4, []), (5, []), (6, []), (7, []), (10, []), (1, []), (2, []), (3, []), (4, []), (5, []), (6, []), (7, []), (10, [])]), (63382530011411470074837307752447, [(6, (-1))])) = true := by decide +kernel
theorem ck_104_0 : CK 104 cc_104_0 := ⟨cw_104_0, ce_104_0, List.forall_mem_cons.mpr ⟨ch_104_0_0, List.forall_mem_nil _⟩⟩
theorem cw_210_0 : scwf cc_210_0 = true := by decide +kernel
theorem ce_210_0 : schE (hSx cpd) (hMx cpd) (hNx cpd) (hLx cpd) (hCx cpd) cG 10 zmt xo ctb 1000000 210 cc_210_0 = true := by decide +kernel
theorem ck_210_0 : CK 210 cc_210_0 := ⟨cw_210_0, ce_210_0, List.forall_mem_nil _⟩
