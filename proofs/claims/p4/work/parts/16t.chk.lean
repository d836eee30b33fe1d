/-! THE CLASS: checks (3623 steps; printed by gen40.py) -/
theorem cw_98_0 : scwf cc_98_0 = true := by decide +kernel
theorem ce_98_0 : schE (hSx cpd) (hMx cpd) (hNx cpd) (hLx cpd) (hCx cpd) cG 10 zmt xo ctb 1000000 98 cc_98_0 = true := by decide +kernel
theorem ck_98_0 : CK 98 cc_98_0 := ⟨cw_98_0, ce_98_0, List.forall_mem_nil _⟩
