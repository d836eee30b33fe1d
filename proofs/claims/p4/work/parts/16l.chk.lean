/-! THE CLASS: checks (2357 steps; printed by gen40.py) -/
theorem cw_33_0 : scwf cc_33_0 = true := by decide +kernel
theorem ce_33_0 : schE (hSx cpd) (hMx cpd) (hNx cpd) (hLx cpd) (hCx cpd) cG 10 zmt xo ctb 1000000 33 cc_33_0 = true := by decide +kernel
theorem ck_33_0 : CK 33 cc_33_0 := ⟨cw_33_0, ce_33_0, List.forall_mem_nil _⟩
