/-! THE CLASS: checks (2392 steps; printed by gen40.py) -/
theorem cw_213_0 : scwf cc_213_0 = true := by decide +kernel
theorem ce_213_0 : schE (hSx cpd) (hMx cpd) (hNx cpd) (hLx cpd) (hCx cpd) cG 10 zmt xo ctb 1000000 213 cc_213_0 = true := by decide +kernel
theorem ck_213_0 : CK 213 cc_213_0 := ⟨cw_213_0, ce_213_0, List.forall_mem_nil _⟩
