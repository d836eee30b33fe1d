/-! THE CLASS: checks (2960 steps; printed by gen40.py) -/
theorem cw_37_0 : scwf cc_37_0 = true := by decide +kernel
theorem ce_37_0 : schE (hSx cpd) (hMx cpd) (hNx cpd) (hLx cpd) (hCx cpd) cG 10 zmt xo ctb 1000000 37 cc_37_0 = true := by decide +kernel
theorem ck_37_0 : CK 37 cc_37_0 := ⟨cw_37_0, ce_37_0, List.forall_mem_nil _⟩
theorem cw_90_0 : scwf cc_90_0 = true := by decide +kernel
theorem ce_90_0 : schE (hSx cpd) (hMx cpd) (hNx cpd) (hLx cpd) (hCx cpd) cG 10 zmt xo ctb 1000000 90 cc_90_0 = true := by decide +kernel
theorem ck_90_0 : CK 90 cc_90_0 := ⟨cw_90_0, ce_90_0, List.forall_mem_nil _⟩
