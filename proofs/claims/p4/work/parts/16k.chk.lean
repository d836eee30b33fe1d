/-! THE CLASS: checks (1980 steps; printed by gen40.py) -/
theorem cw_73_0 : scwf cc_73_0 = true := by decide +kernel
theorem ce_73_0 : schE (hSx cpd) (hMx cpd) (hNx cpd) (hLx cpd) (hCx cpd) cG 10 zmt xo ctb 1000000 73 cc_73_0 = true := by decide +kernel
theorem ck_73_0 : CK 73 cc_73_0 := ⟨cw_73_0, ce_73_0, List.forall_mem_nil _⟩
