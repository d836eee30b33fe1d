/-! THE CLASS: checks (3000 steps; printed by gen40.py) -/
theorem cw_136_0 : scwf cc_136_0 = true := by decide +kernel
theorem ce_136_0 : schE (hSx cpd) (hMx cpd) (hNx cpd) (hLx cpd) (hCx cpd) cG 10 zmt xo ctb 1000000 136 cc_136_0 = true := by decide +kernel
theorem ck_136_0 : CK 136 cc_136_0 := ⟨cw_136_0, ce_136_0, List.forall_mem_nil _⟩
