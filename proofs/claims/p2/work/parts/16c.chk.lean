/-! THE CLASS: checks (171 steps; printed by gen40.py) -/
theorem cw_267_0 : scwf cc_267_0 = true := by decide +kernel
theorem ce_267_0 : schE (hSx cpd) (hMx cpd) (hNx cpd) (hLx cpd) (hCx cpd) cG 10 zmt xo ctb 1000000 267 cc_267_0 = true := by decide +kernel
