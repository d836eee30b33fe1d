/-! THE ENGINE, 44: the same, the reference's objects -/
set_option maxRecDepth 100000 in
theorem bm_476_0 : bTwo (bSpan 476 10) 0 = true := by decide +kernel
set_option maxRecDepth 100000 in
theorem bm_475_0 : bTwo (bSpan 475 1) 0 = true := by decide +kernel
