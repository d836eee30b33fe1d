/-! THE ENGINE, 45: the same, with the formatter; the shape from all spans -/
set_option maxRecDepth 100000 in
theorem bm_0_1 : bTwo (bSpan 0 100) 1 = true := by decide +kernel
set_option maxRecDepth 100000 in
theorem bm_100_1 : bTwo (bSpan 100 192) 1 = true := by decide +kernel
set_option maxRecDepth 100000 in
theorem bm_292_1 : bTwo (bSpan 292 183) 1 = true := by decide +kernel
set_option maxRecDepth 100000 in
theorem bm_476_1 : bTwo (bSpan 476 10) 1 = true := by decide +kernel
set_option maxRecDepth 100000 in
theorem bm_475_1 : bTwo (bSpan 475 1) 1 = true := by decide +kernel
