/-! THE START, 1b -/
set_option maxRecDepth 100000 in
theorem bq2_0 : bTwo (pPre 2) 0 = true := by decide +kernel
set_option maxRecDepth 100000 in
theorem bq2_1 : bTwo (pPre 2) 1 = true := by decide +kernel
set_option maxRecDepth 100000 in
theorem bq6_0 : bTwo (pPre 6) 0 = true := by decide +kernel
set_option maxRecDepth 100000 in
theorem bq6_1 : bTwo (pPre 6) 1 = true := by decide +kernel
