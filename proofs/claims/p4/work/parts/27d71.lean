/-! THE START, 3: the reference's row is zero (1) -/
set_option maxRecDepth 100000 in
theorem br_1 : bTwo bRz 1 = true := by decide +kernel
