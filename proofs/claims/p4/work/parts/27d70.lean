/-! THE START, 3: the reference's row is zero (0) -/
set_option maxRecDepth 100000 in
theorem br_0 : bTwo bRz 0 = true := by decide +kernel
