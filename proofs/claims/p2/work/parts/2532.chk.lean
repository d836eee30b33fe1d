/-! THE REFERENCE: checks (2901 steps; printed by gen50.py) -/
theorem re_410_1 : schE (rhS rHT) (rhM rHT) (rhN rHT) (rhL rHT) (fun _ _ => []) rhG 10 zmt xo rtb 1000000 410 rc_410_1 = true := by decide +kernel
theorem re_371_0 : schE (rhS rHT) (rhM rHT) (rhN rHT) (rhL rHT) (fun _ _ => []) rhG 10 zmt xo rtb 1000000 371 rc_371_0 = true := by decide +kernel
theorem re_401_0 : schE (rhS rHT) (rhM rHT) (rhN rHT) (rhL rHT) (fun _ _ => []) rhG 10 zmt xo rtb 1000000 401 rc_401_0 = true := by decide +kernel
theorem re_412_1 : schE (rhS rHT) (rhM rHT) (rhN rHT) (rhL rHT) (fun _ _ => []) rhG 10 zmt xo rtb 1000000 412 rc_412_1 = true := by decide +kernel
