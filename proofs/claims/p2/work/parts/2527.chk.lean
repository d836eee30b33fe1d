/-! THE REFERENCE: checks (2992 steps; printed by gen50.py) -/
theorem re_371_0 : schE (rhS rHT) (rhM rHT) (rhN rHT) (rhL rHT) (fun _ _ => []) rhG 10 zmt xo rtb 1000000 371 rc_371_0 = true := by decide +kernel
theorem re_401_0 : schE (rhS rHT) (rhM rHT) (rhN rHT) (rhL rHT) (fun _ _ => []) rhG 10 zmt xo rtb 1000000 401 rc_401_0 = true := by decide +kernel
theorem re_494_0 : schE (rhS rHT) (rhM rHT) (rhN rHT) (rhL rHT) (fun _ _ => []) rhG 10 zmt xo rtb 1000000 494 rc_494_0 = true := by decide +kernel
theorem re_412_1 : schE (rhS rHT) (rhM rHT) (rhN rHT) (rhL rHT) (fun _ _ => []) rhG 10 zmt xo rtb 1000000 412 rc_412_1 = true := by decide +kernel
