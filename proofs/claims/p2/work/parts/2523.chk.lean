/-! THE REFERENCE: checks (2725 steps; printed by gen50.py) -/
theorem re_408_1 : schE (rhS rHT) (rhM rHT) (rhN rHT) (rhL rHT) (fun _ _ => []) rhG 10 zmt xo rtb 1000000 408 rc_408_1 = true := by decide +kernel
theorem re_429_0 : schE (rhS rHT) (rhM rHT) (rhN rHT) (rhL rHT) (fun _ _ => []) rhG 10 zmt xo rtb 1000000 429 rc_429_0 = true := by decide +kernel
theorem re_469_0 : schE (rhS rHT) (rhM rHT) (rhN rHT) (rhL rHT) (fun _ _ => []) rhG 10 zmt xo rtb 1000000 469 rc_469_0 = true := by decide +kernel
theorem re_441_0 : schE (rhS rHT) (rhM rHT) (rhN rHT) (rhL rHT) (fun _ _ => []) rhG 10 zmt xo rtb 1000000 441 rc_441_0 = true := by decide +kernel
theorem rh_396_0_0 : schH (rhS rHT) (rhM rHT) (rhN rHT) (rhL rHT) (fun _ _ => []) rhG 10 zmt xo rtb 1000000 396 rc_396_0 rch_396_0_0 = true := by decide +kernel
theorem rh_368_8_58 : schH (rhS rHT) (rhM rHT) (rhN rHT) (rhL rHT) (fun _ _ => []) rhG 10 zmt xo rtb 1000000 368 rc_368_8 rch_368_8_58 = true := by decide +kernel
