/-! THE REFERENCE: checks (2551 steps; printed by gen50.py) -/
theorem re_303_6 : schE (rhS rHT) (rhM rHT) (rhN rHT) (rhL rHT) (fun _ _ => []) rhG 10 zmt xo rtb 1000000 303 rc_303_6 = true := by decide +kernel
theorem re_408_0 : schE (rhS rHT) (rhM rHT) (rhN rHT) (rhL rHT) (fun _ _ => []) rhG 10 zmt xo rtb 1000000 408 rc_408_0 = true := by decide +kernel
theorem re_408_1 : schE (rhS rHT) (rhM rHT) (rhN rHT) (rhL rHT) (fun _ _ => []) rhG 10 zmt xo rtb 1000000 408 rc_408_1 = true := by decide +kernel
theorem re_429_0 : schE (rhS rHT) (rhM rHT) (rhN rHT) (rhL rHT) (fun _ _ => []) rhG 10 zmt xo rtb 1000000 429 rc_429_0 = true := by decide +kernel
theorem re_469_0 : schE (rhS rHT) (rhM rHT) (rhN rHT) (rhL rHT) (fun _ _ => []) rhG 10 zmt xo rtb 1000000 469 rc_469_0 = true := by decide +kernel
theorem re_441_0 : schE (rhS rHT) (rhM rHT) (rhN rHT) (rhL rHT) (fun _ _ => []) rhG 10 zmt xo rtb 1000000 441 rc_441_0 = true := by decide +kernel
