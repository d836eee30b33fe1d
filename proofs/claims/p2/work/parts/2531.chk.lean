/-! THE REFERENCE: checks (2367 steps; printed by gen50.py) -/
theorem re_330_2 : schE (rhS rHT) (rhM rHT) (rhN rHT) (rhL rHT) (fun _ _ => []) rhG 10 zmt xo rtb 1000000 330 rc_330_2 = true := by decide +kernel
theorem re_330_0 : schE (rhS rHT) (rhM rHT) (rhN rHT) (rhL rHT) (fun _ _ => []) rhG 10 zmt xo rtb 1000000 330 rc_330_0 = true := by decide +kernel
theorem re_330_1 : schE (rhS rHT) (rhM rHT) (rhN rHT) (rhL rHT) (fun _ _ => []) rhG 10 zmt xo rtb 1000000 330 rc_330_1 = true := by decide +kernel
theorem re_421_0 : schE (rhS rHT) (rhM rHT) (rhN rHT) (rhL rHT) (fun _ _ => []) rhG 10 zmt xo rtb 1000000 421 rc_421_0 = true := by decide +kernel
