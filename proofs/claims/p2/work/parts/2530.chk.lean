/-! THE REFERENCE: checks (2547 steps; printed by gen50.py) -/
theorem rh_396_0_0 : schH (rhS rHT) (rhM rHT) (rhN rHT) (rhL rHT) (fun _ _ => []) rhG 10 zmt xo rtb 1000000 396 rc_396_0 rch_396_0_0 = true := by decide +kernel
theorem re_302_6 : schE (rhS rHT) (rhM rHT) (rhN rHT) (rhL rHT) (fun _ _ => []) rhG 10 zmt xo rtb 1000000 302 rc_302_6 = true := by decide +kernel
theorem re_410_0 : schE (rhS rHT) (rhM rHT) (rhN rHT) (rhL rHT) (fun _ _ => []) rhG 10 zmt xo rtb 1000000 410 rc_410_0 = true := by decide +kernel
theorem re_413_0 : schE (rhS rHT) (rhM rHT) (rhN rHT) (rhL rHT) (fun _ _ => []) rhG 10 zmt xo rtb 1000000 413 rc_413_0 = true := by decide +kernel
theorem re_380_0 : schE (rhS rHT) (rhM rHT) (rhN rHT) (rhL rHT) (fun _ _ => []) rhG 10 zmt xo rtb 1000000 380 rc_380_0 = true := by decide +kernel
