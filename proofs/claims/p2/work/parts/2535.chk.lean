/-! THE REFERENCE: checks (2774 steps; printed by gen50.py) -/
theorem rh_376_5_0 : schH (rhS rHT) (rhM rHT) (rhN rHT) (rhL rHT) (fun _ _ => []) rhG 10 zmt xo rtb 1000000 376 rc_376_5 rch_376_5_0 = true := by decide +kernel
theorem re_453_0 : schE (rhS rHT) (rhM rHT) (rhN rHT) (rhL rHT) (fun _ _ => []) rhG 10 zmt xo rtb 1000000 453 rc_453_0 = true := by decide +kernel
theorem rh_451_0_0 : schH (rhS rHT) (rhM rHT) (rhN rHT) (rhL rHT) (fun _ _ => []) rhG 10 zmt xo rtb 1000000 451 rc_451_0 rch_451_0_0 = true := by decide +kernel
