/-! THE REFERENCE: checks (2003 steps; printed by gen50.py) -/
theorem re_368_9 : schE (rhS rHT) (rhM rHT) (rhN rHT) (rhL rHT) (fun _ _ => []) rhG 10 zmt xo rtb 1000000 368 rc_368_9 = true := by decide +kernel
theorem rh_451_0_0 : schH (rhS rHT) (rhM rHT) (rhN rHT) (rhL rHT) (fun _ _ => []) rhG 10 zmt xo rtb 1000000 451 rc_451_0 rch_451_0_0 = true := by decide +kernel
