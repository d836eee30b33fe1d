/-! THE REFERENCE: checks (cost 60; printed by gen50.py) -/
theorem rh_368_8_124 : schH (rhS rHT) (rhM rHT) (rhN rHT) (rhL rHT) (fun _ _ => []) rhG 10 zmt xo rtb 1000000 368 rc_368_8 rch_368_8_124 = true := by decide +kernel
theorem rh_452_0_0 : schH (rhS rHT) (rhM rHT) (rhN rHT) (rhL rHT) (fun _ _ => []) rhG 10 zmt xo rtb 1000000 452 rc_452_0 rch_452_0_0 = true := by decide +kernel
