/-! THE REFERENCE: checks (3007 steps; printed by gen50.py) -/
theorem rh_368_8_41 : schH (rhS rHT) (rhM rHT) (rhN rHT) (rhL rHT) (fun _ _ => []) rhG 10 zmt xo rtb 1000000 368 rc_368_8 rch_368_8_41 = true := by decide +kernel
