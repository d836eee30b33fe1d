/-! THE REFERENCE: checks (4975 steps; printed by gen50.py) -/
theorem re_368_8 : schE (rhS rHT) (rhM rHT) (rhN rHT) (rhL rHT) (fun _ _ => []) rhG 10 zmt xo rtb 1000000 368 rc_368_8 = true := by decide +kernel
