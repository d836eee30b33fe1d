/-! THE REFERENCE: checks (cost 53; printed by gen50.py) -/
theorem re_429_0 : schE (rhS rHT) (rhM rHT) (rhN rHT) (rhL rHT) (fun _ _ => []) rhG 10 zmt xo rtb 1000000 429 rc_429_0 = true := by decide +kernel
