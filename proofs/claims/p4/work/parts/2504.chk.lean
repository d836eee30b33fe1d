/-! THE REFERENCE: checks (cost 55; printed by gen50.py) -/
theorem re_494_0 : schE (rhS rHT) (rhM rHT) (rhN rHT) (rhL rHT) (fun _ _ => []) rhG 10 zmt xo rtb 1000000 494 rc_494_0 = true := by decide +kernel
