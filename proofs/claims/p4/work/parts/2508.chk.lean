/-! THE REFERENCE: checks (cost 50; printed by gen50.py) -/
theorem re_410_1 : schE (rhS rHT) (rhM rHT) (rhN rHT) (rhL rHT) (fun _ _ => []) rhG 10 zmt xo rtb 1000000 410 rc_410_1 = true := by decide +kernel
