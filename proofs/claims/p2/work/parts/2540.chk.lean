/-! THE REFERENCE: checks (1785 steps; printed by gen50.py) -/
theorem re_426_0 : schE (rhS rHT) (rhM rHT) (rhN rHT) (rhL rHT) (fun _ _ => []) rhG 10 zmt xo rtb 1000000 426 rc_426_0 = true := by decide +kernel
