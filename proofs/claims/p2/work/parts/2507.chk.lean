/-! THE REFERENCE: checks (3177 steps; printed by gen50.py) -/
theorem re_394_0 : schE (rhS rHT) (rhM rHT) (rhN rHT) (rhL rHT) (fun _ _ => []) rhG 10 zmt xo rtb 1000000 394 rc_394_0 = true := by decide +kernel
