/-! THE REFERENCE: checks (2428 steps; printed by gen50.py) -/
theorem re_417_0 : schE (rhS rHT) (rhM rHT) (rhN rHT) (rhL rHT) (fun _ _ => []) rhG 10 zmt xo rtb 1000000 417 rc_417_0 = true := by decide +kernel
theorem re_427_0 : schE (rhS rHT) (rhM rHT) (rhN rHT) (rhL rHT) (fun _ _ => []) rhG 10 zmt xo rtb 1000000 427 rc_427_0 = true := by decide +kernel
