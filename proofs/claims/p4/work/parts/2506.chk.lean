/-! THE REFERENCE: checks (cost 54; printed by gen50.py) -/
theorem re_427_0 : schE (rhS rHT) (rhM rHT) (rhN rHT) (rhL rHT) (fun _ _ => []) rhG 10 zmt xo rtb 1000000 427 rc_427_0 = true := by decide +kernel
