/-! THE REFERENCE: checks (cost 54; printed by gen50.py) -/
theorem re_412_1 : schE (rhS rHT) (rhM rHT) (rhN rHT) (rhL rHT) (fun _ _ => []) rhG 10 zmt xo rtb 1000000 412 rc_412_1 = true := by decide +kernel
