/-! THE REFERENCE: checks (cost 56; printed by gen50.py) -/
theorem rh_376_1_0 : schH (rhS rHT) (rhM rHT) (rhN rHT) (rhL rHT) (fun _ _ => []) rhG 10 zmt xo rtb 1000000 376 rc_376_1 rch_376_1_0 = true := by decide +kernel
theorem rh_376_0_0 : schH (rhS rHT) (rhM rHT) (rhN rHT) (rhL rHT) (fun _ _ => []) rhG 10 zmt xo rtb 1000000 376 rc_376_0 rch_376_0_0 = true := by decide +kernel
