/-! THE REFERENCE: checks (cost 35; printed by gen50.py) -/
theorem rh_376_4_0 : schH (rhS rHT) (rhM rHT) (rhN rHT) (rhL rHT) (fun _ _ => []) rhG 10 zmt xo rtb 1000000 376 rc_376_4 rch_376_4_0 = true := by decide +kernel
