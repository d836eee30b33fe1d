/-! THE REFERENCE: checks (cost 69; printed by gen50.py) -/
theorem re_413_0 : schE (rhS rHT) (rhM rHT) (rhN rHT) (rhL rHT) (fun _ _ => []) rhG 10 zmt xo rtb 1000000 413 rc_413_0 = true := by decide +kernel
theorem rh_376_5_0 : schH (rhS rHT) (rhM rHT) (rhN rHT) (rhL rHT) (fun _ _ => []) rhG 10 zmt xo rtb 1000000 376 rc_376_5 rch_376_5_0 = true := by decide +kernel
