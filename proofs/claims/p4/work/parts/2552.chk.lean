/-! THE REFERENCE: checks (cost 64; printed by gen50.py) -/
theorem re_368_8 : schE (rhS rHT) (rhM rHT) (rhN rHT) (rhL rHT) (fun _ _ => []) rhG 10 zmt xo rtb 1000000 368 rc_368_8 = true := by decide +kernel
theorem rh_376_3_0 : schH (rhS rHT) (rhM rHT) (rhN rHT) (rhL rHT) (fun _ _ => []) rhG 10 zmt xo rtb 1000000 376 rc_376_3 rch_376_3_0 = true := by decide +kernel
