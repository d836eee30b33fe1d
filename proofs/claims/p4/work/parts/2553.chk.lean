/-! THE REFERENCE: checks (cost 66; printed by gen50.py) -/
theorem rh_376_2_0 : schH (rhS rHT) (rhM rHT) (rhN rHT) (rhL rHT) (fun _ _ => []) rhG 10 zmt xo rtb 1000000 376 rc_376_2 rch_376_2_0 = true := by decide +kernel
theorem rh_452_0_1 : schH (rhS rHT) (rhM rHT) (rhN rHT) (rhL rHT) (fun _ _ => []) rhG 10 zmt xo rtb 1000000 452 rc_452_0 rch_452_0_1 = true := by decide +kernel
