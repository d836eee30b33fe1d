/-! THE REFERENCE: checks (cost 56; printed by gen50.py) -/
theorem rh_376_3_2 : schH (rhS rHT) (rhM rHT) (rhN rHT) (rhL rHT) (fun _ _ => []) rhG 10 zmt xo rtb 1000000 376 rc_376_3 rch_376_3_2 = true := by decide +kernel
theorem rh_396_0_0 : schH (rhS rHT) (rhM rHT) (rhN rHT) (rhL rHT) (fun _ _ => []) rhG 10 zmt xo rtb 1000000 396 rc_396_0 rch_396_0_0 = true := by decide +kernel
theorem rh_376_4_2 : schH (rhS rHT) (rhM rHT) (rhN rHT) (rhL rHT) (fun _ _ => []) rhG 10 zmt xo rtb 1000000 376 rc_376_4 rch_376_4_2 = true := by decide +kernel
theorem re_437_0 : schE (rhS rHT) (rhM rHT) (rhN rHT) (rhL rHT) (fun _ _ => []) rhG 10 zmt xo rtb 1000000 437 rc_437_0 = true := by decide +kernel
