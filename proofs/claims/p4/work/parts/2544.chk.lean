/-! THE REFERENCE: checks (cost 64; printed by gen50.py) -/
theorem rh_418_0_7 : schH (rhS rHT) (rhM rHT) (rhN rHT) (rhL rHT) (fun _ _ => []) rhG 10 zmt xo rtb 1000000 418 rc_418_0 rch_418_0_7 = true := by decide +kernel
theorem rh_421_0_1 : schH (rhS rHT) (rhM rHT) (rhN rHT) (rhL rHT) (fun _ _ => []) rhG 10 zmt xo rtb 1000000 421 rc_421_0 rch_421_0_1 = true := by decide +kernel
theorem re_453_0 : schE (rhS rHT) (rhM rHT) (rhN rHT) (rhL rHT) (fun _ _ => []) rhG 10 zmt xo rtb 1000000 453 rc_453_0 = true := by decide +kernel
theorem rh_385_1_2 : schH (rhS rHT) (rhM rHT) (rhN rHT) (rhL rHT) (fun _ _ => []) rhG 10 zmt xo rtb 1000000 385 rc_385_1 rch_385_1_2 = true := by decide +kernel
