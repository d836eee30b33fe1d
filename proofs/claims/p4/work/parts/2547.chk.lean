/-! THE REFERENCE: checks (cost 65; printed by gen50.py) -/
theorem rh_418_0_5 : schH (rhS rHT) (rhM rHT) (rhN rHT) (rhL rHT) (fun _ _ => []) rhG 10 zmt xo rtb 1000000 418 rc_418_0 rch_418_0_5 = true := by decide +kernel
theorem rh_394_0_5 : schH (rhS rHT) (rhM rHT) (rhN rHT) (rhL rHT) (fun _ _ => []) rhG 10 zmt xo rtb 1000000 394 rc_394_0 rch_394_0_5 = true := by decide +kernel
theorem re_421_0 : schE (rhS rHT) (rhM rHT) (rhN rHT) (rhL rHT) (fun _ _ => []) rhG 10 zmt xo rtb 1000000 421 rc_421_0 = true := by decide +kernel
