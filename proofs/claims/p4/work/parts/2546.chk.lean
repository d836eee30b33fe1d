/-! THE REFERENCE: checks (cost 56; printed by gen50.py) -/
theorem re_380_0 : schE (rhS rHT) (rhM rHT) (rhN rHT) (rhL rHT) (fun _ _ => []) rhG 10 zmt xo rtb 1000000 380 rc_380_0 = true := by decide +kernel
theorem rh_418_0_4 : schH (rhS rHT) (rhM rHT) (rhN rHT) (rhL rHT) (fun _ _ => []) rhG 10 zmt xo rtb 1000000 418 rc_418_0 rch_418_0_4 = true := by decide +kernel
theorem re_394_0 : schE (rhS rHT) (rhM rHT) (rhN rHT) (rhL rHT) (fun _ _ => []) rhG 10 zmt xo rtb 1000000 394 rc_394_0 = true := by decide +kernel
