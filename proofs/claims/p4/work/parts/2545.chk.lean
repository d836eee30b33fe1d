/-! THE REFERENCE: checks (cost 68; printed by gen50.py) -/
theorem re_426_0 : schE (rhS rHT) (rhM rHT) (rhN rHT) (rhL rHT) (fun _ _ => []) rhG 10 zmt xo rtb 1000000 426 rc_426_0 = true := by decide +kernel
theorem rh_385_1_3 : schH (rhS rHT) (rhM rHT) (rhN rHT) (rhL rHT) (fun _ _ => []) rhG 10 zmt xo rtb 1000000 385 rc_385_1 rch_385_1_3 = true := by decide +kernel
theorem re_394_1 : schE (rhS rHT) (rhM rHT) (rhN rHT) (rhL rHT) (fun _ _ => []) rhG 10 zmt xo rtb 1000000 394 rc_394_1 = true := by decide +kernel
theorem re_440_0 : schE (rhS rHT) (rhM rHT) (rhN rHT) (rhL rHT) (fun _ _ => []) rhG 10 zmt xo rtb 1000000 440 rc_440_0 = true := by decide +kernel
