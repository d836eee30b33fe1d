/-! THE REFERENCE: checks (cost 54; printed by gen50.py) -/
theorem re_330_0 : schE (rhS rHT) (rhM rHT) (rhN rHT) (rhL rHT) (fun _ _ => []) rhG 10 zmt xo rtb 1000000 330 rc_330_0 = true := by decide +kernel
theorem re_330_1 : schE (rhS rHT) (rhM rHT) (rhN rHT) (rhL rHT) (fun _ _ => []) rhG 10 zmt xo rtb 1000000 330 rc_330_1 = true := by decide +kernel
