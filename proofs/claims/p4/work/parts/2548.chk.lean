/-! THE REFERENCE: checks (cost 49; printed by gen50.py) -/
theorem re_371_0 : schE (rhS rHT) (rhM rHT) (rhN rHT) (rhL rHT) (fun _ _ => []) rhG 10 zmt xo rtb 1000000 371 rc_371_0 = true := by decide +kernel
theorem re_441_0 : schE (rhS rHT) (rhM rHT) (rhN rHT) (rhL rHT) (fun _ _ => []) rhG 10 zmt xo rtb 1000000 441 rc_441_0 = true := by decide +kernel
