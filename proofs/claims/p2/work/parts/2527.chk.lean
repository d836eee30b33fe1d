/-! THE REFERENCE: checks (2753 steps; printed by gen50.py) -/
theorem re_466_0 : schE (rhS rHT) (rhM rHT) (rhN rHT) (rhL rHT) (fun _ _ => []) rhG 10 zmt xo rtb 1000000 466 rc_466_0 = true := by decide +kernel
theorem re_337_1 : schE (rhS rHT) (rhM rHT) (rhN rHT) (rhL rHT) (fun _ _ => []) rhG 10 zmt xo rtb 1000000 337 rc_337_1 = true := by decide +kernel
theorem rh_462_5_112 : schH (rhS rHT) (rhM rHT) (rhN rHT) (rhL rHT) (fun _ _ => []) rhG 10 zmt xo rtb 1000000 462 rc_462_5 rch_462_5_112 = true := by decide +kernel
theorem rh_328_0_1 : schH (rhS rHT) (rhM rHT) (rhN rHT) (rhL rHT) (fun _ _ => []) rhG 10 zmt xo rtb 1000000 328 rc_328_0 rch_328_0_1 = true := by decide +kernel
theorem re_479_0 : schE (rhS rHT) (rhM rHT) (rhN rHT) (rhL rHT) (fun _ _ => []) rhG 10 zmt xo rtb 1000000 479 rc_479_0 = true := by decide +kernel
theorem re_480_2 : schE (rhS rHT) (rhM rHT) (rhN rHT) (rhL rHT) (fun _ _ => []) rhG 10 zmt xo rtb 1000000 480 rc_480_2 = true := by decide +kernel
theorem rh_422_0_0 : schH (rhS rHT) (rhM rHT) (rhN rHT) (rhL rHT) (fun _ _ => []) rhG 10 zmt xo rtb 1000000 422 rc_422_0 rch_422_0_0 = true := by decide +kernel
theorem re_474_0 : schE (rhS rHT) (rhM rHT) (rhN rHT) (rhL rHT) (fun _ _ => []) rhG 10 zmt xo rtb 1000000 474 rc_474_0 = true := by decide +kernel
theorem rh_426_0_0 : schH (rhS rHT) (rhM rHT) (rhN rHT) (rhL rHT) (fun _ _ => []) rhG 10 zmt xo rtb 1000000 426 rc_426_0 rch_426_0_0 = true := by decide +kernel
theorem re_406_0 : schE (rhS rHT) (rhM rHT) (rhN rHT) (rhL rHT) (fun _ _ => []) rhG 10 zmt xo rtb 1000000 406 rc_406_0 = true := by decide +kernel
