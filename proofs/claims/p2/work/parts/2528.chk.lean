/-! THE REFERENCE: checks (2620 steps; printed by gen50.py) -/
theorem re_406_1 : schE (rhS rHT) (rhM rHT) (rhN rHT) (rhL rHT) (fun _ _ => []) rhG 10 zmt xo rtb 1000000 406 rc_406_1 = true := by decide +kernel
theorem rh_363_0_1 : schH (rhS rHT) (rhM rHT) (rhN rHT) (rhL rHT) (fun _ _ => []) rhG 10 zmt xo rtb 1000000 363 rc_363_0 rch_363_0_1 = true := by decide +kernel
theorem rh_395_0_0 : schH (rhS rHT) (rhM rHT) (rhN rHT) (rhL rHT) (fun _ _ => []) rhG 10 zmt xo rtb 1000000 395 rc_395_0 rch_395_0_0 = true := by decide +kernel
theorem rh_462_5_164 : schH (rhS rHT) (rhM rHT) (rhN rHT) (rhL rHT) (fun _ _ => []) rhG 10 zmt xo rtb 1000000 462 rc_462_5 rch_462_5_164 = true := by decide +kernel
theorem re_412_0 : schE (rhS rHT) (rhM rHT) (rhN rHT) (rhL rHT) (fun _ _ => []) rhG 10 zmt xo rtb 1000000 412 rc_412_0 = true := by decide +kernel
theorem re_360_0 : schE (rhS rHT) (rhM rHT) (rhN rHT) (rhL rHT) (fun _ _ => []) rhG 10 zmt xo rtb 1000000 360 rc_360_0 = true := by decide +kernel
theorem rh_452_0_1 : schH (rhS rHT) (rhM rHT) (rhN rHT) (rhL rHT) (fun _ _ => []) rhG 10 zmt xo rtb 1000000 452 rc_452_0 rch_452_0_1 = true := by decide +kernel
theorem re_439_0 : schE (rhS rHT) (rhM rHT) (rhN rHT) (rhL rHT) (fun _ _ => []) rhG 10 zmt xo rtb 1000000 439 rc_439_0 = true := by decide +kernel
