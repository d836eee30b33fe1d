/-! THE REFERENCE: checks (cost 69; printed by gen50.py) -/
theorem rh_368_8_140 : schH (rhS rHT) (rhM rHT) (rhN rHT) (rhL rHT) (fun _ _ => []) rhG 10 zmt xo rtb 1000000 368 rc_368_8 rch_368_8_140 = true := by decide +kernel
theorem rh_480_2_3 : schH (rhS rHT) (rhM rHT) (rhN rHT) (rhL rHT) (fun _ _ => []) rhG 10 zmt xo rtb 1000000 480 rc_480_2 rch_480_2_3 = true := by decide +kernel
theorem rh_462_5_161 : schH (rhS rHT) (rhM rHT) (rhN rHT) (rhL rHT) (fun _ _ => []) rhG 10 zmt xo rtb 1000000 462 rc_462_5 rch_462_5_161 = true := by decide +kernel
theorem rh_462_5_163 : schH (rhS rHT) (rhM rHT) (rhN rHT) (rhL rHT) (fun _ _ => []) rhG 10 zmt xo rtb 1000000 462 rc_462_5 rch_462_5_163 = true := by decide +kernel
theorem rh_400_0_1 : schH (rhS rHT) (rhM rHT) (rhN rHT) (rhL rHT) (fun _ _ => []) rhG 10 zmt xo rtb 1000000 400 rc_400_0 rch_400_0_1 = true := by decide +kernel
theorem rh_462_5_170 : schH (rhS rHT) (rhM rHT) (rhN rHT) (rhL rHT) (fun _ _ => []) rhG 10 zmt xo rtb 1000000 462 rc_462_5 rch_462_5_170 = true := by decide +kernel
theorem rh_385_1_8 : schH (rhS rHT) (rhM rHT) (rhN rHT) (rhL rHT) (fun _ _ => []) rhG 10 zmt xo rtb 1000000 385 rc_385_1 rch_385_1_8 = true := by decide +kernel
theorem rh_368_8_138 : schH (rhS rHT) (rhM rHT) (rhN rHT) (rhL rHT) (fun _ _ => []) rhG 10 zmt xo rtb 1000000 368 rc_368_8 rch_368_8_138 = true := by decide +kernel
theorem re_410_0 : schE (rhS rHT) (rhM rHT) (rhN rHT) (rhL rHT) (fun _ _ => []) rhG 10 zmt xo rtb 1000000 410 rc_410_0 = true := by decide +kernel
theorem rh_422_0_1 : schH (rhS rHT) (rhM rHT) (rhN rHT) (rhL rHT) (fun _ _ => []) rhG 10 zmt xo rtb 1000000 422 rc_422_0 rch_422_0_1 = true := by decide +kernel
theorem re_439_0 : schE (rhS rHT) (rhM rHT) (rhN rHT) (rhL rHT) (fun _ _ => []) rhG 10 zmt xo rtb 1000000 439 rc_439_0 = true := by decide +kernel
theorem rh_400_0_11 : schH (rhS rHT) (rhM rHT) (rhN rHT) (rhL rHT) (fun _ _ => []) rhG 10 zmt xo rtb 1000000 400 rc_400_0 rch_400_0_11 = true := by decide +kernel
theorem rh_448_0_3 : schH (rhS rHT) (rhM rHT) (rhN rHT) (rhL rHT) (fun _ _ => []) rhG 10 zmt xo rtb 1000000 448 rc_448_0 rch_448_0_3 = true := by decide +kernel
