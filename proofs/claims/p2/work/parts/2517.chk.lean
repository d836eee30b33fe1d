/-! THE REFERENCE: checks (2990 steps; printed by gen50.py) -/
theorem rh_323_0_0 : schH (rhS rHT) (rhM rHT) (rhN rHT) (rhL rHT) (fun _ _ => []) rhG 10 zmt xo rtb 1000000 323 rc_323_0 rch_323_0_0 = true := by decide +kernel
theorem rh_452_0_0 : schH (rhS rHT) (rhM rHT) (rhN rHT) (rhL rHT) (fun _ _ => []) rhG 10 zmt xo rtb 1000000 452 rc_452_0 rch_452_0_0 = true := by decide +kernel
theorem rh_462_5_130 : schH (rhS rHT) (rhM rHT) (rhN rHT) (rhL rHT) (fun _ _ => []) rhG 10 zmt xo rtb 1000000 462 rc_462_5 rch_462_5_130 = true := by decide +kernel
theorem rh_462_5_162 : schH (rhS rHT) (rhM rHT) (rhN rHT) (rhL rHT) (fun _ _ => []) rhG 10 zmt xo rtb 1000000 462 rc_462_5 rch_462_5_162 = true := by decide +kernel
theorem re_368_2 : schE (rhS rHT) (rhM rHT) (rhN rHT) (rhL rHT) (fun _ _ => []) rhG 10 zmt xo rtb 1000000 368 rc_368_2 = true := by decide +kernel
theorem rh_368_8_65 : schH (rhS rHT) (rhM rHT) (rhN rHT) (rhL rHT) (fun _ _ => []) rhG 10 zmt xo rtb 1000000 368 rc_368_8 rch_368_8_65 = true := by decide +kernel
theorem rh_462_5_157 : schH (rhS rHT) (rhM rHT) (rhN rHT) (rhL rHT) (fun _ _ => []) rhG 10 zmt xo rtb 1000000 462 rc_462_5 rch_462_5_157 = true := by decide +kernel
theorem re_433_0 : schE (rhS rHT) (rhM rHT) (rhN rHT) (rhL rHT) (fun _ _ => []) rhG 10 zmt xo rtb 1000000 433 rc_433_0 = true := by decide +kernel
theorem rh_462_5_152 : schH (rhS rHT) (rhM rHT) (rhN rHT) (rhL rHT) (fun _ _ => []) rhG 10 zmt xo rtb 1000000 462 rc_462_5 rch_462_5_152 = true := by decide +kernel
theorem rh_462_5_47 : schH (rhS rHT) (rhM rHT) (rhN rHT) (rhL rHT) (fun _ _ => []) rhG 10 zmt xo rtb 1000000 462 rc_462_5 rch_462_5_47 = true := by decide +kernel
theorem rh_462_5_78 : schH (rhS rHT) (rhM rHT) (rhN rHT) (rhL rHT) (fun _ _ => []) rhG 10 zmt xo rtb 1000000 462 rc_462_5 rch_462_5_78 = true := by decide +kernel
theorem rh_462_5_100 : schH (rhS rHT) (rhM rHT) (rhN rHT) (rhL rHT) (fun _ _ => []) rhG 10 zmt xo rtb 1000000 462 rc_462_5 rch_462_5_100 = true := by decide +kernel
theorem rh_462_5_105 : schH (rhS rHT) (rhM rHT) (rhN rHT) (rhL rHT) (fun _ _ => []) rhG 10 zmt xo rtb 1000000 462 rc_462_5 rch_462_5_105 = true := by decide +kernel
theorem re_323_0 : schE (rhS rHT) (rhM rHT) (rhN rHT) (rhL rHT) (fun _ _ => []) rhG 10 zmt xo rtb 1000000 323 rc_323_0 = true := by decide +kernel
