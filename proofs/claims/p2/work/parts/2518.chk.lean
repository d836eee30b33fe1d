/-! THE REFERENCE: checks (2929 steps; printed by gen50.py) -/
theorem rh_376_1_2 : schH (rhS rHT) (rhM rHT) (rhN rHT) (rhL rHT) (fun _ _ => []) rhG 10 zmt xo rtb 1000000 376 rc_376_1 rch_376_1_2 = true := by decide +kernel
theorem rh_376_2_2 : schH (rhS rHT) (rhM rHT) (rhN rHT) (rhL rHT) (fun _ _ => []) rhG 10 zmt xo rtb 1000000 376 rc_376_2 rch_376_2_2 = true := by decide +kernel
theorem rh_376_3_2 : schH (rhS rHT) (rhM rHT) (rhN rHT) (rhL rHT) (fun _ _ => []) rhG 10 zmt xo rtb 1000000 376 rc_376_3 rch_376_3_2 = true := by decide +kernel
theorem rh_376_4_2 : schH (rhS rHT) (rhM rHT) (rhN rHT) (rhL rHT) (fun _ _ => []) rhG 10 zmt xo rtb 1000000 376 rc_376_4 rch_376_4_2 = true := by decide +kernel
theorem rh_376_5_2 : schH (rhS rHT) (rhM rHT) (rhN rHT) (rhL rHT) (fun _ _ => []) rhG 10 zmt xo rtb 1000000 376 rc_376_5 rch_376_5_2 = true := by decide +kernel
theorem rh_462_5_154 : schH (rhS rHT) (rhM rHT) (rhN rHT) (rhL rHT) (fun _ _ => []) rhG 10 zmt xo rtb 1000000 462 rc_462_5 rch_462_5_154 = true := by decide +kernel
theorem re_303_2 : schE (rhS rHT) (rhM rHT) (rhN rHT) (rhL rHT) (fun _ _ => []) rhG 10 zmt xo rtb 1000000 303 rc_303_2 = true := by decide +kernel
theorem re_314_0 : schE (rhS rHT) (rhM rHT) (rhN rHT) (rhL rHT) (fun _ _ => []) rhG 10 zmt xo rtb 1000000 314 rc_314_0 = true := by decide +kernel
theorem re_314_1 : schE (rhS rHT) (rhM rHT) (rhN rHT) (rhL rHT) (fun _ _ => []) rhG 10 zmt xo rtb 1000000 314 rc_314_1 = true := by decide +kernel
theorem re_314_2 : schE (rhS rHT) (rhM rHT) (rhN rHT) (rhL rHT) (fun _ _ => []) rhG 10 zmt xo rtb 1000000 314 rc_314_2 = true := by decide +kernel
theorem rh_462_5_4 : schH (rhS rHT) (rhM rHT) (rhN rHT) (rhL rHT) (fun _ _ => []) rhG 10 zmt xo rtb 1000000 462 rc_462_5 rch_462_5_4 = true := by decide +kernel
theorem rh_462_5_5 : schH (rhS rHT) (rhM rHT) (rhN rHT) (rhL rHT) (fun _ _ => []) rhG 10 zmt xo rtb 1000000 462 rc_462_5 rch_462_5_5 = true := by decide +kernel
theorem rh_462_5_6 : schH (rhS rHT) (rhM rHT) (rhN rHT) (rhL rHT) (fun _ _ => []) rhG 10 zmt xo rtb 1000000 462 rc_462_5 rch_462_5_6 = true := by decide +kernel
theorem rh_462_5_8 : schH (rhS rHT) (rhM rHT) (rhN rHT) (rhL rHT) (fun _ _ => []) rhG 10 zmt xo rtb 1000000 462 rc_462_5 rch_462_5_8 = true := by decide +kernel
theorem rh_462_5_10 : schH (rhS rHT) (rhM rHT) (rhN rHT) (rhL rHT) (fun _ _ => []) rhG 10 zmt xo rtb 1000000 462 rc_462_5 rch_462_5_10 = true := by decide +kernel
theorem rh_462_5_11 : schH (rhS rHT) (rhM rHT) (rhN rHT) (rhL rHT) (fun _ _ => []) rhG 10 zmt xo rtb 1000000 462 rc_462_5 rch_462_5_11 = true := by decide +kernel
theorem rh_462_5_12 : schH (rhS rHT) (rhM rHT) (rhN rHT) (rhL rHT) (fun _ _ => []) rhG 10 zmt xo rtb 1000000 462 rc_462_5 rch_462_5_12 = true := by decide +kernel
theorem rh_462_5_16 : schH (rhS rHT) (rhM rHT) (rhN rHT) (rhL rHT) (fun _ _ => []) rhG 10 zmt xo rtb 1000000 462 rc_462_5 rch_462_5_16 = true := by decide +kernel
theorem rh_462_5_17 : schH (rhS rHT) (rhM rHT) (rhN rHT) (rhL rHT) (fun _ _ => []) rhG 10 zmt xo rtb 1000000 462 rc_462_5 rch_462_5_17 = true := by decide +kernel
