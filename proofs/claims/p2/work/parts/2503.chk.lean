/-! THE REFERENCE: checks (2935 steps; printed by gen50.py) -/
theorem re_495_7 : schE (rhS rHT) (rhM rHT) (rhN rHT) (rhL rHT) (fun _ _ => []) rhG 10 zmt xo rtb 1000000 495 rc_495_7 = true := by decide +kernel
theorem re_495_8 : schE (rhS rHT) (rhM rHT) (rhN rHT) (rhL rHT) (fun _ _ => []) rhG 10 zmt xo rtb 1000000 495 rc_495_8 = true := by decide +kernel
theorem rh_368_8_18 : schH (rhS rHT) (rhM rHT) (rhN rHT) (rhL rHT) (fun _ _ => []) rhG 10 zmt xo rtb 1000000 368 rc_368_8 rch_368_8_18 = true := by decide +kernel
theorem rh_368_8_16 : schH (rhS rHT) (rhM rHT) (rhN rHT) (rhL rHT) (fun _ _ => []) rhG 10 zmt xo rtb 1000000 368 rc_368_8 rch_368_8_16 = true := by decide +kernel
theorem rh_368_8_19 : schH (rhS rHT) (rhM rHT) (rhN rHT) (rhL rHT) (fun _ _ => []) rhG 10 zmt xo rtb 1000000 368 rc_368_8 rch_368_8_19 = true := by decide +kernel
theorem rh_368_8_39 : schH (rhS rHT) (rhM rHT) (rhN rHT) (rhL rHT) (fun _ _ => []) rhG 10 zmt xo rtb 1000000 368 rc_368_8 rch_368_8_39 = true := by decide +kernel
theorem rh_368_8_69 : schH (rhS rHT) (rhM rHT) (rhN rHT) (rhL rHT) (fun _ _ => []) rhG 10 zmt xo rtb 1000000 368 rc_368_8 rch_368_8_69 = true := by decide +kernel
theorem rh_368_8_22 : schH (rhS rHT) (rhM rHT) (rhN rHT) (rhL rHT) (fun _ _ => []) rhG 10 zmt xo rtb 1000000 368 rc_368_8 rch_368_8_22 = true := by decide +kernel
theorem rh_368_8_17 : schH (rhS rHT) (rhM rHT) (rhN rHT) (rhL rHT) (fun _ _ => []) rhG 10 zmt xo rtb 1000000 368 rc_368_8 rch_368_8_17 = true := by decide +kernel
theorem re_368_0 : schE (rhS rHT) (rhM rHT) (rhN rHT) (rhL rHT) (fun _ _ => []) rhG 10 zmt xo rtb 1000000 368 rc_368_0 = true := by decide +kernel
theorem re_368_1 : schE (rhS rHT) (rhM rHT) (rhN rHT) (rhL rHT) (fun _ _ => []) rhG 10 zmt xo rtb 1000000 368 rc_368_1 = true := by decide +kernel
theorem re_368_7 : schE (rhS rHT) (rhM rHT) (rhN rHT) (rhL rHT) (fun _ _ => []) rhG 10 zmt xo rtb 1000000 368 rc_368_7 = true := by decide +kernel
theorem rh_368_8_13 : schH (rhS rHT) (rhM rHT) (rhN rHT) (rhL rHT) (fun _ _ => []) rhG 10 zmt xo rtb 1000000 368 rc_368_8 rch_368_8_13 = true := by decide +kernel
theorem rh_368_8_14 : schH (rhS rHT) (rhM rHT) (rhN rHT) (rhL rHT) (fun _ _ => []) rhG 10 zmt xo rtb 1000000 368 rc_368_8 rch_368_8_14 = true := by decide +kernel
theorem rh_368_8_64 : schH (rhS rHT) (rhM rHT) (rhN rHT) (rhL rHT) (fun _ _ => []) rhG 10 zmt xo rtb 1000000 368 rc_368_8 rch_368_8_64 = true := by decide +kernel
theorem rh_368_8_15 : schH (rhS rHT) (rhM rHT) (rhN rHT) (rhL rHT) (fun _ _ => []) rhG 10 zmt xo rtb 1000000 368 rc_368_8 rch_368_8_15 = true := by decide +kernel
theorem re_368_2 : schE (rhS rHT) (rhM rHT) (rhN rHT) (rhL rHT) (fun _ _ => []) rhG 10 zmt xo rtb 1000000 368 rc_368_2 = true := by decide +kernel
theorem rh_368_8_65 : schH (rhS rHT) (rhM rHT) (rhN rHT) (rhL rHT) (fun _ _ => []) rhG 10 zmt xo rtb 1000000 368 rc_368_8 rch_368_8_65 = true := by decide +kernel
