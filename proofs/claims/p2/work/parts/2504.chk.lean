/-! THE REFERENCE: checks (2969 steps; printed by gen50.py) -/
theorem re_365_0 : schE (rhS rHT) (rhM rHT) (rhN rHT) (rhL rHT) (fun _ _ => []) rhG 10 zmt xo rtb 1000000 365 rc_365_0 = true := by decide +kernel
theorem rh_368_2_2 : schH (rhS rHT) (rhM rHT) (rhN rHT) (rhL rHT) (fun _ _ => []) rhG 10 zmt xo rtb 1000000 368 rc_368_2 rch_368_2_2 = true := by decide +kernel
theorem rh_368_8_36 : schH (rhS rHT) (rhM rHT) (rhN rHT) (rhL rHT) (fun _ _ => []) rhG 10 zmt xo rtb 1000000 368 rc_368_8 rch_368_8_36 = true := by decide +kernel
theorem re_420_0 : schE (rhS rHT) (rhM rHT) (rhN rHT) (rhL rHT) (fun _ _ => []) rhG 10 zmt xo rtb 1000000 420 rc_420_0 = true := by decide +kernel
theorem rh_462_5_104 : schH (rhS rHT) (rhM rHT) (rhN rHT) (rhL rHT) (fun _ _ => []) rhG 10 zmt xo rtb 1000000 462 rc_462_5 rch_462_5_104 = true := by decide +kernel
theorem re_492_0 : schE (rhS rHT) (rhM rHT) (rhN rHT) (rhL rHT) (fun _ _ => []) rhG 10 zmt xo rtb 1000000 492 rc_492_0 = true := by decide +kernel
theorem rh_368_8_7 : schH (rhS rHT) (rhM rHT) (rhN rHT) (rhL rHT) (fun _ _ => []) rhG 10 zmt xo rtb 1000000 368 rc_368_8 rch_368_8_7 = true := by decide +kernel
theorem re_376_0 : schE (rhS rHT) (rhM rHT) (rhN rHT) (rhL rHT) (fun _ _ => []) rhG 10 zmt xo rtb 1000000 376 rc_376_0 = true := by decide +kernel
theorem re_376_1 : schE (rhS rHT) (rhM rHT) (rhN rHT) (rhL rHT) (fun _ _ => []) rhG 10 zmt xo rtb 1000000 376 rc_376_1 = true := by decide +kernel
theorem re_376_2 : schE (rhS rHT) (rhM rHT) (rhN rHT) (rhL rHT) (fun _ _ => []) rhG 10 zmt xo rtb 1000000 376 rc_376_2 = true := by decide +kernel
theorem re_376_3 : schE (rhS rHT) (rhM rHT) (rhN rHT) (rhL rHT) (fun _ _ => []) rhG 10 zmt xo rtb 1000000 376 rc_376_3 = true := by decide +kernel
theorem re_376_4 : schE (rhS rHT) (rhM rHT) (rhN rHT) (rhL rHT) (fun _ _ => []) rhG 10 zmt xo rtb 1000000 376 rc_376_4 = true := by decide +kernel
theorem re_376_5 : schE (rhS rHT) (rhM rHT) (rhN rHT) (rhL rHT) (fun _ _ => []) rhG 10 zmt xo rtb 1000000 376 rc_376_5 = true := by decide +kernel
theorem rh_494_0_3 : schH (rhS rHT) (rhM rHT) (rhN rHT) (rhL rHT) (fun _ _ => []) rhG 10 zmt xo rtb 1000000 494 rc_494_0 rch_494_0_3 = true := by decide +kernel
theorem re_492_1 : schE (rhS rHT) (rhM rHT) (rhN rHT) (rhL rHT) (fun _ _ => []) rhG 10 zmt xo rtb 1000000 492 rc_492_1 = true := by decide +kernel
theorem re_464_2 : schE (rhS rHT) (rhM rHT) (rhN rHT) (rhL rHT) (fun _ _ => []) rhG 10 zmt xo rtb 1000000 464 rc_464_2 = true := by decide +kernel
theorem rh_494_0_4 : schH (rhS rHT) (rhM rHT) (rhN rHT) (rhL rHT) (fun _ _ => []) rhG 10 zmt xo rtb 1000000 494 rc_494_0 rch_494_0_4 = true := by decide +kernel
theorem rh_368_8_45 : schH (rhS rHT) (rhM rHT) (rhN rHT) (rhL rHT) (fun _ _ => []) rhG 10 zmt xo rtb 1000000 368 rc_368_8 rch_368_8_45 = true := by decide +kernel
theorem re_407_0 : schE (rhS rHT) (rhM rHT) (rhN rHT) (rhL rHT) (fun _ _ => []) rhG 10 zmt xo rtb 1000000 407 rc_407_0 = true := by decide +kernel
theorem rh_462_5_117 : schH (rhS rHT) (rhM rHT) (rhN rHT) (rhL rHT) (fun _ _ => []) rhG 10 zmt xo rtb 1000000 462 rc_462_5 rch_462_5_117 = true := by decide +kernel
theorem rh_368_8_66 : schH (rhS rHT) (rhM rHT) (rhN rHT) (rhL rHT) (fun _ _ => []) rhG 10 zmt xo rtb 1000000 368 rc_368_8 rch_368_8_66 = true := by decide +kernel
theorem rh_368_9_5 : schH (rhS rHT) (rhM rHT) (rhN rHT) (rhL rHT) (fun _ _ => []) rhG 10 zmt xo rtb 1000000 368 rc_368_9 rch_368_9_5 = true := by decide +kernel
theorem rh_495_0_1 : schH (rhS rHT) (rhM rHT) (rhN rHT) (rhL rHT) (fun _ _ => []) rhG 10 zmt xo rtb 1000000 495 rc_495_0 rch_495_0_1 = true := by decide +kernel
theorem rh_495_1_1 : schH (rhS rHT) (rhM rHT) (rhN rHT) (rhL rHT) (fun _ _ => []) rhG 10 zmt xo rtb 1000000 495 rc_495_1 rch_495_1_1 = true := by decide +kernel
theorem rh_495_2_1 : schH (rhS rHT) (rhM rHT) (rhN rHT) (rhL rHT) (fun _ _ => []) rhG 10 zmt xo rtb 1000000 495 rc_495_2 rch_495_2_1 = true := by decide +kernel
theorem rh_495_3_1 : schH (rhS rHT) (rhM rHT) (rhN rHT) (rhL rHT) (fun _ _ => []) rhG 10 zmt xo rtb 1000000 495 rc_495_3 rch_495_3_1 = true := by decide +kernel
theorem rh_495_4_1 : schH (rhS rHT) (rhM rHT) (rhN rHT) (rhL rHT) (fun _ _ => []) rhG 10 zmt xo rtb 1000000 495 rc_495_4 rch_495_4_1 = true := by decide +kernel
theorem rh_495_5_1 : schH (rhS rHT) (rhM rHT) (rhN rHT) (rhL rHT) (fun _ _ => []) rhG 10 zmt xo rtb 1000000 495 rc_495_5 rch_495_5_1 = true := by decide +kernel
theorem rh_495_6_1 : schH (rhS rHT) (rhM rHT) (rhN rHT) (rhL rHT) (fun _ _ => []) rhG 10 zmt xo rtb 1000000 495 rc_495_6 rch_495_6_1 = true := by decide +kernel
theorem rh_495_7_1 : schH (rhS rHT) (rhM rHT) (rhN rHT) (rhL rHT) (fun _ _ => []) rhG 10 zmt xo rtb 1000000 495 rc_495_7 rch_495_7_1 = true := by decide +kernel
theorem rh_495_8_1 : schH (rhS rHT) (rhM rHT) (rhN rHT) (rhL rHT) (fun _ _ => []) rhG 10 zmt xo rtb 1000000 495 rc_495_8 rch_495_8_1 = true := by decide +kernel
theorem re_363_0 : schE (rhS rHT) (rhM rHT) (rhN rHT) (rhL rHT) (fun _ _ => []) rhG 10 zmt xo rtb 1000000 363 rc_363_0 = true := by decide +kernel
theorem rh_368_8_11 : schH (rhS rHT) (rhM rHT) (rhN rHT) (rhL rHT) (fun _ _ => []) rhG 10 zmt xo rtb 1000000 368 rc_368_8 rch_368_8_11 = true := by decide +kernel
theorem rh_422_0_1 : schH (rhS rHT) (rhM rHT) (rhN rHT) (rhL rHT) (fun _ _ => []) rhG 10 zmt xo rtb 1000000 422 rc_422_0 rch_422_0_1 = true := by decide +kernel
