/-! THE REFERENCE: checks (2998 steps; printed by gen50.py) -/
theorem rw_494_0 : scwf rc_494_0 = true := by decide +kernel
theorem rh_494_0_2 : schH (rhS rHT) (rhM rHT) (rhN rHT) (rhL rHT) (fun _ _ => []) rhG 10 zmt xo rtb 1000000 494 rc_494_0 rch_494_0_2 = true := by decide +kernel
theorem rh_494_0_5 : schH (rhS rHT) (rhM rHT) (rhN rHT) (rhL rHT) (fun _ _ => []) rhG 10 zmt xo rtb 1000000 494 rc_494_0 rch_494_0_5 = true := by decide +kernel
theorem rh_494_0_6 : schH (rhS rHT) (rhM rHT) (rhN rHT) (rhL rHT) (fun _ _ => []) rhG 10 zmt xo rtb 1000000 494 rc_494_0 rch_494_0_6 = true := by decide +kernel
theorem rh_494_0_1 : schH (rhS rHT) (rhM rHT) (rhN rHT) (rhL rHT) (fun _ _ => []) rhG 10 zmt xo rtb 1000000 494 rc_494_0 rch_494_0_1 = true := by decide +kernel
theorem rh_494_0_0 : schH (rhS rHT) (rhM rHT) (rhN rHT) (rhL rHT) (fun _ _ => []) rhG 10 zmt xo rtb 1000000 494 rc_494_0 rch_494_0_0 = true := by decide +kernel
theorem rh_494_0_7 : schH (rhS rHT) (rhM rHT) (rhN rHT) (rhL rHT) (fun _ _ => []) rhG 10 zmt xo rtb 1000000 494 rc_494_0 rch_494_0_7 = true := by decide +kernel
theorem rh_494_0_3 : schH (rhS rHT) (rhM rHT) (rhN rHT) (rhL rHT) (fun _ _ => []) rhG 10 zmt xo rtb 1000000 494 rc_494_0 rch_494_0_3 = true := by decide +kernel
theorem rh_494_0_8 : schH (rhS rHT) (rhM rHT) (rhN rHT) (rhL rHT) (fun _ _ => []) rhG 10 zmt xo rtb 1000000 494 rc_494_0 rch_494_0_8 = true := by decide +kernel
theorem rh_494_0_4 : schH (rhS rHT) (rhM rHT) (rhN rHT) (rhL rHT) (fun _ _ => []) rhG 10 zmt xo rtb 1000000 494 rc_494_0 rch_494_0_4 = true := by decide +kernel
theorem re_494_0 : schE (rhS rHT) (rhM rHT) (rhN rHT) (rhL rHT) (fun _ _ => []) rhG 10 zmt xo rtb 1000000 494 rc_494_0 = true := by decide +kernel
theorem rw_368_0 : scwf rc_368_0 = true := by decide +kernel
theorem rw_368_1 : scwf rc_368_1 = true := by decide +kernel
theorem rw_368_2 : scwf rc_368_2 = true := by decide +kernel
theorem rw_368_3 : scwf rc_368_3 = true := by decide +kernel
theorem rw_368_4 : scwf rc_368_4 = true := by decide +kernel
theorem rw_368_5 : scwf rc_368_5 = true := by decide +kernel
theorem rw_368_6 : scwf rc_368_6 = true := by decide +kernel
theorem rw_368_7 : scwf rc_368_7 = true := by decide +kernel
theorem rw_368_8 : scwf rc_368_8 = true := by decide +kernel
theorem rw_368_9 : scwf rc_368_9 = true := by decide +kernel
theorem rw_394_0 : scwf rc_394_0 = true := by decide +kernel
theorem rw_394_1 : scwf rc_394_1 = true := by decide +kernel
theorem rw_418_0 : scwf rc_418_0 = true := by decide +kernel
theorem rw_495_0 : scwf rc_495_0 = true := by decide +kernel
theorem rw_495_1 : scwf rc_495_1 = true := by decide +kernel
theorem rw_495_2 : scwf rc_495_2 = true := by decide +kernel
theorem rw_495_3 : scwf rc_495_3 = true := by decide +kernel
theorem rw_495_4 : scwf rc_495_4 = true := by decide +kernel
theorem rw_495_5 : scwf rc_495_5 = true := by decide +kernel
theorem rw_495_6 : scwf rc_495_6 = true := by decide +kernel
theorem rw_495_7 : scwf rc_495_7 = true := by decide +kernel
theorem rw_495_8 : scwf rc_495_8 = true := by decide +kernel
theorem rh_495_0_0 : schH (rhS rHT) (rhM rHT) (rhN rHT) (rhL rHT) (fun _ _ => []) rhG 10 zmt xo rtb 1000000 495 rc_495_0 rch_495_0_0 = true := by decide +kernel
theorem rh_495_1_0 : schH (rhS rHT) (rhM rHT) (rhN rHT) (rhL rHT) (fun _ _ => []) rhG 10 zmt xo rtb 1000000 495 rc_495_1 rch_495_1_0 = true := by decide +kernel
theorem rh_495_2_0 : schH (rhS rHT) (rhM rHT) (rhN rHT) (rhL rHT) (fun _ _ => []) rhG 10 zmt xo rtb 1000000 495 rc_495_2 rch_495_2_0 = true := by decide +kernel
theorem rh_495_3_0 : schH (rhS rHT) (rhM rHT) (rhN rHT) (rhL rHT) (fun _ _ => []) rhG 10 zmt xo rtb 1000000 495 rc_495_3 rch_495_3_0 = true := by decide +kernel
theorem rh_495_4_0 : schH (rhS rHT) (rhM rHT) (rhN rHT) (rhL rHT) (fun _ _ => []) rhG 10 zmt xo rtb 1000000 495 rc_495_4 rch_495_4_0 = true := by decide +kernel
theorem rh_495_5_0 : schH (rhS rHT) (rhM rHT) (rhN rHT) (rhL rHT) (fun _ _ => []) rhG 10 zmt xo rtb 1000000 495 rc_495_5 rch_495_5_0 = true := by decide +kernel
theorem rh_495_6_0 : schH (rhS rHT) (rhM rHT) (rhN rHT) (rhL rHT) (fun _ _ => []) rhG 10 zmt xo rtb 1000000 495 rc_495_6 rch_495_6_0 = true := by decide +kernel
theorem rh_495_7_0 : schH (rhS rHT) (rhM rHT) (rhN rHT) (rhL rHT) (fun _ _ => []) rhG 10 zmt xo rtb 1000000 495 rc_495_7 rch_495_7_0 = true := by decide +kernel
theorem rh_495_8_0 : schH (rhS rHT) (rhM rHT) (rhN rHT) (rhL rHT) (fun _ _ => []) rhG 10 zmt xo rtb 1000000 495 rc_495_8 rch_495_8_0 = true := by decide +kernel
theorem rh_368_8_78 : schH (rhS rHT) (rhM rHT) (rhN rHT) (rhL rHT) (fun _ _ => []) rhG 10 zmt xo rtb 1000000 368 rc_368_8 rch_368_8_78 = true := by decide +kernel
theorem rh_368_8_80 : schH (rhS rHT) (rhM rHT) (rhN rHT) (rhL rHT) (fun _ _ => []) rhG 10 zmt xo rtb 1000000 368 rc_368_8 rch_368_8_80 = true := by decide +kernel
theorem rh_368_8_81 : schH (rhS rHT) (rhM rHT) (rhN rHT) (rhL rHT) (fun _ _ => []) rhG 10 zmt xo rtb 1000000 368 rc_368_8 rch_368_8_81 = true := by decide +kernel
theorem rh_368_8_71 : schH (rhS rHT) (rhM rHT) (rhN rHT) (rhL rHT) (fun _ _ => []) rhG 10 zmt xo rtb 1000000 368 rc_368_8 rch_368_8_71 = true := by decide +kernel
theorem rh_368_8_72 : schH (rhS rHT) (rhM rHT) (rhN rHT) (rhL rHT) (fun _ _ => []) rhG 10 zmt xo rtb 1000000 368 rc_368_8 rch_368_8_72 = true := by decide +kernel
theorem rh_368_8_76 : schH (rhS rHT) (rhM rHT) (rhN rHT) (rhL rHT) (fun _ _ => []) rhG 10 zmt xo rtb 1000000 368 rc_368_8 rch_368_8_76 = true := by decide +kernel
theorem rh_368_8_77 : schH (rhS rHT) (rhM rHT) (rhN rHT) (rhL rHT) (fun _ _ => []) rhG 10 zmt xo rtb 1000000 368 rc_368_8 rch_368_8_77 = true := by decide +kernel
theorem rh_368_8_44 : schH (rhS rHT) (rhM rHT) (rhN rHT) (rhL rHT) (fun _ _ => []) rhG 10 zmt xo rtb 1000000 368 rc_368_8 rch_368_8_44 = true := by decide +kernel
theorem rh_368_4_0 : schH (rhS rHT) (rhM rHT) (rhN rHT) (rhL rHT) (fun _ _ => []) rhG 10 zmt xo rtb 1000000 368 rc_368_4 rch_368_4_0 = true := by decide +kernel
theorem rh_368_8_49 : schH (rhS rHT) (rhM rHT) (rhN rHT) (rhL rHT) (fun _ _ => []) rhG 10 zmt xo rtb 1000000 368 rc_368_8 rch_368_8_49 = true := by decide +kernel
theorem rh_368_8_67 : schH (rhS rHT) (rhM rHT) (rhN rHT) (rhL rHT) (fun _ _ => []) rhG 10 zmt xo rtb 1000000 368 rc_368_8 rch_368_8_67 = true := by decide +kernel
theorem rh_368_7_0 : schH (rhS rHT) (rhM rHT) (rhN rHT) (rhL rHT) (fun _ _ => []) rhG 10 zmt xo rtb 1000000 368 rc_368_7 rch_368_7_0 = true := by decide +kernel
theorem rh_368_7_1 : schH (rhS rHT) (rhM rHT) (rhN rHT) (rhL rHT) (fun _ _ => []) rhG 10 zmt xo rtb 1000000 368 rc_368_7 rch_368_7_1 = true := by decide +kernel
theorem rh_368_7_2 : schH (rhS rHT) (rhM rHT) (rhN rHT) (rhL rHT) (fun _ _ => []) rhG 10 zmt xo rtb 1000000 368 rc_368_7 rch_368_7_2 = true := by decide +kernel
theorem rh_368_8_50 : schH (rhS rHT) (rhM rHT) (rhN rHT) (rhL rHT) (fun _ _ => []) rhG 10 zmt xo rtb 1000000 368 rc_368_8 rch_368_8_50 = true := by decide +kernel
theorem rh_368_8_51 : schH (rhS rHT) (rhM rHT) (rhN rHT) (rhL rHT) (fun _ _ => []) rhG 10 zmt xo rtb 1000000 368 rc_368_8 rch_368_8_51 = true := by decide +kernel
theorem rh_368_8_52 : schH (rhS rHT) (rhM rHT) (rhN rHT) (rhL rHT) (fun _ _ => []) rhG 10 zmt xo rtb 1000000 368 rc_368_8 rch_368_8_52 = true := by decide +kernel
theorem rh_368_8_53 : schH (rhS rHT) (rhM rHT) (rhN rHT) (rhL rHT) (fun _ _ => []) rhG 10 zmt xo rtb 1000000 368 rc_368_8 rch_368_8_53 = true := by decide +kernel
theorem rh_368_9_0 : schH (rhS rHT) (rhM rHT) (rhN rHT) (rhL rHT) (fun _ _ => []) rhG 10 zmt xo rtb 1000000 368 rc_368_9 rch_368_9_0 = true := by decide +kernel
theorem rh_368_9_3 : schH (rhS rHT) (rhM rHT) (rhN rHT) (rhL rHT) (fun _ _ => []) rhG 10 zmt xo rtb 1000000 368 rc_368_9 rch_368_9_3 = true := by decide +kernel
theorem rh_368_9_7 : schH (rhS rHT) (rhM rHT) (rhN rHT) (rhL rHT) (fun _ _ => []) rhG 10 zmt xo rtb 1000000 368 rc_368_9 rch_368_9_7 = true := by decide +kernel
theorem rh_368_9_8 : schH (rhS rHT) (rhM rHT) (rhN rHT) (rhL rHT) (fun _ _ => []) rhG 10 zmt xo rtb 1000000 368 rc_368_9 rch_368_9_8 = true := by decide +kernel
theorem rh_368_9_12 : schH (rhS rHT) (rhM rHT) (rhN rHT) (rhL rHT) (fun _ _ => []) rhG 10 zmt xo rtb 1000000 368 rc_368_9 rch_368_9_12 = true := by decide +kernel
theorem rh_368_9_13 : schH (rhS rHT) (rhM rHT) (rhN rHT) (rhL rHT) (fun _ _ => []) rhG 10 zmt xo rtb 1000000 368 rc_368_9 rch_368_9_13 = true := by decide +kernel
theorem rh_368_9_1 : schH (rhS rHT) (rhM rHT) (rhN rHT) (rhL rHT) (fun _ _ => []) rhG 10 zmt xo rtb 1000000 368 rc_368_9 rch_368_9_1 = true := by decide +kernel
theorem rh_368_9_2 : schH (rhS rHT) (rhM rHT) (rhN rHT) (rhL rHT) (fun _ _ => []) rhG 10 zmt xo rtb 1000000 368 rc_368_9 rch_368_9_2 = true := by decide +kernel
theorem rh_368_9_11 : schH (rhS rHT) (rhM rHT) (rhN rHT) (rhL rHT) (fun _ _ => []) rhG 10 zmt xo rtb 1000000 368 rc_368_9 rch_368_9_11 = true := by decide +kernel
theorem rh_368_9_14 : schH (rhS rHT) (rhM rHT) (rhN rHT) (rhL rHT) (fun _ _ => []) rhG 10 zmt xo rtb 1000000 368 rc_368_9 rch_368_9_14 = true := by decide +kernel
theorem rh_368_9_16 : schH (rhS rHT) (rhM rHT) (rhN rHT) (rhL rHT) (fun _ _ => []) rhG 10 zmt xo rtb 1000000 368 rc_368_9 rch_368_9_16 = true := by decide +kernel
theorem rh_368_0_0 : schH (rhS rHT) (rhM rHT) (rhN rHT) (rhL rHT) (fun _ _ => []) rhG 10 zmt xo rtb 1000000 368 rc_368_0 rch_368_0_0 = true := by decide +kernel
theorem rh_368_0_1 : schH (rhS rHT) (rhM rHT) (rhN rHT) (rhL rHT) (fun _ _ => []) rhG 10 zmt xo rtb 1000000 368 rc_368_0 rch_368_0_1 = true := by decide +kernel
theorem rh_368_0_2 : schH (rhS rHT) (rhM rHT) (rhN rHT) (rhL rHT) (fun _ _ => []) rhG 10 zmt xo rtb 1000000 368 rc_368_0 rch_368_0_2 = true := by decide +kernel
theorem rh_368_8_59 : schH (rhS rHT) (rhM rHT) (rhN rHT) (rhL rHT) (fun _ _ => []) rhG 10 zmt xo rtb 1000000 368 rc_368_8 rch_368_8_59 = true := by decide +kernel
theorem rh_368_8_60 : schH (rhS rHT) (rhM rHT) (rhN rHT) (rhL rHT) (fun _ _ => []) rhG 10 zmt xo rtb 1000000 368 rc_368_8 rch_368_8_60 = true := by decide +kernel
theorem rh_368_8_61 : schH (rhS rHT) (rhM rHT) (rhN rHT) (rhL rHT) (fun _ _ => []) rhG 10 zmt xo rtb 1000000 368 rc_368_8 rch_368_8_61 = true := by decide +kernel
theorem rh_368_9_9 : schH (rhS rHT) (rhM rHT) (rhN rHT) (rhL rHT) (fun _ _ => []) rhG 10 zmt xo rtb 1000000 368 rc_368_9 rch_368_9_9 = true := by decide +kernel
theorem rh_368_5_0 : schH (rhS rHT) (rhM rHT) (rhN rHT) (rhL rHT) (fun _ _ => []) rhG 10 zmt xo rtb 1000000 368 rc_368_5 rch_368_5_0 = true := by decide +kernel
theorem rh_368_8_25 : schH (rhS rHT) (rhM rHT) (rhN rHT) (rhL rHT) (fun _ _ => []) rhG 10 zmt xo rtb 1000000 368 rc_368_8 rch_368_8_25 = true := by decide +kernel
theorem rh_368_1_0 : schH (rhS rHT) (rhM rHT) (rhN rHT) (rhL rHT) (fun _ _ => []) rhG 10 zmt xo rtb 1000000 368 rc_368_1 rch_368_1_0 = true := by decide +kernel
theorem rh_368_1_1 : schH (rhS rHT) (rhM rHT) (rhN rHT) (rhL rHT) (fun _ _ => []) rhG 10 zmt xo rtb 1000000 368 rc_368_1 rch_368_1_1 = true := by decide +kernel
theorem rh_368_1_2 : schH (rhS rHT) (rhM rHT) (rhN rHT) (rhL rHT) (fun _ _ => []) rhG 10 zmt xo rtb 1000000 368 rc_368_1 rch_368_1_2 = true := by decide +kernel
theorem rh_368_8_26 : schH (rhS rHT) (rhM rHT) (rhN rHT) (rhL rHT) (fun _ _ => []) rhG 10 zmt xo rtb 1000000 368 rc_368_8 rch_368_8_26 = true := by decide +kernel
theorem rh_368_8_27 : schH (rhS rHT) (rhM rHT) (rhN rHT) (rhL rHT) (fun _ _ => []) rhG 10 zmt xo rtb 1000000 368 rc_368_8 rch_368_8_27 = true := by decide +kernel
theorem rh_368_8_28 : schH (rhS rHT) (rhM rHT) (rhN rHT) (rhL rHT) (fun _ _ => []) rhG 10 zmt xo rtb 1000000 368 rc_368_8 rch_368_8_28 = true := by decide +kernel
theorem rh_368_8_0 : schH (rhS rHT) (rhM rHT) (rhN rHT) (rhL rHT) (fun _ _ => []) rhG 10 zmt xo rtb 1000000 368 rc_368_8 rch_368_8_0 = true := by decide +kernel
