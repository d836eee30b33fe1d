/-! THE REFERENCE: checks (cost 68; printed by gen50.py) -/
theorem rh_415_1_1 : schH (rhS rHT) (rhM rHT) (rhN rHT) (rhL rHT) (fun _ _ => []) rhG 10 zmt xo rtb 1000000 415 rc_415_1 rch_415_1_1 = true := by decide +kernel
theorem re_464_2 : schE (rhS rHT) (rhM rHT) (rhN rHT) (rhL rHT) (fun _ _ => []) rhG 10 zmt xo rtb 1000000 464 rc_464_2 = true := by decide +kernel
theorem re_444_0 : schE (rhS rHT) (rhM rHT) (rhN rHT) (rhL rHT) (fun _ _ => []) rhG 10 zmt xo rtb 1000000 444 rc_444_0 = true := by decide +kernel
theorem re_444_1 : schE (rhS rHT) (rhM rHT) (rhN rHT) (rhL rHT) (fun _ _ => []) rhG 10 zmt xo rtb 1000000 444 rc_444_1 = true := by decide +kernel
theorem re_444_2 : schE (rhS rHT) (rhM rHT) (rhN rHT) (rhL rHT) (fun _ _ => []) rhG 10 zmt xo rtb 1000000 444 rc_444_2 = true := by decide +kernel
theorem re_444_3 : schE (rhS rHT) (rhM rHT) (rhN rHT) (rhL rHT) (fun _ _ => []) rhG 10 zmt xo rtb 1000000 444 rc_444_3 = true := by decide +kernel
theorem rh_415_1_2 : schH (rhS rHT) (rhM rHT) (rhN rHT) (rhL rHT) (fun _ _ => []) rhG 10 zmt xo rtb 1000000 415 rc_415_1 rch_415_1_2 = true := by decide +kernel
theorem re_465_0 : schE (rhS rHT) (rhM rHT) (rhN rHT) (rhL rHT) (fun _ _ => []) rhG 10 zmt xo rtb 1000000 465 rc_465_0 = true := by decide +kernel
theorem rh_415_0_1 : schH (rhS rHT) (rhM rHT) (rhN rHT) (rhL rHT) (fun _ _ => []) rhG 10 zmt xo rtb 1000000 415 rc_415_0 rch_415_0_1 = true := by decide +kernel
theorem rh_494_0_4 : schH (rhS rHT) (rhM rHT) (rhN rHT) (rhL rHT) (fun _ _ => []) rhG 10 zmt xo rtb 1000000 494 rc_494_0 rch_494_0_4 = true := by decide +kernel
theorem rh_322_1_3 : schH (rhS rHT) (rhM rHT) (rhN rHT) (rhL rHT) (fun _ _ => []) rhG 10 zmt xo rtb 1000000 322 rc_322_1 rch_322_1_3 = true := by decide +kernel
theorem rh_415_0_2 : schH (rhS rHT) (rhM rHT) (rhN rHT) (rhL rHT) (fun _ _ => []) rhG 10 zmt xo rtb 1000000 415 rc_415_0 rch_415_0_2 = true := by decide +kernel
theorem rh_368_8_96 : schH (rhS rHT) (rhM rHT) (rhN rHT) (rhL rHT) (fun _ _ => []) rhG 10 zmt xo rtb 1000000 368 rc_368_8 rch_368_8_96 = true := by decide +kernel
theorem rh_379_0_3 : schH (rhS rHT) (rhM rHT) (rhN rHT) (rhL rHT) (fun _ _ => []) rhG 10 zmt xo rtb 1000000 379 rc_379_0 rch_379_0_3 = true := by decide +kernel
theorem re_302_2 : schE (rhS rHT) (rhM rHT) (rhN rHT) (rhL rHT) (fun _ _ => []) rhG 10 zmt xo rtb 1000000 302 rc_302_2 = true := by decide +kernel
theorem rh_368_8_97 : schH (rhS rHT) (rhM rHT) (rhN rHT) (rhL rHT) (fun _ _ => []) rhG 10 zmt xo rtb 1000000 368 rc_368_8 rch_368_8_97 = true := by decide +kernel
theorem re_303_3 : schE (rhS rHT) (rhM rHT) (rhN rHT) (rhL rHT) (fun _ _ => []) rhG 10 zmt xo rtb 1000000 303 rc_303_3 = true := by decide +kernel
theorem rh_494_0_8 : schH (rhS rHT) (rhM rHT) (rhN rHT) (rhL rHT) (fun _ _ => []) rhG 10 zmt xo rtb 1000000 494 rc_494_0 rch_494_0_8 = true := by decide +kernel
theorem rh_322_0_0 : schH (rhS rHT) (rhM rHT) (rhN rHT) (rhL rHT) (fun _ _ => []) rhG 10 zmt xo rtb 1000000 322 rc_322_0 rch_322_0_0 = true := by decide +kernel
theorem rh_322_1_0 : schH (rhS rHT) (rhM rHT) (rhN rHT) (rhL rHT) (fun _ _ => []) rhG 10 zmt xo rtb 1000000 322 rc_322_1 rch_322_1_0 = true := by decide +kernel
theorem rh_322_2_3 : schH (rhS rHT) (rhM rHT) (rhN rHT) (rhL rHT) (fun _ _ => []) rhG 10 zmt xo rtb 1000000 322 rc_322_2 rch_322_2_3 = true := by decide +kernel
theorem re_472_0 : schE (rhS rHT) (rhM rHT) (rhN rHT) (rhL rHT) (fun _ _ => []) rhG 10 zmt xo rtb 1000000 472 rc_472_0 = true := by decide +kernel
theorem rh_322_3_3 : schH (rhS rHT) (rhM rHT) (rhN rHT) (rhL rHT) (fun _ _ => []) rhG 10 zmt xo rtb 1000000 322 rc_322_3 rch_322_3_3 = true := by decide +kernel
theorem re_486_0 : schE (rhS rHT) (rhM rHT) (rhN rHT) (rhL rHT) (fun _ _ => []) rhG 10 zmt xo rtb 1000000 486 rc_486_0 = true := by decide +kernel
theorem rh_368_8_98 : schH (rhS rHT) (rhM rHT) (rhN rHT) (rhL rHT) (fun _ _ => []) rhG 10 zmt xo rtb 1000000 368 rc_368_8 rch_368_8_98 = true := by decide +kernel
theorem re_492_0 : schE (rhS rHT) (rhM rHT) (rhN rHT) (rhL rHT) (fun _ _ => []) rhG 10 zmt xo rtb 1000000 492 rc_492_0 = true := by decide +kernel
theorem re_302_3 : schE (rhS rHT) (rhM rHT) (rhN rHT) (rhL rHT) (fun _ _ => []) rhG 10 zmt xo rtb 1000000 302 rc_302_3 = true := by decide +kernel
theorem rh_322_2_0 : schH (rhS rHT) (rhM rHT) (rhN rHT) (rhL rHT) (fun _ _ => []) rhG 10 zmt xo rtb 1000000 322 rc_322_2 rch_322_2_0 = true := by decide +kernel
theorem rh_322_3_0 : schH (rhS rHT) (rhM rHT) (rhN rHT) (rhL rHT) (fun _ _ => []) rhG 10 zmt xo rtb 1000000 322 rc_322_3 rch_322_3_0 = true := by decide +kernel
theorem rh_385_1_0 : schH (rhS rHT) (rhM rHT) (rhN rHT) (rhL rHT) (fun _ _ => []) rhG 10 zmt xo rtb 1000000 385 rc_385_1 rch_385_1_0 = true := by decide +kernel
theorem rh_368_8_147 : schH (rhS rHT) (rhM rHT) (rhN rHT) (rhL rHT) (fun _ _ => []) rhG 10 zmt xo rtb 1000000 368 rc_368_8 rch_368_8_147 = true := by decide +kernel
theorem rh_322_4_3 : schH (rhS rHT) (rhM rHT) (rhN rHT) (rhL rHT) (fun _ _ => []) rhG 10 zmt xo rtb 1000000 322 rc_322_4 rch_322_4_3 = true := by decide +kernel
theorem rh_463_2_0 : schH (rhS rHT) (rhM rHT) (rhN rHT) (rhL rHT) (fun _ _ => []) rhG 10 zmt xo rtb 1000000 463 rc_463_2 rch_463_2_0 = true := by decide +kernel
theorem rh_322_5_3 : schH (rhS rHT) (rhM rHT) (rhN rHT) (rhL rHT) (fun _ _ => []) rhG 10 zmt xo rtb 1000000 322 rc_322_5 rch_322_5_3 = true := by decide +kernel
theorem re_303_4 : schE (rhS rHT) (rhM rHT) (rhN rHT) (rhL rHT) (fun _ _ => []) rhG 10 zmt xo rtb 1000000 303 rc_303_4 = true := by decide +kernel
theorem rh_494_0_0 : schH (rhS rHT) (rhM rHT) (rhN rHT) (rhL rHT) (fun _ _ => []) rhG 10 zmt xo rtb 1000000 494 rc_494_0 rch_494_0_0 = true := by decide +kernel
theorem rh_322_4_0 : schH (rhS rHT) (rhM rHT) (rhN rHT) (rhL rHT) (fun _ _ => []) rhG 10 zmt xo rtb 1000000 322 rc_322_4 rch_322_4_0 = true := by decide +kernel
theorem rh_322_5_0 : schH (rhS rHT) (rhM rHT) (rhN rHT) (rhL rHT) (fun _ _ => []) rhG 10 zmt xo rtb 1000000 322 rc_322_5 rch_322_5_0 = true := by decide +kernel
theorem re_492_1 : schE (rhS rHT) (rhM rHT) (rhN rHT) (rhL rHT) (fun _ _ => []) rhG 10 zmt xo rtb 1000000 492 rc_492_1 = true := by decide +kernel
theorem rh_330_0_0 : schH (rhS rHT) (rhM rHT) (rhN rHT) (rhL rHT) (fun _ _ => []) rhG 10 zmt xo rtb 1000000 330 rc_330_0 rch_330_0_0 = true := by decide +kernel
theorem rh_330_1_0 : schH (rhS rHT) (rhM rHT) (rhN rHT) (rhL rHT) (fun _ _ => []) rhG 10 zmt xo rtb 1000000 330 rc_330_1 rch_330_1_0 = true := by decide +kernel
theorem re_302_4 : schE (rhS rHT) (rhM rHT) (rhN rHT) (rhL rHT) (fun _ _ => []) rhG 10 zmt xo rtb 1000000 302 rc_302_4 = true := by decide +kernel
