/-! THE REFERENCE: checks (3003 steps; printed by gen50.py) -/
theorem re_489_5 : schE (rhS rHT) (rhM rHT) (rhN rHT) (rhL rHT) (fun _ _ => []) rhG 10 zmt xo rtb 1000000 489 rc_489_5 = true := by decide +kernel
theorem rh_360_0_1 : schH (rhS rHT) (rhM rHT) (rhN rHT) (rhL rHT) (fun _ _ => []) rhG 10 zmt xo rtb 1000000 360 rc_360_0 rch_360_0_1 = true := by decide +kernel
theorem re_368_4 : schE (rhS rHT) (rhM rHT) (rhN rHT) (rhL rHT) (fun _ _ => []) rhG 10 zmt xo rtb 1000000 368 rc_368_4 = true := by decide +kernel
theorem re_368_5 : schE (rhS rHT) (rhM rHT) (rhN rHT) (rhL rHT) (fun _ _ => []) rhG 10 zmt xo rtb 1000000 368 rc_368_5 = true := by decide +kernel
theorem re_368_6 : schE (rhS rHT) (rhM rHT) (rhN rHT) (rhL rHT) (fun _ _ => []) rhG 10 zmt xo rtb 1000000 368 rc_368_6 = true := by decide +kernel
theorem rh_393_0_0 : schH (rhS rHT) (rhM rHT) (rhN rHT) (rhL rHT) (fun _ _ => []) rhG 10 zmt xo rtb 1000000 393 rc_393_0 rch_393_0_0 = true := by decide +kernel
theorem re_491_5 : schE (rhS rHT) (rhM rHT) (rhN rHT) (rhL rHT) (fun _ _ => []) rhG 10 zmt xo rtb 1000000 491 rc_491_5 = true := by decide +kernel
theorem rh_431_0_0 : schH (rhS rHT) (rhM rHT) (rhN rHT) (rhL rHT) (fun _ _ => []) rhG 10 zmt xo rtb 1000000 431 rc_431_0 rch_431_0_0 = true := by decide +kernel
theorem re_315_0 : schE (rhS rHT) (rhM rHT) (rhN rHT) (rhL rHT) (fun _ _ => []) rhG 10 zmt xo rtb 1000000 315 rc_315_0 = true := by decide +kernel
theorem rh_368_8_29 : schH (rhS rHT) (rhM rHT) (rhN rHT) (rhL rHT) (fun _ _ => []) rhG 10 zmt xo rtb 1000000 368 rc_368_8 rch_368_8_29 = true := by decide +kernel
theorem rh_368_8_30 : schH (rhS rHT) (rhM rHT) (rhN rHT) (rhL rHT) (fun _ _ => []) rhG 10 zmt xo rtb 1000000 368 rc_368_8 rch_368_8_30 = true := by decide +kernel
theorem rh_412_0_0 : schH (rhS rHT) (rhM rHT) (rhN rHT) (rhL rHT) (fun _ _ => []) rhG 10 zmt xo rtb 1000000 412 rc_412_0 rch_412_0_0 = true := by decide +kernel
theorem rh_412_1_0 : schH (rhS rHT) (rhM rHT) (rhN rHT) (rhL rHT) (fun _ _ => []) rhG 10 zmt xo rtb 1000000 412 rc_412_1 rch_412_1_0 = true := by decide +kernel
theorem re_485_0 : schE (rhS rHT) (rhM rHT) (rhN rHT) (rhL rHT) (fun _ _ => []) rhG 10 zmt xo rtb 1000000 485 rc_485_0 = true := by decide +kernel
theorem rh_364_0_0 : schH (rhS rHT) (rhM rHT) (rhN rHT) (rhL rHT) (fun _ _ => []) rhG 10 zmt xo rtb 1000000 364 rc_364_0 rch_364_0_0 = true := by decide +kernel
theorem rh_368_2_0 : schH (rhS rHT) (rhM rHT) (rhN rHT) (rhL rHT) (fun _ _ => []) rhG 10 zmt xo rtb 1000000 368 rc_368_2 rch_368_2_0 = true := by decide +kernel
theorem rh_368_2_1 : schH (rhS rHT) (rhM rHT) (rhN rHT) (rhL rHT) (fun _ _ => []) rhG 10 zmt xo rtb 1000000 368 rc_368_2 rch_368_2_1 = true := by decide +kernel
theorem rh_368_8_34 : schH (rhS rHT) (rhM rHT) (rhN rHT) (rhL rHT) (fun _ _ => []) rhG 10 zmt xo rtb 1000000 368 rc_368_8 rch_368_8_34 = true := by decide +kernel
theorem rh_368_8_35 : schH (rhS rHT) (rhM rHT) (rhN rHT) (rhL rHT) (fun _ _ => []) rhG 10 zmt xo rtb 1000000 368 rc_368_8 rch_368_8_35 = true := by decide +kernel
theorem rh_368_8_40 : schH (rhS rHT) (rhM rHT) (rhN rHT) (rhL rHT) (fun _ _ => []) rhG 10 zmt xo rtb 1000000 368 rc_368_8 rch_368_8_40 = true := by decide +kernel
theorem rh_378_0_0 : schH (rhS rHT) (rhM rHT) (rhN rHT) (rhL rHT) (fun _ _ => []) rhG 10 zmt xo rtb 1000000 378 rc_378_0 rch_378_0_0 = true := by decide +kernel
theorem re_487_0 : schE (rhS rHT) (rhM rHT) (rhN rHT) (rhL rHT) (fun _ _ => []) rhG 10 zmt xo rtb 1000000 487 rc_487_0 = true := by decide +kernel
theorem rh_485_0_0 : schH (rhS rHT) (rhM rHT) (rhN rHT) (rhL rHT) (fun _ _ => []) rhG 10 zmt xo rtb 1000000 485 rc_485_0 rch_485_0_0 = true := by decide +kernel
theorem re_451_0 : schE (rhS rHT) (rhM rHT) (rhN rHT) (rhL rHT) (fun _ _ => []) rhG 10 zmt xo rtb 1000000 451 rc_451_0 = true := by decide +kernel
theorem rh_366_0_0 : schH (rhS rHT) (rhM rHT) (rhN rHT) (rhL rHT) (fun _ _ => []) rhG 10 zmt xo rtb 1000000 366 rc_366_0 rch_366_0_0 = true := by decide +kernel
theorem rh_423_0_0 : schH (rhS rHT) (rhM rHT) (rhN rHT) (rhL rHT) (fun _ _ => []) rhG 10 zmt xo rtb 1000000 423 rc_423_0 rch_423_0_0 = true := by decide +kernel
theorem re_489_7 : schE (rhS rHT) (rhM rHT) (rhN rHT) (rhL rHT) (fun _ _ => []) rhG 10 zmt xo rtb 1000000 489 rc_489_7 = true := by decide +kernel
theorem re_489_6 : schE (rhS rHT) (rhM rHT) (rhN rHT) (rhL rHT) (fun _ _ => []) rhG 10 zmt xo rtb 1000000 489 rc_489_6 = true := by decide +kernel
theorem rh_368_8_43 : schH (rhS rHT) (rhM rHT) (rhN rHT) (rhL rHT) (fun _ _ => []) rhG 10 zmt xo rtb 1000000 368 rc_368_8 rch_368_8_43 = true := by decide +kernel
theorem rh_368_8_70 : schH (rhS rHT) (rhM rHT) (rhN rHT) (rhL rHT) (fun _ _ => []) rhG 10 zmt xo rtb 1000000 368 rc_368_8 rch_368_8_70 = true := by decide +kernel
theorem rh_368_8_73 : schH (rhS rHT) (rhM rHT) (rhN rHT) (rhL rHT) (fun _ _ => []) rhG 10 zmt xo rtb 1000000 368 rc_368_8 rch_368_8_73 = true := by decide +kernel
theorem re_484_0 : schE (rhS rHT) (rhM rHT) (rhN rHT) (rhL rHT) (fun _ _ => []) rhG 10 zmt xo rtb 1000000 484 rc_484_0 = true := by decide +kernel
theorem rh_329_0_1 : schH (rhS rHT) (rhM rHT) (rhN rHT) (rhL rHT) (fun _ _ => []) rhG 10 zmt xo rtb 1000000 329 rc_329_0 rch_329_0_1 = true := by decide +kernel
theorem rh_395_0_1 : schH (rhS rHT) (rhM rHT) (rhN rHT) (rhL rHT) (fun _ _ => []) rhG 10 zmt xo rtb 1000000 395 rc_395_0 rch_395_0_1 = true := by decide +kernel
theorem rh_368_6_0 : schH (rhS rHT) (rhM rHT) (rhN rHT) (rhL rHT) (fun _ _ => []) rhG 10 zmt xo rtb 1000000 368 rc_368_6 rch_368_6_0 = true := by decide +kernel
theorem rh_368_8_32 : schH (rhS rHT) (rhM rHT) (rhN rHT) (rhL rHT) (fun _ _ => []) rhG 10 zmt xo rtb 1000000 368 rc_368_8 rch_368_8_32 = true := by decide +kernel
theorem rh_421_0_0 : schH (rhS rHT) (rhM rHT) (rhN rHT) (rhL rHT) (fun _ _ => []) rhG 10 zmt xo rtb 1000000 421 rc_421_0 rch_421_0_0 = true := by decide +kernel
theorem rh_494_0_1 : schH (rhS rHT) (rhM rHT) (rhN rHT) (rhL rHT) (fun _ _ => []) rhG 10 zmt xo rtb 1000000 494 rc_494_0 rch_494_0_1 = true := by decide +kernel
theorem rh_368_2_3 : schH (rhS rHT) (rhM rHT) (rhN rHT) (rhL rHT) (fun _ _ => []) rhG 10 zmt xo rtb 1000000 368 rc_368_2 rch_368_2_3 = true := by decide +kernel
theorem rh_368_8_31 : schH (rhS rHT) (rhM rHT) (rhN rHT) (rhL rHT) (fun _ _ => []) rhG 10 zmt xo rtb 1000000 368 rc_368_8 rch_368_8_31 = true := by decide +kernel
theorem rh_368_8_37 : schH (rhS rHT) (rhM rHT) (rhN rHT) (rhL rHT) (fun _ _ => []) rhG 10 zmt xo rtb 1000000 368 rc_368_8 rch_368_8_37 = true := by decide +kernel
theorem rh_323_0_1 : schH (rhS rHT) (rhM rHT) (rhN rHT) (rhL rHT) (fun _ _ => []) rhG 10 zmt xo rtb 1000000 323 rc_323_0 rch_323_0_1 = true := by decide +kernel
theorem re_385_0 : schE (rhS rHT) (rhM rHT) (rhN rHT) (rhL rHT) (fun _ _ => []) rhG 10 zmt xo rtb 1000000 385 rc_385_0 = true := by decide +kernel
