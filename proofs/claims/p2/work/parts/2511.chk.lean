/-! THE REFERENCE: checks (3009 steps; printed by gen50.py) -/
theorem rh_490_1_0 : schH (rhS rHT) (rhM rHT) (rhN rHT) (rhL rHT) (fun _ _ => []) rhG 10 zmt xo rtb 1000000 490 rc_490_1 rch_490_1_0 = true := by decide +kernel
theorem re_316_0 : schE (rhS rHT) (rhM rHT) (rhN rHT) (rhL rHT) (fun _ _ => []) rhG 10 zmt xo rtb 1000000 316 rc_316_0 = true := by decide +kernel
theorem rh_379_0_2 : schH (rhS rHT) (rhM rHT) (rhN rHT) (rhL rHT) (fun _ _ => []) rhG 10 zmt xo rtb 1000000 379 rc_379_0 rch_379_0_2 = true := by decide +kernel
theorem re_345_0 : schE (rhS rHT) (rhM rHT) (rhN rHT) (rhL rHT) (fun _ _ => []) rhG 10 zmt xo rtb 1000000 345 rc_345_0 = true := by decide +kernel
theorem rh_434_0_3 : schH (rhS rHT) (rhM rHT) (rhN rHT) (rhL rHT) (fun _ _ => []) rhG 10 zmt xo rtb 1000000 434 rc_434_0 rch_434_0_3 = true := by decide +kernel
theorem rh_460_0_0 : schH (rhS rHT) (rhM rHT) (rhN rHT) (rhL rHT) (fun _ _ => []) rhG 10 zmt xo rtb 1000000 460 rc_460_0 rch_460_0_0 = true := by decide +kernel
theorem re_462_2 : schE (rhS rHT) (rhM rHT) (rhN rHT) (rhL rHT) (fun _ _ => []) rhG 10 zmt xo rtb 1000000 462 rc_462_2 = true := by decide +kernel
theorem re_306_0 : schE (rhS rHT) (rhM rHT) (rhN rHT) (rhL rHT) (fun _ _ => []) rhG 10 zmt xo rtb 1000000 306 rc_306_0 = true := by decide +kernel
theorem rh_458_3_0 : schH (rhS rHT) (rhM rHT) (rhN rHT) (rhL rHT) (fun _ _ => []) rhG 10 zmt xo rtb 1000000 458 rc_458_3 rch_458_3_0 = true := by decide +kernel
theorem rh_345_0_0 : schH (rhS rHT) (rhM rHT) (rhN rHT) (rhL rHT) (fun _ _ => []) rhG 10 zmt xo rtb 1000000 345 rc_345_0 rch_345_0_0 = true := by decide +kernel
theorem re_393_0 : schE (rhS rHT) (rhM rHT) (rhN rHT) (rhL rHT) (fun _ _ => []) rhG 10 zmt xo rtb 1000000 393 rc_393_0 = true := by decide +kernel
theorem rh_330_0_0 : schH (rhS rHT) (rhM rHT) (rhN rHT) (rhL rHT) (fun _ _ => []) rhG 10 zmt xo rtb 1000000 330 rc_330_0 rch_330_0_0 = true := by decide +kernel
theorem rh_330_1_0 : schH (rhS rHT) (rhM rHT) (rhN rHT) (rhL rHT) (fun _ _ => []) rhG 10 zmt xo rtb 1000000 330 rc_330_1 rch_330_1_0 = true := by decide +kernel
theorem rh_330_2_0 : schH (rhS rHT) (rhM rHT) (rhN rHT) (rhL rHT) (fun _ _ => []) rhG 10 zmt xo rtb 1000000 330 rc_330_2 rch_330_2_0 = true := by decide +kernel
theorem rh_434_0_2 : schH (rhS rHT) (rhM rHT) (rhN rHT) (rhL rHT) (fun _ _ => []) rhG 10 zmt xo rtb 1000000 434 rc_434_0 rch_434_0_2 = true := by decide +kernel
theorem rh_493_0_0 : schH (rhS rHT) (rhM rHT) (rhN rHT) (rhL rHT) (fun _ _ => []) rhG 10 zmt xo rtb 1000000 493 rc_493_0 rch_493_0_0 = true := by decide +kernel
theorem re_462_3 : schE (rhS rHT) (rhM rHT) (rhN rHT) (rhL rHT) (fun _ _ => []) rhG 10 zmt xo rtb 1000000 462 rc_462_3 = true := by decide +kernel
theorem rh_329_0_0 : schH (rhS rHT) (rhM rHT) (rhN rHT) (rhL rHT) (fun _ _ => []) rhG 10 zmt xo rtb 1000000 329 rc_329_0 rch_329_0_0 = true := by decide +kernel
theorem rh_489_7_0 : schH (rhS rHT) (rhM rHT) (rhN rHT) (rhL rHT) (fun _ _ => []) rhG 10 zmt xo rtb 1000000 489 rc_489_7 rch_489_7_0 = true := by decide +kernel
theorem rh_364_0_1 : schH (rhS rHT) (rhM rHT) (rhN rHT) (rhL rHT) (fun _ _ => []) rhG 10 zmt xo rtb 1000000 364 rc_364_0 rch_364_0_1 = true := by decide +kernel
theorem rh_480_2_3 : schH (rhS rHT) (rhM rHT) (rhN rHT) (rhL rHT) (fun _ _ => []) rhG 10 zmt xo rtb 1000000 480 rc_480_2 rch_480_2_3 = true := by decide +kernel
theorem re_452_0 : schE (rhS rHT) (rhM rHT) (rhN rHT) (rhL rHT) (fun _ _ => []) rhG 10 zmt xo rtb 1000000 452 rc_452_0 = true := by decide +kernel
theorem re_491_2 : schE (rhS rHT) (rhM rHT) (rhN rHT) (rhL rHT) (fun _ _ => []) rhG 10 zmt xo rtb 1000000 491 rc_491_2 = true := by decide +kernel
theorem re_480_0 : schE (rhS rHT) (rhM rHT) (rhN rHT) (rhL rHT) (fun _ _ => []) rhG 10 zmt xo rtb 1000000 480 rc_480_0 = true := by decide +kernel
theorem re_482_0 : schE (rhS rHT) (rhM rHT) (rhN rHT) (rhL rHT) (fun _ _ => []) rhG 10 zmt xo rtb 1000000 482 rc_482_0 = true := by decide +kernel
theorem re_489_2 : schE (rhS rHT) (rhM rHT) (rhN rHT) (rhL rHT) (fun _ _ => []) rhG 10 zmt xo rtb 1000000 489 rc_489_2 = true := by decide +kernel
theorem rh_322_0_1 : schH (rhS rHT) (rhM rHT) (rhN rHT) (rhL rHT) (fun _ _ => []) rhG 10 zmt xo rtb 1000000 322 rc_322_0 rch_322_0_1 = true := by decide +kernel
theorem rh_322_1_1 : schH (rhS rHT) (rhM rHT) (rhN rHT) (rhL rHT) (fun _ _ => []) rhG 10 zmt xo rtb 1000000 322 rc_322_1 rch_322_1_1 = true := by decide +kernel
theorem rh_322_2_1 : schH (rhS rHT) (rhM rHT) (rhN rHT) (rhL rHT) (fun _ _ => []) rhG 10 zmt xo rtb 1000000 322 rc_322_2 rch_322_2_1 = true := by decide +kernel
theorem rh_322_3_1 : schH (rhS rHT) (rhM rHT) (rhN rHT) (rhL rHT) (fun _ _ => []) rhG 10 zmt xo rtb 1000000 322 rc_322_3 rch_322_3_1 = true := by decide +kernel
theorem rh_322_4_1 : schH (rhS rHT) (rhM rHT) (rhN rHT) (rhL rHT) (fun _ _ => []) rhG 10 zmt xo rtb 1000000 322 rc_322_4 rch_322_4_1 = true := by decide +kernel
theorem rh_322_5_1 : schH (rhS rHT) (rhM rHT) (rhN rHT) (rhL rHT) (fun _ _ => []) rhG 10 zmt xo rtb 1000000 322 rc_322_5 rch_322_5_1 = true := by decide +kernel
theorem rh_322_6_1 : schH (rhS rHT) (rhM rHT) (rhN rHT) (rhL rHT) (fun _ _ => []) rhG 10 zmt xo rtb 1000000 322 rc_322_6 rch_322_6_1 = true := by decide +kernel
theorem re_480_1 : schE (rhS rHT) (rhM rHT) (rhN rHT) (rhL rHT) (fun _ _ => []) rhG 10 zmt xo rtb 1000000 480 rc_480_1 = true := by decide +kernel
theorem rh_449_1_0 : schH (rhS rHT) (rhM rHT) (rhN rHT) (rhL rHT) (fun _ _ => []) rhG 10 zmt xo rtb 1000000 449 rc_449_1 rch_449_1_0 = true := by decide +kernel
theorem rh_420_0_0 : schH (rhS rHT) (rhM rHT) (rhN rHT) (rhL rHT) (fun _ _ => []) rhG 10 zmt xo rtb 1000000 420 rc_420_0 rch_420_0_0 = true := by decide +kernel
theorem re_488_0 : schE (rhS rHT) (rhM rHT) (rhN rHT) (rhL rHT) (fun _ _ => []) rhG 10 zmt xo rtb 1000000 488 rc_488_0 = true := by decide +kernel
theorem rh_434_0_0 : schH (rhS rHT) (rhM rHT) (rhN rHT) (rhL rHT) (fun _ _ => []) rhG 10 zmt xo rtb 1000000 434 rc_434_0 rch_434_0_0 = true := by decide +kernel
theorem rh_376_0_1 : schH (rhS rHT) (rhM rHT) (rhN rHT) (rhL rHT) (fun _ _ => []) rhG 10 zmt xo rtb 1000000 376 rc_376_0 rch_376_0_1 = true := by decide +kernel
theorem rh_376_1_1 : schH (rhS rHT) (rhM rHT) (rhN rHT) (rhL rHT) (fun _ _ => []) rhG 10 zmt xo rtb 1000000 376 rc_376_1 rch_376_1_1 = true := by decide +kernel
theorem rh_376_2_1 : schH (rhS rHT) (rhM rHT) (rhN rHT) (rhL rHT) (fun _ _ => []) rhG 10 zmt xo rtb 1000000 376 rc_376_2 rch_376_2_1 = true := by decide +kernel
theorem rh_376_3_1 : schH (rhS rHT) (rhM rHT) (rhN rHT) (rhL rHT) (fun _ _ => []) rhG 10 zmt xo rtb 1000000 376 rc_376_3 rch_376_3_1 = true := by decide +kernel
theorem rh_376_4_1 : schH (rhS rHT) (rhM rHT) (rhN rHT) (rhL rHT) (fun _ _ => []) rhG 10 zmt xo rtb 1000000 376 rc_376_4 rch_376_4_1 = true := by decide +kernel
theorem rh_376_5_1 : schH (rhS rHT) (rhM rHT) (rhN rHT) (rhL rHT) (fun _ _ => []) rhG 10 zmt xo rtb 1000000 376 rc_376_5 rch_376_5_1 = true := by decide +kernel
theorem re_379_0 : schE (rhS rHT) (rhM rHT) (rhN rHT) (rhL rHT) (fun _ _ => []) rhG 10 zmt xo rtb 1000000 379 rc_379_0 = true := by decide +kernel
theorem rh_316_0_0 : schH (rhS rHT) (rhM rHT) (rhN rHT) (rhL rHT) (fun _ _ => []) rhG 10 zmt xo rtb 1000000 316 rc_316_0 rch_316_0_0 = true := by decide +kernel
theorem rh_371_0_0 : schH (rhS rHT) (rhM rHT) (rhN rHT) (rhL rHT) (fun _ _ => []) rhG 10 zmt xo rtb 1000000 371 rc_371_0 rch_371_0_0 = true := by decide +kernel
theorem rh_353_0_0 : schH (rhS rHT) (rhM rHT) (rhN rHT) (rhL rHT) (fun _ _ => []) rhG 10 zmt xo rtb 1000000 353 rc_353_0 rch_353_0_0 = true := by decide +kernel
theorem rh_317_0_0 : schH (rhS rHT) (rhM rHT) (rhN rHT) (rhL rHT) (fun _ _ => []) rhG 10 zmt xo rtb 1000000 317 rc_317_0 rch_317_0_0 = true := by decide +kernel
theorem re_491_3 : schE (rhS rHT) (rhM rHT) (rhN rHT) (rhL rHT) (fun _ _ => []) rhG 10 zmt xo rtb 1000000 491 rc_491_3 = true := by decide +kernel
theorem rh_369_0_0 : schH (rhS rHT) (rhM rHT) (rhN rHT) (rhL rHT) (fun _ _ => []) rhG 10 zmt xo rtb 1000000 369 rc_369_0 rch_369_0_0 = true := by decide +kernel
theorem re_374_0 : schE (rhS rHT) (rhM rHT) (rhN rHT) (rhL rHT) (fun _ _ => []) rhG 10 zmt xo rtb 1000000 374 rc_374_0 = true := by decide +kernel
theorem re_489_3 : schE (rhS rHT) (rhM rHT) (rhN rHT) (rhL rHT) (fun _ _ => []) rhG 10 zmt xo rtb 1000000 489 rc_489_3 = true := by decide +kernel
theorem rh_434_0_1 : schH (rhS rHT) (rhM rHT) (rhN rHT) (rhL rHT) (fun _ _ => []) rhG 10 zmt xo rtb 1000000 434 rc_434_0 rch_434_0_1 = true := by decide +kernel
theorem rh_463_2_0 : schH (rhS rHT) (rhM rHT) (rhN rHT) (rhL rHT) (fun _ _ => []) rhG 10 zmt xo rtb 1000000 463 rc_463_2 rch_463_2_0 = true := by decide +kernel
theorem re_491_4 : schE (rhS rHT) (rhM rHT) (rhN rHT) (rhL rHT) (fun _ _ => []) rhG 10 zmt xo rtb 1000000 491 rc_491_4 = true := by decide +kernel
theorem re_307_0 : schE (rhS rHT) (rhM rHT) (rhN rHT) (rhL rHT) (fun _ _ => []) rhG 10 zmt xo rtb 1000000 307 rc_307_0 = true := by decide +kernel
theorem re_431_0 : schE (rhS rHT) (rhM rHT) (rhN rHT) (rhL rHT) (fun _ _ => []) rhG 10 zmt xo rtb 1000000 431 rc_431_0 = true := by decide +kernel
theorem re_489_4 : schE (rhS rHT) (rhM rHT) (rhN rHT) (rhL rHT) (fun _ _ => []) rhG 10 zmt xo rtb 1000000 489 rc_489_4 = true := by decide +kernel
theorem rh_365_0_0 : schH (rhS rHT) (rhM rHT) (rhN rHT) (rhL rHT) (fun _ _ => []) rhG 10 zmt xo rtb 1000000 365 rc_365_0 rch_365_0_0 = true := by decide +kernel
theorem re_434_0 : schE (rhS rHT) (rhM rHT) (rhN rHT) (rhL rHT) (fun _ _ => []) rhG 10 zmt xo rtb 1000000 434 rc_434_0 = true := by decide +kernel
theorem rh_374_0_0 : schH (rhS rHT) (rhM rHT) (rhN rHT) (rhL rHT) (fun _ _ => []) rhG 10 zmt xo rtb 1000000 374 rc_374_0 rch_374_0_0 = true := by decide +kernel
theorem re_489_5 : schE (rhS rHT) (rhM rHT) (rhN rHT) (rhL rHT) (fun _ _ => []) rhG 10 zmt xo rtb 1000000 489 rc_489_5 = true := by decide +kernel
theorem rh_360_0_1 : schH (rhS rHT) (rhM rHT) (rhN rHT) (rhL rHT) (fun _ _ => []) rhG 10 zmt xo rtb 1000000 360 rc_360_0 rch_360_0_1 = true := by decide +kernel
theorem rh_393_0_0 : schH (rhS rHT) (rhM rHT) (rhN rHT) (rhL rHT) (fun _ _ => []) rhG 10 zmt xo rtb 1000000 393 rc_393_0 rch_393_0_0 = true := by decide +kernel
