/-! THE REFERENCE: checks (cost 69; printed by gen50.py) -/
theorem rh_396_0_1 : schH (rhS rHT) (rhM rHT) (rhN rHT) (rhL rHT) (fun _ _ => []) rhG 10 zmt xo rtb 1000000 396 rc_396_0 rch_396_0_1 = true := by decide +kernel
theorem rw_302_0 : scwf rc_302_0 = true := by decide +kernel
theorem rw_302_1 : scwf rc_302_1 = true := by decide +kernel
theorem rw_302_2 : scwf rc_302_2 = true := by decide +kernel
theorem rw_302_3 : scwf rc_302_3 = true := by decide +kernel
theorem rw_302_4 : scwf rc_302_4 = true := by decide +kernel
theorem rw_302_5 : scwf rc_302_5 = true := by decide +kernel
theorem rw_302_6 : scwf rc_302_6 = true := by decide +kernel
theorem rw_303_0 : scwf rc_303_0 = true := by decide +kernel
theorem rw_303_1 : scwf rc_303_1 = true := by decide +kernel
theorem rw_303_2 : scwf rc_303_2 = true := by decide +kernel
theorem rw_303_3 : scwf rc_303_3 = true := by decide +kernel
theorem rw_303_4 : scwf rc_303_4 = true := by decide +kernel
theorem rw_303_5 : scwf rc_303_5 = true := by decide +kernel
theorem rw_303_6 : scwf rc_303_6 = true := by decide +kernel
theorem rw_306_0 : scwf rc_306_0 = true := by decide +kernel
theorem rw_307_0 : scwf rc_307_0 = true := by decide +kernel
theorem rw_345_0 : scwf rc_345_0 = true := by decide +kernel
theorem rw_315_0 : scwf rc_315_0 = true := by decide +kernel
theorem rw_316_0 : scwf rc_316_0 = true := by decide +kernel
theorem rw_317_0 : scwf rc_317_0 = true := by decide +kernel
theorem rw_322_0 : scwf rc_322_0 = true := by decide +kernel
theorem rw_322_1 : scwf rc_322_1 = true := by decide +kernel
theorem rw_322_2 : scwf rc_322_2 = true := by decide +kernel
theorem rw_322_3 : scwf rc_322_3 = true := by decide +kernel
theorem rw_322_4 : scwf rc_322_4 = true := by decide +kernel
theorem rw_322_5 : scwf rc_322_5 = true := by decide +kernel
theorem rw_322_6 : scwf rc_322_6 = true := by decide +kernel
theorem rw_323_0 : scwf rc_323_0 = true := by decide +kernel
theorem rw_328_0 : scwf rc_328_0 = true := by decide +kernel
theorem rw_329_0 : scwf rc_329_0 = true := by decide +kernel
theorem rw_353_0 : scwf rc_353_0 = true := by decide +kernel
theorem rw_360_0 : scwf rc_360_0 = true := by decide +kernel
theorem rw_360_1 : scwf rc_360_1 = true := by decide +kernel
theorem rw_364_0 : scwf rc_364_0 = true := by decide +kernel
theorem rw_363_0 : scwf rc_363_0 = true := by decide +kernel
theorem rw_365_0 : scwf rc_365_0 = true := by decide +kernel
theorem rw_366_0 : scwf rc_366_0 = true := by decide +kernel
theorem rw_368_0 : scwf rc_368_0 = true := by decide +kernel
theorem rw_368_1 : scwf rc_368_1 = true := by decide +kernel
theorem rw_368_2 : scwf rc_368_2 = true := by decide +kernel
theorem rw_368_3 : scwf rc_368_3 = true := by decide +kernel
theorem rw_368_4 : scwf rc_368_4 = true := by decide +kernel
theorem rw_368_5 : scwf rc_368_5 = true := by decide +kernel
theorem rw_368_6 : scwf rc_368_6 = true := by decide +kernel
theorem rw_368_7 : scwf rc_368_7 = true := by decide +kernel
theorem rw_368_8 : scwf rc_368_8 = true := by decide +kernel
theorem rw_368_9 : scwf rc_368_9 = true := by decide +kernel
theorem rw_369_0 : scwf rc_369_0 = true := by decide +kernel
theorem rw_314_0 : scwf rc_314_0 = true := by decide +kernel
theorem rw_314_1 : scwf rc_314_1 = true := by decide +kernel
theorem rw_314_2 : scwf rc_314_2 = true := by decide +kernel
theorem rw_423_0 : scwf rc_423_0 = true := by decide +kernel
theorem rw_420_0 : scwf rc_420_0 = true := by decide +kernel
theorem rw_426_0 : scwf rc_426_0 = true := by decide +kernel
theorem rw_330_0 : scwf rc_330_0 = true := by decide +kernel
theorem rw_330_1 : scwf rc_330_1 = true := by decide +kernel
theorem rw_330_2 : scwf rc_330_2 = true := by decide +kernel
theorem rw_337_0 : scwf rc_337_0 = true := by decide +kernel
theorem rw_337_1 : scwf rc_337_1 = true := by decide +kernel
theorem rw_433_0 : scwf rc_433_0 = true := by decide +kernel
theorem rw_440_0 : scwf rc_440_0 = true := by decide +kernel
theorem rw_439_0 : scwf rc_439_0 = true := by decide +kernel
theorem rw_437_0 : scwf rc_437_0 = true := by decide +kernel
theorem rw_434_0 : scwf rc_434_0 = true := by decide +kernel
theorem rw_441_0 : scwf rc_441_0 = true := by decide +kernel
theorem rw_384_0 : scwf rc_384_0 = true := by decide +kernel
theorem rw_391_0 : scwf rc_391_0 = true := by decide +kernel
theorem rw_393_0 : scwf rc_393_0 = true := by decide +kernel
theorem rw_395_0 : scwf rc_395_0 = true := by decide +kernel
theorem rw_389_0 : scwf rc_389_0 = true := by decide +kernel
theorem rw_394_0 : scwf rc_394_0 = true := by decide +kernel
theorem rw_394_1 : scwf rc_394_1 = true := by decide +kernel
theorem rw_371_0 : scwf rc_371_0 = true := by decide +kernel
theorem rw_374_0 : scwf rc_374_0 = true := by decide +kernel
theorem rw_377_0 : scwf rc_377_0 = true := by decide +kernel
theorem rw_378_0 : scwf rc_378_0 = true := by decide +kernel
theorem rw_380_0 : scwf rc_380_0 = true := by decide +kernel
theorem rw_379_0 : scwf rc_379_0 = true := by decide +kernel
theorem rw_376_0 : scwf rc_376_0 = true := by decide +kernel
theorem rw_376_1 : scwf rc_376_1 = true := by decide +kernel
theorem rw_376_2 : scwf rc_376_2 = true := by decide +kernel
theorem rw_376_3 : scwf rc_376_3 = true := by decide +kernel
theorem rw_376_4 : scwf rc_376_4 = true := by decide +kernel
theorem rw_376_5 : scwf rc_376_5 = true := by decide +kernel
theorem rw_385_0 : scwf rc_385_0 = true := by decide +kernel
theorem rw_385_1 : scwf rc_385_1 = true := by decide +kernel
theorem rw_385_2 : scwf rc_385_2 = true := by decide +kernel
theorem rw_407_0 : scwf rc_407_0 = true := by decide +kernel
theorem rw_408_0 : scwf rc_408_0 = true := by decide +kernel
theorem rw_408_1 : scwf rc_408_1 = true := by decide +kernel
theorem rw_405_0 : scwf rc_405_0 = true := by decide +kernel
theorem rw_406_0 : scwf rc_406_0 = true := by decide +kernel
theorem rw_406_1 : scwf rc_406_1 = true := by decide +kernel
theorem rw_415_0 : scwf rc_415_0 = true := by decide +kernel
theorem rw_415_1 : scwf rc_415_1 = true := by decide +kernel
theorem rw_422_0 : scwf rc_422_0 = true := by decide +kernel
theorem rw_417_0 : scwf rc_417_0 = true := by decide +kernel
theorem rw_418_0 : scwf rc_418_0 = true := by decide +kernel
theorem rw_421_0 : scwf rc_421_0 = true := by decide +kernel
theorem rw_413_0 : scwf rc_413_0 = true := by decide +kernel
theorem rw_401_0 : scwf rc_401_0 = true := by decide +kernel
theorem rw_400_0 : scwf rc_400_0 = true := by decide +kernel
theorem rw_396_0 : scwf rc_396_0 = true := by decide +kernel
theorem rw_412_0 : scwf rc_412_0 = true := by decide +kernel
theorem rw_412_1 : scwf rc_412_1 = true := by decide +kernel
theorem rw_410_0 : scwf rc_410_0 = true := by decide +kernel
theorem rw_410_1 : scwf rc_410_1 = true := by decide +kernel
theorem rw_399_0 : scwf rc_399_0 = true := by decide +kernel
theorem rw_427_0 : scwf rc_427_0 = true := by decide +kernel
theorem rw_429_0 : scwf rc_429_0 = true := by decide +kernel
theorem rw_431_0 : scwf rc_431_0 = true := by decide +kernel
theorem rw_460_0 : scwf rc_460_0 = true := by decide +kernel
theorem rw_458_0 : scwf rc_458_0 = true := by decide +kernel
theorem rw_458_1 : scwf rc_458_1 = true := by decide +kernel
theorem rw_458_2 : scwf rc_458_2 = true := by decide +kernel
theorem rw_458_3 : scwf rc_458_3 = true := by decide +kernel
theorem rw_459_0 : scwf rc_459_0 = true := by decide +kernel
theorem rw_463_0 : scwf rc_463_0 = true := by decide +kernel
theorem rw_463_1 : scwf rc_463_1 = true := by decide +kernel
theorem rw_463_2 : scwf rc_463_2 = true := by decide +kernel
theorem rw_464_0 : scwf rc_464_0 = true := by decide +kernel
theorem rw_464_1 : scwf rc_464_1 = true := by decide +kernel
theorem rw_464_2 : scwf rc_464_2 = true := by decide +kernel
theorem rw_465_0 : scwf rc_465_0 = true := by decide +kernel
theorem rw_466_0 : scwf rc_466_0 = true := by decide +kernel
theorem rw_467_0 : scwf rc_467_0 = true := by decide +kernel
theorem rw_468_0 : scwf rc_468_0 = true := by decide +kernel
theorem rw_469_0 : scwf rc_469_0 = true := by decide +kernel
theorem rw_470_0 : scwf rc_470_0 = true := by decide +kernel
theorem rw_471_0 : scwf rc_471_0 = true := by decide +kernel
theorem rw_472_0 : scwf rc_472_0 = true := by decide +kernel
theorem rw_474_0 : scwf rc_474_0 = true := by decide +kernel
theorem rw_475_0 : scwf rc_475_0 = true := by decide +kernel
theorem rw_476_0 : scwf rc_476_0 = true := by decide +kernel
theorem rw_478_0 : scwf rc_478_0 = true := by decide +kernel
theorem rw_479_0 : scwf rc_479_0 = true := by decide +kernel
theorem rw_489_0 : scwf rc_489_0 = true := by decide +kernel
theorem rw_489_1 : scwf rc_489_1 = true := by decide +kernel
theorem rw_489_2 : scwf rc_489_2 = true := by decide +kernel
theorem rw_489_3 : scwf rc_489_3 = true := by decide +kernel
theorem rw_489_4 : scwf rc_489_4 = true := by decide +kernel
theorem rw_489_5 : scwf rc_489_5 = true := by decide +kernel
theorem rw_489_6 : scwf rc_489_6 = true := by decide +kernel
theorem rw_489_7 : scwf rc_489_7 = true := by decide +kernel
theorem rw_493_0 : scwf rc_493_0 = true := by decide +kernel
theorem rw_495_0 : scwf rc_495_0 = true := by decide +kernel
theorem rw_495_1 : scwf rc_495_1 = true := by decide +kernel
theorem rw_495_2 : scwf rc_495_2 = true := by decide +kernel
theorem rw_495_3 : scwf rc_495_3 = true := by decide +kernel
theorem rw_495_4 : scwf rc_495_4 = true := by decide +kernel
theorem rw_495_5 : scwf rc_495_5 = true := by decide +kernel
theorem rw_495_6 : scwf rc_495_6 = true := by decide +kernel
theorem rw_495_7 : scwf rc_495_7 = true := by decide +kernel
theorem rw_495_8 : scwf rc_495_8 = true := by decide +kernel
theorem rw_494_0 : scwf rc_494_0 = true := by decide +kernel
theorem rw_490_0 : scwf rc_490_0 = true := by decide +kernel
theorem rw_490_1 : scwf rc_490_1 = true := by decide +kernel
theorem rw_491_0 : scwf rc_491_0 = true := by decide +kernel
theorem rw_491_1 : scwf rc_491_1 = true := by decide +kernel
theorem rw_491_2 : scwf rc_491_2 = true := by decide +kernel
theorem rw_491_3 : scwf rc_491_3 = true := by decide +kernel
theorem rw_491_4 : scwf rc_491_4 = true := by decide +kernel
theorem rw_491_5 : scwf rc_491_5 = true := by decide +kernel
theorem rw_492_0 : scwf rc_492_0 = true := by decide +kernel
theorem rw_492_1 : scwf rc_492_1 = true := by decide +kernel
theorem rw_492_2 : scwf rc_492_2 = true := by decide +kernel
theorem rw_492_3 : scwf rc_492_3 = true := by decide +kernel
theorem rw_492_4 : scwf rc_492_4 = true := by decide +kernel
theorem rw_492_5 : scwf rc_492_5 = true := by decide +kernel
theorem rw_492_6 : scwf rc_492_6 = true := by decide +kernel
theorem rw_462_0 : scwf rc_462_0 = true := by decide +kernel
theorem rw_462_1 : scwf rc_462_1 = true := by decide +kernel
theorem rw_462_2 : scwf rc_462_2 = true := by decide +kernel
theorem rw_462_3 : scwf rc_462_3 = true := by decide +kernel
theorem rw_462_4 : scwf rc_462_4 = true := by decide +kernel
theorem rw_462_5 : scwf rc_462_5 = true := by decide +kernel
theorem rw_447_0 : scwf rc_447_0 = true := by decide +kernel
theorem rw_442_0 : scwf rc_442_0 = true := by decide +kernel
theorem rw_444_0 : scwf rc_444_0 = true := by decide +kernel
theorem rw_444_1 : scwf rc_444_1 = true := by decide +kernel
theorem rw_444_2 : scwf rc_444_2 = true := by decide +kernel
theorem rw_444_3 : scwf rc_444_3 = true := by decide +kernel
theorem rw_444_4 : scwf rc_444_4 = true := by decide +kernel
theorem rw_444_5 : scwf rc_444_5 = true := by decide +kernel
theorem rw_444_6 : scwf rc_444_6 = true := by decide +kernel
theorem rw_444_7 : scwf rc_444_7 = true := by decide +kernel
theorem rw_448_0 : scwf rc_448_0 = true := by decide +kernel
theorem rw_480_0 : scwf rc_480_0 = true := by decide +kernel
theorem rw_480_1 : scwf rc_480_1 = true := by decide +kernel
theorem rw_480_2 : scwf rc_480_2 = true := by decide +kernel
theorem rw_449_0 : scwf rc_449_0 = true := by decide +kernel
theorem rw_449_1 : scwf rc_449_1 = true := by decide +kernel
theorem rw_451_0 : scwf rc_451_0 = true := by decide +kernel
theorem rw_452_0 : scwf rc_452_0 = true := by decide +kernel
theorem rw_481_0 : scwf rc_481_0 = true := by decide +kernel
theorem rw_482_0 : scwf rc_482_0 = true := by decide +kernel
theorem rw_486_0 : scwf rc_486_0 = true := by decide +kernel
theorem rw_487_0 : scwf rc_487_0 = true := by decide +kernel
theorem rw_488_0 : scwf rc_488_0 = true := by decide +kernel
theorem rw_484_0 : scwf rc_484_0 = true := by decide +kernel
theorem rw_453_0 : scwf rc_453_0 = true := by decide +kernel
theorem rw_485_0 : scwf rc_485_0 = true := by decide +kernel
theorem re_460_0 : schE (rhS rHT) (rhM rHT) (rhN rHT) (rhL rHT) (fun _ _ => []) rhG 10 zmt xo rtb 1000000 460 rc_460_0 = true := by decide +kernel
theorem re_366_0 : schE (rhS rHT) (rhM rHT) (rhN rHT) (rhL rHT) (fun _ _ => []) rhG 10 zmt xo rtb 1000000 366 rc_366_0 = true := by decide +kernel
theorem re_490_0 : schE (rhS rHT) (rhM rHT) (rhN rHT) (rhL rHT) (fun _ _ => []) rhG 10 zmt xo rtb 1000000 490 rc_490_0 = true := by decide +kernel
theorem re_490_1 : schE (rhS rHT) (rhM rHT) (rhN rHT) (rhL rHT) (fun _ _ => []) rhG 10 zmt xo rtb 1000000 490 rc_490_1 = true := by decide +kernel
theorem re_449_0 : schE (rhS rHT) (rhM rHT) (rhN rHT) (rhL rHT) (fun _ _ => []) rhG 10 zmt xo rtb 1000000 449 rc_449_0 = true := by decide +kernel
theorem rh_494_0_2 : schH (rhS rHT) (rhM rHT) (rhN rHT) (rhL rHT) (fun _ _ => []) rhG 10 zmt xo rtb 1000000 494 rc_494_0 rch_494_0_2 = true := by decide +kernel
theorem re_449_1 : schE (rhS rHT) (rhM rHT) (rhN rHT) (rhL rHT) (fun _ _ => []) rhG 10 zmt xo rtb 1000000 449 rc_449_1 = true := by decide +kernel
theorem re_493_0 : schE (rhS rHT) (rhM rHT) (rhN rHT) (rhL rHT) (fun _ _ => []) rhG 10 zmt xo rtb 1000000 493 rc_493_0 = true := by decide +kernel
theorem re_377_0 : schE (rhS rHT) (rhM rHT) (rhN rHT) (rhL rHT) (fun _ _ => []) rhG 10 zmt xo rtb 1000000 377 rc_377_0 = true := by decide +kernel
theorem re_459_0 : schE (rhS rHT) (rhM rHT) (rhN rHT) (rhL rHT) (fun _ _ => []) rhG 10 zmt xo rtb 1000000 459 rc_459_0 = true := by decide +kernel
theorem rh_415_0_4 : schH (rhS rHT) (rhM rHT) (rhN rHT) (rhL rHT) (fun _ _ => []) rhG 10 zmt xo rtb 1000000 415 rc_415_0 rch_415_0_4 = true := by decide +kernel
theorem rh_415_1_4 : schH (rhS rHT) (rhM rHT) (rhN rHT) (rhL rHT) (fun _ _ => []) rhG 10 zmt xo rtb 1000000 415 rc_415_1 rch_415_1_4 = true := by decide +kernel
theorem re_317_0 : schE (rhS rHT) (rhM rHT) (rhN rHT) (rhL rHT) (fun _ _ => []) rhG 10 zmt xo rtb 1000000 317 rc_317_0 = true := by decide +kernel
theorem rh_328_0_0 : schH (rhS rHT) (rhM rHT) (rhN rHT) (rhL rHT) (fun _ _ => []) rhG 10 zmt xo rtb 1000000 328 rc_328_0 rch_328_0_0 = true := by decide +kernel
theorem re_368_4 : schE (rhS rHT) (rhM rHT) (rhN rHT) (rhL rHT) (fun _ _ => []) rhG 10 zmt xo rtb 1000000 368 rc_368_4 = true := by decide +kernel
theorem re_368_5 : schE (rhS rHT) (rhM rHT) (rhN rHT) (rhL rHT) (fun _ _ => []) rhG 10 zmt xo rtb 1000000 368 rc_368_5 = true := by decide +kernel
theorem re_368_6 : schE (rhS rHT) (rhM rHT) (rhN rHT) (rhL rHT) (fun _ _ => []) rhG 10 zmt xo rtb 1000000 368 rc_368_6 = true := by decide +kernel
theorem rh_363_0_0 : schH (rhS rHT) (rhM rHT) (rhN rHT) (rhL rHT) (fun _ _ => []) rhG 10 zmt xo rtb 1000000 363 rc_363_0 rch_363_0_0 = true := by decide +kernel
theorem rh_363_0_2 : schH (rhS rHT) (rhM rHT) (rhN rHT) (rhL rHT) (fun _ _ => []) rhG 10 zmt xo rtb 1000000 363 rc_363_0 rch_363_0_2 = true := by decide +kernel
theorem re_423_0 : schE (rhS rHT) (rhM rHT) (rhN rHT) (rhL rHT) (fun _ _ => []) rhG 10 zmt xo rtb 1000000 423 rc_423_0 = true := by decide +kernel
theorem re_391_0 : schE (rhS rHT) (rhM rHT) (rhN rHT) (rhL rHT) (fun _ _ => []) rhG 10 zmt xo rtb 1000000 391 rc_391_0 = true := by decide +kernel
theorem re_458_0 : schE (rhS rHT) (rhM rHT) (rhN rHT) (rhL rHT) (fun _ _ => []) rhG 10 zmt xo rtb 1000000 458 rc_458_0 = true := by decide +kernel
theorem rh_493_0_1 : schH (rhS rHT) (rhM rHT) (rhN rHT) (rhL rHT) (fun _ _ => []) rhG 10 zmt xo rtb 1000000 493 rc_493_0 rch_493_0_1 = true := by decide +kernel
theorem re_462_0 : schE (rhS rHT) (rhM rHT) (rhN rHT) (rhL rHT) (fun _ _ => []) rhG 10 zmt xo rtb 1000000 462 rc_462_0 = true := by decide +kernel
theorem re_329_0 : schE (rhS rHT) (rhM rHT) (rhN rHT) (rhL rHT) (fun _ _ => []) rhG 10 zmt xo rtb 1000000 329 rc_329_0 = true := by decide +kernel
theorem re_462_1 : schE (rhS rHT) (rhM rHT) (rhN rHT) (rhL rHT) (fun _ _ => []) rhG 10 zmt xo rtb 1000000 462 rc_462_1 = true := by decide +kernel
theorem rh_377_0_0 : schH (rhS rHT) (rhM rHT) (rhN rHT) (rhL rHT) (fun _ _ => []) rhG 10 zmt xo rtb 1000000 377 rc_377_0 rch_377_0_0 = true := by decide +kernel
theorem re_458_1 : schE (rhS rHT) (rhM rHT) (rhN rHT) (rhL rHT) (fun _ _ => []) rhG 10 zmt xo rtb 1000000 458 rc_458_1 = true := by decide +kernel
theorem rh_495_0_0 : schH (rhS rHT) (rhM rHT) (rhN rHT) (rhL rHT) (fun _ _ => []) rhG 10 zmt xo rtb 1000000 495 rc_495_0 rch_495_0_0 = true := by decide +kernel
theorem rh_495_1_0 : schH (rhS rHT) (rhM rHT) (rhN rHT) (rhL rHT) (fun _ _ => []) rhG 10 zmt xo rtb 1000000 495 rc_495_1 rch_495_1_0 = true := by decide +kernel
theorem rh_495_2_0 : schH (rhS rHT) (rhM rHT) (rhN rHT) (rhL rHT) (fun _ _ => []) rhG 10 zmt xo rtb 1000000 495 rc_495_2 rch_495_2_0 = true := by decide +kernel
theorem rh_495_3_0 : schH (rhS rHT) (rhM rHT) (rhN rHT) (rhL rHT) (fun _ _ => []) rhG 10 zmt xo rtb 1000000 495 rc_495_3 rch_495_3_0 = true := by decide +kernel
theorem rh_495_4_0 : schH (rhS rHT) (rhM rHT) (rhN rHT) (rhL rHT) (fun _ _ => []) rhG 10 zmt xo rtb 1000000 495 rc_495_4 rch_495_4_0 = true := by decide +kernel
theorem rh_495_5_0 : schH (rhS rHT) (rhM rHT) (rhN rHT) (rhL rHT) (fun _ _ => []) rhG 10 zmt xo rtb 1000000 495 rc_495_5 rch_495_5_0 = true := by decide +kernel
theorem rh_495_6_0 : schH (rhS rHT) (rhM rHT) (rhN rHT) (rhL rHT) (fun _ _ => []) rhG 10 zmt xo rtb 1000000 495 rc_495_6 rch_495_6_0 = true := by decide +kernel
theorem rh_495_7_0 : schH (rhS rHT) (rhM rHT) (rhN rHT) (rhL rHT) (fun _ _ => []) rhG 10 zmt xo rtb 1000000 495 rc_495_7 rch_495_7_0 = true := by decide +kernel
theorem rh_495_8_0 : schH (rhS rHT) (rhM rHT) (rhN rHT) (rhL rHT) (fun _ _ => []) rhG 10 zmt xo rtb 1000000 495 rc_495_8 rch_495_8_0 = true := by decide +kernel
theorem rh_368_8_161 : schH (rhS rHT) (rhM rHT) (rhN rHT) (rhL rHT) (fun _ _ => []) rhG 10 zmt xo rtb 1000000 368 rc_368_8 rch_368_8_161 = true := by decide +kernel
theorem rh_368_8_163 : schH (rhS rHT) (rhM rHT) (rhN rHT) (rhL rHT) (fun _ _ => []) rhG 10 zmt xo rtb 1000000 368 rc_368_8 rch_368_8_163 = true := by decide +kernel
theorem rh_368_8_164 : schH (rhS rHT) (rhM rHT) (rhN rHT) (rhL rHT) (fun _ _ => []) rhG 10 zmt xo rtb 1000000 368 rc_368_8 rch_368_8_164 = true := by decide +kernel
theorem re_464_0 : schE (rhS rHT) (rhM rHT) (rhN rHT) (rhL rHT) (fun _ _ => []) rhG 10 zmt xo rtb 1000000 464 rc_464_0 = true := by decide +kernel
theorem re_491_0 : schE (rhS rHT) (rhM rHT) (rhN rHT) (rhL rHT) (fun _ _ => []) rhG 10 zmt xo rtb 1000000 491 rc_491_0 = true := by decide +kernel
theorem re_328_0 : schE (rhS rHT) (rhM rHT) (rhN rHT) (rhL rHT) (fun _ _ => []) rhG 10 zmt xo rtb 1000000 328 rc_328_0 = true := by decide +kernel
theorem re_415_1 : schE (rhS rHT) (rhM rHT) (rhN rHT) (rhL rHT) (fun _ _ => []) rhG 10 zmt xo rtb 1000000 415 rc_415_1 = true := by decide +kernel
theorem re_464_1 : schE (rhS rHT) (rhM rHT) (rhN rHT) (rhL rHT) (fun _ _ => []) rhG 10 zmt xo rtb 1000000 464 rc_464_1 = true := by decide +kernel
theorem re_491_1 : schE (rhS rHT) (rhM rHT) (rhN rHT) (rhL rHT) (fun _ _ => []) rhG 10 zmt xo rtb 1000000 491 rc_491_1 = true := by decide +kernel
theorem re_415_0 : schE (rhS rHT) (rhM rHT) (rhN rHT) (rhL rHT) (fun _ _ => []) rhG 10 zmt xo rtb 1000000 415 rc_415_0 = true := by decide +kernel
theorem re_463_0 : schE (rhS rHT) (rhM rHT) (rhN rHT) (rhL rHT) (fun _ _ => []) rhG 10 zmt xo rtb 1000000 463 rc_463_0 = true := by decide +kernel
theorem re_489_0 : schE (rhS rHT) (rhM rHT) (rhN rHT) (rhL rHT) (fun _ _ => []) rhG 10 zmt xo rtb 1000000 489 rc_489_0 = true := by decide +kernel
theorem re_368_3 : schE (rhS rHT) (rhM rHT) (rhN rHT) (rhL rHT) (fun _ _ => []) rhG 10 zmt xo rtb 1000000 368 rc_368_3 = true := by decide +kernel
theorem rh_368_8_154 : schH (rhS rHT) (rhM rHT) (rhN rHT) (rhL rHT) (fun _ _ => []) rhG 10 zmt xo rtb 1000000 368 rc_368_8 rch_368_8_154 = true := by decide +kernel
theorem rh_368_8_155 : schH (rhS rHT) (rhM rHT) (rhN rHT) (rhL rHT) (fun _ _ => []) rhG 10 zmt xo rtb 1000000 368 rc_368_8 rch_368_8_155 = true := by decide +kernel
theorem rh_368_8_159 : schH (rhS rHT) (rhM rHT) (rhN rHT) (rhL rHT) (fun _ _ => []) rhG 10 zmt xo rtb 1000000 368 rc_368_8 rch_368_8_159 = true := by decide +kernel
theorem rh_368_8_160 : schH (rhS rHT) (rhM rHT) (rhN rHT) (rhL rHT) (fun _ _ => []) rhG 10 zmt xo rtb 1000000 368 rc_368_8 rch_368_8_160 = true := by decide +kernel
theorem re_458_2 : schE (rhS rHT) (rhM rHT) (rhN rHT) (rhL rHT) (fun _ _ => []) rhG 10 zmt xo rtb 1000000 458 rc_458_2 = true := by decide +kernel
theorem re_396_0 : schE (rhS rHT) (rhM rHT) (rhN rHT) (rhL rHT) (fun _ _ => []) rhG 10 zmt xo rtb 1000000 396 rc_396_0 = true := by decide +kernel
theorem rh_368_8_127 : schH (rhS rHT) (rhM rHT) (rhN rHT) (rhL rHT) (fun _ _ => []) rhG 10 zmt xo rtb 1000000 368 rc_368_8 rch_368_8_127 = true := by decide +kernel
theorem re_369_0 : schE (rhS rHT) (rhM rHT) (rhN rHT) (rhL rHT) (fun _ _ => []) rhG 10 zmt xo rtb 1000000 369 rc_369_0 = true := by decide +kernel
theorem re_458_3 : schE (rhS rHT) (rhM rHT) (rhN rHT) (rhL rHT) (fun _ _ => []) rhG 10 zmt xo rtb 1000000 458 rc_458_3 = true := by decide +kernel
theorem re_463_1 : schE (rhS rHT) (rhM rHT) (rhN rHT) (rhL rHT) (fun _ _ => []) rhG 10 zmt xo rtb 1000000 463 rc_463_1 = true := by decide +kernel
theorem re_489_1 : schE (rhS rHT) (rhM rHT) (rhN rHT) (rhL rHT) (fun _ _ => []) rhG 10 zmt xo rtb 1000000 489 rc_489_1 = true := by decide +kernel
theorem re_462_2 : schE (rhS rHT) (rhM rHT) (rhN rHT) (rhL rHT) (fun _ _ => []) rhG 10 zmt xo rtb 1000000 462 rc_462_2 = true := by decide +kernel
theorem rh_460_0_0 : schH (rhS rHT) (rhM rHT) (rhN rHT) (rhL rHT) (fun _ _ => []) rhG 10 zmt xo rtb 1000000 460 rc_460_0 rch_460_0_0 = true := by decide +kernel
theorem re_345_0 : schE (rhS rHT) (rhM rHT) (rhN rHT) (rhL rHT) (fun _ _ => []) rhG 10 zmt xo rtb 1000000 345 rc_345_0 = true := by decide +kernel
theorem re_316_0 : schE (rhS rHT) (rhM rHT) (rhN rHT) (rhL rHT) (fun _ _ => []) rhG 10 zmt xo rtb 1000000 316 rc_316_0 = true := by decide +kernel
theorem rh_368_8_150 : schH (rhS rHT) (rhM rHT) (rhN rHT) (rhL rHT) (fun _ _ => []) rhG 10 zmt xo rtb 1000000 368 rc_368_8 rch_368_8_150 = true := by decide +kernel
theorem re_462_3 : schE (rhS rHT) (rhM rHT) (rhN rHT) (rhL rHT) (fun _ _ => []) rhG 10 zmt xo rtb 1000000 462 rc_462_3 = true := by decide +kernel
theorem rh_368_8_132 : schH (rhS rHT) (rhM rHT) (rhN rHT) (rhL rHT) (fun _ _ => []) rhG 10 zmt xo rtb 1000000 368 rc_368_8 rch_368_8_132 = true := by decide +kernel
theorem re_306_0 : schE (rhS rHT) (rhM rHT) (rhN rHT) (rhL rHT) (fun _ _ => []) rhG 10 zmt xo rtb 1000000 306 rc_306_0 = true := by decide +kernel
theorem rh_368_4_1 : schH (rhS rHT) (rhM rHT) (rhN rHT) (rhL rHT) (fun _ _ => []) rhG 10 zmt xo rtb 1000000 368 rc_368_4 rch_368_4_1 = true := by decide +kernel
theorem rh_368_8_134 : schH (rhS rHT) (rhM rHT) (rhN rHT) (rhL rHT) (fun _ _ => []) rhG 10 zmt xo rtb 1000000 368 rc_368_8 rch_368_8_134 = true := by decide +kernel
theorem rh_368_8_135 : schH (rhS rHT) (rhM rHT) (rhN rHT) (rhL rHT) (fun _ _ => []) rhG 10 zmt xo rtb 1000000 368 rc_368_8 rch_368_8_135 = true := by decide +kernel
theorem rh_368_8_136 : schH (rhS rHT) (rhM rHT) (rhN rHT) (rhL rHT) (fun _ _ => []) rhG 10 zmt xo rtb 1000000 368 rc_368_8 rch_368_8_136 = true := by decide +kernel
theorem rh_368_7_3 : schH (rhS rHT) (rhM rHT) (rhN rHT) (rhL rHT) (fun _ _ => []) rhG 10 zmt xo rtb 1000000 368 rc_368_7 rch_368_7_3 = true := by decide +kernel
theorem rh_368_7_4 : schH (rhS rHT) (rhM rHT) (rhN rHT) (rhL rHT) (fun _ _ => []) rhG 10 zmt xo rtb 1000000 368 rc_368_7 rch_368_7_4 = true := by decide +kernel
theorem rh_368_7_5 : schH (rhS rHT) (rhM rHT) (rhN rHT) (rhL rHT) (fun _ _ => []) rhG 10 zmt xo rtb 1000000 368 rc_368_7 rch_368_7_5 = true := by decide +kernel
theorem rh_368_8_133 : schH (rhS rHT) (rhM rHT) (rhN rHT) (rhL rHT) (fun _ _ => []) rhG 10 zmt xo rtb 1000000 368 rc_368_8 rch_368_8_133 = true := by decide +kernel
theorem re_480_0 : schE (rhS rHT) (rhM rHT) (rhN rHT) (rhL rHT) (fun _ _ => []) rhG 10 zmt xo rtb 1000000 480 rc_480_0 = true := by decide +kernel
theorem rh_449_0_0 : schH (rhS rHT) (rhM rHT) (rhN rHT) (rhL rHT) (fun _ _ => []) rhG 10 zmt xo rtb 1000000 449 rc_449_0 rch_449_0_0 = true := by decide +kernel
theorem rh_377_0_2 : schH (rhS rHT) (rhM rHT) (rhN rHT) (rhL rHT) (fun _ _ => []) rhG 10 zmt xo rtb 1000000 377 rc_377_0 rch_377_0_2 = true := by decide +kernel
