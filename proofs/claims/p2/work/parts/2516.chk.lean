/-! THE REFERENCE: checks (2970 steps; printed by gen50.py) -/
theorem rh_462_5_95 : schH (rhS rHT) (rhM rHT) (rhN rHT) (rhL rHT) (fun _ _ => []) rhG 10 zmt xo rtb 1000000 462 rc_462_5 rch_462_5_95 = true := by decide +kernel
theorem rh_462_5_96 : schH (rhS rHT) (rhM rHT) (rhN rHT) (rhL rHT) (fun _ _ => []) rhG 10 zmt xo rtb 1000000 462 rc_462_5 rch_462_5_96 = true := by decide +kernel
theorem rh_337_1_0 : schH (rhS rHT) (rhM rHT) (rhN rHT) (rhL rHT) (fun _ _ => []) rhG 10 zmt xo rtb 1000000 337 rc_337_1 rch_337_1_0 = true := by decide +kernel
theorem rh_462_5_122 : schH (rhS rHT) (rhM rHT) (rhN rHT) (rhL rHT) (fun _ _ => []) rhG 10 zmt xo rtb 1000000 462 rc_462_5 rch_462_5_122 = true := by decide +kernel
theorem rh_462_5_123 : schH (rhS rHT) (rhM rHT) (rhN rHT) (rhL rHT) (fun _ _ => []) rhG 10 zmt xo rtb 1000000 462 rc_462_5 rch_462_5_123 = true := by decide +kernel
theorem re_360_1 : schE (rhS rHT) (rhM rHT) (rhN rHT) (rhL rHT) (fun _ _ => []) rhG 10 zmt xo rtb 1000000 360 rc_360_1 = true := by decide +kernel
theorem re_492_6 : schE (rhS rHT) (rhM rHT) (rhN rHT) (rhL rHT) (fun _ _ => []) rhG 10 zmt xo rtb 1000000 492 rc_492_6 = true := by decide +kernel
theorem rh_481_0_3 : schH (rhS rHT) (rhM rHT) (rhN rHT) (rhL rHT) (fun _ _ => []) rhG 10 zmt xo rtb 1000000 481 rc_481_0 rch_481_0_3 = true := by decide +kernel
theorem re_303_1 : schE (rhS rHT) (rhM rHT) (rhN rHT) (rhL rHT) (fun _ _ => []) rhG 10 zmt xo rtb 1000000 303 rc_303_1 = true := by decide +kernel
theorem rh_462_5_128 : schH (rhS rHT) (rhM rHT) (rhN rHT) (rhL rHT) (fun _ _ => []) rhG 10 zmt xo rtb 1000000 462 rc_462_5 rch_462_5_128 = true := by decide +kernel
theorem rh_462_5_129 : schH (rhS rHT) (rhM rHT) (rhN rHT) (rhL rHT) (fun _ _ => []) rhG 10 zmt xo rtb 1000000 462 rc_462_5 rch_462_5_129 = true := by decide +kernel
theorem rh_462_5_133 : schH (rhS rHT) (rhM rHT) (rhN rHT) (rhL rHT) (fun _ _ => []) rhG 10 zmt xo rtb 1000000 462 rc_462_5 rch_462_5_133 = true := by decide +kernel
theorem rh_462_5_134 : schH (rhS rHT) (rhM rHT) (rhN rHT) (rhL rHT) (fun _ _ => []) rhG 10 zmt xo rtb 1000000 462 rc_462_5 rch_462_5_134 = true := by decide +kernel
theorem rh_462_5_135 : schH (rhS rHT) (rhM rHT) (rhN rHT) (rhL rHT) (fun _ _ => []) rhG 10 zmt xo rtb 1000000 462 rc_462_5 rch_462_5_135 = true := by decide +kernel
theorem rh_462_5_172 : schH (rhS rHT) (rhM rHT) (rhN rHT) (rhL rHT) (fun _ _ => []) rhG 10 zmt xo rtb 1000000 462 rc_462_5 rch_462_5_172 = true := by decide +kernel
theorem rh_462_5_173 : schH (rhS rHT) (rhM rHT) (rhN rHT) (rhL rHT) (fun _ _ => []) rhG 10 zmt xo rtb 1000000 462 rc_462_5 rch_462_5_173 = true := by decide +kernel
theorem rh_462_5_174 : schH (rhS rHT) (rhM rHT) (rhN rHT) (rhL rHT) (fun _ _ => []) rhG 10 zmt xo rtb 1000000 462 rc_462_5 rch_462_5_174 = true := by decide +kernel
theorem rh_462_5_114 : schH (rhS rHT) (rhM rHT) (rhN rHT) (rhL rHT) (fun _ _ => []) rhG 10 zmt xo rtb 1000000 462 rc_462_5 rch_462_5_114 = true := by decide +kernel
theorem rh_462_5_146 : schH (rhS rHT) (rhM rHT) (rhN rHT) (rhL rHT) (fun _ _ => []) rhG 10 zmt xo rtb 1000000 462 rc_462_5 rch_462_5_146 = true := by decide +kernel
theorem re_463_2 : schE (rhS rHT) (rhM rHT) (rhN rHT) (rhL rHT) (fun _ _ => []) rhG 10 zmt xo rtb 1000000 463 rc_463_2 = true := by decide +kernel
theorem re_302_0 : schE (rhS rHT) (rhM rHT) (rhN rHT) (rhL rHT) (fun _ _ => []) rhG 10 zmt xo rtb 1000000 302 rc_302_0 = true := by decide +kernel
theorem rh_462_5_3 : schH (rhS rHT) (rhM rHT) (rhN rHT) (rhL rHT) (fun _ _ => []) rhG 10 zmt xo rtb 1000000 462 rc_462_5 rch_462_5_3 = true := by decide +kernel
theorem rh_462_5_7 : schH (rhS rHT) (rhM rHT) (rhN rHT) (rhL rHT) (fun _ _ => []) rhG 10 zmt xo rtb 1000000 462 rc_462_5 rch_462_5_7 = true := by decide +kernel
theorem rh_462_5_9 : schH (rhS rHT) (rhM rHT) (rhN rHT) (rhL rHT) (fun _ _ => []) rhG 10 zmt xo rtb 1000000 462 rc_462_5 rch_462_5_9 = true := by decide +kernel
