/-! THE REFERENCE: checks (2786 steps; printed by gen50.py) -/
theorem re_322_2 : schE (rhS rHT) (rhM rHT) (rhN rHT) (rhL rHT) (fun _ _ => []) rhG 10 zmt xo rtb 1000000 322 rc_322_2 = true := by decide +kernel
theorem re_322_3 : schE (rhS rHT) (rhM rHT) (rhN rHT) (rhL rHT) (fun _ _ => []) rhG 10 zmt xo rtb 1000000 322 rc_322_3 = true := by decide +kernel
theorem re_322_4 : schE (rhS rHT) (rhM rHT) (rhN rHT) (rhL rHT) (fun _ _ => []) rhG 10 zmt xo rtb 1000000 322 rc_322_4 = true := by decide +kernel
theorem re_322_5 : schE (rhS rHT) (rhM rHT) (rhN rHT) (rhL rHT) (fun _ _ => []) rhG 10 zmt xo rtb 1000000 322 rc_322_5 = true := by decide +kernel
theorem re_322_6 : schE (rhS rHT) (rhM rHT) (rhN rHT) (rhL rHT) (fun _ _ => []) rhG 10 zmt xo rtb 1000000 322 rc_322_6 = true := by decide +kernel
theorem re_303_5 : schE (rhS rHT) (rhM rHT) (rhN rHT) (rhL rHT) (fun _ _ => []) rhG 10 zmt xo rtb 1000000 303 rc_303_5 = true := by decide +kernel
theorem rh_462_5_170 : schH (rhS rHT) (rhM rHT) (rhN rHT) (rhL rHT) (fun _ _ => []) rhG 10 zmt xo rtb 1000000 462 rc_462_5 rch_462_5_170 = true := by decide +kernel
theorem re_385_2 : schE (rhS rHT) (rhM rHT) (rhN rHT) (rhL rHT) (fun _ _ => []) rhG 10 zmt xo rtb 1000000 385 rc_385_2 = true := by decide +kernel
theorem rh_462_5_106 : schH (rhS rHT) (rhM rHT) (rhN rHT) (rhL rHT) (fun _ _ => []) rhG 10 zmt xo rtb 1000000 462 rc_462_5 rch_462_5_106 = true := by decide +kernel
theorem rh_462_5_107 : schH (rhS rHT) (rhM rHT) (rhN rHT) (rhL rHT) (fun _ _ => []) rhG 10 zmt xo rtb 1000000 462 rc_462_5 rch_462_5_107 = true := by decide +kernel
theorem rh_322_0_2 : schH (rhS rHT) (rhM rHT) (rhN rHT) (rhL rHT) (fun _ _ => []) rhG 10 zmt xo rtb 1000000 322 rc_322_0 rch_322_0_2 = true := by decide +kernel
theorem rh_322_1_2 : schH (rhS rHT) (rhM rHT) (rhN rHT) (rhL rHT) (fun _ _ => []) rhG 10 zmt xo rtb 1000000 322 rc_322_1 rch_322_1_2 = true := by decide +kernel
