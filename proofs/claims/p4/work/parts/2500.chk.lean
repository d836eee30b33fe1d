/-! THE REFERENCE: checks (cost 56; printed by gen50.py) -/
theorem rh_448_0_6 : schH (rhS rHT) (rhM rHT) (rhN rHT) (rhL rHT) (fun _ _ => []) rhG 10 zmt xo rtb 1000000 448 rc_448_0 rch_448_0_6 = true := by decide +kernel
theorem rh_448_0_5 : schH (rhS rHT) (rhM rHT) (rhN rHT) (rhL rHT) (fun _ _ => []) rhG 10 zmt xo rtb 1000000 448 rc_448_0 rch_448_0_5 = true := by decide +kernel
