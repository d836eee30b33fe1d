/-! THE REFERENCE: checks (cost 49; printed by gen50.py) -/
theorem re_448_0 : schE (rhS rHT) (rhM rHT) (rhN rHT) (rhL rHT) (fun _ _ => []) rhG 10 zmt xo rtb 1000000 448 rc_448_0 = true := by decide +kernel
theorem rh_448_0_4 : schH (rhS rHT) (rhM rHT) (rhN rHT) (rhL rHT) (fun _ _ => []) rhG 10 zmt xo rtb 1000000 448 rc_448_0 rch_448_0_4 = true := by decide +kernel
