/-! THE REFERENCE: checks (cost 36; printed by gen50.py) -/
theorem rh_418_0_1 : schH (rhS rHT) (rhM rHT) (rhN rHT) (rhL rHT) (fun _ _ => []) rhG 10 zmt xo rtb 1000000 418 rc_418_0 rch_418_0_1 = true := by decide +kernel
