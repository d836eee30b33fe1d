/-! THE REFERENCE: checks (cost 70; printed by gen50.py) -/
theorem rh_451_0_0 : schH (rhS rHT) (rhM rHT) (rhN rHT) (rhL rHT) (fun _ _ => []) rhG 10 zmt xo rtb 1000000 451 rc_451_0 rch_451_0_0 = true := by decide +kernel
