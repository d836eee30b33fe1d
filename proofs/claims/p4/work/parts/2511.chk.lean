/-! THE REFERENCE: checks (cost 47; printed by gen50.py) -/
theorem rh_379_0_1 : schH (rhS rHT) (rhM rHT) (rhN rHT) (rhL rHT) (fun _ _ => []) rhG 10 zmt xo rtb 1000000 379 rc_379_0 rch_379_0_1 = true := by decide +kernel
