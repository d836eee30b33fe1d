/-! THE REFERENCE: checks (2403 steps; printed by gen50.py) -/
theorem re_448_0 : schE (rhS rHT) (rhM rHT) (rhN rHT) (rhL rHT) (fun _ _ => []) rhG 10 zmt xo rtb 1000000 448 rc_448_0 = true := by decide +kernel
