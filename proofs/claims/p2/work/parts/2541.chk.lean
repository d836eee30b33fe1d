/-! THE REFERENCE: checks (1873 steps; printed by gen50.py) -/
theorem re_440_0 : schE (rhS rHT) (rhM rHT) (rhN rHT) (rhL rHT) (fun _ _ => []) rhG 10 zmt xo rtb 1000000 440 rc_440_0 = true := by decide +kernel
