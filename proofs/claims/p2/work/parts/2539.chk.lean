/-! THE REFERENCE: checks (1755 steps; printed by gen50.py) -/
theorem re_385_1 : schE (rhS rHT) (rhM rHT) (rhN rHT) (rhL rHT) (fun _ _ => []) rhG 10 zmt xo rtb 1000000 385 rc_385_1 = true := by decide +kernel
