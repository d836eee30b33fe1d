/-! THE REFERENCE: checks (cost 56; printed by gen50.py) -/
theorem re_418_0 : schE (rhS rHT) (rhM rHT) (rhN rHT) (rhL rHT) (fun _ _ => []) rhG 10 zmt xo rtb 1000000 418 rc_418_0 = true := by decide +kernel
