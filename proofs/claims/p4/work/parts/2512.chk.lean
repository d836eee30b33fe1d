/-! THE REFERENCE: checks (cost 45; printed by gen50.py) -/
theorem re_401_0 : schE (rhS rHT) (rhM rHT) (rhN rHT) (rhL rHT) (fun _ _ => []) rhG 10 zmt xo rtb 1000000 401 rc_401_0 = true := by decide +kernel
