/-! THE REFERENCE: checks (cost 49; printed by gen50.py) -/
theorem re_384_0 : schE (rhS rHT) (rhM rHT) (rhN rHT) (rhL rHT) (fun _ _ => []) rhG 10 zmt xo rtb 1000000 384 rc_384_0 = true := by decide +kernel
