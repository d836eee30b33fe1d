/-! THE ENGINE, 43: the memory that the constructors leave has the shape -/
def bTwo (p : zM → Bool) (z : Nat) : Bool := zchk (fun M => Nat.beq M.1 474 && zchk p (zev 10 (zX0 z) zmt zovT 14 1000 455 [.ref 474] (zpush M (.inr (12, zdef 12 35))))) (zev 10 (zX0 z) zmt zovT 14 1000 253 [.ref 0] zM1)
def bSpan (a n : Nat) (M : zM) : Bool := (List.range n).all fun k => bObj M (a + k)
set_option maxRecDepth 100000 in
theorem bm_0_0 : bTwo (bSpan 0 100) 0 = true := by decide +kernel
set_option maxRecDepth 100000 in
theorem bm_100_0 : bTwo (bSpan 100 192) 0 = true := by decide +kernel
set_option maxRecDepth 100000 in
theorem bm_292_0 : bTwo (bSpan 292 183) 0 = true := by decide +kernel
