/-! the constructors, run by the kernel -/
def zM1 : zM := zpush zM0 (.inr (11, zdef 11 7))
def zchk (f : zM → Bool) (r : Option (Option Value × zM)) : Bool := match r with
  | some (none, M) => f M
  | _ => false
set_option maxRecDepth 100000 in
theorem ctor_X : zchk (fun M => Nat.ble 100 M.1) (zev 10 (zX0 0) zmt zovT 14 400 253 [.ref 0] zM1) = true := by decide +kernel
